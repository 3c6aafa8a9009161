theorem dcl_of (q0 q1 q2 q3 q4 q5 q6 : Nat) : (va_up (va_up (va_up (va_up (va_up (va_up (va_up (fun _ => none) (Int32.toNatClampNeg 0) (some q0)) (Int32.toNatClampNeg 1) (some q1)) (Int32.toNatClampNeg 2) (some q2)) (Int32.toNatClampNeg 3) (some q3)) (Int32.toNatClampNeg 4) (some q4)) (Int32.toNatClampNeg 5) (some q5)) (Int32.toNatClampNeg 6) (some q6)) = dcl (fun k => match k with | 0 => q0 | 1 => q1 | 2 => q2 | 3 => q3 | 4 => q4 | 5 => q5 | _ => q6) := by
  funext k
  have e0 : Int32.toNatClampNeg 0 = 0 := by decide
  have e1 : Int32.toNatClampNeg 1 = 1 := by decide
  have e2 : Int32.toNatClampNeg 2 = 2 := by decide
  have e3 : Int32.toNatClampNeg 3 = 3 := by decide
  have e4 : Int32.toNatClampNeg 4 = 4 := by decide
  have e5 : Int32.toNatClampNeg 5 = 5 := by decide
  have e6 : Int32.toNatClampNeg 6 = 6 := by decide
  rw [e0, e1, e2, e3, e4, e5, e6]
  by_cases h : k < 7
  · have hc : k = 0 ∨ k = 1 ∨ k = 2 ∨ k = 3 ∨ k = 4 ∨ k = 5 ∨ k = 6 := by omega
    rcases hc with rfl | rfl | rfl | rfl | rfl | rfl | rfl <;> rfl
  · unfold dcl
    rw [if_neg h]
    simp only [va_up]
    rw [if_neg (show ¬ k = 6 by omega), if_neg (show ¬ k = 5 by omega), if_neg (show ¬ k = 4 by omega), if_neg (show ¬ k = 3 by omega), if_neg (show ¬ k = 2 by omega), if_neg (show ¬ k = 1 by omega), if_neg (show ¬ k = 0 by omega)]
theorem dX9_find_0 : decode cX9_find 0 = .ok (.iconst 0, 1) := by decide +kernel
theorem dX9_find_1 : decode cX9_find 1 = .ok (.istore_n 2, 1) := by decide +kernel
theorem dX9_find_2 : decode cX9_find 2 = .ok (.iload_n 2, 1) := by decide +kernel
theorem dX9_find_3 : decode cX9_find 3 = .ok (.aload_n 0, 1) := by decide +kernel
theorem dX9_find_4 : decode cX9_find 4 = .ok (.getfield 33, 3) := by decide +kernel
theorem dX9_find_7 : decode cX9_find 7 = .ok (.if_icmp .ge 24, 3) := by decide +kernel
theorem dX9_find_10 : decode cX9_find 10 = .ok (.aload_n 0, 1) := by decide +kernel
theorem dX9_find_11 : decode cX9_find 11 = .ok (.getfield 17, 3) := by decide +kernel
theorem dX9_find_14 : decode cX9_find 14 = .ok (.iload_n 2, 1) := by decide +kernel
theorem dX9_find_15 : decode cX9_find 15 = .ok (.aaload, 1) := by decide +kernel
theorem dX9_find_16 : decode cX9_find 16 = .ok (.getfield 54, 3) := by decide +kernel
theorem dX9_find_19 : decode cX9_find 19 = .ok (.iload_n 1, 1) := by decide +kernel
theorem dX9_find_20 : decode cX9_find 20 = .ok (.if_icmp .ne 5, 3) := by decide +kernel
theorem dX9_find_25 : decode cX9_find 25 = .ok (.iinc 2 1, 3) := by decide +kernel
theorem dX9_find_28 : decode cX9_find 28 = .ok (.goto (-26), 3) := by decide +kernel
theorem dX9_find_31 : decode cX9_find 31 = .ok (.iconst (-1), 1) := by decide +kernel
theorem dX9_find_32 : decode cX9_find 32 = .ok (.ireturn, 1) := by decide +kernel
set_option maxHeartbeats 1000000 in
set_option maxRecDepth 100000 in
/-- find(Main): NONE -/
theorem c_find36 (l : Launch) (G : pT) (g0 : Nat) (g1 : Nat) (g2 : Nat) (d : Nat → Nat) (z : Nat → Nat) (k2 : Nat) : PM l G pX0 yX9_find cX9_find 3 (some .int) ({ frames := 2, cells := 0, slots := 0, locals := 60 }) [.ref g0, .int 36] [(g0, .inr (6, [.ref k2, .ref g1, .int 7, .ref g2, .int 2147483647])), (g1, .inl (G.2.1 4, 37, .inr (.inr (.inr (.inr (dcl d)))))), ((d 0), .inr (2, [.int 0, .int 29, .int (-1), .int 0, .int (-1), .int 0, .int 0, .ref (z 0), .ref (z 1), .null, .long 0, .ref (z 2), .ref (z 3)])), ((d 1), .inr (2, [.int 1, .int 30, .int (-1), .int 0, .int (-1), .int 0, .int 0, .ref (z 4), .ref (z 5), .ref (d 0), .long 1, .ref (z 6), .ref (z 7)])), ((d 2), .inr (2, [.int 2, .int 31, .int (-1), .int 0, .int (-1), .int 0, .int 0, .ref (z 8), .ref (z 9), .ref (d 0), .long 1, .ref (z 10), .ref (z 11)])), ((d 3), .inr (2, [.int 3, .int 32, .int (-1), .int 0, .int (-1), .int 0, .int 0, .ref (z 12), .ref (z 13), .ref (d 0), .long 1, .ref (z 14), .ref (z 15)])), ((d 4), .inr (2, [.int 4, .int 33, .int (-1), .int 0, .int (-1), .int 0, .int 0, .ref (z 16), .ref (z 17), .ref (d 0), .long 1, .ref (z 18), .ref (z 19)])), ((d 5), .inr (2, [.int 5, .int 34, .int (-1), .int 0, .int (-1), .int 0, .int 0, .ref (z 20), .ref (z 21), .ref (d 0), .long 1, .ref (z 22), .ref (z 23)])), ((d 6), .inr (2, [.int 6, .int 35, .int (-1), .int 0, .int (-1), .int 0, .int 0, .ref (z 24), .ref (z 25), .ref (d 0), .long 1, .ref (z 26), .ref (z 27)]))] (fun (v : Option Value) (u : (Nat → Nat) × (Nat → Nat → Int32) × (Nat → Nat → Int64)) => v = some (.int (-1))) (fun u => [(g0, .inr (6, [.ref k2, .ref g1, .int 7, .ref g2, .int 2147483647])), (g1, .inl (G.2.1 4, 37, .inr (.inr (.inr (.inr (dcl d)))))), ((d 0), .inr (2, [.int 0, .int 29, .int (-1), .int 0, .int (-1), .int 0, .int 0, .ref (z 0), .ref (z 1), .null, .long 0, .ref (z 2), .ref (z 3)])), ((d 1), .inr (2, [.int 1, .int 30, .int (-1), .int 0, .int (-1), .int 0, .int 0, .ref (z 4), .ref (z 5), .ref (d 0), .long 1, .ref (z 6), .ref (z 7)])), ((d 2), .inr (2, [.int 2, .int 31, .int (-1), .int 0, .int (-1), .int 0, .int 0, .ref (z 8), .ref (z 9), .ref (d 0), .long 1, .ref (z 10), .ref (z 11)])), ((d 3), .inr (2, [.int 3, .int 32, .int (-1), .int 0, .int (-1), .int 0, .int 0, .ref (z 12), .ref (z 13), .ref (d 0), .long 1, .ref (z 14), .ref (z 15)])), ((d 4), .inr (2, [.int 4, .int 33, .int (-1), .int 0, .int (-1), .int 0, .int 0, .ref (z 16), .ref (z 17), .ref (d 0), .long 1, .ref (z 18), .ref (z 19)])), ((d 5), .inr (2, [.int 5, .int 34, .int (-1), .int 0, .int (-1), .int 0, .int 0, .ref (z 20), .ref (z 21), .ref (d 0), .long 1, .ref (z 22), .ref (z 23)])), ((d 6), .inr (2, [.int 6, .int 35, .int (-1), .int 0, .int (-1), .int 0, .int 0, .ref (z 24), .ref (z 25), .ref (d 0), .long 1, .ref (z 26), .ref (z 27)]))]) := by
  intro sz
  refine Met.ofW (cc := cX9_find) (maxL := 3) (ret := (some .int)) (by decide) rfl ?_
  intro p e s m args below meth c s₁ B hml hv
  obtain ⟨rfl, hsz, hP, hD0, hE, hX⟩ := hv
  have hx := B.exec
  have hb := B.bytes
  have hr := B.returns
  have hts := atoms_spec (ws := Cond.code yX9_find cX9_find 3 (some .int) :: pw) B.pre
  have hq : ∀ w ∈ pw, w.before _ s = true := fun w h => hts w (List.mem_cons_of_mem _ h)
  have hown : s.vm.findClass RX9 = some m.cls := findClass_of_methodNamed B.named
  have hlocks := B.notSynchronized
  subst hsz
  have hD := hD0.self (sz := s.heap.size)
  have hA : ∀ q : Nat, s.heap.size ≤ q → va_A [(g0, .inr (6, [.ref k2, .ref g1, .int 7, .ref g2, .int 2147483647])), (g1, .inl (G.2.1 4, 37, .inr (.inr (.inr (.inr (dcl d)))))), ((d 0), .inr (2, [.int 0, .int 29, .int (-1), .int 0, .int (-1), .int 0, .int 0, .ref (z 0), .ref (z 1), .null, .long 0, .ref (z 2), .ref (z 3)])), ((d 1), .inr (2, [.int 1, .int 30, .int (-1), .int 0, .int (-1), .int 0, .int 0, .ref (z 4), .ref (z 5), .ref (d 0), .long 1, .ref (z 6), .ref (z 7)])), ((d 2), .inr (2, [.int 2, .int 31, .int (-1), .int 0, .int (-1), .int 0, .int 0, .ref (z 8), .ref (z 9), .ref (d 0), .long 1, .ref (z 10), .ref (z 11)])), ((d 3), .inr (2, [.int 3, .int 32, .int (-1), .int 0, .int (-1), .int 0, .int 0, .ref (z 12), .ref (z 13), .ref (d 0), .long 1, .ref (z 14), .ref (z 15)])), ((d 4), .inr (2, [.int 4, .int 33, .int (-1), .int 0, .int (-1), .int 0, .int 0, .ref (z 16), .ref (z 17), .ref (d 0), .long 1, .ref (z 18), .ref (z 19)])), ((d 5), .inr (2, [.int 5, .int 34, .int (-1), .int 0, .int (-1), .int 0, .int 0, .ref (z 20), .ref (z 21), .ref (d 0), .long 1, .ref (z 22), .ref (z 23)])), ((d 6), .inr (2, [.int 6, .int 35, .int (-1), .int 0, .int (-1), .int 0, .int 0, .ref (z 24), .ref (z 25), .ref (d 0), .long 1, .ref (z 26), .ref (z 27)]))] s.heap.size q := fun q h => Or.inr h
  have hP : va_P G.1 pCl [(g0, .inr (6, [.ref k2, .ref g1, .int 7, .ref g2, .int 2147483647])), (g1, .inl (G.2.1 4, 37, .inr (.inr (.inr (.inr (dcl d)))))), ((d 0), .inr (2, [.int 0, .int 29, .int (-1), .int 0, .int (-1), .int 0, .int 0, .ref (z 0), .ref (z 1), .null, .long 0, .ref (z 2), .ref (z 3)])), ((d 1), .inr (2, [.int 1, .int 30, .int (-1), .int 0, .int (-1), .int 0, .int 0, .ref (z 4), .ref (z 5), .ref (d 0), .long 1, .ref (z 6), .ref (z 7)])), ((d 2), .inr (2, [.int 2, .int 31, .int (-1), .int 0, .int (-1), .int 0, .int 0, .ref (z 8), .ref (z 9), .ref (d 0), .long 1, .ref (z 10), .ref (z 11)])), ((d 3), .inr (2, [.int 3, .int 32, .int (-1), .int 0, .int (-1), .int 0, .int 0, .ref (z 12), .ref (z 13), .ref (d 0), .long 1, .ref (z 14), .ref (z 15)])), ((d 4), .inr (2, [.int 4, .int 33, .int (-1), .int 0, .int (-1), .int 0, .int 0, .ref (z 16), .ref (z 17), .ref (d 0), .long 1, .ref (z 18), .ref (z 19)])), ((d 5), .inr (2, [.int 5, .int 34, .int (-1), .int 0, .int (-1), .int 0, .int 0, .ref (z 20), .ref (z 21), .ref (d 0), .long 1, .ref (z 22), .ref (z 23)])), ((d 6), .inr (2, [.int 6, .int 35, .int (-1), .int 0, .int (-1), .int 0, .int 0, .ref (z 24), .ref (z 25), .ref (d 0), .long 1, .ref (z 26), .ref (z 27)]))] s.heap := hP
  generalize va_A [(g0, .inr (6, [.ref k2, .ref g1, .int 7, .ref g2, .int 2147483647])), (g1, .inl (G.2.1 4, 37, .inr (.inr (.inr (.inr (dcl d)))))), ((d 0), .inr (2, [.int 0, .int 29, .int (-1), .int 0, .int (-1), .int 0, .int 0, .ref (z 0), .ref (z 1), .null, .long 0, .ref (z 2), .ref (z 3)])), ((d 1), .inr (2, [.int 1, .int 30, .int (-1), .int 0, .int (-1), .int 0, .int 0, .ref (z 4), .ref (z 5), .ref (d 0), .long 1, .ref (z 6), .ref (z 7)])), ((d 2), .inr (2, [.int 2, .int 31, .int (-1), .int 0, .int (-1), .int 0, .int 0, .ref (z 8), .ref (z 9), .ref (d 0), .long 1, .ref (z 10), .ref (z 11)])), ((d 3), .inr (2, [.int 3, .int 32, .int (-1), .int 0, .int (-1), .int 0, .int 0, .ref (z 12), .ref (z 13), .ref (d 0), .long 1, .ref (z 14), .ref (z 15)])), ((d 4), .inr (2, [.int 4, .int 33, .int (-1), .int 0, .int (-1), .int 0, .int 0, .ref (z 16), .ref (z 17), .ref (d 0), .long 1, .ref (z 18), .ref (z 19)])), ((d 5), .inr (2, [.int 5, .int 34, .int (-1), .int 0, .int (-1), .int 0, .int 0, .ref (z 20), .ref (z 21), .ref (d 0), .long 1, .ref (z 22), .ref (z 23)])), ((d 6), .inr (2, [.int 6, .int 35, .int (-1), .int 0, .int (-1), .int 0, .int 0, .ref (z 24), .ref (z 25), .ref (d 0), .long 1, .ref (z 26), .ref (z 27)]))] s.heap.size = A at hD hE hA ⊢
  have hS : va_S A s.heap s.heap [] := va_S.rf
  have hl := lv_entry ([.ref g0, .int 36]) (n := 3) (Nat.le_of_ble_eq_true rfl)
  rw [lg_entry_eq]
  generalize (lg_sl ([.ref g0, .int 36]) ++ List.replicate (3 - (lg_sl ([.ref g0, .int 36])).length) Slot.unset).toArray = ls at hl ⊢
  have hl : lv_has ls 3 [(0, .ref g0), (1, .int 36)] := hl
  refine lv_iconst (v := 0) hx hb dX9_find_0 (by decide) ?_
  refine lv_istore_n (lv' := [(2, .int 0), (0, .ref g0), (1, .int 36)]) hx hb dX9_find_1 rfl hl (by decide) rfl (fun ls hl => ?_)
  refine lv_iload_n hx hb dX9_find_2 rfl (lv_at hl 0 rfl) ?_
  refine lv_aload_n hx hb dX9_find_3 rfl (lv_at hl 1 rfl) ?_
  refine va_get (D := G.1) (ci := 6) (v := .int 7) (C := RX9) (T := TX9) (N := 5) hx hb hq pin_wsX90 hown hE.1.1 hP 0 rfl rfl 2 (by decide) (hq _ pw_137) (fun _ h9 => h9) rfl dX9_find_4 ?_
  refine lv_icmp_ge (tgt := 31) hx hb dX9_find_7 (by decide) (fun c1 => absurd c1 (by decide)) (fun c1 => ?_)
  refine lv_aload_n hx hb dX9_find_10 rfl (lv_at hl 1 rfl) ?_
  refine va_get (D := G.1) (ci := 6) (v := .ref g1) (C := RX9) (T := TX9) (N := 5) hx hb hq pin_wsX90 hown hE.1.1 hP 0 rfl rfl 1 (by decide) (hq _ pw_132) (fun _ h9 => h9) rfl dX9_find_11 ?_
  refine lv_iload_n hx hb dX9_find_14 rfl (lv_at hl 0 rfl) ?_
  refine va_aldq hx hb hE.1.1 hP 1 4 rfl rfl (by unfold vp_in; decide) dX9_find_15 ?_
  refine W.eq (g2 := F0 m 16 ls [.ref (d 0)]) rfl ?_
  refine va_get (D := G.1) (ci := 2) (v := .int 29) (C := RX2) (T := TX2) (N := 13) hx hb hq pin_wsX20 hown hE.1.1 hP 2 rfl rfl 1 (by decide) (hq _ pw_148) (fun _ h9 => h9) rfl dX9_find_16 ?_
  refine lv_iload_n hx hb dX9_find_19 rfl (lv_at hl 2 rfl) ?_
  refine lv_icmp_ne (tgt := 25) hx hb dX9_find_20 (by decide) (fun c2 => ?_) (fun c2 => absurd c2 (by decide))
  refine lv_iinc (v := 1) (lv' := [(2, .int 1), (0, .ref g0), (1, .int 36)]) hx hb dX9_find_25 hl (k := 0) rfl (by decide) (by decide) rfl (fun ls hl => ?_)
  refine lv_goto (tgt := 2) hx hb dX9_find_28 (by decide) ?_
  refine lv_iload_n hx hb dX9_find_2 rfl (lv_at hl 0 rfl) ?_
  refine lv_aload_n hx hb dX9_find_3 rfl (lv_at hl 1 rfl) ?_
  refine va_get (D := G.1) (ci := 6) (v := .int 7) (C := RX9) (T := TX9) (N := 5) hx hb hq pin_wsX90 hown hE.1.1 hP 0 rfl rfl 2 (by decide) (hq _ pw_137) (fun _ h9 => h9) rfl dX9_find_4 ?_
  refine lv_icmp_ge (tgt := 31) hx hb dX9_find_7 (by decide) (fun c3 => absurd c3 (by decide)) (fun c3 => ?_)
  refine lv_aload_n hx hb dX9_find_10 rfl (lv_at hl 1 rfl) ?_
  refine va_get (D := G.1) (ci := 6) (v := .ref g1) (C := RX9) (T := TX9) (N := 5) hx hb hq pin_wsX90 hown hE.1.1 hP 0 rfl rfl 1 (by decide) (hq _ pw_132) (fun _ h9 => h9) rfl dX9_find_11 ?_
  refine lv_iload_n hx hb dX9_find_14 rfl (lv_at hl 0 rfl) ?_
  refine va_aldq hx hb hE.1.1 hP 1 4 rfl rfl (by unfold vp_in; decide) dX9_find_15 ?_
  refine W.eq (g2 := F0 m 16 ls [.ref (d 1)]) rfl ?_
  refine va_get (D := G.1) (ci := 2) (v := .int 30) (C := RX2) (T := TX2) (N := 13) hx hb hq pin_wsX20 hown hE.1.1 hP 3 rfl rfl 1 (by decide) (hq _ pw_148) (fun _ h9 => h9) rfl dX9_find_16 ?_
  refine lv_iload_n hx hb dX9_find_19 rfl (lv_at hl 2 rfl) ?_
  refine lv_icmp_ne (tgt := 25) hx hb dX9_find_20 (by decide) (fun c4 => ?_) (fun c4 => absurd c4 (by decide))
  refine lv_iinc (v := 2) (lv' := [(2, .int 2), (0, .ref g0), (1, .int 36)]) hx hb dX9_find_25 hl (k := 0) rfl (by decide) (by decide) rfl (fun ls hl => ?_)
  refine lv_goto (tgt := 2) hx hb dX9_find_28 (by decide) ?_
  refine lv_iload_n hx hb dX9_find_2 rfl (lv_at hl 0 rfl) ?_
  refine lv_aload_n hx hb dX9_find_3 rfl (lv_at hl 1 rfl) ?_
  refine va_get (D := G.1) (ci := 6) (v := .int 7) (C := RX9) (T := TX9) (N := 5) hx hb hq pin_wsX90 hown hE.1.1 hP 0 rfl rfl 2 (by decide) (hq _ pw_137) (fun _ h9 => h9) rfl dX9_find_4 ?_
  refine lv_icmp_ge (tgt := 31) hx hb dX9_find_7 (by decide) (fun c5 => absurd c5 (by decide)) (fun c5 => ?_)
  refine lv_aload_n hx hb dX9_find_10 rfl (lv_at hl 1 rfl) ?_
  refine va_get (D := G.1) (ci := 6) (v := .ref g1) (C := RX9) (T := TX9) (N := 5) hx hb hq pin_wsX90 hown hE.1.1 hP 0 rfl rfl 1 (by decide) (hq _ pw_132) (fun _ h9 => h9) rfl dX9_find_11 ?_
  refine lv_iload_n hx hb dX9_find_14 rfl (lv_at hl 0 rfl) ?_
  refine va_aldq hx hb hE.1.1 hP 1 4 rfl rfl (by unfold vp_in; decide) dX9_find_15 ?_
  refine W.eq (g2 := F0 m 16 ls [.ref (d 2)]) rfl ?_
  refine va_get (D := G.1) (ci := 2) (v := .int 31) (C := RX2) (T := TX2) (N := 13) hx hb hq pin_wsX20 hown hE.1.1 hP 4 rfl rfl 1 (by decide) (hq _ pw_148) (fun _ h9 => h9) rfl dX9_find_16 ?_
  refine lv_iload_n hx hb dX9_find_19 rfl (lv_at hl 2 rfl) ?_
  refine lv_icmp_ne (tgt := 25) hx hb dX9_find_20 (by decide) (fun c6 => ?_) (fun c6 => absurd c6 (by decide))
  refine lv_iinc (v := 3) (lv' := [(2, .int 3), (0, .ref g0), (1, .int 36)]) hx hb dX9_find_25 hl (k := 0) rfl (by decide) (by decide) rfl (fun ls hl => ?_)
  refine lv_goto (tgt := 2) hx hb dX9_find_28 (by decide) ?_
  refine lv_iload_n hx hb dX9_find_2 rfl (lv_at hl 0 rfl) ?_
  refine lv_aload_n hx hb dX9_find_3 rfl (lv_at hl 1 rfl) ?_
  refine va_get (D := G.1) (ci := 6) (v := .int 7) (C := RX9) (T := TX9) (N := 5) hx hb hq pin_wsX90 hown hE.1.1 hP 0 rfl rfl 2 (by decide) (hq _ pw_137) (fun _ h9 => h9) rfl dX9_find_4 ?_
  refine lv_icmp_ge (tgt := 31) hx hb dX9_find_7 (by decide) (fun c7 => absurd c7 (by decide)) (fun c7 => ?_)
  refine lv_aload_n hx hb dX9_find_10 rfl (lv_at hl 1 rfl) ?_
  refine va_get (D := G.1) (ci := 6) (v := .ref g1) (C := RX9) (T := TX9) (N := 5) hx hb hq pin_wsX90 hown hE.1.1 hP 0 rfl rfl 1 (by decide) (hq _ pw_132) (fun _ h9 => h9) rfl dX9_find_11 ?_
  refine lv_iload_n hx hb dX9_find_14 rfl (lv_at hl 0 rfl) ?_
  refine va_aldq hx hb hE.1.1 hP 1 4 rfl rfl (by unfold vp_in; decide) dX9_find_15 ?_
  refine W.eq (g2 := F0 m 16 ls [.ref (d 3)]) rfl ?_
  refine va_get (D := G.1) (ci := 2) (v := .int 32) (C := RX2) (T := TX2) (N := 13) hx hb hq pin_wsX20 hown hE.1.1 hP 5 rfl rfl 1 (by decide) (hq _ pw_148) (fun _ h9 => h9) rfl dX9_find_16 ?_
  refine lv_iload_n hx hb dX9_find_19 rfl (lv_at hl 2 rfl) ?_
  refine lv_icmp_ne (tgt := 25) hx hb dX9_find_20 (by decide) (fun c8 => ?_) (fun c8 => absurd c8 (by decide))
  refine lv_iinc (v := 4) (lv' := [(2, .int 4), (0, .ref g0), (1, .int 36)]) hx hb dX9_find_25 hl (k := 0) rfl (by decide) (by decide) rfl (fun ls hl => ?_)
  refine lv_goto (tgt := 2) hx hb dX9_find_28 (by decide) ?_
  refine lv_iload_n hx hb dX9_find_2 rfl (lv_at hl 0 rfl) ?_
  refine lv_aload_n hx hb dX9_find_3 rfl (lv_at hl 1 rfl) ?_
  refine va_get (D := G.1) (ci := 6) (v := .int 7) (C := RX9) (T := TX9) (N := 5) hx hb hq pin_wsX90 hown hE.1.1 hP 0 rfl rfl 2 (by decide) (hq _ pw_137) (fun _ h9 => h9) rfl dX9_find_4 ?_
  refine lv_icmp_ge (tgt := 31) hx hb dX9_find_7 (by decide) (fun c9 => absurd c9 (by decide)) (fun c9 => ?_)
  refine lv_aload_n hx hb dX9_find_10 rfl (lv_at hl 1 rfl) ?_
  refine va_get (D := G.1) (ci := 6) (v := .ref g1) (C := RX9) (T := TX9) (N := 5) hx hb hq pin_wsX90 hown hE.1.1 hP 0 rfl rfl 1 (by decide) (hq _ pw_132) (fun _ h9 => h9) rfl dX9_find_11 ?_
  refine lv_iload_n hx hb dX9_find_14 rfl (lv_at hl 0 rfl) ?_
  refine va_aldq hx hb hE.1.1 hP 1 4 rfl rfl (by unfold vp_in; decide) dX9_find_15 ?_
  refine W.eq (g2 := F0 m 16 ls [.ref (d 4)]) rfl ?_
  refine va_get (D := G.1) (ci := 2) (v := .int 33) (C := RX2) (T := TX2) (N := 13) hx hb hq pin_wsX20 hown hE.1.1 hP 6 rfl rfl 1 (by decide) (hq _ pw_148) (fun _ h9 => h9) rfl dX9_find_16 ?_
  refine lv_iload_n hx hb dX9_find_19 rfl (lv_at hl 2 rfl) ?_
  refine lv_icmp_ne (tgt := 25) hx hb dX9_find_20 (by decide) (fun c10 => ?_) (fun c10 => absurd c10 (by decide))
  refine lv_iinc (v := 5) (lv' := [(2, .int 5), (0, .ref g0), (1, .int 36)]) hx hb dX9_find_25 hl (k := 0) rfl (by decide) (by decide) rfl (fun ls hl => ?_)
  refine lv_goto (tgt := 2) hx hb dX9_find_28 (by decide) ?_
  refine lv_iload_n hx hb dX9_find_2 rfl (lv_at hl 0 rfl) ?_
  refine lv_aload_n hx hb dX9_find_3 rfl (lv_at hl 1 rfl) ?_
  refine va_get (D := G.1) (ci := 6) (v := .int 7) (C := RX9) (T := TX9) (N := 5) hx hb hq pin_wsX90 hown hE.1.1 hP 0 rfl rfl 2 (by decide) (hq _ pw_137) (fun _ h9 => h9) rfl dX9_find_4 ?_
  refine lv_icmp_ge (tgt := 31) hx hb dX9_find_7 (by decide) (fun c11 => absurd c11 (by decide)) (fun c11 => ?_)
  refine lv_aload_n hx hb dX9_find_10 rfl (lv_at hl 1 rfl) ?_
  refine va_get (D := G.1) (ci := 6) (v := .ref g1) (C := RX9) (T := TX9) (N := 5) hx hb hq pin_wsX90 hown hE.1.1 hP 0 rfl rfl 1 (by decide) (hq _ pw_132) (fun _ h9 => h9) rfl dX9_find_11 ?_
  refine lv_iload_n hx hb dX9_find_14 rfl (lv_at hl 0 rfl) ?_
  refine va_aldq hx hb hE.1.1 hP 1 4 rfl rfl (by unfold vp_in; decide) dX9_find_15 ?_
  refine W.eq (g2 := F0 m 16 ls [.ref (d 5)]) rfl ?_
  refine va_get (D := G.1) (ci := 2) (v := .int 34) (C := RX2) (T := TX2) (N := 13) hx hb hq pin_wsX20 hown hE.1.1 hP 7 rfl rfl 1 (by decide) (hq _ pw_148) (fun _ h9 => h9) rfl dX9_find_16 ?_
  refine lv_iload_n hx hb dX9_find_19 rfl (lv_at hl 2 rfl) ?_
  refine lv_icmp_ne (tgt := 25) hx hb dX9_find_20 (by decide) (fun c12 => ?_) (fun c12 => absurd c12 (by decide))
  refine lv_iinc (v := 6) (lv' := [(2, .int 6), (0, .ref g0), (1, .int 36)]) hx hb dX9_find_25 hl (k := 0) rfl (by decide) (by decide) rfl (fun ls hl => ?_)
  refine lv_goto (tgt := 2) hx hb dX9_find_28 (by decide) ?_
  refine lv_iload_n hx hb dX9_find_2 rfl (lv_at hl 0 rfl) ?_
  refine lv_aload_n hx hb dX9_find_3 rfl (lv_at hl 1 rfl) ?_
  refine va_get (D := G.1) (ci := 6) (v := .int 7) (C := RX9) (T := TX9) (N := 5) hx hb hq pin_wsX90 hown hE.1.1 hP 0 rfl rfl 2 (by decide) (hq _ pw_137) (fun _ h9 => h9) rfl dX9_find_4 ?_
  refine lv_icmp_ge (tgt := 31) hx hb dX9_find_7 (by decide) (fun c13 => absurd c13 (by decide)) (fun c13 => ?_)
  refine lv_aload_n hx hb dX9_find_10 rfl (lv_at hl 1 rfl) ?_
  refine va_get (D := G.1) (ci := 6) (v := .ref g1) (C := RX9) (T := TX9) (N := 5) hx hb hq pin_wsX90 hown hE.1.1 hP 0 rfl rfl 1 (by decide) (hq _ pw_132) (fun _ h9 => h9) rfl dX9_find_11 ?_
  refine lv_iload_n hx hb dX9_find_14 rfl (lv_at hl 0 rfl) ?_
  refine va_aldq hx hb hE.1.1 hP 1 4 rfl rfl (by unfold vp_in; decide) dX9_find_15 ?_
  refine W.eq (g2 := F0 m 16 ls [.ref (d 6)]) rfl ?_
  refine va_get (D := G.1) (ci := 2) (v := .int 35) (C := RX2) (T := TX2) (N := 13) hx hb hq pin_wsX20 hown hE.1.1 hP 8 rfl rfl 1 (by decide) (hq _ pw_148) (fun _ h9 => h9) rfl dX9_find_16 ?_
  refine lv_iload_n hx hb dX9_find_19 rfl (lv_at hl 2 rfl) ?_
  refine lv_icmp_ne (tgt := 25) hx hb dX9_find_20 (by decide) (fun c14 => ?_) (fun c14 => absurd c14 (by decide))
  refine lv_iinc (v := 7) (lv' := [(2, .int 7), (0, .ref g0), (1, .int 36)]) hx hb dX9_find_25 hl (k := 0) rfl (by decide) (by decide) rfl (fun ls hl => ?_)
  refine lv_goto (tgt := 2) hx hb dX9_find_28 (by decide) ?_
  refine lv_iload_n hx hb dX9_find_2 rfl (lv_at hl 0 rfl) ?_
  refine lv_aload_n hx hb dX9_find_3 rfl (lv_at hl 1 rfl) ?_
  refine va_get (D := G.1) (ci := 6) (v := .int 7) (C := RX9) (T := TX9) (N := 5) hx hb hq pin_wsX90 hown hE.1.1 hP 0 rfl rfl 2 (by decide) (hq _ pw_137) (fun _ h9 => h9) rfl dX9_find_4 ?_
  refine lv_icmp_ge (tgt := 31) hx hb dX9_find_7 (by decide) (fun c15 => ?_) (fun c15 => absurd c15 (by decide))
  refine lv_iconst (v := (-1)) hx hb dX9_find_31 (by decide) ?_
  refine W.widen (k := 0) (n := 0) (Nat.le_of_ble_eq_true rfl) (Nat.le_of_ble_eq_true rfl) ?_
  exact W.iret (v := (-1)) hx hb hr (fun t ht hW => ⟨⟨_, ((fun _ => 0), (fun _ => fun _ => 0), (fun _ => fun _ => 0)), rfl, rfl, by rw [ht]; exact hP.sub [0, 1, 2, 3, 4, 5, 6, 7, 8] rfl, hD.sub [0, 1, 2, 3, 4, 5, 6, 7, 8] (by decide) rfl⟩, hS.F ht⟩) hS.2.2 dX9_find_32
theorem dX9_decl_0 : decode cX9_decl 0 = .ok (.iload_n 1, 1) := by decide +kernel
theorem dX9_decl_1 : decode cX9_decl 1 = .ok (.ifCond .lt 20, 3) := by decide +kernel
theorem dX9_decl_21 : decode cX9_decl 21 = .ok (.aconst_null, 1) := by decide +kernel
theorem dX9_decl_22 : decode cX9_decl 22 = .ok (.areturn, 1) := by decide +kernel
set_option maxHeartbeats 1000000 in
set_option maxRecDepth 100000 in
/-- decl(NONE): null -/
theorem c_declN (l : Launch) (G : pT) (g0 : Nat) (g1 : Nat) (g2 : Nat) (k2 : Nat) : PM l G pX0 yX9_decl cX9_decl 2 (some (.object "JinjaTongue$Decl")) ({ frames := 2, cells := 0, slots := 0, locals := 60 }) [.ref g0, .int (-1)] [(g0, .inr (6, [.ref k2, .ref g1, .int 7, .ref g2, .int 2147483647]))] (fun (v : Option Value) (u : (Nat → Nat) × (Nat → Nat → Int32) × (Nat → Nat → Int64)) => v = some (.null)) (fun u => [(g0, .inr (6, [.ref k2, .ref g1, .int 7, .ref g2, .int 2147483647]))]) := by
  intro sz
  refine Met.ofW (cc := cX9_decl) (maxL := 2) (ret := (some (.object "JinjaTongue$Decl"))) (by decide) rfl ?_
  intro p e s m args below meth c s₁ B hml hv
  obtain ⟨rfl, hsz, hP, hD0, hE, hX⟩ := hv
  have hx := B.exec
  have hb := B.bytes
  have hr := B.returns
  have hts := atoms_spec (ws := Cond.code yX9_decl cX9_decl 2 (some (.object "JinjaTongue$Decl")) :: pw) B.pre
  have hq : ∀ w ∈ pw, w.before _ s = true := fun w h => hts w (List.mem_cons_of_mem _ h)
  have hown : s.vm.findClass RX9 = some m.cls := findClass_of_methodNamed B.named
  have hlocks := B.notSynchronized
  subst hsz
  have hD := hD0.self (sz := s.heap.size)
  have hA : ∀ q : Nat, s.heap.size ≤ q → va_A [(g0, .inr (6, [.ref k2, .ref g1, .int 7, .ref g2, .int 2147483647]))] s.heap.size q := fun q h => Or.inr h
  have hP : va_P G.1 pCl [(g0, .inr (6, [.ref k2, .ref g1, .int 7, .ref g2, .int 2147483647]))] s.heap := hP
  generalize va_A [(g0, .inr (6, [.ref k2, .ref g1, .int 7, .ref g2, .int 2147483647]))] s.heap.size = A at hD hE hA ⊢
  have hS : va_S A s.heap s.heap [] := va_S.rf
  have hl := lv_entry ([.ref g0, .int (-1)]) (n := 2) (Nat.le_of_ble_eq_true rfl)
  rw [lg_entry_eq]
  generalize (lg_sl ([.ref g0, .int (-1)]) ++ List.replicate (2 - (lg_sl ([.ref g0, .int (-1)])).length) Slot.unset).toArray = ls at hl ⊢
  have hl : lv_has ls 2 [(0, .ref g0), (1, .int (-1))] := hl
  refine lv_iload_n hx hb dX9_decl_0 rfl (lv_at hl 1 rfl) ?_
  refine lv_if_lt (tgt := 21) hx hb dX9_decl_1 (by decide) (fun c1 => ?_) (fun c1 => absurd c1 (by decide))
  refine lv_null hx hb dX9_decl_21 ?_
  refine W.widen (k := 0) (n := 0) (Nat.le_of_ble_eq_true rfl) (Nat.le_of_ble_eq_true rfl) ?_
  exact W.aret (v := .null) hx hb hr (Or.inl ⟨_, rfl⟩) (Or.inl rfl) (fun t ht hW => ⟨⟨_, ((fun _ => 0), (fun _ => fun _ => 0), (fun _ => fun _ => 0)), rfl, rfl, by rw [ht]; exact hP.sub [0] rfl, hD.sub [0] (by decide) rfl⟩, hS.F ht⟩) hS.2.2 dX9_decl_22
set_option maxHeartbeats 1000000 in
set_option maxRecDepth 100000 in
/-- placeAt(0) of an empty text: 0, the text stays -/
theorem c_placeAt2 (l : Launch) (G : pT) (k2 : Nat) (t1 : Nat) (t2 : Nat) (t3 : Nat) (t4 : Nat) (t5 : Nat) (t6 : Nat) (t7 : Nat) (t8 : Nat) (t9 : Nat) (t10 : Nat) (nm : Int32) : PM l G pX0 yX10_placeAt cX10_placeAt 2 (some .int) ({ frames := 2, cells := 0, slots := 0, locals := 60 }) [.ref k2, .int 0] [(k2, .inr (7, [.ref t1, .int 220, .int 0, .ref t2, .ref t3, .ref t4, .ref t5, .ref t6, .int 0, .ref t7, .ref t8, .ref t9, .ref t10, .int nm, .int 0]))] (fun (v : Option Value) (u : (Nat → Nat) × (Nat → Nat → Int32) × (Nat → Nat → Int64)) => v = some (.int 0)) (fun u => [(k2, .inr (7, [.ref t1, .int 220, .int 0, .ref t2, .ref t3, .ref t4, .ref t5, .ref t6, .int 0, .ref t7, .ref t8, .ref t9, .ref t10, .int nm, .int 0]))]) := by
  intro sz
  refine Met.ofW (cc := cX10_placeAt) (maxL := 2) (ret := (some .int)) (by decide) rfl ?_
  intro p e s m args below meth c s₁ B hml hv
  obtain ⟨rfl, hsz, hP, hD0, hE, hX⟩ := hv
  have hx := B.exec
  have hb := B.bytes
  have hr := B.returns
  have hts := atoms_spec (ws := Cond.code yX10_placeAt cX10_placeAt 2 (some .int) :: pw) B.pre
  have hq : ∀ w ∈ pw, w.before _ s = true := fun w h => hts w (List.mem_cons_of_mem _ h)
  have hown : s.vm.findClass RX10 = some m.cls := findClass_of_methodNamed B.named
  have hlocks := B.notSynchronized
  subst hsz
  have hD := hD0.self (sz := s.heap.size)
  have hA : ∀ q : Nat, s.heap.size ≤ q → va_A [(k2, .inr (7, [.ref t1, .int 220, .int 0, .ref t2, .ref t3, .ref t4, .ref t5, .ref t6, .int 0, .ref t7, .ref t8, .ref t9, .ref t10, .int nm, .int 0]))] s.heap.size q := fun q h => Or.inr h
  have hP : va_P G.1 pCl [(k2, .inr (7, [.ref t1, .int 220, .int 0, .ref t2, .ref t3, .ref t4, .ref t5, .ref t6, .int 0, .ref t7, .ref t8, .ref t9, .ref t10, .int nm, .int 0]))] s.heap := hP
  generalize va_A [(k2, .inr (7, [.ref t1, .int 220, .int 0, .ref t2, .ref t3, .ref t4, .ref t5, .ref t6, .int 0, .ref t7, .ref t8, .ref t9, .ref t10, .int nm, .int 0]))] s.heap.size = A at hD hE hA ⊢
  have hS : va_S A s.heap s.heap [] := va_S.rf
  have hl := lv_entry ([.ref k2, .int 0]) (n := 2) (Nat.le_of_ble_eq_true rfl)
  rw [lg_entry_eq]
  generalize (lg_sl ([.ref k2, .int 0]) ++ List.replicate (2 - (lg_sl ([.ref k2, .int 0])).length) Slot.unset).toArray = ls at hl ⊢
  have hl : lv_has ls 2 [(0, .ref k2), (1, .int 0)] := hl
  refine lv_iload_n hx hb dX10_placeAt_0 rfl (lv_at hl 1 rfl) ?_
  refine lv_if_lt (tgt := 21) hx hb dX10_placeAt_1 (by decide) (fun c1 => absurd c1 (by decide)) (fun c1 => ?_)
  refine lv_iload_n hx hb dX10_placeAt_4 rfl (lv_at hl 1 rfl) ?_
  refine lv_aload_n hx hb dX10_placeAt_5 rfl (lv_at hl 0 rfl) ?_
  refine va_get (D := G.1) (ci := 7) (v := .int 0) (C := RX10) (T := TX10) (N := 15) hx hb hq pin_wsX100 hown hE.1.1 hP 0 rfl rfl 8 (by decide) (hq _ pw_70) (fun _ h9 => h9) rfl dX10_placeAt_6 ?_
  refine lv_icmp_ge (tgt := 21) hx hb dX10_placeAt_9 (by decide) (fun c2 => ?_) (fun c2 => absurd c2 (by decide))
  refine lv_aload_n hx hb dX10_placeAt_21 rfl (lv_at hl 0 rfl) ?_
  refine va_get (D := G.1) (ci := 7) (v := .int 0) (C := RX10) (T := TX10) (N := 15) hx hb hq pin_wsX100 hown hE.1.1 hP 0 rfl rfl 2 (by decide) (hq _ pw_68) (fun _ h9 => h9) rfl dX10_placeAt_22 ?_
  refine W.widen (k := 0) (n := 0) (Nat.le_of_ble_eq_true rfl) (Nat.le_of_ble_eq_true rfl) ?_
  exact W.iret (v := 0) hx hb hr (fun t ht hW => ⟨⟨_, ((fun _ => 0), (fun _ => fun _ => 0), (fun _ => fun _ => 0)), rfl, rfl, by rw [ht]; exact hP.sub [0] rfl, hD.sub [0] (by decide) rfl⟩, hS.F ht⟩) hS.2.2 dX10_placeAt_25
theorem dX9_report_0 : decode cX9_report 0 = .ok (.aload_n 0, 1) := by decide +kernel
theorem dX9_report_1 : decode cX9_report 1 = .ok (.aload_n 0, 1) := by decide +kernel
theorem dX9_report_2 : decode cX9_report 2 = .ok (.getfield 38, 3) := by decide +kernel
theorem dX9_report_5 : decode cX9_report 5 = .ok (.iload_n 1, 1) := by decide +kernel
theorem dX9_report_6 : decode cX9_report 6 = .ok (.bipush 16, 2) := by decide +kernel
theorem dX9_report_8 : decode cX9_report 8 = .ok (.aload_n 0, 1) := by decide +kernel
theorem dX9_report_9 : decode cX9_report 9 = .ok (.getfield 9, 3) := by decide +kernel
theorem dX9_report_12 : decode cX9_report 12 = .ok (.iload_n 2, 1) := by decide +kernel
theorem dX9_report_13 : decode cX9_report 13 = .ok (.invokevirtual 97, 3) := by decide +kernel
theorem dX9_report_16 : decode cX9_report 16 = .ok (.imul, 1) := by decide +kernel
theorem dX9_report_17 : decode cX9_report 17 = .ok (.iadd, 1) := by decide +kernel
theorem dX9_report_18 : decode cX9_report 18 = .ok (.invokestatic 100, 3) := by decide +kernel
theorem dX9_report_21 : decode cX9_report 21 = .ok (.putfield 38, 3) := by decide +kernel
theorem dX9_report_24 : decode cX9_report 24 = .ok (.return_, 1) := by decide +kernel
theorem hV_X10_placeAt : yX10_placeAt.cls = RX10 ∧ yX10_placeAt.cls ≠ "java/lang/invoke/MethodHandle" ∧ yX10_placeAt.cls ≠ "java/lang/invoke/VarHandle" ∧ (parseMethodDescriptor yX10_placeAt.desc).map (fun d => d.parameters.length) = some 1 := by decide +kernel
set_option maxHeartbeats 1000000 in
set_option maxRecDepth 100000 in
/-- report(NO_MAIN, 0) -/
theorem c_report9 (l : Launch) (G : pT) (g0 : Nat) (g1 : Nat) (g2 : Nat) (k2 : Nat) (t1 : Nat) (t2 : Nat) (t3 : Nat) (t4 : Nat) (t5 : Nat) (t6 : Nat) (t7 : Nat) (t8 : Nat) (t9 : Nat) (t10 : Nat) (nm : Int32) : PM l G pX0 yX9_report cX9_report 3 none ({ frames := 3, cells := 0, slots := 0, locals := 81 }) [.ref g0, .int 9, .int 0] [(g0, .inr (6, [.ref k2, .ref g1, .int 7, .ref g2, .int 2147483647])), (k2, .inr (7, [.ref t1, .int 220, .int 0, .ref t2, .ref t3, .ref t4, .ref t5, .ref t6, .int 0, .ref t7, .ref t8, .ref t9, .ref t10, .int nm, .int 0]))] (fun (v : Option Value) (u : (Nat → Nat) × (Nat → Nat → Int32) × (Nat → Nat → Int64)) => v = none) (fun u => [(g0, .inr (6, [.ref k2, .ref g1, .int 7, .ref g2, .int 9])), (k2, .inr (7, [.ref t1, .int 220, .int 0, .ref t2, .ref t3, .ref t4, .ref t5, .ref t6, .int 0, .ref t7, .ref t8, .ref t9, .ref t10, .int nm, .int 0]))]) := by
  intro sz
  refine Met.ofW (cc := cX9_report) (maxL := 3) (ret := none) (by decide) rfl ?_
  intro p e s m args below meth c s₁ B hml hv
  obtain ⟨rfl, hsz, hP, hD0, hE, hX⟩ := hv
  have hx := B.exec
  have hb := B.bytes
  have hr := B.returns
  have hts := atoms_spec (ws := Cond.code yX9_report cX9_report 3 none :: pw) B.pre
  have hq : ∀ w ∈ pw, w.before _ s = true := fun w h => hts w (List.mem_cons_of_mem _ h)
  have hown : s.vm.findClass RX9 = some m.cls := findClass_of_methodNamed B.named
  have hlocks := B.notSynchronized
  subst hsz
  have hD := hD0.self (sz := s.heap.size)
  have hA : ∀ q : Nat, s.heap.size ≤ q → va_A [(g0, .inr (6, [.ref k2, .ref g1, .int 7, .ref g2, .int 2147483647])), (k2, .inr (7, [.ref t1, .int 220, .int 0, .ref t2, .ref t3, .ref t4, .ref t5, .ref t6, .int 0, .ref t7, .ref t8, .ref t9, .ref t10, .int nm, .int 0]))] s.heap.size q := fun q h => Or.inr h
  have hP : va_P G.1 pCl [(g0, .inr (6, [.ref k2, .ref g1, .int 7, .ref g2, .int 2147483647])), (k2, .inr (7, [.ref t1, .int 220, .int 0, .ref t2, .ref t3, .ref t4, .ref t5, .ref t6, .int 0, .ref t7, .ref t8, .ref t9, .ref t10, .int nm, .int 0]))] s.heap := hP
  generalize va_A [(g0, .inr (6, [.ref k2, .ref g1, .int 7, .ref g2, .int 2147483647])), (k2, .inr (7, [.ref t1, .int 220, .int 0, .ref t2, .ref t3, .ref t4, .ref t5, .ref t6, .int 0, .ref t7, .ref t8, .ref t9, .ref t10, .int nm, .int 0]))] s.heap.size = A at hD hE hA ⊢
  have hS : va_S A s.heap s.heap [] := va_S.rf
  have hl := lv_entry ([.ref g0, .int 9, .int 0]) (n := 3) (Nat.le_of_ble_eq_true rfl)
  rw [lg_entry_eq]
  generalize (lg_sl ([.ref g0, .int 9, .int 0]) ++ List.replicate (3 - (lg_sl ([.ref g0, .int 9, .int 0])).length) Slot.unset).toArray = ls at hl ⊢
  have hl : lv_has ls 3 [(0, .ref g0), (1, .int 9), (2, .int 0)] := hl
  refine lv_aload_n hx hb dX9_report_0 rfl (lv_at hl 0 rfl) ?_
  refine lv_aload_n hx hb dX9_report_1 rfl (lv_at hl 0 rfl) ?_
  refine va_get (D := G.1) (ci := 6) (v := .int 2147483647) (C := RX9) (T := TX9) (N := 5) hx hb hq pin_wsX90 hown hE.1.1 hP 0 rfl rfl 4 (by decide) (hq _ pw_139) (fun _ h9 => h9) rfl dX9_report_2 ?_
  refine lv_iload_n hx hb dX9_report_5 rfl (lv_at hl 1 rfl) ?_
  refine lv_bipush (v := 16) hx hb dX9_report_6 (by decide) ?_
  refine lv_aload_n hx hb dX9_report_8 rfl (lv_at hl 0 rfl) ?_
  refine va_get (D := G.1) (ci := 6) (v := .ref k2) (C := RX9) (T := TX9) (N := 5) hx hb hq pin_wsX90 hown hE.1.1 hP 0 rfl rfl 0 (by decide) (hq _ pw_130) (fun _ h9 => h9) rfl dX9_report_9 ?_
  refine lv_iload_n hx hb dX9_report_12 rfl (lv_at hl 2 rfl) ?_
  refine pc_V (G := G) (As := [.int 0]) (rest := [.int 16, .int 9, .int 2147483647, .ref g0]) (wr := [(g0, .inr (6, [.ref k2, .ref g1, .int 7, .ref g2, .int 2147483647]))]) hx hb hml hown hq hE hX pX0_al hP hD hS hA hl.1 (c_placeAt2 l G k2 t1 t2 t3 t4 t5 t6 t7 t8 t9 t10 nm) (gV pw_163 pw_444 pw_445 pw_424 pw_443) hV_X10_placeAt 1 7 rfl rfl rfl [1] [0] rfl rfl (by decide) (by decide) (by decide) rfl (Nat.le_of_ble_eq_true rfl) dX9_report_13 ⟨Nat.le_of_ble_eq_true rfl, Nat.le_of_ble_eq_true rfl⟩ ⟨Nat.le_of_ble_eq_true rfl, Nat.le_of_ble_eq_true rfl⟩ (fun v3 u1 H locs hw2 hP hD hS => ?_)
  obtain rfl : v3 = some (.int 0) := hw2
  have hP : va_P G.1 pCl [(g0, .inr (6, [.ref k2, .ref g1, .int 7, .ref g2, .int 2147483647])), (k2, .inr (7, [.ref t1, .int 220, .int 0, .ref t2, .ref t3, .ref t4, .ref t5, .ref t6, .int 0, .ref t7, .ref t8, .ref t9, .ref t10, .int nm, .int 0]))] H := hP
  have hD : va_D A [(g0, .inr (6, [.ref k2, .ref g1, .int 7, .ref g2, .int 2147483647])), (k2, .inr (7, [.ref t1, .int 220, .int 0, .ref t2, .ref t3, .ref t4, .ref t5, .ref t6, .int 0, .ref t7, .ref t8, .ref t9, .ref t10, .int nm, .int 0]))] := hD
  refine W.widen (k := 0) (n := 0) (Nat.le_of_ble_eq_true rfl) (Nat.le_of_ble_eq_true rfl) ?_
  refine W.eq (g2 := F0 m 16 ls [.int 0, .int 16, .int 9, .int 2147483647, .ref g0]) rfl ?_
  refine lv_imul hx hb dX9_report_16 ?_
  refine lv_topi (fun x4 e5 => ?_)
  obtain rfl : x4 = 0 := e5.trans (by decide)
  refine lv_iadd hx hb dX9_report_17 ?_
  refine lv_topi (fun x6 e7 => ?_)
  obtain rfl : x6 = 9 := e7.trans (by decide)
  refine va_mmin (own := RX9) hx hb (by rw [hml]; exact hl.1.symm) hown (hq _ pw_164) (hq _ pw_646) (hq _ pw_640) (hq _ pw_647) (Nat.le_of_ble_eq_true rfl) (Nat.le_of_ble_eq_true rfl) (Nat.le_of_ble_eq_true rfl) (Nat.le_of_ble_eq_true rfl) dX9_report_18 ?_
  refine lv_topi (fun x8 e9 => ?_)
  obtain rfl : x8 = 9 := e9.trans (by decide)
  refine va_put (D := G.1) (ci := 6) (v := .int 9) (ty := .int) (C := RX9) (T := TX9) (N := 5) hx hb hq pin_wsX90 tyX9 tyX9_ok nmX9 hown hE.1.1 hP hD hS 0 rfl rfl 4 (by decide) (hq _ pw_139) (fun _ h9 => h9) rfl (by decide +kernel) rfl rfl (Nat.le_of_ble_eq_true rfl) dX9_report_21 (fun H locs hP hD hS => ?_)
  have hP : va_P G.1 pCl [(g0, .inr (6, [.ref k2, .ref g1, .int 7, .ref g2, .int 9])), (k2, .inr (7, [.ref t1, .int 220, .int 0, .ref t2, .ref t3, .ref t4, .ref t5, .ref t6, .int 0, .ref t7, .ref t8, .ref t9, .ref t10, .int nm, .int 0]))] H := hP
  have hD : va_D A [(g0, .inr (6, [.ref k2, .ref g1, .int 7, .ref g2, .int 9])), (k2, .inr (7, [.ref t1, .int 220, .int 0, .ref t2, .ref t3, .ref t4, .ref t5, .ref t6, .int 0, .ref t7, .ref t8, .ref t9, .ref t10, .int nm, .int 0]))] := hD
  refine W.widen (k := 0) (n := 0) (Nat.le_of_ble_eq_true rfl) (Nat.le_of_ble_eq_true rfl) ?_
  exact W.vret hx hb hr (fun t ht hW => ⟨⟨_, ((fun _ => 0), (fun _ => fun _ => 0), (fun _ => fun _ => 0)), rfl, rfl, by rw [ht]; exact hP.sub [0, 1] rfl, hD.sub [0, 1] (by decide) rfl⟩, hS.F ht⟩) hS.2.2 dX9_report_24
theorem dX9_isAbove_0 : decode cX9_isAbove 0 = .ok (.iload_n 1, 1) := by decide +kernel
theorem dX9_isAbove_1 : decode cX9_isAbove 1 = .ok (.ifCond .lt 45, 3) := by decide +kernel
theorem dX9_isAbove_4 : decode cX9_isAbove 4 = .ok (.iload_n 1, 1) := by decide +kernel
theorem dX9_isAbove_5 : decode cX9_isAbove 5 = .ok (.aload_n 0, 1) := by decide +kernel
theorem dX9_isAbove_6 : decode cX9_isAbove 6 = .ok (.getfield 33, 3) := by decide +kernel
theorem dX9_isAbove_9 : decode cX9_isAbove 9 = .ok (.if_icmp .ge 37, 3) := by decide +kernel
theorem dX9_isAbove_12 : decode cX9_isAbove 12 = .ok (.iload_n 2, 1) := by decide +kernel
theorem dX9_isAbove_13 : decode cX9_isAbove 13 = .ok (.ifCond .lt 33, 3) := by decide +kernel
theorem dX9_isAbove_16 : decode cX9_isAbove 16 = .ok (.iload_n 2, 1) := by decide +kernel
theorem dX9_isAbove_17 : decode cX9_isAbove 17 = .ok (.aload_n 0, 1) := by decide +kernel
theorem dX9_isAbove_18 : decode cX9_isAbove 18 = .ok (.getfield 33, 3) := by decide +kernel
theorem dX9_isAbove_21 : decode cX9_isAbove 21 = .ok (.if_icmp .ge 25, 3) := by decide +kernel
theorem dX9_isAbove_24 : decode cX9_isAbove 24 = .ok (.aload_n 0, 1) := by decide +kernel
theorem dX9_isAbove_25 : decode cX9_isAbove 25 = .ok (.getfield 17, 3) := by decide +kernel
theorem dX9_isAbove_28 : decode cX9_isAbove 28 = .ok (.iload_n 2, 1) := by decide +kernel
theorem dX9_isAbove_29 : decode cX9_isAbove 29 = .ok (.aaload, 1) := by decide +kernel
theorem dX9_isAbove_30 : decode cX9_isAbove 30 = .ok (.getfield 57, 3) := by decide +kernel
theorem dX9_isAbove_33 : decode cX9_isAbove 33 = .ok (.iload_n 1, 1) := by decide +kernel
theorem dX9_isAbove_34 : decode cX9_isAbove 34 = .ok (.lushr, 1) := by decide +kernel
theorem dX9_isAbove_35 : decode cX9_isAbove 35 = .ok (.lconst 1, 1) := by decide +kernel
theorem dX9_isAbove_36 : decode cX9_isAbove 36 = .ok (.land, 1) := by decide +kernel
theorem dX9_isAbove_37 : decode cX9_isAbove 37 = .ok (.lconst 1, 1) := by decide +kernel
theorem dX9_isAbove_38 : decode cX9_isAbove 38 = .ok (.lcmp, 1) := by decide +kernel
theorem dX9_isAbove_39 : decode cX9_isAbove 39 = .ok (.ifCond .ne 7, 3) := by decide +kernel
theorem dX9_isAbove_46 : decode cX9_isAbove 46 = .ok (.iconst 0, 1) := by decide +kernel
theorem dX9_isAbove_47 : decode cX9_isAbove 47 = .ok (.ireturn, 1) := by decide +kernel
set_option maxHeartbeats 1000000 in
set_option maxRecDepth 100000 in
/-- isAbove(0, 0) -/
theorem c_isAbove_0_0 (l : Launch) (G : pT) (g0 : Nat) (g1 : Nat) (g2 : Nat) (d : Nat → Nat) (z : Nat → Nat) (k2 : Nat) : PM l G pX0 yX9_isAbove cX9_isAbove 3 (some .boolean) ({ frames := 2, cells := 0, slots := 0, locals := 60 }) [.ref g0, .int 0, .int 0] [(g0, .inr (6, [.ref k2, .ref g1, .int 7, .ref g2, .int 2147483647])), (g1, .inl (G.2.1 4, 37, .inr (.inr (.inr (.inr (dcl d)))))), ((d 0), .inr (2, [.int 0, .int 29, .int (-1), .int 0, .int (-1), .int 0, .int 0, .ref (z 0), .ref (z 1), .null, .long 0, .ref (z 2), .ref (z 3)]))] (fun (v : Option Value) (u : (Nat → Nat) × (Nat → Nat → Int32) × (Nat → Nat → Int64)) => v = some (.int 0)) (fun u => [(g0, .inr (6, [.ref k2, .ref g1, .int 7, .ref g2, .int 2147483647])), (g1, .inl (G.2.1 4, 37, .inr (.inr (.inr (.inr (dcl d)))))), ((d 0), .inr (2, [.int 0, .int 29, .int (-1), .int 0, .int (-1), .int 0, .int 0, .ref (z 0), .ref (z 1), .null, .long 0, .ref (z 2), .ref (z 3)]))]) := by
  intro sz
  refine Met.ofW (cc := cX9_isAbove) (maxL := 3) (ret := (some .boolean)) (by decide) rfl ?_
  intro p e s m args below meth c s₁ B hml hv
  obtain ⟨rfl, hsz, hP, hD0, hE, hX⟩ := hv
  have hx := B.exec
  have hb := B.bytes
  have hr := B.returns
  have hts := atoms_spec (ws := Cond.code yX9_isAbove cX9_isAbove 3 (some .boolean) :: pw) B.pre
  have hq : ∀ w ∈ pw, w.before _ s = true := fun w h => hts w (List.mem_cons_of_mem _ h)
  have hown : s.vm.findClass RX9 = some m.cls := findClass_of_methodNamed B.named
  have hlocks := B.notSynchronized
  subst hsz
  have hD := hD0.self (sz := s.heap.size)
  have hA : ∀ q : Nat, s.heap.size ≤ q → va_A [(g0, .inr (6, [.ref k2, .ref g1, .int 7, .ref g2, .int 2147483647])), (g1, .inl (G.2.1 4, 37, .inr (.inr (.inr (.inr (dcl d)))))), ((d 0), .inr (2, [.int 0, .int 29, .int (-1), .int 0, .int (-1), .int 0, .int 0, .ref (z 0), .ref (z 1), .null, .long 0, .ref (z 2), .ref (z 3)]))] s.heap.size q := fun q h => Or.inr h
  have hP : va_P G.1 pCl [(g0, .inr (6, [.ref k2, .ref g1, .int 7, .ref g2, .int 2147483647])), (g1, .inl (G.2.1 4, 37, .inr (.inr (.inr (.inr (dcl d)))))), ((d 0), .inr (2, [.int 0, .int 29, .int (-1), .int 0, .int (-1), .int 0, .int 0, .ref (z 0), .ref (z 1), .null, .long 0, .ref (z 2), .ref (z 3)]))] s.heap := hP
  generalize va_A [(g0, .inr (6, [.ref k2, .ref g1, .int 7, .ref g2, .int 2147483647])), (g1, .inl (G.2.1 4, 37, .inr (.inr (.inr (.inr (dcl d)))))), ((d 0), .inr (2, [.int 0, .int 29, .int (-1), .int 0, .int (-1), .int 0, .int 0, .ref (z 0), .ref (z 1), .null, .long 0, .ref (z 2), .ref (z 3)]))] s.heap.size = A at hD hE hA ⊢
  have hS : va_S A s.heap s.heap [] := va_S.rf
  have hl := lv_entry ([.ref g0, .int 0, .int 0]) (n := 3) (Nat.le_of_ble_eq_true rfl)
  rw [lg_entry_eq]
  generalize (lg_sl ([.ref g0, .int 0, .int 0]) ++ List.replicate (3 - (lg_sl ([.ref g0, .int 0, .int 0])).length) Slot.unset).toArray = ls at hl ⊢
  have hl : lv_has ls 3 [(0, .ref g0), (1, .int 0), (2, .int 0)] := hl
  refine lv_iload_n hx hb dX9_isAbove_0 rfl (lv_at hl 1 rfl) ?_
  refine lv_if_lt (tgt := 46) hx hb dX9_isAbove_1 (by decide) (fun c1 => absurd c1 (by decide)) (fun c1 => ?_)
  refine lv_iload_n hx hb dX9_isAbove_4 rfl (lv_at hl 1 rfl) ?_
  refine lv_aload_n hx hb dX9_isAbove_5 rfl (lv_at hl 0 rfl) ?_
  refine va_get (D := G.1) (ci := 6) (v := .int 7) (C := RX9) (T := TX9) (N := 5) hx hb hq pin_wsX90 hown hE.1.1 hP 0 rfl rfl 2 (by decide) (hq _ pw_137) (fun _ h9 => h9) rfl dX9_isAbove_6 ?_
  refine lv_icmp_ge (tgt := 46) hx hb dX9_isAbove_9 (by decide) (fun c2 => absurd c2 (by decide)) (fun c2 => ?_)
  refine lv_iload_n hx hb dX9_isAbove_12 rfl (lv_at hl 2 rfl) ?_
  refine lv_if_lt (tgt := 46) hx hb dX9_isAbove_13 (by decide) (fun c3 => absurd c3 (by decide)) (fun c3 => ?_)
  refine lv_iload_n hx hb dX9_isAbove_16 rfl (lv_at hl 2 rfl) ?_
  refine lv_aload_n hx hb dX9_isAbove_17 rfl (lv_at hl 0 rfl) ?_
  refine va_get (D := G.1) (ci := 6) (v := .int 7) (C := RX9) (T := TX9) (N := 5) hx hb hq pin_wsX90 hown hE.1.1 hP 0 rfl rfl 2 (by decide) (hq _ pw_137) (fun _ h9 => h9) rfl dX9_isAbove_18 ?_
  refine lv_icmp_ge (tgt := 46) hx hb dX9_isAbove_21 (by decide) (fun c4 => absurd c4 (by decide)) (fun c4 => ?_)
  refine lv_aload_n hx hb dX9_isAbove_24 rfl (lv_at hl 0 rfl) ?_
  refine va_get (D := G.1) (ci := 6) (v := .ref g1) (C := RX9) (T := TX9) (N := 5) hx hb hq pin_wsX90 hown hE.1.1 hP 0 rfl rfl 1 (by decide) (hq _ pw_132) (fun _ h9 => h9) rfl dX9_isAbove_25 ?_
  refine lv_iload_n hx hb dX9_isAbove_28 rfl (lv_at hl 2 rfl) ?_
  refine va_aldq hx hb hE.1.1 hP 1 4 rfl rfl (by unfold vp_in; decide) dX9_isAbove_29 ?_
  refine W.eq (g2 := F0 m 30 ls [.ref (d 0)]) rfl ?_
  refine va_get (D := G.1) (ci := 2) (v := .long 0) (C := RX2) (T := TX2) (N := 13) hx hb hq pin_wsX20 hown hE.1.1 hP 2 rfl rfl 10 (by decide) (hq _ pw_153) (fun _ h9 => h9) rfl dX9_isAbove_30 ?_
  refine lv_iload_n hx hb dX9_isAbove_33 rfl (lv_at hl 1 rfl) ?_
  refine lv_lushr (v := 0) hx hb dX9_isAbove_34 (by decide) ?_
  refine lv_lconst (v := 1) hx hb dX9_isAbove_35 (by decide) ?_
  refine lv_land hx hb dX9_isAbove_36 ?_
  refine lv_topl (fun x5 e6 => ?_)
  obtain rfl : x5 = 0 := e6.trans (by decide)
  refine lv_lconst (v := 1) hx hb dX9_isAbove_37 (by decide) ?_
  refine W.lcmp hx hb dX9_isAbove_38 ?_
  refine lv_topi (fun x7 e8 => ?_)
  obtain rfl : x7 = (-1) := e8.trans (by decide)
  refine lv_if_ne (tgt := 46) hx hb dX9_isAbove_39 (by decide) (fun c9 => ?_) (fun c9 => absurd c9 (by decide))
  refine lv_iconst (v := 0) hx hb dX9_isAbove_46 (by decide) ?_
  refine W.widen (k := 0) (n := 0) (Nat.le_of_ble_eq_true rfl) (Nat.le_of_ble_eq_true rfl) ?_
  exact W.zret (v := 0) hx hb hr rfl (fun t ht hW => ⟨⟨_, ((fun _ => 0), (fun _ => fun _ => 0), (fun _ => fun _ => 0)), rfl, rfl, by rw [ht]; exact hP.sub [0, 1, 2] rfl, hD.sub [0, 1, 2] (by decide) rfl⟩, hS.F ht⟩) hS.2.2 dX9_isAbove_47
theorem dX9_isAbove_42 : decode cX9_isAbove 42 = .ok (.iconst 1, 1) := by decide +kernel
theorem dX9_isAbove_43 : decode cX9_isAbove 43 = .ok (.goto 4, 3) := by decide +kernel
set_option maxHeartbeats 1000000 in
set_option maxRecDepth 100000 in
/-- isAbove(0, 1) -/
theorem c_isAbove_0_1 (l : Launch) (G : pT) (g0 : Nat) (g1 : Nat) (g2 : Nat) (d : Nat → Nat) (z : Nat → Nat) (k2 : Nat) : PM l G pX0 yX9_isAbove cX9_isAbove 3 (some .boolean) ({ frames := 2, cells := 0, slots := 0, locals := 60 }) [.ref g0, .int 0, .int 1] [(g0, .inr (6, [.ref k2, .ref g1, .int 7, .ref g2, .int 2147483647])), (g1, .inl (G.2.1 4, 37, .inr (.inr (.inr (.inr (dcl d)))))), ((d 1), .inr (2, [.int 1, .int 30, .int (-1), .int 0, .int (-1), .int 0, .int 0, .ref (z 4), .ref (z 5), .ref (d 0), .long 1, .ref (z 6), .ref (z 7)]))] (fun (v : Option Value) (u : (Nat → Nat) × (Nat → Nat → Int32) × (Nat → Nat → Int64)) => v = some (.int 1)) (fun u => [(g0, .inr (6, [.ref k2, .ref g1, .int 7, .ref g2, .int 2147483647])), (g1, .inl (G.2.1 4, 37, .inr (.inr (.inr (.inr (dcl d)))))), ((d 1), .inr (2, [.int 1, .int 30, .int (-1), .int 0, .int (-1), .int 0, .int 0, .ref (z 4), .ref (z 5), .ref (d 0), .long 1, .ref (z 6), .ref (z 7)]))]) := by
  intro sz
  refine Met.ofW (cc := cX9_isAbove) (maxL := 3) (ret := (some .boolean)) (by decide) rfl ?_
  intro p e s m args below meth c s₁ B hml hv
  obtain ⟨rfl, hsz, hP, hD0, hE, hX⟩ := hv
  have hx := B.exec
  have hb := B.bytes
  have hr := B.returns
  have hts := atoms_spec (ws := Cond.code yX9_isAbove cX9_isAbove 3 (some .boolean) :: pw) B.pre
  have hq : ∀ w ∈ pw, w.before _ s = true := fun w h => hts w (List.mem_cons_of_mem _ h)
  have hown : s.vm.findClass RX9 = some m.cls := findClass_of_methodNamed B.named
  have hlocks := B.notSynchronized
  subst hsz
  have hD := hD0.self (sz := s.heap.size)
  have hA : ∀ q : Nat, s.heap.size ≤ q → va_A [(g0, .inr (6, [.ref k2, .ref g1, .int 7, .ref g2, .int 2147483647])), (g1, .inl (G.2.1 4, 37, .inr (.inr (.inr (.inr (dcl d)))))), ((d 1), .inr (2, [.int 1, .int 30, .int (-1), .int 0, .int (-1), .int 0, .int 0, .ref (z 4), .ref (z 5), .ref (d 0), .long 1, .ref (z 6), .ref (z 7)]))] s.heap.size q := fun q h => Or.inr h
  have hP : va_P G.1 pCl [(g0, .inr (6, [.ref k2, .ref g1, .int 7, .ref g2, .int 2147483647])), (g1, .inl (G.2.1 4, 37, .inr (.inr (.inr (.inr (dcl d)))))), ((d 1), .inr (2, [.int 1, .int 30, .int (-1), .int 0, .int (-1), .int 0, .int 0, .ref (z 4), .ref (z 5), .ref (d 0), .long 1, .ref (z 6), .ref (z 7)]))] s.heap := hP
  generalize va_A [(g0, .inr (6, [.ref k2, .ref g1, .int 7, .ref g2, .int 2147483647])), (g1, .inl (G.2.1 4, 37, .inr (.inr (.inr (.inr (dcl d)))))), ((d 1), .inr (2, [.int 1, .int 30, .int (-1), .int 0, .int (-1), .int 0, .int 0, .ref (z 4), .ref (z 5), .ref (d 0), .long 1, .ref (z 6), .ref (z 7)]))] s.heap.size = A at hD hE hA ⊢
  have hS : va_S A s.heap s.heap [] := va_S.rf
  have hl := lv_entry ([.ref g0, .int 0, .int 1]) (n := 3) (Nat.le_of_ble_eq_true rfl)
  rw [lg_entry_eq]
  generalize (lg_sl ([.ref g0, .int 0, .int 1]) ++ List.replicate (3 - (lg_sl ([.ref g0, .int 0, .int 1])).length) Slot.unset).toArray = ls at hl ⊢
  have hl : lv_has ls 3 [(0, .ref g0), (1, .int 0), (2, .int 1)] := hl
  refine lv_iload_n hx hb dX9_isAbove_0 rfl (lv_at hl 1 rfl) ?_
  refine lv_if_lt (tgt := 46) hx hb dX9_isAbove_1 (by decide) (fun c1 => absurd c1 (by decide)) (fun c1 => ?_)
  refine lv_iload_n hx hb dX9_isAbove_4 rfl (lv_at hl 1 rfl) ?_
  refine lv_aload_n hx hb dX9_isAbove_5 rfl (lv_at hl 0 rfl) ?_
  refine va_get (D := G.1) (ci := 6) (v := .int 7) (C := RX9) (T := TX9) (N := 5) hx hb hq pin_wsX90 hown hE.1.1 hP 0 rfl rfl 2 (by decide) (hq _ pw_137) (fun _ h9 => h9) rfl dX9_isAbove_6 ?_
  refine lv_icmp_ge (tgt := 46) hx hb dX9_isAbove_9 (by decide) (fun c2 => absurd c2 (by decide)) (fun c2 => ?_)
  refine lv_iload_n hx hb dX9_isAbove_12 rfl (lv_at hl 2 rfl) ?_
  refine lv_if_lt (tgt := 46) hx hb dX9_isAbove_13 (by decide) (fun c3 => absurd c3 (by decide)) (fun c3 => ?_)
  refine lv_iload_n hx hb dX9_isAbove_16 rfl (lv_at hl 2 rfl) ?_
  refine lv_aload_n hx hb dX9_isAbove_17 rfl (lv_at hl 0 rfl) ?_
  refine va_get (D := G.1) (ci := 6) (v := .int 7) (C := RX9) (T := TX9) (N := 5) hx hb hq pin_wsX90 hown hE.1.1 hP 0 rfl rfl 2 (by decide) (hq _ pw_137) (fun _ h9 => h9) rfl dX9_isAbove_18 ?_
  refine lv_icmp_ge (tgt := 46) hx hb dX9_isAbove_21 (by decide) (fun c4 => absurd c4 (by decide)) (fun c4 => ?_)
  refine lv_aload_n hx hb dX9_isAbove_24 rfl (lv_at hl 0 rfl) ?_
  refine va_get (D := G.1) (ci := 6) (v := .ref g1) (C := RX9) (T := TX9) (N := 5) hx hb hq pin_wsX90 hown hE.1.1 hP 0 rfl rfl 1 (by decide) (hq _ pw_132) (fun _ h9 => h9) rfl dX9_isAbove_25 ?_
  refine lv_iload_n hx hb dX9_isAbove_28 rfl (lv_at hl 2 rfl) ?_
  refine va_aldq hx hb hE.1.1 hP 1 4 rfl rfl (by unfold vp_in; decide) dX9_isAbove_29 ?_
  refine W.eq (g2 := F0 m 30 ls [.ref (d 1)]) rfl ?_
  refine va_get (D := G.1) (ci := 2) (v := .long 1) (C := RX2) (T := TX2) (N := 13) hx hb hq pin_wsX20 hown hE.1.1 hP 2 rfl rfl 10 (by decide) (hq _ pw_153) (fun _ h9 => h9) rfl dX9_isAbove_30 ?_
  refine lv_iload_n hx hb dX9_isAbove_33 rfl (lv_at hl 1 rfl) ?_
  refine lv_lushr (v := 1) hx hb dX9_isAbove_34 (by decide) ?_
  refine lv_lconst (v := 1) hx hb dX9_isAbove_35 (by decide) ?_
  refine lv_land hx hb dX9_isAbove_36 ?_
  refine lv_topl (fun x5 e6 => ?_)
  obtain rfl : x5 = 1 := e6.trans (by decide)
  refine lv_lconst (v := 1) hx hb dX9_isAbove_37 (by decide) ?_
  refine W.lcmp hx hb dX9_isAbove_38 ?_
  refine lv_topi (fun x7 e8 => ?_)
  obtain rfl : x7 = 0 := e8.trans (by decide)
  refine lv_if_ne (tgt := 46) hx hb dX9_isAbove_39 (by decide) (fun c9 => absurd c9 (by decide)) (fun c9 => ?_)
  refine lv_iconst (v := 1) hx hb dX9_isAbove_42 (by decide) ?_
  refine lv_goto (tgt := 47) hx hb dX9_isAbove_43 (by decide) ?_
  refine W.widen (k := 0) (n := 0) (Nat.le_of_ble_eq_true rfl) (Nat.le_of_ble_eq_true rfl) ?_
  exact W.zret (v := 1) hx hb hr rfl (fun t ht hW => ⟨⟨_, ((fun _ => 0), (fun _ => fun _ => 0), (fun _ => fun _ => 0)), rfl, rfl, by rw [ht]; exact hP.sub [0, 1, 2] rfl, hD.sub [0, 1, 2] (by decide) rfl⟩, hS.F ht⟩) hS.2.2 dX9_isAbove_47
set_option maxHeartbeats 1000000 in
set_option maxRecDepth 100000 in
/-- isAbove(0, 2) -/
theorem c_isAbove_0_2 (l : Launch) (G : pT) (g0 : Nat) (g1 : Nat) (g2 : Nat) (d : Nat → Nat) (z : Nat → Nat) (k2 : Nat) : PM l G pX0 yX9_isAbove cX9_isAbove 3 (some .boolean) ({ frames := 2, cells := 0, slots := 0, locals := 60 }) [.ref g0, .int 0, .int 2] [(g0, .inr (6, [.ref k2, .ref g1, .int 7, .ref g2, .int 2147483647])), (g1, .inl (G.2.1 4, 37, .inr (.inr (.inr (.inr (dcl d)))))), ((d 2), .inr (2, [.int 2, .int 31, .int (-1), .int 0, .int (-1), .int 0, .int 0, .ref (z 8), .ref (z 9), .ref (d 0), .long 1, .ref (z 10), .ref (z 11)]))] (fun (v : Option Value) (u : (Nat → Nat) × (Nat → Nat → Int32) × (Nat → Nat → Int64)) => v = some (.int 1)) (fun u => [(g0, .inr (6, [.ref k2, .ref g1, .int 7, .ref g2, .int 2147483647])), (g1, .inl (G.2.1 4, 37, .inr (.inr (.inr (.inr (dcl d)))))), ((d 2), .inr (2, [.int 2, .int 31, .int (-1), .int 0, .int (-1), .int 0, .int 0, .ref (z 8), .ref (z 9), .ref (d 0), .long 1, .ref (z 10), .ref (z 11)]))]) := by
  intro sz
  refine Met.ofW (cc := cX9_isAbove) (maxL := 3) (ret := (some .boolean)) (by decide) rfl ?_
  intro p e s m args below meth c s₁ B hml hv
  obtain ⟨rfl, hsz, hP, hD0, hE, hX⟩ := hv
  have hx := B.exec
  have hb := B.bytes
  have hr := B.returns
  have hts := atoms_spec (ws := Cond.code yX9_isAbove cX9_isAbove 3 (some .boolean) :: pw) B.pre
  have hq : ∀ w ∈ pw, w.before _ s = true := fun w h => hts w (List.mem_cons_of_mem _ h)
  have hown : s.vm.findClass RX9 = some m.cls := findClass_of_methodNamed B.named
  have hlocks := B.notSynchronized
  subst hsz
  have hD := hD0.self (sz := s.heap.size)
  have hA : ∀ q : Nat, s.heap.size ≤ q → va_A [(g0, .inr (6, [.ref k2, .ref g1, .int 7, .ref g2, .int 2147483647])), (g1, .inl (G.2.1 4, 37, .inr (.inr (.inr (.inr (dcl d)))))), ((d 2), .inr (2, [.int 2, .int 31, .int (-1), .int 0, .int (-1), .int 0, .int 0, .ref (z 8), .ref (z 9), .ref (d 0), .long 1, .ref (z 10), .ref (z 11)]))] s.heap.size q := fun q h => Or.inr h
  have hP : va_P G.1 pCl [(g0, .inr (6, [.ref k2, .ref g1, .int 7, .ref g2, .int 2147483647])), (g1, .inl (G.2.1 4, 37, .inr (.inr (.inr (.inr (dcl d)))))), ((d 2), .inr (2, [.int 2, .int 31, .int (-1), .int 0, .int (-1), .int 0, .int 0, .ref (z 8), .ref (z 9), .ref (d 0), .long 1, .ref (z 10), .ref (z 11)]))] s.heap := hP
  generalize va_A [(g0, .inr (6, [.ref k2, .ref g1, .int 7, .ref g2, .int 2147483647])), (g1, .inl (G.2.1 4, 37, .inr (.inr (.inr (.inr (dcl d)))))), ((d 2), .inr (2, [.int 2, .int 31, .int (-1), .int 0, .int (-1), .int 0, .int 0, .ref (z 8), .ref (z 9), .ref (d 0), .long 1, .ref (z 10), .ref (z 11)]))] s.heap.size = A at hD hE hA ⊢
  have hS : va_S A s.heap s.heap [] := va_S.rf
  have hl := lv_entry ([.ref g0, .int 0, .int 2]) (n := 3) (Nat.le_of_ble_eq_true rfl)
  rw [lg_entry_eq]
  generalize (lg_sl ([.ref g0, .int 0, .int 2]) ++ List.replicate (3 - (lg_sl ([.ref g0, .int 0, .int 2])).length) Slot.unset).toArray = ls at hl ⊢
  have hl : lv_has ls 3 [(0, .ref g0), (1, .int 0), (2, .int 2)] := hl
  refine lv_iload_n hx hb dX9_isAbove_0 rfl (lv_at hl 1 rfl) ?_
  refine lv_if_lt (tgt := 46) hx hb dX9_isAbove_1 (by decide) (fun c1 => absurd c1 (by decide)) (fun c1 => ?_)
  refine lv_iload_n hx hb dX9_isAbove_4 rfl (lv_at hl 1 rfl) ?_
  refine lv_aload_n hx hb dX9_isAbove_5 rfl (lv_at hl 0 rfl) ?_
  refine va_get (D := G.1) (ci := 6) (v := .int 7) (C := RX9) (T := TX9) (N := 5) hx hb hq pin_wsX90 hown hE.1.1 hP 0 rfl rfl 2 (by decide) (hq _ pw_137) (fun _ h9 => h9) rfl dX9_isAbove_6 ?_
  refine lv_icmp_ge (tgt := 46) hx hb dX9_isAbove_9 (by decide) (fun c2 => absurd c2 (by decide)) (fun c2 => ?_)
  refine lv_iload_n hx hb dX9_isAbove_12 rfl (lv_at hl 2 rfl) ?_
  refine lv_if_lt (tgt := 46) hx hb dX9_isAbove_13 (by decide) (fun c3 => absurd c3 (by decide)) (fun c3 => ?_)
  refine lv_iload_n hx hb dX9_isAbove_16 rfl (lv_at hl 2 rfl) ?_
  refine lv_aload_n hx hb dX9_isAbove_17 rfl (lv_at hl 0 rfl) ?_
  refine va_get (D := G.1) (ci := 6) (v := .int 7) (C := RX9) (T := TX9) (N := 5) hx hb hq pin_wsX90 hown hE.1.1 hP 0 rfl rfl 2 (by decide) (hq _ pw_137) (fun _ h9 => h9) rfl dX9_isAbove_18 ?_
  refine lv_icmp_ge (tgt := 46) hx hb dX9_isAbove_21 (by decide) (fun c4 => absurd c4 (by decide)) (fun c4 => ?_)
  refine lv_aload_n hx hb dX9_isAbove_24 rfl (lv_at hl 0 rfl) ?_
  refine va_get (D := G.1) (ci := 6) (v := .ref g1) (C := RX9) (T := TX9) (N := 5) hx hb hq pin_wsX90 hown hE.1.1 hP 0 rfl rfl 1 (by decide) (hq _ pw_132) (fun _ h9 => h9) rfl dX9_isAbove_25 ?_
  refine lv_iload_n hx hb dX9_isAbove_28 rfl (lv_at hl 2 rfl) ?_
  refine va_aldq hx hb hE.1.1 hP 1 4 rfl rfl (by unfold vp_in; decide) dX9_isAbove_29 ?_
  refine W.eq (g2 := F0 m 30 ls [.ref (d 2)]) rfl ?_
  refine va_get (D := G.1) (ci := 2) (v := .long 1) (C := RX2) (T := TX2) (N := 13) hx hb hq pin_wsX20 hown hE.1.1 hP 2 rfl rfl 10 (by decide) (hq _ pw_153) (fun _ h9 => h9) rfl dX9_isAbove_30 ?_
  refine lv_iload_n hx hb dX9_isAbove_33 rfl (lv_at hl 1 rfl) ?_
  refine lv_lushr (v := 1) hx hb dX9_isAbove_34 (by decide) ?_
  refine lv_lconst (v := 1) hx hb dX9_isAbove_35 (by decide) ?_
  refine lv_land hx hb dX9_isAbove_36 ?_
  refine lv_topl (fun x5 e6 => ?_)
  obtain rfl : x5 = 1 := e6.trans (by decide)
  refine lv_lconst (v := 1) hx hb dX9_isAbove_37 (by decide) ?_
  refine W.lcmp hx hb dX9_isAbove_38 ?_
  refine lv_topi (fun x7 e8 => ?_)
  obtain rfl : x7 = 0 := e8.trans (by decide)
  refine lv_if_ne (tgt := 46) hx hb dX9_isAbove_39 (by decide) (fun c9 => absurd c9 (by decide)) (fun c9 => ?_)
  refine lv_iconst (v := 1) hx hb dX9_isAbove_42 (by decide) ?_
  refine lv_goto (tgt := 47) hx hb dX9_isAbove_43 (by decide) ?_
  refine W.widen (k := 0) (n := 0) (Nat.le_of_ble_eq_true rfl) (Nat.le_of_ble_eq_true rfl) ?_
  exact W.zret (v := 1) hx hb hr rfl (fun t ht hW => ⟨⟨_, ((fun _ => 0), (fun _ => fun _ => 0), (fun _ => fun _ => 0)), rfl, rfl, by rw [ht]; exact hP.sub [0, 1, 2] rfl, hD.sub [0, 1, 2] (by decide) rfl⟩, hS.F ht⟩) hS.2.2 dX9_isAbove_47
set_option maxHeartbeats 1000000 in
set_option maxRecDepth 100000 in
/-- isAbove(0, 3) -/
theorem c_isAbove_0_3 (l : Launch) (G : pT) (g0 : Nat) (g1 : Nat) (g2 : Nat) (d : Nat → Nat) (z : Nat → Nat) (k2 : Nat) : PM l G pX0 yX9_isAbove cX9_isAbove 3 (some .boolean) ({ frames := 2, cells := 0, slots := 0, locals := 60 }) [.ref g0, .int 0, .int 3] [(g0, .inr (6, [.ref k2, .ref g1, .int 7, .ref g2, .int 2147483647])), (g1, .inl (G.2.1 4, 37, .inr (.inr (.inr (.inr (dcl d)))))), ((d 3), .inr (2, [.int 3, .int 32, .int (-1), .int 0, .int (-1), .int 0, .int 0, .ref (z 12), .ref (z 13), .ref (d 0), .long 1, .ref (z 14), .ref (z 15)]))] (fun (v : Option Value) (u : (Nat → Nat) × (Nat → Nat → Int32) × (Nat → Nat → Int64)) => v = some (.int 1)) (fun u => [(g0, .inr (6, [.ref k2, .ref g1, .int 7, .ref g2, .int 2147483647])), (g1, .inl (G.2.1 4, 37, .inr (.inr (.inr (.inr (dcl d)))))), ((d 3), .inr (2, [.int 3, .int 32, .int (-1), .int 0, .int (-1), .int 0, .int 0, .ref (z 12), .ref (z 13), .ref (d 0), .long 1, .ref (z 14), .ref (z 15)]))]) := by
  intro sz
  refine Met.ofW (cc := cX9_isAbove) (maxL := 3) (ret := (some .boolean)) (by decide) rfl ?_
  intro p e s m args below meth c s₁ B hml hv
  obtain ⟨rfl, hsz, hP, hD0, hE, hX⟩ := hv
  have hx := B.exec
  have hb := B.bytes
  have hr := B.returns
  have hts := atoms_spec (ws := Cond.code yX9_isAbove cX9_isAbove 3 (some .boolean) :: pw) B.pre
  have hq : ∀ w ∈ pw, w.before _ s = true := fun w h => hts w (List.mem_cons_of_mem _ h)
  have hown : s.vm.findClass RX9 = some m.cls := findClass_of_methodNamed B.named
  have hlocks := B.notSynchronized
  subst hsz
  have hD := hD0.self (sz := s.heap.size)
  have hA : ∀ q : Nat, s.heap.size ≤ q → va_A [(g0, .inr (6, [.ref k2, .ref g1, .int 7, .ref g2, .int 2147483647])), (g1, .inl (G.2.1 4, 37, .inr (.inr (.inr (.inr (dcl d)))))), ((d 3), .inr (2, [.int 3, .int 32, .int (-1), .int 0, .int (-1), .int 0, .int 0, .ref (z 12), .ref (z 13), .ref (d 0), .long 1, .ref (z 14), .ref (z 15)]))] s.heap.size q := fun q h => Or.inr h
  have hP : va_P G.1 pCl [(g0, .inr (6, [.ref k2, .ref g1, .int 7, .ref g2, .int 2147483647])), (g1, .inl (G.2.1 4, 37, .inr (.inr (.inr (.inr (dcl d)))))), ((d 3), .inr (2, [.int 3, .int 32, .int (-1), .int 0, .int (-1), .int 0, .int 0, .ref (z 12), .ref (z 13), .ref (d 0), .long 1, .ref (z 14), .ref (z 15)]))] s.heap := hP
  generalize va_A [(g0, .inr (6, [.ref k2, .ref g1, .int 7, .ref g2, .int 2147483647])), (g1, .inl (G.2.1 4, 37, .inr (.inr (.inr (.inr (dcl d)))))), ((d 3), .inr (2, [.int 3, .int 32, .int (-1), .int 0, .int (-1), .int 0, .int 0, .ref (z 12), .ref (z 13), .ref (d 0), .long 1, .ref (z 14), .ref (z 15)]))] s.heap.size = A at hD hE hA ⊢
  have hS : va_S A s.heap s.heap [] := va_S.rf
  have hl := lv_entry ([.ref g0, .int 0, .int 3]) (n := 3) (Nat.le_of_ble_eq_true rfl)
  rw [lg_entry_eq]
  generalize (lg_sl ([.ref g0, .int 0, .int 3]) ++ List.replicate (3 - (lg_sl ([.ref g0, .int 0, .int 3])).length) Slot.unset).toArray = ls at hl ⊢
  have hl : lv_has ls 3 [(0, .ref g0), (1, .int 0), (2, .int 3)] := hl
  refine lv_iload_n hx hb dX9_isAbove_0 rfl (lv_at hl 1 rfl) ?_
  refine lv_if_lt (tgt := 46) hx hb dX9_isAbove_1 (by decide) (fun c1 => absurd c1 (by decide)) (fun c1 => ?_)
  refine lv_iload_n hx hb dX9_isAbove_4 rfl (lv_at hl 1 rfl) ?_
  refine lv_aload_n hx hb dX9_isAbove_5 rfl (lv_at hl 0 rfl) ?_
  refine va_get (D := G.1) (ci := 6) (v := .int 7) (C := RX9) (T := TX9) (N := 5) hx hb hq pin_wsX90 hown hE.1.1 hP 0 rfl rfl 2 (by decide) (hq _ pw_137) (fun _ h9 => h9) rfl dX9_isAbove_6 ?_
  refine lv_icmp_ge (tgt := 46) hx hb dX9_isAbove_9 (by decide) (fun c2 => absurd c2 (by decide)) (fun c2 => ?_)
  refine lv_iload_n hx hb dX9_isAbove_12 rfl (lv_at hl 2 rfl) ?_
  refine lv_if_lt (tgt := 46) hx hb dX9_isAbove_13 (by decide) (fun c3 => absurd c3 (by decide)) (fun c3 => ?_)
  refine lv_iload_n hx hb dX9_isAbove_16 rfl (lv_at hl 2 rfl) ?_
  refine lv_aload_n hx hb dX9_isAbove_17 rfl (lv_at hl 0 rfl) ?_
  refine va_get (D := G.1) (ci := 6) (v := .int 7) (C := RX9) (T := TX9) (N := 5) hx hb hq pin_wsX90 hown hE.1.1 hP 0 rfl rfl 2 (by decide) (hq _ pw_137) (fun _ h9 => h9) rfl dX9_isAbove_18 ?_
  refine lv_icmp_ge (tgt := 46) hx hb dX9_isAbove_21 (by decide) (fun c4 => absurd c4 (by decide)) (fun c4 => ?_)
  refine lv_aload_n hx hb dX9_isAbove_24 rfl (lv_at hl 0 rfl) ?_
  refine va_get (D := G.1) (ci := 6) (v := .ref g1) (C := RX9) (T := TX9) (N := 5) hx hb hq pin_wsX90 hown hE.1.1 hP 0 rfl rfl 1 (by decide) (hq _ pw_132) (fun _ h9 => h9) rfl dX9_isAbove_25 ?_
  refine lv_iload_n hx hb dX9_isAbove_28 rfl (lv_at hl 2 rfl) ?_
  refine va_aldq hx hb hE.1.1 hP 1 4 rfl rfl (by unfold vp_in; decide) dX9_isAbove_29 ?_
  refine W.eq (g2 := F0 m 30 ls [.ref (d 3)]) rfl ?_
  refine va_get (D := G.1) (ci := 2) (v := .long 1) (C := RX2) (T := TX2) (N := 13) hx hb hq pin_wsX20 hown hE.1.1 hP 2 rfl rfl 10 (by decide) (hq _ pw_153) (fun _ h9 => h9) rfl dX9_isAbove_30 ?_
  refine lv_iload_n hx hb dX9_isAbove_33 rfl (lv_at hl 1 rfl) ?_
  refine lv_lushr (v := 1) hx hb dX9_isAbove_34 (by decide) ?_
  refine lv_lconst (v := 1) hx hb dX9_isAbove_35 (by decide) ?_
  refine lv_land hx hb dX9_isAbove_36 ?_
  refine lv_topl (fun x5 e6 => ?_)
  obtain rfl : x5 = 1 := e6.trans (by decide)
  refine lv_lconst (v := 1) hx hb dX9_isAbove_37 (by decide) ?_
  refine W.lcmp hx hb dX9_isAbove_38 ?_
  refine lv_topi (fun x7 e8 => ?_)
  obtain rfl : x7 = 0 := e8.trans (by decide)
  refine lv_if_ne (tgt := 46) hx hb dX9_isAbove_39 (by decide) (fun c9 => absurd c9 (by decide)) (fun c9 => ?_)
  refine lv_iconst (v := 1) hx hb dX9_isAbove_42 (by decide) ?_
  refine lv_goto (tgt := 47) hx hb dX9_isAbove_43 (by decide) ?_
  refine W.widen (k := 0) (n := 0) (Nat.le_of_ble_eq_true rfl) (Nat.le_of_ble_eq_true rfl) ?_
  exact W.zret (v := 1) hx hb hr rfl (fun t ht hW => ⟨⟨_, ((fun _ => 0), (fun _ => fun _ => 0), (fun _ => fun _ => 0)), rfl, rfl, by rw [ht]; exact hP.sub [0, 1, 2] rfl, hD.sub [0, 1, 2] (by decide) rfl⟩, hS.F ht⟩) hS.2.2 dX9_isAbove_47
set_option maxHeartbeats 1000000 in
set_option maxRecDepth 100000 in
/-- isAbove(0, 4) -/
theorem c_isAbove_0_4 (l : Launch) (G : pT) (g0 : Nat) (g1 : Nat) (g2 : Nat) (d : Nat → Nat) (z : Nat → Nat) (k2 : Nat) : PM l G pX0 yX9_isAbove cX9_isAbove 3 (some .boolean) ({ frames := 2, cells := 0, slots := 0, locals := 60 }) [.ref g0, .int 0, .int 4] [(g0, .inr (6, [.ref k2, .ref g1, .int 7, .ref g2, .int 2147483647])), (g1, .inl (G.2.1 4, 37, .inr (.inr (.inr (.inr (dcl d)))))), ((d 4), .inr (2, [.int 4, .int 33, .int (-1), .int 0, .int (-1), .int 0, .int 0, .ref (z 16), .ref (z 17), .ref (d 0), .long 1, .ref (z 18), .ref (z 19)]))] (fun (v : Option Value) (u : (Nat → Nat) × (Nat → Nat → Int32) × (Nat → Nat → Int64)) => v = some (.int 1)) (fun u => [(g0, .inr (6, [.ref k2, .ref g1, .int 7, .ref g2, .int 2147483647])), (g1, .inl (G.2.1 4, 37, .inr (.inr (.inr (.inr (dcl d)))))), ((d 4), .inr (2, [.int 4, .int 33, .int (-1), .int 0, .int (-1), .int 0, .int 0, .ref (z 16), .ref (z 17), .ref (d 0), .long 1, .ref (z 18), .ref (z 19)]))]) := by
  intro sz
  refine Met.ofW (cc := cX9_isAbove) (maxL := 3) (ret := (some .boolean)) (by decide) rfl ?_
  intro p e s m args below meth c s₁ B hml hv
  obtain ⟨rfl, hsz, hP, hD0, hE, hX⟩ := hv
  have hx := B.exec
  have hb := B.bytes
  have hr := B.returns
  have hts := atoms_spec (ws := Cond.code yX9_isAbove cX9_isAbove 3 (some .boolean) :: pw) B.pre
  have hq : ∀ w ∈ pw, w.before _ s = true := fun w h => hts w (List.mem_cons_of_mem _ h)
  have hown : s.vm.findClass RX9 = some m.cls := findClass_of_methodNamed B.named
  have hlocks := B.notSynchronized
  subst hsz
  have hD := hD0.self (sz := s.heap.size)
  have hA : ∀ q : Nat, s.heap.size ≤ q → va_A [(g0, .inr (6, [.ref k2, .ref g1, .int 7, .ref g2, .int 2147483647])), (g1, .inl (G.2.1 4, 37, .inr (.inr (.inr (.inr (dcl d)))))), ((d 4), .inr (2, [.int 4, .int 33, .int (-1), .int 0, .int (-1), .int 0, .int 0, .ref (z 16), .ref (z 17), .ref (d 0), .long 1, .ref (z 18), .ref (z 19)]))] s.heap.size q := fun q h => Or.inr h
  have hP : va_P G.1 pCl [(g0, .inr (6, [.ref k2, .ref g1, .int 7, .ref g2, .int 2147483647])), (g1, .inl (G.2.1 4, 37, .inr (.inr (.inr (.inr (dcl d)))))), ((d 4), .inr (2, [.int 4, .int 33, .int (-1), .int 0, .int (-1), .int 0, .int 0, .ref (z 16), .ref (z 17), .ref (d 0), .long 1, .ref (z 18), .ref (z 19)]))] s.heap := hP
  generalize va_A [(g0, .inr (6, [.ref k2, .ref g1, .int 7, .ref g2, .int 2147483647])), (g1, .inl (G.2.1 4, 37, .inr (.inr (.inr (.inr (dcl d)))))), ((d 4), .inr (2, [.int 4, .int 33, .int (-1), .int 0, .int (-1), .int 0, .int 0, .ref (z 16), .ref (z 17), .ref (d 0), .long 1, .ref (z 18), .ref (z 19)]))] s.heap.size = A at hD hE hA ⊢
  have hS : va_S A s.heap s.heap [] := va_S.rf
  have hl := lv_entry ([.ref g0, .int 0, .int 4]) (n := 3) (Nat.le_of_ble_eq_true rfl)
  rw [lg_entry_eq]
  generalize (lg_sl ([.ref g0, .int 0, .int 4]) ++ List.replicate (3 - (lg_sl ([.ref g0, .int 0, .int 4])).length) Slot.unset).toArray = ls at hl ⊢
  have hl : lv_has ls 3 [(0, .ref g0), (1, .int 0), (2, .int 4)] := hl
  refine lv_iload_n hx hb dX9_isAbove_0 rfl (lv_at hl 1 rfl) ?_
  refine lv_if_lt (tgt := 46) hx hb dX9_isAbove_1 (by decide) (fun c1 => absurd c1 (by decide)) (fun c1 => ?_)
  refine lv_iload_n hx hb dX9_isAbove_4 rfl (lv_at hl 1 rfl) ?_
  refine lv_aload_n hx hb dX9_isAbove_5 rfl (lv_at hl 0 rfl) ?_
  refine va_get (D := G.1) (ci := 6) (v := .int 7) (C := RX9) (T := TX9) (N := 5) hx hb hq pin_wsX90 hown hE.1.1 hP 0 rfl rfl 2 (by decide) (hq _ pw_137) (fun _ h9 => h9) rfl dX9_isAbove_6 ?_
  refine lv_icmp_ge (tgt := 46) hx hb dX9_isAbove_9 (by decide) (fun c2 => absurd c2 (by decide)) (fun c2 => ?_)
  refine lv_iload_n hx hb dX9_isAbove_12 rfl (lv_at hl 2 rfl) ?_
  refine lv_if_lt (tgt := 46) hx hb dX9_isAbove_13 (by decide) (fun c3 => absurd c3 (by decide)) (fun c3 => ?_)
  refine lv_iload_n hx hb dX9_isAbove_16 rfl (lv_at hl 2 rfl) ?_
  refine lv_aload_n hx hb dX9_isAbove_17 rfl (lv_at hl 0 rfl) ?_
  refine va_get (D := G.1) (ci := 6) (v := .int 7) (C := RX9) (T := TX9) (N := 5) hx hb hq pin_wsX90 hown hE.1.1 hP 0 rfl rfl 2 (by decide) (hq _ pw_137) (fun _ h9 => h9) rfl dX9_isAbove_18 ?_
  refine lv_icmp_ge (tgt := 46) hx hb dX9_isAbove_21 (by decide) (fun c4 => absurd c4 (by decide)) (fun c4 => ?_)
  refine lv_aload_n hx hb dX9_isAbove_24 rfl (lv_at hl 0 rfl) ?_
  refine va_get (D := G.1) (ci := 6) (v := .ref g1) (C := RX9) (T := TX9) (N := 5) hx hb hq pin_wsX90 hown hE.1.1 hP 0 rfl rfl 1 (by decide) (hq _ pw_132) (fun _ h9 => h9) rfl dX9_isAbove_25 ?_
  refine lv_iload_n hx hb dX9_isAbove_28 rfl (lv_at hl 2 rfl) ?_
  refine va_aldq hx hb hE.1.1 hP 1 4 rfl rfl (by unfold vp_in; decide) dX9_isAbove_29 ?_
  refine W.eq (g2 := F0 m 30 ls [.ref (d 4)]) rfl ?_
  refine va_get (D := G.1) (ci := 2) (v := .long 1) (C := RX2) (T := TX2) (N := 13) hx hb hq pin_wsX20 hown hE.1.1 hP 2 rfl rfl 10 (by decide) (hq _ pw_153) (fun _ h9 => h9) rfl dX9_isAbove_30 ?_
  refine lv_iload_n hx hb dX9_isAbove_33 rfl (lv_at hl 1 rfl) ?_
  refine lv_lushr (v := 1) hx hb dX9_isAbove_34 (by decide) ?_
  refine lv_lconst (v := 1) hx hb dX9_isAbove_35 (by decide) ?_
  refine lv_land hx hb dX9_isAbove_36 ?_
  refine lv_topl (fun x5 e6 => ?_)
  obtain rfl : x5 = 1 := e6.trans (by decide)
  refine lv_lconst (v := 1) hx hb dX9_isAbove_37 (by decide) ?_
  refine W.lcmp hx hb dX9_isAbove_38 ?_
  refine lv_topi (fun x7 e8 => ?_)
  obtain rfl : x7 = 0 := e8.trans (by decide)
  refine lv_if_ne (tgt := 46) hx hb dX9_isAbove_39 (by decide) (fun c9 => absurd c9 (by decide)) (fun c9 => ?_)
  refine lv_iconst (v := 1) hx hb dX9_isAbove_42 (by decide) ?_
  refine lv_goto (tgt := 47) hx hb dX9_isAbove_43 (by decide) ?_
  refine W.widen (k := 0) (n := 0) (Nat.le_of_ble_eq_true rfl) (Nat.le_of_ble_eq_true rfl) ?_
  exact W.zret (v := 1) hx hb hr rfl (fun t ht hW => ⟨⟨_, ((fun _ => 0), (fun _ => fun _ => 0), (fun _ => fun _ => 0)), rfl, rfl, by rw [ht]; exact hP.sub [0, 1, 2] rfl, hD.sub [0, 1, 2] (by decide) rfl⟩, hS.F ht⟩) hS.2.2 dX9_isAbove_47
set_option maxHeartbeats 1000000 in
set_option maxRecDepth 100000 in
/-- isAbove(0, 5) -/
theorem c_isAbove_0_5 (l : Launch) (G : pT) (g0 : Nat) (g1 : Nat) (g2 : Nat) (d : Nat → Nat) (z : Nat → Nat) (k2 : Nat) : PM l G pX0 yX9_isAbove cX9_isAbove 3 (some .boolean) ({ frames := 2, cells := 0, slots := 0, locals := 60 }) [.ref g0, .int 0, .int 5] [(g0, .inr (6, [.ref k2, .ref g1, .int 7, .ref g2, .int 2147483647])), (g1, .inl (G.2.1 4, 37, .inr (.inr (.inr (.inr (dcl d)))))), ((d 5), .inr (2, [.int 5, .int 34, .int (-1), .int 0, .int (-1), .int 0, .int 0, .ref (z 20), .ref (z 21), .ref (d 0), .long 1, .ref (z 22), .ref (z 23)]))] (fun (v : Option Value) (u : (Nat → Nat) × (Nat → Nat → Int32) × (Nat → Nat → Int64)) => v = some (.int 1)) (fun u => [(g0, .inr (6, [.ref k2, .ref g1, .int 7, .ref g2, .int 2147483647])), (g1, .inl (G.2.1 4, 37, .inr (.inr (.inr (.inr (dcl d)))))), ((d 5), .inr (2, [.int 5, .int 34, .int (-1), .int 0, .int (-1), .int 0, .int 0, .ref (z 20), .ref (z 21), .ref (d 0), .long 1, .ref (z 22), .ref (z 23)]))]) := by
  intro sz
  refine Met.ofW (cc := cX9_isAbove) (maxL := 3) (ret := (some .boolean)) (by decide) rfl ?_
  intro p e s m args below meth c s₁ B hml hv
  obtain ⟨rfl, hsz, hP, hD0, hE, hX⟩ := hv
  have hx := B.exec
  have hb := B.bytes
  have hr := B.returns
  have hts := atoms_spec (ws := Cond.code yX9_isAbove cX9_isAbove 3 (some .boolean) :: pw) B.pre
  have hq : ∀ w ∈ pw, w.before _ s = true := fun w h => hts w (List.mem_cons_of_mem _ h)
  have hown : s.vm.findClass RX9 = some m.cls := findClass_of_methodNamed B.named
  have hlocks := B.notSynchronized
  subst hsz
  have hD := hD0.self (sz := s.heap.size)
  have hA : ∀ q : Nat, s.heap.size ≤ q → va_A [(g0, .inr (6, [.ref k2, .ref g1, .int 7, .ref g2, .int 2147483647])), (g1, .inl (G.2.1 4, 37, .inr (.inr (.inr (.inr (dcl d)))))), ((d 5), .inr (2, [.int 5, .int 34, .int (-1), .int 0, .int (-1), .int 0, .int 0, .ref (z 20), .ref (z 21), .ref (d 0), .long 1, .ref (z 22), .ref (z 23)]))] s.heap.size q := fun q h => Or.inr h
  have hP : va_P G.1 pCl [(g0, .inr (6, [.ref k2, .ref g1, .int 7, .ref g2, .int 2147483647])), (g1, .inl (G.2.1 4, 37, .inr (.inr (.inr (.inr (dcl d)))))), ((d 5), .inr (2, [.int 5, .int 34, .int (-1), .int 0, .int (-1), .int 0, .int 0, .ref (z 20), .ref (z 21), .ref (d 0), .long 1, .ref (z 22), .ref (z 23)]))] s.heap := hP
  generalize va_A [(g0, .inr (6, [.ref k2, .ref g1, .int 7, .ref g2, .int 2147483647])), (g1, .inl (G.2.1 4, 37, .inr (.inr (.inr (.inr (dcl d)))))), ((d 5), .inr (2, [.int 5, .int 34, .int (-1), .int 0, .int (-1), .int 0, .int 0, .ref (z 20), .ref (z 21), .ref (d 0), .long 1, .ref (z 22), .ref (z 23)]))] s.heap.size = A at hD hE hA ⊢
  have hS : va_S A s.heap s.heap [] := va_S.rf
  have hl := lv_entry ([.ref g0, .int 0, .int 5]) (n := 3) (Nat.le_of_ble_eq_true rfl)
  rw [lg_entry_eq]
  generalize (lg_sl ([.ref g0, .int 0, .int 5]) ++ List.replicate (3 - (lg_sl ([.ref g0, .int 0, .int 5])).length) Slot.unset).toArray = ls at hl ⊢
  have hl : lv_has ls 3 [(0, .ref g0), (1, .int 0), (2, .int 5)] := hl
  refine lv_iload_n hx hb dX9_isAbove_0 rfl (lv_at hl 1 rfl) ?_
  refine lv_if_lt (tgt := 46) hx hb dX9_isAbove_1 (by decide) (fun c1 => absurd c1 (by decide)) (fun c1 => ?_)
  refine lv_iload_n hx hb dX9_isAbove_4 rfl (lv_at hl 1 rfl) ?_
  refine lv_aload_n hx hb dX9_isAbove_5 rfl (lv_at hl 0 rfl) ?_
  refine va_get (D := G.1) (ci := 6) (v := .int 7) (C := RX9) (T := TX9) (N := 5) hx hb hq pin_wsX90 hown hE.1.1 hP 0 rfl rfl 2 (by decide) (hq _ pw_137) (fun _ h9 => h9) rfl dX9_isAbove_6 ?_
  refine lv_icmp_ge (tgt := 46) hx hb dX9_isAbove_9 (by decide) (fun c2 => absurd c2 (by decide)) (fun c2 => ?_)
  refine lv_iload_n hx hb dX9_isAbove_12 rfl (lv_at hl 2 rfl) ?_
  refine lv_if_lt (tgt := 46) hx hb dX9_isAbove_13 (by decide) (fun c3 => absurd c3 (by decide)) (fun c3 => ?_)
  refine lv_iload_n hx hb dX9_isAbove_16 rfl (lv_at hl 2 rfl) ?_
  refine lv_aload_n hx hb dX9_isAbove_17 rfl (lv_at hl 0 rfl) ?_
  refine va_get (D := G.1) (ci := 6) (v := .int 7) (C := RX9) (T := TX9) (N := 5) hx hb hq pin_wsX90 hown hE.1.1 hP 0 rfl rfl 2 (by decide) (hq _ pw_137) (fun _ h9 => h9) rfl dX9_isAbove_18 ?_
  refine lv_icmp_ge (tgt := 46) hx hb dX9_isAbove_21 (by decide) (fun c4 => absurd c4 (by decide)) (fun c4 => ?_)
  refine lv_aload_n hx hb dX9_isAbove_24 rfl (lv_at hl 0 rfl) ?_
  refine va_get (D := G.1) (ci := 6) (v := .ref g1) (C := RX9) (T := TX9) (N := 5) hx hb hq pin_wsX90 hown hE.1.1 hP 0 rfl rfl 1 (by decide) (hq _ pw_132) (fun _ h9 => h9) rfl dX9_isAbove_25 ?_
  refine lv_iload_n hx hb dX9_isAbove_28 rfl (lv_at hl 2 rfl) ?_
  refine va_aldq hx hb hE.1.1 hP 1 4 rfl rfl (by unfold vp_in; decide) dX9_isAbove_29 ?_
  refine W.eq (g2 := F0 m 30 ls [.ref (d 5)]) rfl ?_
  refine va_get (D := G.1) (ci := 2) (v := .long 1) (C := RX2) (T := TX2) (N := 13) hx hb hq pin_wsX20 hown hE.1.1 hP 2 rfl rfl 10 (by decide) (hq _ pw_153) (fun _ h9 => h9) rfl dX9_isAbove_30 ?_
  refine lv_iload_n hx hb dX9_isAbove_33 rfl (lv_at hl 1 rfl) ?_
  refine lv_lushr (v := 1) hx hb dX9_isAbove_34 (by decide) ?_
  refine lv_lconst (v := 1) hx hb dX9_isAbove_35 (by decide) ?_
  refine lv_land hx hb dX9_isAbove_36 ?_
  refine lv_topl (fun x5 e6 => ?_)
  obtain rfl : x5 = 1 := e6.trans (by decide)
  refine lv_lconst (v := 1) hx hb dX9_isAbove_37 (by decide) ?_
  refine W.lcmp hx hb dX9_isAbove_38 ?_
  refine lv_topi (fun x7 e8 => ?_)
  obtain rfl : x7 = 0 := e8.trans (by decide)
  refine lv_if_ne (tgt := 46) hx hb dX9_isAbove_39 (by decide) (fun c9 => absurd c9 (by decide)) (fun c9 => ?_)
  refine lv_iconst (v := 1) hx hb dX9_isAbove_42 (by decide) ?_
  refine lv_goto (tgt := 47) hx hb dX9_isAbove_43 (by decide) ?_
  refine W.widen (k := 0) (n := 0) (Nat.le_of_ble_eq_true rfl) (Nat.le_of_ble_eq_true rfl) ?_
  exact W.zret (v := 1) hx hb hr rfl (fun t ht hW => ⟨⟨_, ((fun _ => 0), (fun _ => fun _ => 0), (fun _ => fun _ => 0)), rfl, rfl, by rw [ht]; exact hP.sub [0, 1, 2] rfl, hD.sub [0, 1, 2] (by decide) rfl⟩, hS.F ht⟩) hS.2.2 dX9_isAbove_47
set_option maxHeartbeats 1000000 in
set_option maxRecDepth 100000 in
/-- isAbove(0, 6) -/
theorem c_isAbove_0_6 (l : Launch) (G : pT) (g0 : Nat) (g1 : Nat) (g2 : Nat) (d : Nat → Nat) (z : Nat → Nat) (k2 : Nat) : PM l G pX0 yX9_isAbove cX9_isAbove 3 (some .boolean) ({ frames := 2, cells := 0, slots := 0, locals := 60 }) [.ref g0, .int 0, .int 6] [(g0, .inr (6, [.ref k2, .ref g1, .int 7, .ref g2, .int 2147483647])), (g1, .inl (G.2.1 4, 37, .inr (.inr (.inr (.inr (dcl d)))))), ((d 6), .inr (2, [.int 6, .int 35, .int (-1), .int 0, .int (-1), .int 0, .int 0, .ref (z 24), .ref (z 25), .ref (d 0), .long 1, .ref (z 26), .ref (z 27)]))] (fun (v : Option Value) (u : (Nat → Nat) × (Nat → Nat → Int32) × (Nat → Nat → Int64)) => v = some (.int 1)) (fun u => [(g0, .inr (6, [.ref k2, .ref g1, .int 7, .ref g2, .int 2147483647])), (g1, .inl (G.2.1 4, 37, .inr (.inr (.inr (.inr (dcl d)))))), ((d 6), .inr (2, [.int 6, .int 35, .int (-1), .int 0, .int (-1), .int 0, .int 0, .ref (z 24), .ref (z 25), .ref (d 0), .long 1, .ref (z 26), .ref (z 27)]))]) := by
  intro sz
  refine Met.ofW (cc := cX9_isAbove) (maxL := 3) (ret := (some .boolean)) (by decide) rfl ?_
  intro p e s m args below meth c s₁ B hml hv
  obtain ⟨rfl, hsz, hP, hD0, hE, hX⟩ := hv
  have hx := B.exec
  have hb := B.bytes
  have hr := B.returns
  have hts := atoms_spec (ws := Cond.code yX9_isAbove cX9_isAbove 3 (some .boolean) :: pw) B.pre
  have hq : ∀ w ∈ pw, w.before _ s = true := fun w h => hts w (List.mem_cons_of_mem _ h)
  have hown : s.vm.findClass RX9 = some m.cls := findClass_of_methodNamed B.named
  have hlocks := B.notSynchronized
  subst hsz
  have hD := hD0.self (sz := s.heap.size)
  have hA : ∀ q : Nat, s.heap.size ≤ q → va_A [(g0, .inr (6, [.ref k2, .ref g1, .int 7, .ref g2, .int 2147483647])), (g1, .inl (G.2.1 4, 37, .inr (.inr (.inr (.inr (dcl d)))))), ((d 6), .inr (2, [.int 6, .int 35, .int (-1), .int 0, .int (-1), .int 0, .int 0, .ref (z 24), .ref (z 25), .ref (d 0), .long 1, .ref (z 26), .ref (z 27)]))] s.heap.size q := fun q h => Or.inr h
  have hP : va_P G.1 pCl [(g0, .inr (6, [.ref k2, .ref g1, .int 7, .ref g2, .int 2147483647])), (g1, .inl (G.2.1 4, 37, .inr (.inr (.inr (.inr (dcl d)))))), ((d 6), .inr (2, [.int 6, .int 35, .int (-1), .int 0, .int (-1), .int 0, .int 0, .ref (z 24), .ref (z 25), .ref (d 0), .long 1, .ref (z 26), .ref (z 27)]))] s.heap := hP
  generalize va_A [(g0, .inr (6, [.ref k2, .ref g1, .int 7, .ref g2, .int 2147483647])), (g1, .inl (G.2.1 4, 37, .inr (.inr (.inr (.inr (dcl d)))))), ((d 6), .inr (2, [.int 6, .int 35, .int (-1), .int 0, .int (-1), .int 0, .int 0, .ref (z 24), .ref (z 25), .ref (d 0), .long 1, .ref (z 26), .ref (z 27)]))] s.heap.size = A at hD hE hA ⊢
  have hS : va_S A s.heap s.heap [] := va_S.rf
  have hl := lv_entry ([.ref g0, .int 0, .int 6]) (n := 3) (Nat.le_of_ble_eq_true rfl)
  rw [lg_entry_eq]
  generalize (lg_sl ([.ref g0, .int 0, .int 6]) ++ List.replicate (3 - (lg_sl ([.ref g0, .int 0, .int 6])).length) Slot.unset).toArray = ls at hl ⊢
  have hl : lv_has ls 3 [(0, .ref g0), (1, .int 0), (2, .int 6)] := hl
  refine lv_iload_n hx hb dX9_isAbove_0 rfl (lv_at hl 1 rfl) ?_
  refine lv_if_lt (tgt := 46) hx hb dX9_isAbove_1 (by decide) (fun c1 => absurd c1 (by decide)) (fun c1 => ?_)
  refine lv_iload_n hx hb dX9_isAbove_4 rfl (lv_at hl 1 rfl) ?_
  refine lv_aload_n hx hb dX9_isAbove_5 rfl (lv_at hl 0 rfl) ?_
  refine va_get (D := G.1) (ci := 6) (v := .int 7) (C := RX9) (T := TX9) (N := 5) hx hb hq pin_wsX90 hown hE.1.1 hP 0 rfl rfl 2 (by decide) (hq _ pw_137) (fun _ h9 => h9) rfl dX9_isAbove_6 ?_
  refine lv_icmp_ge (tgt := 46) hx hb dX9_isAbove_9 (by decide) (fun c2 => absurd c2 (by decide)) (fun c2 => ?_)
  refine lv_iload_n hx hb dX9_isAbove_12 rfl (lv_at hl 2 rfl) ?_
  refine lv_if_lt (tgt := 46) hx hb dX9_isAbove_13 (by decide) (fun c3 => absurd c3 (by decide)) (fun c3 => ?_)
  refine lv_iload_n hx hb dX9_isAbove_16 rfl (lv_at hl 2 rfl) ?_
  refine lv_aload_n hx hb dX9_isAbove_17 rfl (lv_at hl 0 rfl) ?_
  refine va_get (D := G.1) (ci := 6) (v := .int 7) (C := RX9) (T := TX9) (N := 5) hx hb hq pin_wsX90 hown hE.1.1 hP 0 rfl rfl 2 (by decide) (hq _ pw_137) (fun _ h9 => h9) rfl dX9_isAbove_18 ?_
  refine lv_icmp_ge (tgt := 46) hx hb dX9_isAbove_21 (by decide) (fun c4 => absurd c4 (by decide)) (fun c4 => ?_)
  refine lv_aload_n hx hb dX9_isAbove_24 rfl (lv_at hl 0 rfl) ?_
  refine va_get (D := G.1) (ci := 6) (v := .ref g1) (C := RX9) (T := TX9) (N := 5) hx hb hq pin_wsX90 hown hE.1.1 hP 0 rfl rfl 1 (by decide) (hq _ pw_132) (fun _ h9 => h9) rfl dX9_isAbove_25 ?_
  refine lv_iload_n hx hb dX9_isAbove_28 rfl (lv_at hl 2 rfl) ?_
  refine va_aldq hx hb hE.1.1 hP 1 4 rfl rfl (by unfold vp_in; decide) dX9_isAbove_29 ?_
  refine W.eq (g2 := F0 m 30 ls [.ref (d 6)]) rfl ?_
  refine va_get (D := G.1) (ci := 2) (v := .long 1) (C := RX2) (T := TX2) (N := 13) hx hb hq pin_wsX20 hown hE.1.1 hP 2 rfl rfl 10 (by decide) (hq _ pw_153) (fun _ h9 => h9) rfl dX9_isAbove_30 ?_
  refine lv_iload_n hx hb dX9_isAbove_33 rfl (lv_at hl 1 rfl) ?_
  refine lv_lushr (v := 1) hx hb dX9_isAbove_34 (by decide) ?_
  refine lv_lconst (v := 1) hx hb dX9_isAbove_35 (by decide) ?_
  refine lv_land hx hb dX9_isAbove_36 ?_
  refine lv_topl (fun x5 e6 => ?_)
  obtain rfl : x5 = 1 := e6.trans (by decide)
  refine lv_lconst (v := 1) hx hb dX9_isAbove_37 (by decide) ?_
  refine W.lcmp hx hb dX9_isAbove_38 ?_
  refine lv_topi (fun x7 e8 => ?_)
  obtain rfl : x7 = 0 := e8.trans (by decide)
  refine lv_if_ne (tgt := 46) hx hb dX9_isAbove_39 (by decide) (fun c9 => absurd c9 (by decide)) (fun c9 => ?_)
  refine lv_iconst (v := 1) hx hb dX9_isAbove_42 (by decide) ?_
  refine lv_goto (tgt := 47) hx hb dX9_isAbove_43 (by decide) ?_
  refine W.widen (k := 0) (n := 0) (Nat.le_of_ble_eq_true rfl) (Nat.le_of_ble_eq_true rfl) ?_
  exact W.zret (v := 1) hx hb hr rfl (fun t ht hW => ⟨⟨_, ((fun _ => 0), (fun _ => fun _ => 0), (fun _ => fun _ => 0)), rfl, rfl, by rw [ht]; exact hP.sub [0, 1, 2] rfl, hD.sub [0, 1, 2] (by decide) rfl⟩, hS.F ht⟩) hS.2.2 dX9_isAbove_47
set_option maxHeartbeats 1000000 in
set_option maxRecDepth 100000 in
/-- isAbove(1, 0) -/
theorem c_isAbove_1_0 (l : Launch) (G : pT) (g0 : Nat) (g1 : Nat) (g2 : Nat) (d : Nat → Nat) (z : Nat → Nat) (k2 : Nat) : PM l G pX0 yX9_isAbove cX9_isAbove 3 (some .boolean) ({ frames := 2, cells := 0, slots := 0, locals := 60 }) [.ref g0, .int 1, .int 0] [(g0, .inr (6, [.ref k2, .ref g1, .int 7, .ref g2, .int 2147483647])), (g1, .inl (G.2.1 4, 37, .inr (.inr (.inr (.inr (dcl d)))))), ((d 0), .inr (2, [.int 0, .int 29, .int (-1), .int 0, .int (-1), .int 0, .int 0, .ref (z 0), .ref (z 1), .null, .long 0, .ref (z 2), .ref (z 3)]))] (fun (v : Option Value) (u : (Nat → Nat) × (Nat → Nat → Int32) × (Nat → Nat → Int64)) => v = some (.int 0)) (fun u => [(g0, .inr (6, [.ref k2, .ref g1, .int 7, .ref g2, .int 2147483647])), (g1, .inl (G.2.1 4, 37, .inr (.inr (.inr (.inr (dcl d)))))), ((d 0), .inr (2, [.int 0, .int 29, .int (-1), .int 0, .int (-1), .int 0, .int 0, .ref (z 0), .ref (z 1), .null, .long 0, .ref (z 2), .ref (z 3)]))]) := by
  intro sz
  refine Met.ofW (cc := cX9_isAbove) (maxL := 3) (ret := (some .boolean)) (by decide) rfl ?_
  intro p e s m args below meth c s₁ B hml hv
  obtain ⟨rfl, hsz, hP, hD0, hE, hX⟩ := hv
  have hx := B.exec
  have hb := B.bytes
  have hr := B.returns
  have hts := atoms_spec (ws := Cond.code yX9_isAbove cX9_isAbove 3 (some .boolean) :: pw) B.pre
  have hq : ∀ w ∈ pw, w.before _ s = true := fun w h => hts w (List.mem_cons_of_mem _ h)
  have hown : s.vm.findClass RX9 = some m.cls := findClass_of_methodNamed B.named
  have hlocks := B.notSynchronized
  subst hsz
  have hD := hD0.self (sz := s.heap.size)
  have hA : ∀ q : Nat, s.heap.size ≤ q → va_A [(g0, .inr (6, [.ref k2, .ref g1, .int 7, .ref g2, .int 2147483647])), (g1, .inl (G.2.1 4, 37, .inr (.inr (.inr (.inr (dcl d)))))), ((d 0), .inr (2, [.int 0, .int 29, .int (-1), .int 0, .int (-1), .int 0, .int 0, .ref (z 0), .ref (z 1), .null, .long 0, .ref (z 2), .ref (z 3)]))] s.heap.size q := fun q h => Or.inr h
  have hP : va_P G.1 pCl [(g0, .inr (6, [.ref k2, .ref g1, .int 7, .ref g2, .int 2147483647])), (g1, .inl (G.2.1 4, 37, .inr (.inr (.inr (.inr (dcl d)))))), ((d 0), .inr (2, [.int 0, .int 29, .int (-1), .int 0, .int (-1), .int 0, .int 0, .ref (z 0), .ref (z 1), .null, .long 0, .ref (z 2), .ref (z 3)]))] s.heap := hP
  generalize va_A [(g0, .inr (6, [.ref k2, .ref g1, .int 7, .ref g2, .int 2147483647])), (g1, .inl (G.2.1 4, 37, .inr (.inr (.inr (.inr (dcl d)))))), ((d 0), .inr (2, [.int 0, .int 29, .int (-1), .int 0, .int (-1), .int 0, .int 0, .ref (z 0), .ref (z 1), .null, .long 0, .ref (z 2), .ref (z 3)]))] s.heap.size = A at hD hE hA ⊢
  have hS : va_S A s.heap s.heap [] := va_S.rf
  have hl := lv_entry ([.ref g0, .int 1, .int 0]) (n := 3) (Nat.le_of_ble_eq_true rfl)
  rw [lg_entry_eq]
  generalize (lg_sl ([.ref g0, .int 1, .int 0]) ++ List.replicate (3 - (lg_sl ([.ref g0, .int 1, .int 0])).length) Slot.unset).toArray = ls at hl ⊢
  have hl : lv_has ls 3 [(0, .ref g0), (1, .int 1), (2, .int 0)] := hl
  refine lv_iload_n hx hb dX9_isAbove_0 rfl (lv_at hl 1 rfl) ?_
  refine lv_if_lt (tgt := 46) hx hb dX9_isAbove_1 (by decide) (fun c1 => absurd c1 (by decide)) (fun c1 => ?_)
  refine lv_iload_n hx hb dX9_isAbove_4 rfl (lv_at hl 1 rfl) ?_
  refine lv_aload_n hx hb dX9_isAbove_5 rfl (lv_at hl 0 rfl) ?_
  refine va_get (D := G.1) (ci := 6) (v := .int 7) (C := RX9) (T := TX9) (N := 5) hx hb hq pin_wsX90 hown hE.1.1 hP 0 rfl rfl 2 (by decide) (hq _ pw_137) (fun _ h9 => h9) rfl dX9_isAbove_6 ?_
  refine lv_icmp_ge (tgt := 46) hx hb dX9_isAbove_9 (by decide) (fun c2 => absurd c2 (by decide)) (fun c2 => ?_)
  refine lv_iload_n hx hb dX9_isAbove_12 rfl (lv_at hl 2 rfl) ?_
  refine lv_if_lt (tgt := 46) hx hb dX9_isAbove_13 (by decide) (fun c3 => absurd c3 (by decide)) (fun c3 => ?_)
  refine lv_iload_n hx hb dX9_isAbove_16 rfl (lv_at hl 2 rfl) ?_
  refine lv_aload_n hx hb dX9_isAbove_17 rfl (lv_at hl 0 rfl) ?_
  refine va_get (D := G.1) (ci := 6) (v := .int 7) (C := RX9) (T := TX9) (N := 5) hx hb hq pin_wsX90 hown hE.1.1 hP 0 rfl rfl 2 (by decide) (hq _ pw_137) (fun _ h9 => h9) rfl dX9_isAbove_18 ?_
  refine lv_icmp_ge (tgt := 46) hx hb dX9_isAbove_21 (by decide) (fun c4 => absurd c4 (by decide)) (fun c4 => ?_)
  refine lv_aload_n hx hb dX9_isAbove_24 rfl (lv_at hl 0 rfl) ?_
  refine va_get (D := G.1) (ci := 6) (v := .ref g1) (C := RX9) (T := TX9) (N := 5) hx hb hq pin_wsX90 hown hE.1.1 hP 0 rfl rfl 1 (by decide) (hq _ pw_132) (fun _ h9 => h9) rfl dX9_isAbove_25 ?_
  refine lv_iload_n hx hb dX9_isAbove_28 rfl (lv_at hl 2 rfl) ?_
  refine va_aldq hx hb hE.1.1 hP 1 4 rfl rfl (by unfold vp_in; decide) dX9_isAbove_29 ?_
  refine W.eq (g2 := F0 m 30 ls [.ref (d 0)]) rfl ?_
  refine va_get (D := G.1) (ci := 2) (v := .long 0) (C := RX2) (T := TX2) (N := 13) hx hb hq pin_wsX20 hown hE.1.1 hP 2 rfl rfl 10 (by decide) (hq _ pw_153) (fun _ h9 => h9) rfl dX9_isAbove_30 ?_
  refine lv_iload_n hx hb dX9_isAbove_33 rfl (lv_at hl 1 rfl) ?_
  refine lv_lushr (v := 0) hx hb dX9_isAbove_34 (by decide) ?_
  refine lv_lconst (v := 1) hx hb dX9_isAbove_35 (by decide) ?_
  refine lv_land hx hb dX9_isAbove_36 ?_
  refine lv_topl (fun x5 e6 => ?_)
  obtain rfl : x5 = 0 := e6.trans (by decide)
  refine lv_lconst (v := 1) hx hb dX9_isAbove_37 (by decide) ?_
  refine W.lcmp hx hb dX9_isAbove_38 ?_
  refine lv_topi (fun x7 e8 => ?_)
  obtain rfl : x7 = (-1) := e8.trans (by decide)
  refine lv_if_ne (tgt := 46) hx hb dX9_isAbove_39 (by decide) (fun c9 => ?_) (fun c9 => absurd c9 (by decide))
  refine lv_iconst (v := 0) hx hb dX9_isAbove_46 (by decide) ?_
  refine W.widen (k := 0) (n := 0) (Nat.le_of_ble_eq_true rfl) (Nat.le_of_ble_eq_true rfl) ?_
  exact W.zret (v := 0) hx hb hr rfl (fun t ht hW => ⟨⟨_, ((fun _ => 0), (fun _ => fun _ => 0), (fun _ => fun _ => 0)), rfl, rfl, by rw [ht]; exact hP.sub [0, 1, 2] rfl, hD.sub [0, 1, 2] (by decide) rfl⟩, hS.F ht⟩) hS.2.2 dX9_isAbove_47
set_option maxHeartbeats 1000000 in
set_option maxRecDepth 100000 in
/-- isAbove(1, 1) -/
theorem c_isAbove_1_1 (l : Launch) (G : pT) (g0 : Nat) (g1 : Nat) (g2 : Nat) (d : Nat → Nat) (z : Nat → Nat) (k2 : Nat) : PM l G pX0 yX9_isAbove cX9_isAbove 3 (some .boolean) ({ frames := 2, cells := 0, slots := 0, locals := 60 }) [.ref g0, .int 1, .int 1] [(g0, .inr (6, [.ref k2, .ref g1, .int 7, .ref g2, .int 2147483647])), (g1, .inl (G.2.1 4, 37, .inr (.inr (.inr (.inr (dcl d)))))), ((d 1), .inr (2, [.int 1, .int 30, .int (-1), .int 0, .int (-1), .int 0, .int 0, .ref (z 4), .ref (z 5), .ref (d 0), .long 1, .ref (z 6), .ref (z 7)]))] (fun (v : Option Value) (u : (Nat → Nat) × (Nat → Nat → Int32) × (Nat → Nat → Int64)) => v = some (.int 0)) (fun u => [(g0, .inr (6, [.ref k2, .ref g1, .int 7, .ref g2, .int 2147483647])), (g1, .inl (G.2.1 4, 37, .inr (.inr (.inr (.inr (dcl d)))))), ((d 1), .inr (2, [.int 1, .int 30, .int (-1), .int 0, .int (-1), .int 0, .int 0, .ref (z 4), .ref (z 5), .ref (d 0), .long 1, .ref (z 6), .ref (z 7)]))]) := by
  intro sz
  refine Met.ofW (cc := cX9_isAbove) (maxL := 3) (ret := (some .boolean)) (by decide) rfl ?_
  intro p e s m args below meth c s₁ B hml hv
  obtain ⟨rfl, hsz, hP, hD0, hE, hX⟩ := hv
  have hx := B.exec
  have hb := B.bytes
  have hr := B.returns
  have hts := atoms_spec (ws := Cond.code yX9_isAbove cX9_isAbove 3 (some .boolean) :: pw) B.pre
  have hq : ∀ w ∈ pw, w.before _ s = true := fun w h => hts w (List.mem_cons_of_mem _ h)
  have hown : s.vm.findClass RX9 = some m.cls := findClass_of_methodNamed B.named
  have hlocks := B.notSynchronized
  subst hsz
  have hD := hD0.self (sz := s.heap.size)
  have hA : ∀ q : Nat, s.heap.size ≤ q → va_A [(g0, .inr (6, [.ref k2, .ref g1, .int 7, .ref g2, .int 2147483647])), (g1, .inl (G.2.1 4, 37, .inr (.inr (.inr (.inr (dcl d)))))), ((d 1), .inr (2, [.int 1, .int 30, .int (-1), .int 0, .int (-1), .int 0, .int 0, .ref (z 4), .ref (z 5), .ref (d 0), .long 1, .ref (z 6), .ref (z 7)]))] s.heap.size q := fun q h => Or.inr h
  have hP : va_P G.1 pCl [(g0, .inr (6, [.ref k2, .ref g1, .int 7, .ref g2, .int 2147483647])), (g1, .inl (G.2.1 4, 37, .inr (.inr (.inr (.inr (dcl d)))))), ((d 1), .inr (2, [.int 1, .int 30, .int (-1), .int 0, .int (-1), .int 0, .int 0, .ref (z 4), .ref (z 5), .ref (d 0), .long 1, .ref (z 6), .ref (z 7)]))] s.heap := hP
  generalize va_A [(g0, .inr (6, [.ref k2, .ref g1, .int 7, .ref g2, .int 2147483647])), (g1, .inl (G.2.1 4, 37, .inr (.inr (.inr (.inr (dcl d)))))), ((d 1), .inr (2, [.int 1, .int 30, .int (-1), .int 0, .int (-1), .int 0, .int 0, .ref (z 4), .ref (z 5), .ref (d 0), .long 1, .ref (z 6), .ref (z 7)]))] s.heap.size = A at hD hE hA ⊢
  have hS : va_S A s.heap s.heap [] := va_S.rf
  have hl := lv_entry ([.ref g0, .int 1, .int 1]) (n := 3) (Nat.le_of_ble_eq_true rfl)
  rw [lg_entry_eq]
  generalize (lg_sl ([.ref g0, .int 1, .int 1]) ++ List.replicate (3 - (lg_sl ([.ref g0, .int 1, .int 1])).length) Slot.unset).toArray = ls at hl ⊢
  have hl : lv_has ls 3 [(0, .ref g0), (1, .int 1), (2, .int 1)] := hl
  refine lv_iload_n hx hb dX9_isAbove_0 rfl (lv_at hl 1 rfl) ?_
  refine lv_if_lt (tgt := 46) hx hb dX9_isAbove_1 (by decide) (fun c1 => absurd c1 (by decide)) (fun c1 => ?_)
  refine lv_iload_n hx hb dX9_isAbove_4 rfl (lv_at hl 1 rfl) ?_
  refine lv_aload_n hx hb dX9_isAbove_5 rfl (lv_at hl 0 rfl) ?_
  refine va_get (D := G.1) (ci := 6) (v := .int 7) (C := RX9) (T := TX9) (N := 5) hx hb hq pin_wsX90 hown hE.1.1 hP 0 rfl rfl 2 (by decide) (hq _ pw_137) (fun _ h9 => h9) rfl dX9_isAbove_6 ?_
  refine lv_icmp_ge (tgt := 46) hx hb dX9_isAbove_9 (by decide) (fun c2 => absurd c2 (by decide)) (fun c2 => ?_)
  refine lv_iload_n hx hb dX9_isAbove_12 rfl (lv_at hl 2 rfl) ?_
  refine lv_if_lt (tgt := 46) hx hb dX9_isAbove_13 (by decide) (fun c3 => absurd c3 (by decide)) (fun c3 => ?_)
  refine lv_iload_n hx hb dX9_isAbove_16 rfl (lv_at hl 2 rfl) ?_
  refine lv_aload_n hx hb dX9_isAbove_17 rfl (lv_at hl 0 rfl) ?_
  refine va_get (D := G.1) (ci := 6) (v := .int 7) (C := RX9) (T := TX9) (N := 5) hx hb hq pin_wsX90 hown hE.1.1 hP 0 rfl rfl 2 (by decide) (hq _ pw_137) (fun _ h9 => h9) rfl dX9_isAbove_18 ?_
  refine lv_icmp_ge (tgt := 46) hx hb dX9_isAbove_21 (by decide) (fun c4 => absurd c4 (by decide)) (fun c4 => ?_)
  refine lv_aload_n hx hb dX9_isAbove_24 rfl (lv_at hl 0 rfl) ?_
  refine va_get (D := G.1) (ci := 6) (v := .ref g1) (C := RX9) (T := TX9) (N := 5) hx hb hq pin_wsX90 hown hE.1.1 hP 0 rfl rfl 1 (by decide) (hq _ pw_132) (fun _ h9 => h9) rfl dX9_isAbove_25 ?_
  refine lv_iload_n hx hb dX9_isAbove_28 rfl (lv_at hl 2 rfl) ?_
  refine va_aldq hx hb hE.1.1 hP 1 4 rfl rfl (by unfold vp_in; decide) dX9_isAbove_29 ?_
  refine W.eq (g2 := F0 m 30 ls [.ref (d 1)]) rfl ?_
  refine va_get (D := G.1) (ci := 2) (v := .long 1) (C := RX2) (T := TX2) (N := 13) hx hb hq pin_wsX20 hown hE.1.1 hP 2 rfl rfl 10 (by decide) (hq _ pw_153) (fun _ h9 => h9) rfl dX9_isAbove_30 ?_
  refine lv_iload_n hx hb dX9_isAbove_33 rfl (lv_at hl 1 rfl) ?_
  refine lv_lushr (v := 0) hx hb dX9_isAbove_34 (by decide) ?_
  refine lv_lconst (v := 1) hx hb dX9_isAbove_35 (by decide) ?_
  refine lv_land hx hb dX9_isAbove_36 ?_
  refine lv_topl (fun x5 e6 => ?_)
  obtain rfl : x5 = 0 := e6.trans (by decide)
  refine lv_lconst (v := 1) hx hb dX9_isAbove_37 (by decide) ?_
  refine W.lcmp hx hb dX9_isAbove_38 ?_
  refine lv_topi (fun x7 e8 => ?_)
  obtain rfl : x7 = (-1) := e8.trans (by decide)
  refine lv_if_ne (tgt := 46) hx hb dX9_isAbove_39 (by decide) (fun c9 => ?_) (fun c9 => absurd c9 (by decide))
  refine lv_iconst (v := 0) hx hb dX9_isAbove_46 (by decide) ?_
  refine W.widen (k := 0) (n := 0) (Nat.le_of_ble_eq_true rfl) (Nat.le_of_ble_eq_true rfl) ?_
  exact W.zret (v := 0) hx hb hr rfl (fun t ht hW => ⟨⟨_, ((fun _ => 0), (fun _ => fun _ => 0), (fun _ => fun _ => 0)), rfl, rfl, by rw [ht]; exact hP.sub [0, 1, 2] rfl, hD.sub [0, 1, 2] (by decide) rfl⟩, hS.F ht⟩) hS.2.2 dX9_isAbove_47
set_option maxHeartbeats 1000000 in
set_option maxRecDepth 100000 in
/-- isAbove(1, 2) -/
theorem c_isAbove_1_2 (l : Launch) (G : pT) (g0 : Nat) (g1 : Nat) (g2 : Nat) (d : Nat → Nat) (z : Nat → Nat) (k2 : Nat) : PM l G pX0 yX9_isAbove cX9_isAbove 3 (some .boolean) ({ frames := 2, cells := 0, slots := 0, locals := 60 }) [.ref g0, .int 1, .int 2] [(g0, .inr (6, [.ref k2, .ref g1, .int 7, .ref g2, .int 2147483647])), (g1, .inl (G.2.1 4, 37, .inr (.inr (.inr (.inr (dcl d)))))), ((d 2), .inr (2, [.int 2, .int 31, .int (-1), .int 0, .int (-1), .int 0, .int 0, .ref (z 8), .ref (z 9), .ref (d 0), .long 1, .ref (z 10), .ref (z 11)]))] (fun (v : Option Value) (u : (Nat → Nat) × (Nat → Nat → Int32) × (Nat → Nat → Int64)) => v = some (.int 0)) (fun u => [(g0, .inr (6, [.ref k2, .ref g1, .int 7, .ref g2, .int 2147483647])), (g1, .inl (G.2.1 4, 37, .inr (.inr (.inr (.inr (dcl d)))))), ((d 2), .inr (2, [.int 2, .int 31, .int (-1), .int 0, .int (-1), .int 0, .int 0, .ref (z 8), .ref (z 9), .ref (d 0), .long 1, .ref (z 10), .ref (z 11)]))]) := by
  intro sz
  refine Met.ofW (cc := cX9_isAbove) (maxL := 3) (ret := (some .boolean)) (by decide) rfl ?_
  intro p e s m args below meth c s₁ B hml hv
  obtain ⟨rfl, hsz, hP, hD0, hE, hX⟩ := hv
  have hx := B.exec
  have hb := B.bytes
  have hr := B.returns
  have hts := atoms_spec (ws := Cond.code yX9_isAbove cX9_isAbove 3 (some .boolean) :: pw) B.pre
  have hq : ∀ w ∈ pw, w.before _ s = true := fun w h => hts w (List.mem_cons_of_mem _ h)
  have hown : s.vm.findClass RX9 = some m.cls := findClass_of_methodNamed B.named
  have hlocks := B.notSynchronized
  subst hsz
  have hD := hD0.self (sz := s.heap.size)
  have hA : ∀ q : Nat, s.heap.size ≤ q → va_A [(g0, .inr (6, [.ref k2, .ref g1, .int 7, .ref g2, .int 2147483647])), (g1, .inl (G.2.1 4, 37, .inr (.inr (.inr (.inr (dcl d)))))), ((d 2), .inr (2, [.int 2, .int 31, .int (-1), .int 0, .int (-1), .int 0, .int 0, .ref (z 8), .ref (z 9), .ref (d 0), .long 1, .ref (z 10), .ref (z 11)]))] s.heap.size q := fun q h => Or.inr h
  have hP : va_P G.1 pCl [(g0, .inr (6, [.ref k2, .ref g1, .int 7, .ref g2, .int 2147483647])), (g1, .inl (G.2.1 4, 37, .inr (.inr (.inr (.inr (dcl d)))))), ((d 2), .inr (2, [.int 2, .int 31, .int (-1), .int 0, .int (-1), .int 0, .int 0, .ref (z 8), .ref (z 9), .ref (d 0), .long 1, .ref (z 10), .ref (z 11)]))] s.heap := hP
  generalize va_A [(g0, .inr (6, [.ref k2, .ref g1, .int 7, .ref g2, .int 2147483647])), (g1, .inl (G.2.1 4, 37, .inr (.inr (.inr (.inr (dcl d)))))), ((d 2), .inr (2, [.int 2, .int 31, .int (-1), .int 0, .int (-1), .int 0, .int 0, .ref (z 8), .ref (z 9), .ref (d 0), .long 1, .ref (z 10), .ref (z 11)]))] s.heap.size = A at hD hE hA ⊢
  have hS : va_S A s.heap s.heap [] := va_S.rf
  have hl := lv_entry ([.ref g0, .int 1, .int 2]) (n := 3) (Nat.le_of_ble_eq_true rfl)
  rw [lg_entry_eq]
  generalize (lg_sl ([.ref g0, .int 1, .int 2]) ++ List.replicate (3 - (lg_sl ([.ref g0, .int 1, .int 2])).length) Slot.unset).toArray = ls at hl ⊢
  have hl : lv_has ls 3 [(0, .ref g0), (1, .int 1), (2, .int 2)] := hl
  refine lv_iload_n hx hb dX9_isAbove_0 rfl (lv_at hl 1 rfl) ?_
  refine lv_if_lt (tgt := 46) hx hb dX9_isAbove_1 (by decide) (fun c1 => absurd c1 (by decide)) (fun c1 => ?_)
  refine lv_iload_n hx hb dX9_isAbove_4 rfl (lv_at hl 1 rfl) ?_
  refine lv_aload_n hx hb dX9_isAbove_5 rfl (lv_at hl 0 rfl) ?_
  refine va_get (D := G.1) (ci := 6) (v := .int 7) (C := RX9) (T := TX9) (N := 5) hx hb hq pin_wsX90 hown hE.1.1 hP 0 rfl rfl 2 (by decide) (hq _ pw_137) (fun _ h9 => h9) rfl dX9_isAbove_6 ?_
  refine lv_icmp_ge (tgt := 46) hx hb dX9_isAbove_9 (by decide) (fun c2 => absurd c2 (by decide)) (fun c2 => ?_)
  refine lv_iload_n hx hb dX9_isAbove_12 rfl (lv_at hl 2 rfl) ?_
  refine lv_if_lt (tgt := 46) hx hb dX9_isAbove_13 (by decide) (fun c3 => absurd c3 (by decide)) (fun c3 => ?_)
  refine lv_iload_n hx hb dX9_isAbove_16 rfl (lv_at hl 2 rfl) ?_
  refine lv_aload_n hx hb dX9_isAbove_17 rfl (lv_at hl 0 rfl) ?_
  refine va_get (D := G.1) (ci := 6) (v := .int 7) (C := RX9) (T := TX9) (N := 5) hx hb hq pin_wsX90 hown hE.1.1 hP 0 rfl rfl 2 (by decide) (hq _ pw_137) (fun _ h9 => h9) rfl dX9_isAbove_18 ?_
  refine lv_icmp_ge (tgt := 46) hx hb dX9_isAbove_21 (by decide) (fun c4 => absurd c4 (by decide)) (fun c4 => ?_)
  refine lv_aload_n hx hb dX9_isAbove_24 rfl (lv_at hl 0 rfl) ?_
  refine va_get (D := G.1) (ci := 6) (v := .ref g1) (C := RX9) (T := TX9) (N := 5) hx hb hq pin_wsX90 hown hE.1.1 hP 0 rfl rfl 1 (by decide) (hq _ pw_132) (fun _ h9 => h9) rfl dX9_isAbove_25 ?_
  refine lv_iload_n hx hb dX9_isAbove_28 rfl (lv_at hl 2 rfl) ?_
  refine va_aldq hx hb hE.1.1 hP 1 4 rfl rfl (by unfold vp_in; decide) dX9_isAbove_29 ?_
  refine W.eq (g2 := F0 m 30 ls [.ref (d 2)]) rfl ?_
  refine va_get (D := G.1) (ci := 2) (v := .long 1) (C := RX2) (T := TX2) (N := 13) hx hb hq pin_wsX20 hown hE.1.1 hP 2 rfl rfl 10 (by decide) (hq _ pw_153) (fun _ h9 => h9) rfl dX9_isAbove_30 ?_
  refine lv_iload_n hx hb dX9_isAbove_33 rfl (lv_at hl 1 rfl) ?_
  refine lv_lushr (v := 0) hx hb dX9_isAbove_34 (by decide) ?_
  refine lv_lconst (v := 1) hx hb dX9_isAbove_35 (by decide) ?_
  refine lv_land hx hb dX9_isAbove_36 ?_
  refine lv_topl (fun x5 e6 => ?_)
  obtain rfl : x5 = 0 := e6.trans (by decide)
  refine lv_lconst (v := 1) hx hb dX9_isAbove_37 (by decide) ?_
  refine W.lcmp hx hb dX9_isAbove_38 ?_
  refine lv_topi (fun x7 e8 => ?_)
  obtain rfl : x7 = (-1) := e8.trans (by decide)
  refine lv_if_ne (tgt := 46) hx hb dX9_isAbove_39 (by decide) (fun c9 => ?_) (fun c9 => absurd c9 (by decide))
  refine lv_iconst (v := 0) hx hb dX9_isAbove_46 (by decide) ?_
  refine W.widen (k := 0) (n := 0) (Nat.le_of_ble_eq_true rfl) (Nat.le_of_ble_eq_true rfl) ?_
  exact W.zret (v := 0) hx hb hr rfl (fun t ht hW => ⟨⟨_, ((fun _ => 0), (fun _ => fun _ => 0), (fun _ => fun _ => 0)), rfl, rfl, by rw [ht]; exact hP.sub [0, 1, 2] rfl, hD.sub [0, 1, 2] (by decide) rfl⟩, hS.F ht⟩) hS.2.2 dX9_isAbove_47
set_option maxHeartbeats 1000000 in
set_option maxRecDepth 100000 in
/-- isAbove(1, 3) -/
theorem c_isAbove_1_3 (l : Launch) (G : pT) (g0 : Nat) (g1 : Nat) (g2 : Nat) (d : Nat → Nat) (z : Nat → Nat) (k2 : Nat) : PM l G pX0 yX9_isAbove cX9_isAbove 3 (some .boolean) ({ frames := 2, cells := 0, slots := 0, locals := 60 }) [.ref g0, .int 1, .int 3] [(g0, .inr (6, [.ref k2, .ref g1, .int 7, .ref g2, .int 2147483647])), (g1, .inl (G.2.1 4, 37, .inr (.inr (.inr (.inr (dcl d)))))), ((d 3), .inr (2, [.int 3, .int 32, .int (-1), .int 0, .int (-1), .int 0, .int 0, .ref (z 12), .ref (z 13), .ref (d 0), .long 1, .ref (z 14), .ref (z 15)]))] (fun (v : Option Value) (u : (Nat → Nat) × (Nat → Nat → Int32) × (Nat → Nat → Int64)) => v = some (.int 0)) (fun u => [(g0, .inr (6, [.ref k2, .ref g1, .int 7, .ref g2, .int 2147483647])), (g1, .inl (G.2.1 4, 37, .inr (.inr (.inr (.inr (dcl d)))))), ((d 3), .inr (2, [.int 3, .int 32, .int (-1), .int 0, .int (-1), .int 0, .int 0, .ref (z 12), .ref (z 13), .ref (d 0), .long 1, .ref (z 14), .ref (z 15)]))]) := by
  intro sz
  refine Met.ofW (cc := cX9_isAbove) (maxL := 3) (ret := (some .boolean)) (by decide) rfl ?_
  intro p e s m args below meth c s₁ B hml hv
  obtain ⟨rfl, hsz, hP, hD0, hE, hX⟩ := hv
  have hx := B.exec
  have hb := B.bytes
  have hr := B.returns
  have hts := atoms_spec (ws := Cond.code yX9_isAbove cX9_isAbove 3 (some .boolean) :: pw) B.pre
  have hq : ∀ w ∈ pw, w.before _ s = true := fun w h => hts w (List.mem_cons_of_mem _ h)
  have hown : s.vm.findClass RX9 = some m.cls := findClass_of_methodNamed B.named
  have hlocks := B.notSynchronized
  subst hsz
  have hD := hD0.self (sz := s.heap.size)
  have hA : ∀ q : Nat, s.heap.size ≤ q → va_A [(g0, .inr (6, [.ref k2, .ref g1, .int 7, .ref g2, .int 2147483647])), (g1, .inl (G.2.1 4, 37, .inr (.inr (.inr (.inr (dcl d)))))), ((d 3), .inr (2, [.int 3, .int 32, .int (-1), .int 0, .int (-1), .int 0, .int 0, .ref (z 12), .ref (z 13), .ref (d 0), .long 1, .ref (z 14), .ref (z 15)]))] s.heap.size q := fun q h => Or.inr h
  have hP : va_P G.1 pCl [(g0, .inr (6, [.ref k2, .ref g1, .int 7, .ref g2, .int 2147483647])), (g1, .inl (G.2.1 4, 37, .inr (.inr (.inr (.inr (dcl d)))))), ((d 3), .inr (2, [.int 3, .int 32, .int (-1), .int 0, .int (-1), .int 0, .int 0, .ref (z 12), .ref (z 13), .ref (d 0), .long 1, .ref (z 14), .ref (z 15)]))] s.heap := hP
  generalize va_A [(g0, .inr (6, [.ref k2, .ref g1, .int 7, .ref g2, .int 2147483647])), (g1, .inl (G.2.1 4, 37, .inr (.inr (.inr (.inr (dcl d)))))), ((d 3), .inr (2, [.int 3, .int 32, .int (-1), .int 0, .int (-1), .int 0, .int 0, .ref (z 12), .ref (z 13), .ref (d 0), .long 1, .ref (z 14), .ref (z 15)]))] s.heap.size = A at hD hE hA ⊢
  have hS : va_S A s.heap s.heap [] := va_S.rf
  have hl := lv_entry ([.ref g0, .int 1, .int 3]) (n := 3) (Nat.le_of_ble_eq_true rfl)
  rw [lg_entry_eq]
  generalize (lg_sl ([.ref g0, .int 1, .int 3]) ++ List.replicate (3 - (lg_sl ([.ref g0, .int 1, .int 3])).length) Slot.unset).toArray = ls at hl ⊢
  have hl : lv_has ls 3 [(0, .ref g0), (1, .int 1), (2, .int 3)] := hl
  refine lv_iload_n hx hb dX9_isAbove_0 rfl (lv_at hl 1 rfl) ?_
  refine lv_if_lt (tgt := 46) hx hb dX9_isAbove_1 (by decide) (fun c1 => absurd c1 (by decide)) (fun c1 => ?_)
  refine lv_iload_n hx hb dX9_isAbove_4 rfl (lv_at hl 1 rfl) ?_
  refine lv_aload_n hx hb dX9_isAbove_5 rfl (lv_at hl 0 rfl) ?_
  refine va_get (D := G.1) (ci := 6) (v := .int 7) (C := RX9) (T := TX9) (N := 5) hx hb hq pin_wsX90 hown hE.1.1 hP 0 rfl rfl 2 (by decide) (hq _ pw_137) (fun _ h9 => h9) rfl dX9_isAbove_6 ?_
  refine lv_icmp_ge (tgt := 46) hx hb dX9_isAbove_9 (by decide) (fun c2 => absurd c2 (by decide)) (fun c2 => ?_)
  refine lv_iload_n hx hb dX9_isAbove_12 rfl (lv_at hl 2 rfl) ?_
  refine lv_if_lt (tgt := 46) hx hb dX9_isAbove_13 (by decide) (fun c3 => absurd c3 (by decide)) (fun c3 => ?_)
  refine lv_iload_n hx hb dX9_isAbove_16 rfl (lv_at hl 2 rfl) ?_
  refine lv_aload_n hx hb dX9_isAbove_17 rfl (lv_at hl 0 rfl) ?_
  refine va_get (D := G.1) (ci := 6) (v := .int 7) (C := RX9) (T := TX9) (N := 5) hx hb hq pin_wsX90 hown hE.1.1 hP 0 rfl rfl 2 (by decide) (hq _ pw_137) (fun _ h9 => h9) rfl dX9_isAbove_18 ?_
  refine lv_icmp_ge (tgt := 46) hx hb dX9_isAbove_21 (by decide) (fun c4 => absurd c4 (by decide)) (fun c4 => ?_)
  refine lv_aload_n hx hb dX9_isAbove_24 rfl (lv_at hl 0 rfl) ?_
  refine va_get (D := G.1) (ci := 6) (v := .ref g1) (C := RX9) (T := TX9) (N := 5) hx hb hq pin_wsX90 hown hE.1.1 hP 0 rfl rfl 1 (by decide) (hq _ pw_132) (fun _ h9 => h9) rfl dX9_isAbove_25 ?_
  refine lv_iload_n hx hb dX9_isAbove_28 rfl (lv_at hl 2 rfl) ?_
  refine va_aldq hx hb hE.1.1 hP 1 4 rfl rfl (by unfold vp_in; decide) dX9_isAbove_29 ?_
  refine W.eq (g2 := F0 m 30 ls [.ref (d 3)]) rfl ?_
  refine va_get (D := G.1) (ci := 2) (v := .long 1) (C := RX2) (T := TX2) (N := 13) hx hb hq pin_wsX20 hown hE.1.1 hP 2 rfl rfl 10 (by decide) (hq _ pw_153) (fun _ h9 => h9) rfl dX9_isAbove_30 ?_
  refine lv_iload_n hx hb dX9_isAbove_33 rfl (lv_at hl 1 rfl) ?_
  refine lv_lushr (v := 0) hx hb dX9_isAbove_34 (by decide) ?_
  refine lv_lconst (v := 1) hx hb dX9_isAbove_35 (by decide) ?_
  refine lv_land hx hb dX9_isAbove_36 ?_
  refine lv_topl (fun x5 e6 => ?_)
  obtain rfl : x5 = 0 := e6.trans (by decide)
  refine lv_lconst (v := 1) hx hb dX9_isAbove_37 (by decide) ?_
  refine W.lcmp hx hb dX9_isAbove_38 ?_
  refine lv_topi (fun x7 e8 => ?_)
  obtain rfl : x7 = (-1) := e8.trans (by decide)
  refine lv_if_ne (tgt := 46) hx hb dX9_isAbove_39 (by decide) (fun c9 => ?_) (fun c9 => absurd c9 (by decide))
  refine lv_iconst (v := 0) hx hb dX9_isAbove_46 (by decide) ?_
  refine W.widen (k := 0) (n := 0) (Nat.le_of_ble_eq_true rfl) (Nat.le_of_ble_eq_true rfl) ?_
  exact W.zret (v := 0) hx hb hr rfl (fun t ht hW => ⟨⟨_, ((fun _ => 0), (fun _ => fun _ => 0), (fun _ => fun _ => 0)), rfl, rfl, by rw [ht]; exact hP.sub [0, 1, 2] rfl, hD.sub [0, 1, 2] (by decide) rfl⟩, hS.F ht⟩) hS.2.2 dX9_isAbove_47
set_option maxHeartbeats 1000000 in
set_option maxRecDepth 100000 in
/-- isAbove(1, 4) -/
theorem c_isAbove_1_4 (l : Launch) (G : pT) (g0 : Nat) (g1 : Nat) (g2 : Nat) (d : Nat → Nat) (z : Nat → Nat) (k2 : Nat) : PM l G pX0 yX9_isAbove cX9_isAbove 3 (some .boolean) ({ frames := 2, cells := 0, slots := 0, locals := 60 }) [.ref g0, .int 1, .int 4] [(g0, .inr (6, [.ref k2, .ref g1, .int 7, .ref g2, .int 2147483647])), (g1, .inl (G.2.1 4, 37, .inr (.inr (.inr (.inr (dcl d)))))), ((d 4), .inr (2, [.int 4, .int 33, .int (-1), .int 0, .int (-1), .int 0, .int 0, .ref (z 16), .ref (z 17), .ref (d 0), .long 1, .ref (z 18), .ref (z 19)]))] (fun (v : Option Value) (u : (Nat → Nat) × (Nat → Nat → Int32) × (Nat → Nat → Int64)) => v = some (.int 0)) (fun u => [(g0, .inr (6, [.ref k2, .ref g1, .int 7, .ref g2, .int 2147483647])), (g1, .inl (G.2.1 4, 37, .inr (.inr (.inr (.inr (dcl d)))))), ((d 4), .inr (2, [.int 4, .int 33, .int (-1), .int 0, .int (-1), .int 0, .int 0, .ref (z 16), .ref (z 17), .ref (d 0), .long 1, .ref (z 18), .ref (z 19)]))]) := by
  intro sz
  refine Met.ofW (cc := cX9_isAbove) (maxL := 3) (ret := (some .boolean)) (by decide) rfl ?_
  intro p e s m args below meth c s₁ B hml hv
  obtain ⟨rfl, hsz, hP, hD0, hE, hX⟩ := hv
  have hx := B.exec
  have hb := B.bytes
  have hr := B.returns
  have hts := atoms_spec (ws := Cond.code yX9_isAbove cX9_isAbove 3 (some .boolean) :: pw) B.pre
  have hq : ∀ w ∈ pw, w.before _ s = true := fun w h => hts w (List.mem_cons_of_mem _ h)
  have hown : s.vm.findClass RX9 = some m.cls := findClass_of_methodNamed B.named
  have hlocks := B.notSynchronized
  subst hsz
  have hD := hD0.self (sz := s.heap.size)
  have hA : ∀ q : Nat, s.heap.size ≤ q → va_A [(g0, .inr (6, [.ref k2, .ref g1, .int 7, .ref g2, .int 2147483647])), (g1, .inl (G.2.1 4, 37, .inr (.inr (.inr (.inr (dcl d)))))), ((d 4), .inr (2, [.int 4, .int 33, .int (-1), .int 0, .int (-1), .int 0, .int 0, .ref (z 16), .ref (z 17), .ref (d 0), .long 1, .ref (z 18), .ref (z 19)]))] s.heap.size q := fun q h => Or.inr h
  have hP : va_P G.1 pCl [(g0, .inr (6, [.ref k2, .ref g1, .int 7, .ref g2, .int 2147483647])), (g1, .inl (G.2.1 4, 37, .inr (.inr (.inr (.inr (dcl d)))))), ((d 4), .inr (2, [.int 4, .int 33, .int (-1), .int 0, .int (-1), .int 0, .int 0, .ref (z 16), .ref (z 17), .ref (d 0), .long 1, .ref (z 18), .ref (z 19)]))] s.heap := hP
  generalize va_A [(g0, .inr (6, [.ref k2, .ref g1, .int 7, .ref g2, .int 2147483647])), (g1, .inl (G.2.1 4, 37, .inr (.inr (.inr (.inr (dcl d)))))), ((d 4), .inr (2, [.int 4, .int 33, .int (-1), .int 0, .int (-1), .int 0, .int 0, .ref (z 16), .ref (z 17), .ref (d 0), .long 1, .ref (z 18), .ref (z 19)]))] s.heap.size = A at hD hE hA ⊢
  have hS : va_S A s.heap s.heap [] := va_S.rf
  have hl := lv_entry ([.ref g0, .int 1, .int 4]) (n := 3) (Nat.le_of_ble_eq_true rfl)
  rw [lg_entry_eq]
  generalize (lg_sl ([.ref g0, .int 1, .int 4]) ++ List.replicate (3 - (lg_sl ([.ref g0, .int 1, .int 4])).length) Slot.unset).toArray = ls at hl ⊢
  have hl : lv_has ls 3 [(0, .ref g0), (1, .int 1), (2, .int 4)] := hl
  refine lv_iload_n hx hb dX9_isAbove_0 rfl (lv_at hl 1 rfl) ?_
  refine lv_if_lt (tgt := 46) hx hb dX9_isAbove_1 (by decide) (fun c1 => absurd c1 (by decide)) (fun c1 => ?_)
  refine lv_iload_n hx hb dX9_isAbove_4 rfl (lv_at hl 1 rfl) ?_
  refine lv_aload_n hx hb dX9_isAbove_5 rfl (lv_at hl 0 rfl) ?_
  refine va_get (D := G.1) (ci := 6) (v := .int 7) (C := RX9) (T := TX9) (N := 5) hx hb hq pin_wsX90 hown hE.1.1 hP 0 rfl rfl 2 (by decide) (hq _ pw_137) (fun _ h9 => h9) rfl dX9_isAbove_6 ?_
  refine lv_icmp_ge (tgt := 46) hx hb dX9_isAbove_9 (by decide) (fun c2 => absurd c2 (by decide)) (fun c2 => ?_)
  refine lv_iload_n hx hb dX9_isAbove_12 rfl (lv_at hl 2 rfl) ?_
  refine lv_if_lt (tgt := 46) hx hb dX9_isAbove_13 (by decide) (fun c3 => absurd c3 (by decide)) (fun c3 => ?_)
  refine lv_iload_n hx hb dX9_isAbove_16 rfl (lv_at hl 2 rfl) ?_
  refine lv_aload_n hx hb dX9_isAbove_17 rfl (lv_at hl 0 rfl) ?_
  refine va_get (D := G.1) (ci := 6) (v := .int 7) (C := RX9) (T := TX9) (N := 5) hx hb hq pin_wsX90 hown hE.1.1 hP 0 rfl rfl 2 (by decide) (hq _ pw_137) (fun _ h9 => h9) rfl dX9_isAbove_18 ?_
  refine lv_icmp_ge (tgt := 46) hx hb dX9_isAbove_21 (by decide) (fun c4 => absurd c4 (by decide)) (fun c4 => ?_)
  refine lv_aload_n hx hb dX9_isAbove_24 rfl (lv_at hl 0 rfl) ?_
  refine va_get (D := G.1) (ci := 6) (v := .ref g1) (C := RX9) (T := TX9) (N := 5) hx hb hq pin_wsX90 hown hE.1.1 hP 0 rfl rfl 1 (by decide) (hq _ pw_132) (fun _ h9 => h9) rfl dX9_isAbove_25 ?_
  refine lv_iload_n hx hb dX9_isAbove_28 rfl (lv_at hl 2 rfl) ?_
  refine va_aldq hx hb hE.1.1 hP 1 4 rfl rfl (by unfold vp_in; decide) dX9_isAbove_29 ?_
  refine W.eq (g2 := F0 m 30 ls [.ref (d 4)]) rfl ?_
  refine va_get (D := G.1) (ci := 2) (v := .long 1) (C := RX2) (T := TX2) (N := 13) hx hb hq pin_wsX20 hown hE.1.1 hP 2 rfl rfl 10 (by decide) (hq _ pw_153) (fun _ h9 => h9) rfl dX9_isAbove_30 ?_
  refine lv_iload_n hx hb dX9_isAbove_33 rfl (lv_at hl 1 rfl) ?_
  refine lv_lushr (v := 0) hx hb dX9_isAbove_34 (by decide) ?_
  refine lv_lconst (v := 1) hx hb dX9_isAbove_35 (by decide) ?_
  refine lv_land hx hb dX9_isAbove_36 ?_
  refine lv_topl (fun x5 e6 => ?_)
  obtain rfl : x5 = 0 := e6.trans (by decide)
  refine lv_lconst (v := 1) hx hb dX9_isAbove_37 (by decide) ?_
  refine W.lcmp hx hb dX9_isAbove_38 ?_
  refine lv_topi (fun x7 e8 => ?_)
  obtain rfl : x7 = (-1) := e8.trans (by decide)
  refine lv_if_ne (tgt := 46) hx hb dX9_isAbove_39 (by decide) (fun c9 => ?_) (fun c9 => absurd c9 (by decide))
  refine lv_iconst (v := 0) hx hb dX9_isAbove_46 (by decide) ?_
  refine W.widen (k := 0) (n := 0) (Nat.le_of_ble_eq_true rfl) (Nat.le_of_ble_eq_true rfl) ?_
  exact W.zret (v := 0) hx hb hr rfl (fun t ht hW => ⟨⟨_, ((fun _ => 0), (fun _ => fun _ => 0), (fun _ => fun _ => 0)), rfl, rfl, by rw [ht]; exact hP.sub [0, 1, 2] rfl, hD.sub [0, 1, 2] (by decide) rfl⟩, hS.F ht⟩) hS.2.2 dX9_isAbove_47
set_option maxHeartbeats 1000000 in
set_option maxRecDepth 100000 in
/-- isAbove(1, 5) -/
theorem c_isAbove_1_5 (l : Launch) (G : pT) (g0 : Nat) (g1 : Nat) (g2 : Nat) (d : Nat → Nat) (z : Nat → Nat) (k2 : Nat) : PM l G pX0 yX9_isAbove cX9_isAbove 3 (some .boolean) ({ frames := 2, cells := 0, slots := 0, locals := 60 }) [.ref g0, .int 1, .int 5] [(g0, .inr (6, [.ref k2, .ref g1, .int 7, .ref g2, .int 2147483647])), (g1, .inl (G.2.1 4, 37, .inr (.inr (.inr (.inr (dcl d)))))), ((d 5), .inr (2, [.int 5, .int 34, .int (-1), .int 0, .int (-1), .int 0, .int 0, .ref (z 20), .ref (z 21), .ref (d 0), .long 1, .ref (z 22), .ref (z 23)]))] (fun (v : Option Value) (u : (Nat → Nat) × (Nat → Nat → Int32) × (Nat → Nat → Int64)) => v = some (.int 0)) (fun u => [(g0, .inr (6, [.ref k2, .ref g1, .int 7, .ref g2, .int 2147483647])), (g1, .inl (G.2.1 4, 37, .inr (.inr (.inr (.inr (dcl d)))))), ((d 5), .inr (2, [.int 5, .int 34, .int (-1), .int 0, .int (-1), .int 0, .int 0, .ref (z 20), .ref (z 21), .ref (d 0), .long 1, .ref (z 22), .ref (z 23)]))]) := by
  intro sz
  refine Met.ofW (cc := cX9_isAbove) (maxL := 3) (ret := (some .boolean)) (by decide) rfl ?_
  intro p e s m args below meth c s₁ B hml hv
  obtain ⟨rfl, hsz, hP, hD0, hE, hX⟩ := hv
  have hx := B.exec
  have hb := B.bytes
  have hr := B.returns
  have hts := atoms_spec (ws := Cond.code yX9_isAbove cX9_isAbove 3 (some .boolean) :: pw) B.pre
  have hq : ∀ w ∈ pw, w.before _ s = true := fun w h => hts w (List.mem_cons_of_mem _ h)
  have hown : s.vm.findClass RX9 = some m.cls := findClass_of_methodNamed B.named
  have hlocks := B.notSynchronized
  subst hsz
  have hD := hD0.self (sz := s.heap.size)
  have hA : ∀ q : Nat, s.heap.size ≤ q → va_A [(g0, .inr (6, [.ref k2, .ref g1, .int 7, .ref g2, .int 2147483647])), (g1, .inl (G.2.1 4, 37, .inr (.inr (.inr (.inr (dcl d)))))), ((d 5), .inr (2, [.int 5, .int 34, .int (-1), .int 0, .int (-1), .int 0, .int 0, .ref (z 20), .ref (z 21), .ref (d 0), .long 1, .ref (z 22), .ref (z 23)]))] s.heap.size q := fun q h => Or.inr h
  have hP : va_P G.1 pCl [(g0, .inr (6, [.ref k2, .ref g1, .int 7, .ref g2, .int 2147483647])), (g1, .inl (G.2.1 4, 37, .inr (.inr (.inr (.inr (dcl d)))))), ((d 5), .inr (2, [.int 5, .int 34, .int (-1), .int 0, .int (-1), .int 0, .int 0, .ref (z 20), .ref (z 21), .ref (d 0), .long 1, .ref (z 22), .ref (z 23)]))] s.heap := hP
  generalize va_A [(g0, .inr (6, [.ref k2, .ref g1, .int 7, .ref g2, .int 2147483647])), (g1, .inl (G.2.1 4, 37, .inr (.inr (.inr (.inr (dcl d)))))), ((d 5), .inr (2, [.int 5, .int 34, .int (-1), .int 0, .int (-1), .int 0, .int 0, .ref (z 20), .ref (z 21), .ref (d 0), .long 1, .ref (z 22), .ref (z 23)]))] s.heap.size = A at hD hE hA ⊢
  have hS : va_S A s.heap s.heap [] := va_S.rf
  have hl := lv_entry ([.ref g0, .int 1, .int 5]) (n := 3) (Nat.le_of_ble_eq_true rfl)
  rw [lg_entry_eq]
  generalize (lg_sl ([.ref g0, .int 1, .int 5]) ++ List.replicate (3 - (lg_sl ([.ref g0, .int 1, .int 5])).length) Slot.unset).toArray = ls at hl ⊢
  have hl : lv_has ls 3 [(0, .ref g0), (1, .int 1), (2, .int 5)] := hl
  refine lv_iload_n hx hb dX9_isAbove_0 rfl (lv_at hl 1 rfl) ?_
  refine lv_if_lt (tgt := 46) hx hb dX9_isAbove_1 (by decide) (fun c1 => absurd c1 (by decide)) (fun c1 => ?_)
  refine lv_iload_n hx hb dX9_isAbove_4 rfl (lv_at hl 1 rfl) ?_
  refine lv_aload_n hx hb dX9_isAbove_5 rfl (lv_at hl 0 rfl) ?_
  refine va_get (D := G.1) (ci := 6) (v := .int 7) (C := RX9) (T := TX9) (N := 5) hx hb hq pin_wsX90 hown hE.1.1 hP 0 rfl rfl 2 (by decide) (hq _ pw_137) (fun _ h9 => h9) rfl dX9_isAbove_6 ?_
  refine lv_icmp_ge (tgt := 46) hx hb dX9_isAbove_9 (by decide) (fun c2 => absurd c2 (by decide)) (fun c2 => ?_)
  refine lv_iload_n hx hb dX9_isAbove_12 rfl (lv_at hl 2 rfl) ?_
  refine lv_if_lt (tgt := 46) hx hb dX9_isAbove_13 (by decide) (fun c3 => absurd c3 (by decide)) (fun c3 => ?_)
  refine lv_iload_n hx hb dX9_isAbove_16 rfl (lv_at hl 2 rfl) ?_
  refine lv_aload_n hx hb dX9_isAbove_17 rfl (lv_at hl 0 rfl) ?_
  refine va_get (D := G.1) (ci := 6) (v := .int 7) (C := RX9) (T := TX9) (N := 5) hx hb hq pin_wsX90 hown hE.1.1 hP 0 rfl rfl 2 (by decide) (hq _ pw_137) (fun _ h9 => h9) rfl dX9_isAbove_18 ?_
  refine lv_icmp_ge (tgt := 46) hx hb dX9_isAbove_21 (by decide) (fun c4 => absurd c4 (by decide)) (fun c4 => ?_)
  refine lv_aload_n hx hb dX9_isAbove_24 rfl (lv_at hl 0 rfl) ?_
  refine va_get (D := G.1) (ci := 6) (v := .ref g1) (C := RX9) (T := TX9) (N := 5) hx hb hq pin_wsX90 hown hE.1.1 hP 0 rfl rfl 1 (by decide) (hq _ pw_132) (fun _ h9 => h9) rfl dX9_isAbove_25 ?_
  refine lv_iload_n hx hb dX9_isAbove_28 rfl (lv_at hl 2 rfl) ?_
  refine va_aldq hx hb hE.1.1 hP 1 4 rfl rfl (by unfold vp_in; decide) dX9_isAbove_29 ?_
  refine W.eq (g2 := F0 m 30 ls [.ref (d 5)]) rfl ?_
  refine va_get (D := G.1) (ci := 2) (v := .long 1) (C := RX2) (T := TX2) (N := 13) hx hb hq pin_wsX20 hown hE.1.1 hP 2 rfl rfl 10 (by decide) (hq _ pw_153) (fun _ h9 => h9) rfl dX9_isAbove_30 ?_
  refine lv_iload_n hx hb dX9_isAbove_33 rfl (lv_at hl 1 rfl) ?_
  refine lv_lushr (v := 0) hx hb dX9_isAbove_34 (by decide) ?_
  refine lv_lconst (v := 1) hx hb dX9_isAbove_35 (by decide) ?_
  refine lv_land hx hb dX9_isAbove_36 ?_
  refine lv_topl (fun x5 e6 => ?_)
  obtain rfl : x5 = 0 := e6.trans (by decide)
  refine lv_lconst (v := 1) hx hb dX9_isAbove_37 (by decide) ?_
  refine W.lcmp hx hb dX9_isAbove_38 ?_
  refine lv_topi (fun x7 e8 => ?_)
  obtain rfl : x7 = (-1) := e8.trans (by decide)
  refine lv_if_ne (tgt := 46) hx hb dX9_isAbove_39 (by decide) (fun c9 => ?_) (fun c9 => absurd c9 (by decide))
  refine lv_iconst (v := 0) hx hb dX9_isAbove_46 (by decide) ?_
  refine W.widen (k := 0) (n := 0) (Nat.le_of_ble_eq_true rfl) (Nat.le_of_ble_eq_true rfl) ?_
  exact W.zret (v := 0) hx hb hr rfl (fun t ht hW => ⟨⟨_, ((fun _ => 0), (fun _ => fun _ => 0), (fun _ => fun _ => 0)), rfl, rfl, by rw [ht]; exact hP.sub [0, 1, 2] rfl, hD.sub [0, 1, 2] (by decide) rfl⟩, hS.F ht⟩) hS.2.2 dX9_isAbove_47
set_option maxHeartbeats 1000000 in
set_option maxRecDepth 100000 in
/-- isAbove(1, 6) -/
theorem c_isAbove_1_6 (l : Launch) (G : pT) (g0 : Nat) (g1 : Nat) (g2 : Nat) (d : Nat → Nat) (z : Nat → Nat) (k2 : Nat) : PM l G pX0 yX9_isAbove cX9_isAbove 3 (some .boolean) ({ frames := 2, cells := 0, slots := 0, locals := 60 }) [.ref g0, .int 1, .int 6] [(g0, .inr (6, [.ref k2, .ref g1, .int 7, .ref g2, .int 2147483647])), (g1, .inl (G.2.1 4, 37, .inr (.inr (.inr (.inr (dcl d)))))), ((d 6), .inr (2, [.int 6, .int 35, .int (-1), .int 0, .int (-1), .int 0, .int 0, .ref (z 24), .ref (z 25), .ref (d 0), .long 1, .ref (z 26), .ref (z 27)]))] (fun (v : Option Value) (u : (Nat → Nat) × (Nat → Nat → Int32) × (Nat → Nat → Int64)) => v = some (.int 0)) (fun u => [(g0, .inr (6, [.ref k2, .ref g1, .int 7, .ref g2, .int 2147483647])), (g1, .inl (G.2.1 4, 37, .inr (.inr (.inr (.inr (dcl d)))))), ((d 6), .inr (2, [.int 6, .int 35, .int (-1), .int 0, .int (-1), .int 0, .int 0, .ref (z 24), .ref (z 25), .ref (d 0), .long 1, .ref (z 26), .ref (z 27)]))]) := by
  intro sz
  refine Met.ofW (cc := cX9_isAbove) (maxL := 3) (ret := (some .boolean)) (by decide) rfl ?_
  intro p e s m args below meth c s₁ B hml hv
  obtain ⟨rfl, hsz, hP, hD0, hE, hX⟩ := hv
  have hx := B.exec
  have hb := B.bytes
  have hr := B.returns
  have hts := atoms_spec (ws := Cond.code yX9_isAbove cX9_isAbove 3 (some .boolean) :: pw) B.pre
  have hq : ∀ w ∈ pw, w.before _ s = true := fun w h => hts w (List.mem_cons_of_mem _ h)
  have hown : s.vm.findClass RX9 = some m.cls := findClass_of_methodNamed B.named
  have hlocks := B.notSynchronized
  subst hsz
  have hD := hD0.self (sz := s.heap.size)
  have hA : ∀ q : Nat, s.heap.size ≤ q → va_A [(g0, .inr (6, [.ref k2, .ref g1, .int 7, .ref g2, .int 2147483647])), (g1, .inl (G.2.1 4, 37, .inr (.inr (.inr (.inr (dcl d)))))), ((d 6), .inr (2, [.int 6, .int 35, .int (-1), .int 0, .int (-1), .int 0, .int 0, .ref (z 24), .ref (z 25), .ref (d 0), .long 1, .ref (z 26), .ref (z 27)]))] s.heap.size q := fun q h => Or.inr h
  have hP : va_P G.1 pCl [(g0, .inr (6, [.ref k2, .ref g1, .int 7, .ref g2, .int 2147483647])), (g1, .inl (G.2.1 4, 37, .inr (.inr (.inr (.inr (dcl d)))))), ((d 6), .inr (2, [.int 6, .int 35, .int (-1), .int 0, .int (-1), .int 0, .int 0, .ref (z 24), .ref (z 25), .ref (d 0), .long 1, .ref (z 26), .ref (z 27)]))] s.heap := hP
  generalize va_A [(g0, .inr (6, [.ref k2, .ref g1, .int 7, .ref g2, .int 2147483647])), (g1, .inl (G.2.1 4, 37, .inr (.inr (.inr (.inr (dcl d)))))), ((d 6), .inr (2, [.int 6, .int 35, .int (-1), .int 0, .int (-1), .int 0, .int 0, .ref (z 24), .ref (z 25), .ref (d 0), .long 1, .ref (z 26), .ref (z 27)]))] s.heap.size = A at hD hE hA ⊢
  have hS : va_S A s.heap s.heap [] := va_S.rf
  have hl := lv_entry ([.ref g0, .int 1, .int 6]) (n := 3) (Nat.le_of_ble_eq_true rfl)
  rw [lg_entry_eq]
  generalize (lg_sl ([.ref g0, .int 1, .int 6]) ++ List.replicate (3 - (lg_sl ([.ref g0, .int 1, .int 6])).length) Slot.unset).toArray = ls at hl ⊢
  have hl : lv_has ls 3 [(0, .ref g0), (1, .int 1), (2, .int 6)] := hl
  refine lv_iload_n hx hb dX9_isAbove_0 rfl (lv_at hl 1 rfl) ?_
  refine lv_if_lt (tgt := 46) hx hb dX9_isAbove_1 (by decide) (fun c1 => absurd c1 (by decide)) (fun c1 => ?_)
  refine lv_iload_n hx hb dX9_isAbove_4 rfl (lv_at hl 1 rfl) ?_
  refine lv_aload_n hx hb dX9_isAbove_5 rfl (lv_at hl 0 rfl) ?_
  refine va_get (D := G.1) (ci := 6) (v := .int 7) (C := RX9) (T := TX9) (N := 5) hx hb hq pin_wsX90 hown hE.1.1 hP 0 rfl rfl 2 (by decide) (hq _ pw_137) (fun _ h9 => h9) rfl dX9_isAbove_6 ?_
  refine lv_icmp_ge (tgt := 46) hx hb dX9_isAbove_9 (by decide) (fun c2 => absurd c2 (by decide)) (fun c2 => ?_)
  refine lv_iload_n hx hb dX9_isAbove_12 rfl (lv_at hl 2 rfl) ?_
  refine lv_if_lt (tgt := 46) hx hb dX9_isAbove_13 (by decide) (fun c3 => absurd c3 (by decide)) (fun c3 => ?_)
  refine lv_iload_n hx hb dX9_isAbove_16 rfl (lv_at hl 2 rfl) ?_
  refine lv_aload_n hx hb dX9_isAbove_17 rfl (lv_at hl 0 rfl) ?_
  refine va_get (D := G.1) (ci := 6) (v := .int 7) (C := RX9) (T := TX9) (N := 5) hx hb hq pin_wsX90 hown hE.1.1 hP 0 rfl rfl 2 (by decide) (hq _ pw_137) (fun _ h9 => h9) rfl dX9_isAbove_18 ?_
  refine lv_icmp_ge (tgt := 46) hx hb dX9_isAbove_21 (by decide) (fun c4 => absurd c4 (by decide)) (fun c4 => ?_)
  refine lv_aload_n hx hb dX9_isAbove_24 rfl (lv_at hl 0 rfl) ?_
  refine va_get (D := G.1) (ci := 6) (v := .ref g1) (C := RX9) (T := TX9) (N := 5) hx hb hq pin_wsX90 hown hE.1.1 hP 0 rfl rfl 1 (by decide) (hq _ pw_132) (fun _ h9 => h9) rfl dX9_isAbove_25 ?_
  refine lv_iload_n hx hb dX9_isAbove_28 rfl (lv_at hl 2 rfl) ?_
  refine va_aldq hx hb hE.1.1 hP 1 4 rfl rfl (by unfold vp_in; decide) dX9_isAbove_29 ?_
  refine W.eq (g2 := F0 m 30 ls [.ref (d 6)]) rfl ?_
  refine va_get (D := G.1) (ci := 2) (v := .long 1) (C := RX2) (T := TX2) (N := 13) hx hb hq pin_wsX20 hown hE.1.1 hP 2 rfl rfl 10 (by decide) (hq _ pw_153) (fun _ h9 => h9) rfl dX9_isAbove_30 ?_
  refine lv_iload_n hx hb dX9_isAbove_33 rfl (lv_at hl 1 rfl) ?_
  refine lv_lushr (v := 0) hx hb dX9_isAbove_34 (by decide) ?_
  refine lv_lconst (v := 1) hx hb dX9_isAbove_35 (by decide) ?_
  refine lv_land hx hb dX9_isAbove_36 ?_
  refine lv_topl (fun x5 e6 => ?_)
  obtain rfl : x5 = 0 := e6.trans (by decide)
  refine lv_lconst (v := 1) hx hb dX9_isAbove_37 (by decide) ?_
  refine W.lcmp hx hb dX9_isAbove_38 ?_
  refine lv_topi (fun x7 e8 => ?_)
  obtain rfl : x7 = (-1) := e8.trans (by decide)
  refine lv_if_ne (tgt := 46) hx hb dX9_isAbove_39 (by decide) (fun c9 => ?_) (fun c9 => absurd c9 (by decide))
  refine lv_iconst (v := 0) hx hb dX9_isAbove_46 (by decide) ?_
  refine W.widen (k := 0) (n := 0) (Nat.le_of_ble_eq_true rfl) (Nat.le_of_ble_eq_true rfl) ?_
  exact W.zret (v := 0) hx hb hr rfl (fun t ht hW => ⟨⟨_, ((fun _ => 0), (fun _ => fun _ => 0), (fun _ => fun _ => 0)), rfl, rfl, by rw [ht]; exact hP.sub [0, 1, 2] rfl, hD.sub [0, 1, 2] (by decide) rfl⟩, hS.F ht⟩) hS.2.2 dX9_isAbove_47
set_option maxHeartbeats 1000000 in
set_option maxRecDepth 100000 in
/-- isAbove(2, 0) -/
theorem c_isAbove_2_0 (l : Launch) (G : pT) (g0 : Nat) (g1 : Nat) (g2 : Nat) (d : Nat → Nat) (z : Nat → Nat) (k2 : Nat) : PM l G pX0 yX9_isAbove cX9_isAbove 3 (some .boolean) ({ frames := 2, cells := 0, slots := 0, locals := 60 }) [.ref g0, .int 2, .int 0] [(g0, .inr (6, [.ref k2, .ref g1, .int 7, .ref g2, .int 2147483647])), (g1, .inl (G.2.1 4, 37, .inr (.inr (.inr (.inr (dcl d)))))), ((d 0), .inr (2, [.int 0, .int 29, .int (-1), .int 0, .int (-1), .int 0, .int 0, .ref (z 0), .ref (z 1), .null, .long 0, .ref (z 2), .ref (z 3)]))] (fun (v : Option Value) (u : (Nat → Nat) × (Nat → Nat → Int32) × (Nat → Nat → Int64)) => v = some (.int 0)) (fun u => [(g0, .inr (6, [.ref k2, .ref g1, .int 7, .ref g2, .int 2147483647])), (g1, .inl (G.2.1 4, 37, .inr (.inr (.inr (.inr (dcl d)))))), ((d 0), .inr (2, [.int 0, .int 29, .int (-1), .int 0, .int (-1), .int 0, .int 0, .ref (z 0), .ref (z 1), .null, .long 0, .ref (z 2), .ref (z 3)]))]) := by
  intro sz
  refine Met.ofW (cc := cX9_isAbove) (maxL := 3) (ret := (some .boolean)) (by decide) rfl ?_
  intro p e s m args below meth c s₁ B hml hv
  obtain ⟨rfl, hsz, hP, hD0, hE, hX⟩ := hv
  have hx := B.exec
  have hb := B.bytes
  have hr := B.returns
  have hts := atoms_spec (ws := Cond.code yX9_isAbove cX9_isAbove 3 (some .boolean) :: pw) B.pre
  have hq : ∀ w ∈ pw, w.before _ s = true := fun w h => hts w (List.mem_cons_of_mem _ h)
  have hown : s.vm.findClass RX9 = some m.cls := findClass_of_methodNamed B.named
  have hlocks := B.notSynchronized
  subst hsz
  have hD := hD0.self (sz := s.heap.size)
  have hA : ∀ q : Nat, s.heap.size ≤ q → va_A [(g0, .inr (6, [.ref k2, .ref g1, .int 7, .ref g2, .int 2147483647])), (g1, .inl (G.2.1 4, 37, .inr (.inr (.inr (.inr (dcl d)))))), ((d 0), .inr (2, [.int 0, .int 29, .int (-1), .int 0, .int (-1), .int 0, .int 0, .ref (z 0), .ref (z 1), .null, .long 0, .ref (z 2), .ref (z 3)]))] s.heap.size q := fun q h => Or.inr h
  have hP : va_P G.1 pCl [(g0, .inr (6, [.ref k2, .ref g1, .int 7, .ref g2, .int 2147483647])), (g1, .inl (G.2.1 4, 37, .inr (.inr (.inr (.inr (dcl d)))))), ((d 0), .inr (2, [.int 0, .int 29, .int (-1), .int 0, .int (-1), .int 0, .int 0, .ref (z 0), .ref (z 1), .null, .long 0, .ref (z 2), .ref (z 3)]))] s.heap := hP
  generalize va_A [(g0, .inr (6, [.ref k2, .ref g1, .int 7, .ref g2, .int 2147483647])), (g1, .inl (G.2.1 4, 37, .inr (.inr (.inr (.inr (dcl d)))))), ((d 0), .inr (2, [.int 0, .int 29, .int (-1), .int 0, .int (-1), .int 0, .int 0, .ref (z 0), .ref (z 1), .null, .long 0, .ref (z 2), .ref (z 3)]))] s.heap.size = A at hD hE hA ⊢
  have hS : va_S A s.heap s.heap [] := va_S.rf
  have hl := lv_entry ([.ref g0, .int 2, .int 0]) (n := 3) (Nat.le_of_ble_eq_true rfl)
  rw [lg_entry_eq]
  generalize (lg_sl ([.ref g0, .int 2, .int 0]) ++ List.replicate (3 - (lg_sl ([.ref g0, .int 2, .int 0])).length) Slot.unset).toArray = ls at hl ⊢
  have hl : lv_has ls 3 [(0, .ref g0), (1, .int 2), (2, .int 0)] := hl
  refine lv_iload_n hx hb dX9_isAbove_0 rfl (lv_at hl 1 rfl) ?_
  refine lv_if_lt (tgt := 46) hx hb dX9_isAbove_1 (by decide) (fun c1 => absurd c1 (by decide)) (fun c1 => ?_)
  refine lv_iload_n hx hb dX9_isAbove_4 rfl (lv_at hl 1 rfl) ?_
  refine lv_aload_n hx hb dX9_isAbove_5 rfl (lv_at hl 0 rfl) ?_
  refine va_get (D := G.1) (ci := 6) (v := .int 7) (C := RX9) (T := TX9) (N := 5) hx hb hq pin_wsX90 hown hE.1.1 hP 0 rfl rfl 2 (by decide) (hq _ pw_137) (fun _ h9 => h9) rfl dX9_isAbove_6 ?_
  refine lv_icmp_ge (tgt := 46) hx hb dX9_isAbove_9 (by decide) (fun c2 => absurd c2 (by decide)) (fun c2 => ?_)
  refine lv_iload_n hx hb dX9_isAbove_12 rfl (lv_at hl 2 rfl) ?_
  refine lv_if_lt (tgt := 46) hx hb dX9_isAbove_13 (by decide) (fun c3 => absurd c3 (by decide)) (fun c3 => ?_)
  refine lv_iload_n hx hb dX9_isAbove_16 rfl (lv_at hl 2 rfl) ?_
  refine lv_aload_n hx hb dX9_isAbove_17 rfl (lv_at hl 0 rfl) ?_
  refine va_get (D := G.1) (ci := 6) (v := .int 7) (C := RX9) (T := TX9) (N := 5) hx hb hq pin_wsX90 hown hE.1.1 hP 0 rfl rfl 2 (by decide) (hq _ pw_137) (fun _ h9 => h9) rfl dX9_isAbove_18 ?_
  refine lv_icmp_ge (tgt := 46) hx hb dX9_isAbove_21 (by decide) (fun c4 => absurd c4 (by decide)) (fun c4 => ?_)
  refine lv_aload_n hx hb dX9_isAbove_24 rfl (lv_at hl 0 rfl) ?_
  refine va_get (D := G.1) (ci := 6) (v := .ref g1) (C := RX9) (T := TX9) (N := 5) hx hb hq pin_wsX90 hown hE.1.1 hP 0 rfl rfl 1 (by decide) (hq _ pw_132) (fun _ h9 => h9) rfl dX9_isAbove_25 ?_
  refine lv_iload_n hx hb dX9_isAbove_28 rfl (lv_at hl 2 rfl) ?_
  refine va_aldq hx hb hE.1.1 hP 1 4 rfl rfl (by unfold vp_in; decide) dX9_isAbove_29 ?_
  refine W.eq (g2 := F0 m 30 ls [.ref (d 0)]) rfl ?_
  refine va_get (D := G.1) (ci := 2) (v := .long 0) (C := RX2) (T := TX2) (N := 13) hx hb hq pin_wsX20 hown hE.1.1 hP 2 rfl rfl 10 (by decide) (hq _ pw_153) (fun _ h9 => h9) rfl dX9_isAbove_30 ?_
  refine lv_iload_n hx hb dX9_isAbove_33 rfl (lv_at hl 1 rfl) ?_
  refine lv_lushr (v := 0) hx hb dX9_isAbove_34 (by decide) ?_
  refine lv_lconst (v := 1) hx hb dX9_isAbove_35 (by decide) ?_
  refine lv_land hx hb dX9_isAbove_36 ?_
  refine lv_topl (fun x5 e6 => ?_)
  obtain rfl : x5 = 0 := e6.trans (by decide)
  refine lv_lconst (v := 1) hx hb dX9_isAbove_37 (by decide) ?_
  refine W.lcmp hx hb dX9_isAbove_38 ?_
  refine lv_topi (fun x7 e8 => ?_)
  obtain rfl : x7 = (-1) := e8.trans (by decide)
  refine lv_if_ne (tgt := 46) hx hb dX9_isAbove_39 (by decide) (fun c9 => ?_) (fun c9 => absurd c9 (by decide))
  refine lv_iconst (v := 0) hx hb dX9_isAbove_46 (by decide) ?_
  refine W.widen (k := 0) (n := 0) (Nat.le_of_ble_eq_true rfl) (Nat.le_of_ble_eq_true rfl) ?_
  exact W.zret (v := 0) hx hb hr rfl (fun t ht hW => ⟨⟨_, ((fun _ => 0), (fun _ => fun _ => 0), (fun _ => fun _ => 0)), rfl, rfl, by rw [ht]; exact hP.sub [0, 1, 2] rfl, hD.sub [0, 1, 2] (by decide) rfl⟩, hS.F ht⟩) hS.2.2 dX9_isAbove_47
set_option maxHeartbeats 1000000 in
set_option maxRecDepth 100000 in
/-- isAbove(2, 1) -/
theorem c_isAbove_2_1 (l : Launch) (G : pT) (g0 : Nat) (g1 : Nat) (g2 : Nat) (d : Nat → Nat) (z : Nat → Nat) (k2 : Nat) : PM l G pX0 yX9_isAbove cX9_isAbove 3 (some .boolean) ({ frames := 2, cells := 0, slots := 0, locals := 60 }) [.ref g0, .int 2, .int 1] [(g0, .inr (6, [.ref k2, .ref g1, .int 7, .ref g2, .int 2147483647])), (g1, .inl (G.2.1 4, 37, .inr (.inr (.inr (.inr (dcl d)))))), ((d 1), .inr (2, [.int 1, .int 30, .int (-1), .int 0, .int (-1), .int 0, .int 0, .ref (z 4), .ref (z 5), .ref (d 0), .long 1, .ref (z 6), .ref (z 7)]))] (fun (v : Option Value) (u : (Nat → Nat) × (Nat → Nat → Int32) × (Nat → Nat → Int64)) => v = some (.int 0)) (fun u => [(g0, .inr (6, [.ref k2, .ref g1, .int 7, .ref g2, .int 2147483647])), (g1, .inl (G.2.1 4, 37, .inr (.inr (.inr (.inr (dcl d)))))), ((d 1), .inr (2, [.int 1, .int 30, .int (-1), .int 0, .int (-1), .int 0, .int 0, .ref (z 4), .ref (z 5), .ref (d 0), .long 1, .ref (z 6), .ref (z 7)]))]) := by
  intro sz
  refine Met.ofW (cc := cX9_isAbove) (maxL := 3) (ret := (some .boolean)) (by decide) rfl ?_
  intro p e s m args below meth c s₁ B hml hv
  obtain ⟨rfl, hsz, hP, hD0, hE, hX⟩ := hv
  have hx := B.exec
  have hb := B.bytes
  have hr := B.returns
  have hts := atoms_spec (ws := Cond.code yX9_isAbove cX9_isAbove 3 (some .boolean) :: pw) B.pre
  have hq : ∀ w ∈ pw, w.before _ s = true := fun w h => hts w (List.mem_cons_of_mem _ h)
  have hown : s.vm.findClass RX9 = some m.cls := findClass_of_methodNamed B.named
  have hlocks := B.notSynchronized
  subst hsz
  have hD := hD0.self (sz := s.heap.size)
  have hA : ∀ q : Nat, s.heap.size ≤ q → va_A [(g0, .inr (6, [.ref k2, .ref g1, .int 7, .ref g2, .int 2147483647])), (g1, .inl (G.2.1 4, 37, .inr (.inr (.inr (.inr (dcl d)))))), ((d 1), .inr (2, [.int 1, .int 30, .int (-1), .int 0, .int (-1), .int 0, .int 0, .ref (z 4), .ref (z 5), .ref (d 0), .long 1, .ref (z 6), .ref (z 7)]))] s.heap.size q := fun q h => Or.inr h
  have hP : va_P G.1 pCl [(g0, .inr (6, [.ref k2, .ref g1, .int 7, .ref g2, .int 2147483647])), (g1, .inl (G.2.1 4, 37, .inr (.inr (.inr (.inr (dcl d)))))), ((d 1), .inr (2, [.int 1, .int 30, .int (-1), .int 0, .int (-1), .int 0, .int 0, .ref (z 4), .ref (z 5), .ref (d 0), .long 1, .ref (z 6), .ref (z 7)]))] s.heap := hP
  generalize va_A [(g0, .inr (6, [.ref k2, .ref g1, .int 7, .ref g2, .int 2147483647])), (g1, .inl (G.2.1 4, 37, .inr (.inr (.inr (.inr (dcl d)))))), ((d 1), .inr (2, [.int 1, .int 30, .int (-1), .int 0, .int (-1), .int 0, .int 0, .ref (z 4), .ref (z 5), .ref (d 0), .long 1, .ref (z 6), .ref (z 7)]))] s.heap.size = A at hD hE hA ⊢
  have hS : va_S A s.heap s.heap [] := va_S.rf
  have hl := lv_entry ([.ref g0, .int 2, .int 1]) (n := 3) (Nat.le_of_ble_eq_true rfl)
  rw [lg_entry_eq]
  generalize (lg_sl ([.ref g0, .int 2, .int 1]) ++ List.replicate (3 - (lg_sl ([.ref g0, .int 2, .int 1])).length) Slot.unset).toArray = ls at hl ⊢
  have hl : lv_has ls 3 [(0, .ref g0), (1, .int 2), (2, .int 1)] := hl
  refine lv_iload_n hx hb dX9_isAbove_0 rfl (lv_at hl 1 rfl) ?_
  refine lv_if_lt (tgt := 46) hx hb dX9_isAbove_1 (by decide) (fun c1 => absurd c1 (by decide)) (fun c1 => ?_)
  refine lv_iload_n hx hb dX9_isAbove_4 rfl (lv_at hl 1 rfl) ?_
  refine lv_aload_n hx hb dX9_isAbove_5 rfl (lv_at hl 0 rfl) ?_
  refine va_get (D := G.1) (ci := 6) (v := .int 7) (C := RX9) (T := TX9) (N := 5) hx hb hq pin_wsX90 hown hE.1.1 hP 0 rfl rfl 2 (by decide) (hq _ pw_137) (fun _ h9 => h9) rfl dX9_isAbove_6 ?_
  refine lv_icmp_ge (tgt := 46) hx hb dX9_isAbove_9 (by decide) (fun c2 => absurd c2 (by decide)) (fun c2 => ?_)
  refine lv_iload_n hx hb dX9_isAbove_12 rfl (lv_at hl 2 rfl) ?_
  refine lv_if_lt (tgt := 46) hx hb dX9_isAbove_13 (by decide) (fun c3 => absurd c3 (by decide)) (fun c3 => ?_)
  refine lv_iload_n hx hb dX9_isAbove_16 rfl (lv_at hl 2 rfl) ?_
  refine lv_aload_n hx hb dX9_isAbove_17 rfl (lv_at hl 0 rfl) ?_
  refine va_get (D := G.1) (ci := 6) (v := .int 7) (C := RX9) (T := TX9) (N := 5) hx hb hq pin_wsX90 hown hE.1.1 hP 0 rfl rfl 2 (by decide) (hq _ pw_137) (fun _ h9 => h9) rfl dX9_isAbove_18 ?_
  refine lv_icmp_ge (tgt := 46) hx hb dX9_isAbove_21 (by decide) (fun c4 => absurd c4 (by decide)) (fun c4 => ?_)
  refine lv_aload_n hx hb dX9_isAbove_24 rfl (lv_at hl 0 rfl) ?_
  refine va_get (D := G.1) (ci := 6) (v := .ref g1) (C := RX9) (T := TX9) (N := 5) hx hb hq pin_wsX90 hown hE.1.1 hP 0 rfl rfl 1 (by decide) (hq _ pw_132) (fun _ h9 => h9) rfl dX9_isAbove_25 ?_
  refine lv_iload_n hx hb dX9_isAbove_28 rfl (lv_at hl 2 rfl) ?_
  refine va_aldq hx hb hE.1.1 hP 1 4 rfl rfl (by unfold vp_in; decide) dX9_isAbove_29 ?_
  refine W.eq (g2 := F0 m 30 ls [.ref (d 1)]) rfl ?_
  refine va_get (D := G.1) (ci := 2) (v := .long 1) (C := RX2) (T := TX2) (N := 13) hx hb hq pin_wsX20 hown hE.1.1 hP 2 rfl rfl 10 (by decide) (hq _ pw_153) (fun _ h9 => h9) rfl dX9_isAbove_30 ?_
  refine lv_iload_n hx hb dX9_isAbove_33 rfl (lv_at hl 1 rfl) ?_
  refine lv_lushr (v := 0) hx hb dX9_isAbove_34 (by decide) ?_
  refine lv_lconst (v := 1) hx hb dX9_isAbove_35 (by decide) ?_
  refine lv_land hx hb dX9_isAbove_36 ?_
  refine lv_topl (fun x5 e6 => ?_)
  obtain rfl : x5 = 0 := e6.trans (by decide)
  refine lv_lconst (v := 1) hx hb dX9_isAbove_37 (by decide) ?_
  refine W.lcmp hx hb dX9_isAbove_38 ?_
  refine lv_topi (fun x7 e8 => ?_)
  obtain rfl : x7 = (-1) := e8.trans (by decide)
  refine lv_if_ne (tgt := 46) hx hb dX9_isAbove_39 (by decide) (fun c9 => ?_) (fun c9 => absurd c9 (by decide))
  refine lv_iconst (v := 0) hx hb dX9_isAbove_46 (by decide) ?_
  refine W.widen (k := 0) (n := 0) (Nat.le_of_ble_eq_true rfl) (Nat.le_of_ble_eq_true rfl) ?_
  exact W.zret (v := 0) hx hb hr rfl (fun t ht hW => ⟨⟨_, ((fun _ => 0), (fun _ => fun _ => 0), (fun _ => fun _ => 0)), rfl, rfl, by rw [ht]; exact hP.sub [0, 1, 2] rfl, hD.sub [0, 1, 2] (by decide) rfl⟩, hS.F ht⟩) hS.2.2 dX9_isAbove_47
set_option maxHeartbeats 1000000 in
set_option maxRecDepth 100000 in
/-- isAbove(2, 2) -/
theorem c_isAbove_2_2 (l : Launch) (G : pT) (g0 : Nat) (g1 : Nat) (g2 : Nat) (d : Nat → Nat) (z : Nat → Nat) (k2 : Nat) : PM l G pX0 yX9_isAbove cX9_isAbove 3 (some .boolean) ({ frames := 2, cells := 0, slots := 0, locals := 60 }) [.ref g0, .int 2, .int 2] [(g0, .inr (6, [.ref k2, .ref g1, .int 7, .ref g2, .int 2147483647])), (g1, .inl (G.2.1 4, 37, .inr (.inr (.inr (.inr (dcl d)))))), ((d 2), .inr (2, [.int 2, .int 31, .int (-1), .int 0, .int (-1), .int 0, .int 0, .ref (z 8), .ref (z 9), .ref (d 0), .long 1, .ref (z 10), .ref (z 11)]))] (fun (v : Option Value) (u : (Nat → Nat) × (Nat → Nat → Int32) × (Nat → Nat → Int64)) => v = some (.int 0)) (fun u => [(g0, .inr (6, [.ref k2, .ref g1, .int 7, .ref g2, .int 2147483647])), (g1, .inl (G.2.1 4, 37, .inr (.inr (.inr (.inr (dcl d)))))), ((d 2), .inr (2, [.int 2, .int 31, .int (-1), .int 0, .int (-1), .int 0, .int 0, .ref (z 8), .ref (z 9), .ref (d 0), .long 1, .ref (z 10), .ref (z 11)]))]) := by
  intro sz
  refine Met.ofW (cc := cX9_isAbove) (maxL := 3) (ret := (some .boolean)) (by decide) rfl ?_
  intro p e s m args below meth c s₁ B hml hv
  obtain ⟨rfl, hsz, hP, hD0, hE, hX⟩ := hv
  have hx := B.exec
  have hb := B.bytes
  have hr := B.returns
  have hts := atoms_spec (ws := Cond.code yX9_isAbove cX9_isAbove 3 (some .boolean) :: pw) B.pre
  have hq : ∀ w ∈ pw, w.before _ s = true := fun w h => hts w (List.mem_cons_of_mem _ h)
  have hown : s.vm.findClass RX9 = some m.cls := findClass_of_methodNamed B.named
  have hlocks := B.notSynchronized
  subst hsz
  have hD := hD0.self (sz := s.heap.size)
  have hA : ∀ q : Nat, s.heap.size ≤ q → va_A [(g0, .inr (6, [.ref k2, .ref g1, .int 7, .ref g2, .int 2147483647])), (g1, .inl (G.2.1 4, 37, .inr (.inr (.inr (.inr (dcl d)))))), ((d 2), .inr (2, [.int 2, .int 31, .int (-1), .int 0, .int (-1), .int 0, .int 0, .ref (z 8), .ref (z 9), .ref (d 0), .long 1, .ref (z 10), .ref (z 11)]))] s.heap.size q := fun q h => Or.inr h
  have hP : va_P G.1 pCl [(g0, .inr (6, [.ref k2, .ref g1, .int 7, .ref g2, .int 2147483647])), (g1, .inl (G.2.1 4, 37, .inr (.inr (.inr (.inr (dcl d)))))), ((d 2), .inr (2, [.int 2, .int 31, .int (-1), .int 0, .int (-1), .int 0, .int 0, .ref (z 8), .ref (z 9), .ref (d 0), .long 1, .ref (z 10), .ref (z 11)]))] s.heap := hP
  generalize va_A [(g0, .inr (6, [.ref k2, .ref g1, .int 7, .ref g2, .int 2147483647])), (g1, .inl (G.2.1 4, 37, .inr (.inr (.inr (.inr (dcl d)))))), ((d 2), .inr (2, [.int 2, .int 31, .int (-1), .int 0, .int (-1), .int 0, .int 0, .ref (z 8), .ref (z 9), .ref (d 0), .long 1, .ref (z 10), .ref (z 11)]))] s.heap.size = A at hD hE hA ⊢
  have hS : va_S A s.heap s.heap [] := va_S.rf
  have hl := lv_entry ([.ref g0, .int 2, .int 2]) (n := 3) (Nat.le_of_ble_eq_true rfl)
  rw [lg_entry_eq]
  generalize (lg_sl ([.ref g0, .int 2, .int 2]) ++ List.replicate (3 - (lg_sl ([.ref g0, .int 2, .int 2])).length) Slot.unset).toArray = ls at hl ⊢
  have hl : lv_has ls 3 [(0, .ref g0), (1, .int 2), (2, .int 2)] := hl
  refine lv_iload_n hx hb dX9_isAbove_0 rfl (lv_at hl 1 rfl) ?_
  refine lv_if_lt (tgt := 46) hx hb dX9_isAbove_1 (by decide) (fun c1 => absurd c1 (by decide)) (fun c1 => ?_)
  refine lv_iload_n hx hb dX9_isAbove_4 rfl (lv_at hl 1 rfl) ?_
  refine lv_aload_n hx hb dX9_isAbove_5 rfl (lv_at hl 0 rfl) ?_
  refine va_get (D := G.1) (ci := 6) (v := .int 7) (C := RX9) (T := TX9) (N := 5) hx hb hq pin_wsX90 hown hE.1.1 hP 0 rfl rfl 2 (by decide) (hq _ pw_137) (fun _ h9 => h9) rfl dX9_isAbove_6 ?_
  refine lv_icmp_ge (tgt := 46) hx hb dX9_isAbove_9 (by decide) (fun c2 => absurd c2 (by decide)) (fun c2 => ?_)
  refine lv_iload_n hx hb dX9_isAbove_12 rfl (lv_at hl 2 rfl) ?_
  refine lv_if_lt (tgt := 46) hx hb dX9_isAbove_13 (by decide) (fun c3 => absurd c3 (by decide)) (fun c3 => ?_)
  refine lv_iload_n hx hb dX9_isAbove_16 rfl (lv_at hl 2 rfl) ?_
  refine lv_aload_n hx hb dX9_isAbove_17 rfl (lv_at hl 0 rfl) ?_
  refine va_get (D := G.1) (ci := 6) (v := .int 7) (C := RX9) (T := TX9) (N := 5) hx hb hq pin_wsX90 hown hE.1.1 hP 0 rfl rfl 2 (by decide) (hq _ pw_137) (fun _ h9 => h9) rfl dX9_isAbove_18 ?_
  refine lv_icmp_ge (tgt := 46) hx hb dX9_isAbove_21 (by decide) (fun c4 => absurd c4 (by decide)) (fun c4 => ?_)
  refine lv_aload_n hx hb dX9_isAbove_24 rfl (lv_at hl 0 rfl) ?_
  refine va_get (D := G.1) (ci := 6) (v := .ref g1) (C := RX9) (T := TX9) (N := 5) hx hb hq pin_wsX90 hown hE.1.1 hP 0 rfl rfl 1 (by decide) (hq _ pw_132) (fun _ h9 => h9) rfl dX9_isAbove_25 ?_
  refine lv_iload_n hx hb dX9_isAbove_28 rfl (lv_at hl 2 rfl) ?_
  refine va_aldq hx hb hE.1.1 hP 1 4 rfl rfl (by unfold vp_in; decide) dX9_isAbove_29 ?_
  refine W.eq (g2 := F0 m 30 ls [.ref (d 2)]) rfl ?_
  refine va_get (D := G.1) (ci := 2) (v := .long 1) (C := RX2) (T := TX2) (N := 13) hx hb hq pin_wsX20 hown hE.1.1 hP 2 rfl rfl 10 (by decide) (hq _ pw_153) (fun _ h9 => h9) rfl dX9_isAbove_30 ?_
  refine lv_iload_n hx hb dX9_isAbove_33 rfl (lv_at hl 1 rfl) ?_
  refine lv_lushr (v := 0) hx hb dX9_isAbove_34 (by decide) ?_
  refine lv_lconst (v := 1) hx hb dX9_isAbove_35 (by decide) ?_
  refine lv_land hx hb dX9_isAbove_36 ?_
  refine lv_topl (fun x5 e6 => ?_)
  obtain rfl : x5 = 0 := e6.trans (by decide)
  refine lv_lconst (v := 1) hx hb dX9_isAbove_37 (by decide) ?_
  refine W.lcmp hx hb dX9_isAbove_38 ?_
  refine lv_topi (fun x7 e8 => ?_)
  obtain rfl : x7 = (-1) := e8.trans (by decide)
  refine lv_if_ne (tgt := 46) hx hb dX9_isAbove_39 (by decide) (fun c9 => ?_) (fun c9 => absurd c9 (by decide))
  refine lv_iconst (v := 0) hx hb dX9_isAbove_46 (by decide) ?_
  refine W.widen (k := 0) (n := 0) (Nat.le_of_ble_eq_true rfl) (Nat.le_of_ble_eq_true rfl) ?_
  exact W.zret (v := 0) hx hb hr rfl (fun t ht hW => ⟨⟨_, ((fun _ => 0), (fun _ => fun _ => 0), (fun _ => fun _ => 0)), rfl, rfl, by rw [ht]; exact hP.sub [0, 1, 2] rfl, hD.sub [0, 1, 2] (by decide) rfl⟩, hS.F ht⟩) hS.2.2 dX9_isAbove_47
set_option maxHeartbeats 1000000 in
set_option maxRecDepth 100000 in
/-- isAbove(2, 3) -/
theorem c_isAbove_2_3 (l : Launch) (G : pT) (g0 : Nat) (g1 : Nat) (g2 : Nat) (d : Nat → Nat) (z : Nat → Nat) (k2 : Nat) : PM l G pX0 yX9_isAbove cX9_isAbove 3 (some .boolean) ({ frames := 2, cells := 0, slots := 0, locals := 60 }) [.ref g0, .int 2, .int 3] [(g0, .inr (6, [.ref k2, .ref g1, .int 7, .ref g2, .int 2147483647])), (g1, .inl (G.2.1 4, 37, .inr (.inr (.inr (.inr (dcl d)))))), ((d 3), .inr (2, [.int 3, .int 32, .int (-1), .int 0, .int (-1), .int 0, .int 0, .ref (z 12), .ref (z 13), .ref (d 0), .long 1, .ref (z 14), .ref (z 15)]))] (fun (v : Option Value) (u : (Nat → Nat) × (Nat → Nat → Int32) × (Nat → Nat → Int64)) => v = some (.int 0)) (fun u => [(g0, .inr (6, [.ref k2, .ref g1, .int 7, .ref g2, .int 2147483647])), (g1, .inl (G.2.1 4, 37, .inr (.inr (.inr (.inr (dcl d)))))), ((d 3), .inr (2, [.int 3, .int 32, .int (-1), .int 0, .int (-1), .int 0, .int 0, .ref (z 12), .ref (z 13), .ref (d 0), .long 1, .ref (z 14), .ref (z 15)]))]) := by
  intro sz
  refine Met.ofW (cc := cX9_isAbove) (maxL := 3) (ret := (some .boolean)) (by decide) rfl ?_
  intro p e s m args below meth c s₁ B hml hv
  obtain ⟨rfl, hsz, hP, hD0, hE, hX⟩ := hv
  have hx := B.exec
  have hb := B.bytes
  have hr := B.returns
  have hts := atoms_spec (ws := Cond.code yX9_isAbove cX9_isAbove 3 (some .boolean) :: pw) B.pre
  have hq : ∀ w ∈ pw, w.before _ s = true := fun w h => hts w (List.mem_cons_of_mem _ h)
  have hown : s.vm.findClass RX9 = some m.cls := findClass_of_methodNamed B.named
  have hlocks := B.notSynchronized
  subst hsz
  have hD := hD0.self (sz := s.heap.size)
  have hA : ∀ q : Nat, s.heap.size ≤ q → va_A [(g0, .inr (6, [.ref k2, .ref g1, .int 7, .ref g2, .int 2147483647])), (g1, .inl (G.2.1 4, 37, .inr (.inr (.inr (.inr (dcl d)))))), ((d 3), .inr (2, [.int 3, .int 32, .int (-1), .int 0, .int (-1), .int 0, .int 0, .ref (z 12), .ref (z 13), .ref (d 0), .long 1, .ref (z 14), .ref (z 15)]))] s.heap.size q := fun q h => Or.inr h
  have hP : va_P G.1 pCl [(g0, .inr (6, [.ref k2, .ref g1, .int 7, .ref g2, .int 2147483647])), (g1, .inl (G.2.1 4, 37, .inr (.inr (.inr (.inr (dcl d)))))), ((d 3), .inr (2, [.int 3, .int 32, .int (-1), .int 0, .int (-1), .int 0, .int 0, .ref (z 12), .ref (z 13), .ref (d 0), .long 1, .ref (z 14), .ref (z 15)]))] s.heap := hP
  generalize va_A [(g0, .inr (6, [.ref k2, .ref g1, .int 7, .ref g2, .int 2147483647])), (g1, .inl (G.2.1 4, 37, .inr (.inr (.inr (.inr (dcl d)))))), ((d 3), .inr (2, [.int 3, .int 32, .int (-1), .int 0, .int (-1), .int 0, .int 0, .ref (z 12), .ref (z 13), .ref (d 0), .long 1, .ref (z 14), .ref (z 15)]))] s.heap.size = A at hD hE hA ⊢
  have hS : va_S A s.heap s.heap [] := va_S.rf
  have hl := lv_entry ([.ref g0, .int 2, .int 3]) (n := 3) (Nat.le_of_ble_eq_true rfl)
  rw [lg_entry_eq]
  generalize (lg_sl ([.ref g0, .int 2, .int 3]) ++ List.replicate (3 - (lg_sl ([.ref g0, .int 2, .int 3])).length) Slot.unset).toArray = ls at hl ⊢
  have hl : lv_has ls 3 [(0, .ref g0), (1, .int 2), (2, .int 3)] := hl
  refine lv_iload_n hx hb dX9_isAbove_0 rfl (lv_at hl 1 rfl) ?_
  refine lv_if_lt (tgt := 46) hx hb dX9_isAbove_1 (by decide) (fun c1 => absurd c1 (by decide)) (fun c1 => ?_)
  refine lv_iload_n hx hb dX9_isAbove_4 rfl (lv_at hl 1 rfl) ?_
  refine lv_aload_n hx hb dX9_isAbove_5 rfl (lv_at hl 0 rfl) ?_
  refine va_get (D := G.1) (ci := 6) (v := .int 7) (C := RX9) (T := TX9) (N := 5) hx hb hq pin_wsX90 hown hE.1.1 hP 0 rfl rfl 2 (by decide) (hq _ pw_137) (fun _ h9 => h9) rfl dX9_isAbove_6 ?_
  refine lv_icmp_ge (tgt := 46) hx hb dX9_isAbove_9 (by decide) (fun c2 => absurd c2 (by decide)) (fun c2 => ?_)
  refine lv_iload_n hx hb dX9_isAbove_12 rfl (lv_at hl 2 rfl) ?_
  refine lv_if_lt (tgt := 46) hx hb dX9_isAbove_13 (by decide) (fun c3 => absurd c3 (by decide)) (fun c3 => ?_)
  refine lv_iload_n hx hb dX9_isAbove_16 rfl (lv_at hl 2 rfl) ?_
  refine lv_aload_n hx hb dX9_isAbove_17 rfl (lv_at hl 0 rfl) ?_
  refine va_get (D := G.1) (ci := 6) (v := .int 7) (C := RX9) (T := TX9) (N := 5) hx hb hq pin_wsX90 hown hE.1.1 hP 0 rfl rfl 2 (by decide) (hq _ pw_137) (fun _ h9 => h9) rfl dX9_isAbove_18 ?_
  refine lv_icmp_ge (tgt := 46) hx hb dX9_isAbove_21 (by decide) (fun c4 => absurd c4 (by decide)) (fun c4 => ?_)
  refine lv_aload_n hx hb dX9_isAbove_24 rfl (lv_at hl 0 rfl) ?_
  refine va_get (D := G.1) (ci := 6) (v := .ref g1) (C := RX9) (T := TX9) (N := 5) hx hb hq pin_wsX90 hown hE.1.1 hP 0 rfl rfl 1 (by decide) (hq _ pw_132) (fun _ h9 => h9) rfl dX9_isAbove_25 ?_
  refine lv_iload_n hx hb dX9_isAbove_28 rfl (lv_at hl 2 rfl) ?_
  refine va_aldq hx hb hE.1.1 hP 1 4 rfl rfl (by unfold vp_in; decide) dX9_isAbove_29 ?_
  refine W.eq (g2 := F0 m 30 ls [.ref (d 3)]) rfl ?_
  refine va_get (D := G.1) (ci := 2) (v := .long 1) (C := RX2) (T := TX2) (N := 13) hx hb hq pin_wsX20 hown hE.1.1 hP 2 rfl rfl 10 (by decide) (hq _ pw_153) (fun _ h9 => h9) rfl dX9_isAbove_30 ?_
  refine lv_iload_n hx hb dX9_isAbove_33 rfl (lv_at hl 1 rfl) ?_
  refine lv_lushr (v := 0) hx hb dX9_isAbove_34 (by decide) ?_
  refine lv_lconst (v := 1) hx hb dX9_isAbove_35 (by decide) ?_
  refine lv_land hx hb dX9_isAbove_36 ?_
  refine lv_topl (fun x5 e6 => ?_)
  obtain rfl : x5 = 0 := e6.trans (by decide)
  refine lv_lconst (v := 1) hx hb dX9_isAbove_37 (by decide) ?_
  refine W.lcmp hx hb dX9_isAbove_38 ?_
  refine lv_topi (fun x7 e8 => ?_)
  obtain rfl : x7 = (-1) := e8.trans (by decide)
  refine lv_if_ne (tgt := 46) hx hb dX9_isAbove_39 (by decide) (fun c9 => ?_) (fun c9 => absurd c9 (by decide))
  refine lv_iconst (v := 0) hx hb dX9_isAbove_46 (by decide) ?_
  refine W.widen (k := 0) (n := 0) (Nat.le_of_ble_eq_true rfl) (Nat.le_of_ble_eq_true rfl) ?_
  exact W.zret (v := 0) hx hb hr rfl (fun t ht hW => ⟨⟨_, ((fun _ => 0), (fun _ => fun _ => 0), (fun _ => fun _ => 0)), rfl, rfl, by rw [ht]; exact hP.sub [0, 1, 2] rfl, hD.sub [0, 1, 2] (by decide) rfl⟩, hS.F ht⟩) hS.2.2 dX9_isAbove_47
set_option maxHeartbeats 1000000 in
set_option maxRecDepth 100000 in
/-- isAbove(2, 4) -/
theorem c_isAbove_2_4 (l : Launch) (G : pT) (g0 : Nat) (g1 : Nat) (g2 : Nat) (d : Nat → Nat) (z : Nat → Nat) (k2 : Nat) : PM l G pX0 yX9_isAbove cX9_isAbove 3 (some .boolean) ({ frames := 2, cells := 0, slots := 0, locals := 60 }) [.ref g0, .int 2, .int 4] [(g0, .inr (6, [.ref k2, .ref g1, .int 7, .ref g2, .int 2147483647])), (g1, .inl (G.2.1 4, 37, .inr (.inr (.inr (.inr (dcl d)))))), ((d 4), .inr (2, [.int 4, .int 33, .int (-1), .int 0, .int (-1), .int 0, .int 0, .ref (z 16), .ref (z 17), .ref (d 0), .long 1, .ref (z 18), .ref (z 19)]))] (fun (v : Option Value) (u : (Nat → Nat) × (Nat → Nat → Int32) × (Nat → Nat → Int64)) => v = some (.int 0)) (fun u => [(g0, .inr (6, [.ref k2, .ref g1, .int 7, .ref g2, .int 2147483647])), (g1, .inl (G.2.1 4, 37, .inr (.inr (.inr (.inr (dcl d)))))), ((d 4), .inr (2, [.int 4, .int 33, .int (-1), .int 0, .int (-1), .int 0, .int 0, .ref (z 16), .ref (z 17), .ref (d 0), .long 1, .ref (z 18), .ref (z 19)]))]) := by
  intro sz
  refine Met.ofW (cc := cX9_isAbove) (maxL := 3) (ret := (some .boolean)) (by decide) rfl ?_
  intro p e s m args below meth c s₁ B hml hv
  obtain ⟨rfl, hsz, hP, hD0, hE, hX⟩ := hv
  have hx := B.exec
  have hb := B.bytes
  have hr := B.returns
  have hts := atoms_spec (ws := Cond.code yX9_isAbove cX9_isAbove 3 (some .boolean) :: pw) B.pre
  have hq : ∀ w ∈ pw, w.before _ s = true := fun w h => hts w (List.mem_cons_of_mem _ h)
  have hown : s.vm.findClass RX9 = some m.cls := findClass_of_methodNamed B.named
  have hlocks := B.notSynchronized
  subst hsz
  have hD := hD0.self (sz := s.heap.size)
  have hA : ∀ q : Nat, s.heap.size ≤ q → va_A [(g0, .inr (6, [.ref k2, .ref g1, .int 7, .ref g2, .int 2147483647])), (g1, .inl (G.2.1 4, 37, .inr (.inr (.inr (.inr (dcl d)))))), ((d 4), .inr (2, [.int 4, .int 33, .int (-1), .int 0, .int (-1), .int 0, .int 0, .ref (z 16), .ref (z 17), .ref (d 0), .long 1, .ref (z 18), .ref (z 19)]))] s.heap.size q := fun q h => Or.inr h
  have hP : va_P G.1 pCl [(g0, .inr (6, [.ref k2, .ref g1, .int 7, .ref g2, .int 2147483647])), (g1, .inl (G.2.1 4, 37, .inr (.inr (.inr (.inr (dcl d)))))), ((d 4), .inr (2, [.int 4, .int 33, .int (-1), .int 0, .int (-1), .int 0, .int 0, .ref (z 16), .ref (z 17), .ref (d 0), .long 1, .ref (z 18), .ref (z 19)]))] s.heap := hP
  generalize va_A [(g0, .inr (6, [.ref k2, .ref g1, .int 7, .ref g2, .int 2147483647])), (g1, .inl (G.2.1 4, 37, .inr (.inr (.inr (.inr (dcl d)))))), ((d 4), .inr (2, [.int 4, .int 33, .int (-1), .int 0, .int (-1), .int 0, .int 0, .ref (z 16), .ref (z 17), .ref (d 0), .long 1, .ref (z 18), .ref (z 19)]))] s.heap.size = A at hD hE hA ⊢
  have hS : va_S A s.heap s.heap [] := va_S.rf
  have hl := lv_entry ([.ref g0, .int 2, .int 4]) (n := 3) (Nat.le_of_ble_eq_true rfl)
  rw [lg_entry_eq]
  generalize (lg_sl ([.ref g0, .int 2, .int 4]) ++ List.replicate (3 - (lg_sl ([.ref g0, .int 2, .int 4])).length) Slot.unset).toArray = ls at hl ⊢
  have hl : lv_has ls 3 [(0, .ref g0), (1, .int 2), (2, .int 4)] := hl
  refine lv_iload_n hx hb dX9_isAbove_0 rfl (lv_at hl 1 rfl) ?_
  refine lv_if_lt (tgt := 46) hx hb dX9_isAbove_1 (by decide) (fun c1 => absurd c1 (by decide)) (fun c1 => ?_)
  refine lv_iload_n hx hb dX9_isAbove_4 rfl (lv_at hl 1 rfl) ?_
  refine lv_aload_n hx hb dX9_isAbove_5 rfl (lv_at hl 0 rfl) ?_
  refine va_get (D := G.1) (ci := 6) (v := .int 7) (C := RX9) (T := TX9) (N := 5) hx hb hq pin_wsX90 hown hE.1.1 hP 0 rfl rfl 2 (by decide) (hq _ pw_137) (fun _ h9 => h9) rfl dX9_isAbove_6 ?_
  refine lv_icmp_ge (tgt := 46) hx hb dX9_isAbove_9 (by decide) (fun c2 => absurd c2 (by decide)) (fun c2 => ?_)
  refine lv_iload_n hx hb dX9_isAbove_12 rfl (lv_at hl 2 rfl) ?_
  refine lv_if_lt (tgt := 46) hx hb dX9_isAbove_13 (by decide) (fun c3 => absurd c3 (by decide)) (fun c3 => ?_)
  refine lv_iload_n hx hb dX9_isAbove_16 rfl (lv_at hl 2 rfl) ?_
  refine lv_aload_n hx hb dX9_isAbove_17 rfl (lv_at hl 0 rfl) ?_
  refine va_get (D := G.1) (ci := 6) (v := .int 7) (C := RX9) (T := TX9) (N := 5) hx hb hq pin_wsX90 hown hE.1.1 hP 0 rfl rfl 2 (by decide) (hq _ pw_137) (fun _ h9 => h9) rfl dX9_isAbove_18 ?_
  refine lv_icmp_ge (tgt := 46) hx hb dX9_isAbove_21 (by decide) (fun c4 => absurd c4 (by decide)) (fun c4 => ?_)
  refine lv_aload_n hx hb dX9_isAbove_24 rfl (lv_at hl 0 rfl) ?_
  refine va_get (D := G.1) (ci := 6) (v := .ref g1) (C := RX9) (T := TX9) (N := 5) hx hb hq pin_wsX90 hown hE.1.1 hP 0 rfl rfl 1 (by decide) (hq _ pw_132) (fun _ h9 => h9) rfl dX9_isAbove_25 ?_
  refine lv_iload_n hx hb dX9_isAbove_28 rfl (lv_at hl 2 rfl) ?_
  refine va_aldq hx hb hE.1.1 hP 1 4 rfl rfl (by unfold vp_in; decide) dX9_isAbove_29 ?_
  refine W.eq (g2 := F0 m 30 ls [.ref (d 4)]) rfl ?_
  refine va_get (D := G.1) (ci := 2) (v := .long 1) (C := RX2) (T := TX2) (N := 13) hx hb hq pin_wsX20 hown hE.1.1 hP 2 rfl rfl 10 (by decide) (hq _ pw_153) (fun _ h9 => h9) rfl dX9_isAbove_30 ?_
  refine lv_iload_n hx hb dX9_isAbove_33 rfl (lv_at hl 1 rfl) ?_
  refine lv_lushr (v := 0) hx hb dX9_isAbove_34 (by decide) ?_
  refine lv_lconst (v := 1) hx hb dX9_isAbove_35 (by decide) ?_
  refine lv_land hx hb dX9_isAbove_36 ?_
  refine lv_topl (fun x5 e6 => ?_)
  obtain rfl : x5 = 0 := e6.trans (by decide)
  refine lv_lconst (v := 1) hx hb dX9_isAbove_37 (by decide) ?_
  refine W.lcmp hx hb dX9_isAbove_38 ?_
  refine lv_topi (fun x7 e8 => ?_)
  obtain rfl : x7 = (-1) := e8.trans (by decide)
  refine lv_if_ne (tgt := 46) hx hb dX9_isAbove_39 (by decide) (fun c9 => ?_) (fun c9 => absurd c9 (by decide))
  refine lv_iconst (v := 0) hx hb dX9_isAbove_46 (by decide) ?_
  refine W.widen (k := 0) (n := 0) (Nat.le_of_ble_eq_true rfl) (Nat.le_of_ble_eq_true rfl) ?_
  exact W.zret (v := 0) hx hb hr rfl (fun t ht hW => ⟨⟨_, ((fun _ => 0), (fun _ => fun _ => 0), (fun _ => fun _ => 0)), rfl, rfl, by rw [ht]; exact hP.sub [0, 1, 2] rfl, hD.sub [0, 1, 2] (by decide) rfl⟩, hS.F ht⟩) hS.2.2 dX9_isAbove_47
set_option maxHeartbeats 1000000 in
set_option maxRecDepth 100000 in
/-- isAbove(2, 5) -/
theorem c_isAbove_2_5 (l : Launch) (G : pT) (g0 : Nat) (g1 : Nat) (g2 : Nat) (d : Nat → Nat) (z : Nat → Nat) (k2 : Nat) : PM l G pX0 yX9_isAbove cX9_isAbove 3 (some .boolean) ({ frames := 2, cells := 0, slots := 0, locals := 60 }) [.ref g0, .int 2, .int 5] [(g0, .inr (6, [.ref k2, .ref g1, .int 7, .ref g2, .int 2147483647])), (g1, .inl (G.2.1 4, 37, .inr (.inr (.inr (.inr (dcl d)))))), ((d 5), .inr (2, [.int 5, .int 34, .int (-1), .int 0, .int (-1), .int 0, .int 0, .ref (z 20), .ref (z 21), .ref (d 0), .long 1, .ref (z 22), .ref (z 23)]))] (fun (v : Option Value) (u : (Nat → Nat) × (Nat → Nat → Int32) × (Nat → Nat → Int64)) => v = some (.int 0)) (fun u => [(g0, .inr (6, [.ref k2, .ref g1, .int 7, .ref g2, .int 2147483647])), (g1, .inl (G.2.1 4, 37, .inr (.inr (.inr (.inr (dcl d)))))), ((d 5), .inr (2, [.int 5, .int 34, .int (-1), .int 0, .int (-1), .int 0, .int 0, .ref (z 20), .ref (z 21), .ref (d 0), .long 1, .ref (z 22), .ref (z 23)]))]) := by
  intro sz
  refine Met.ofW (cc := cX9_isAbove) (maxL := 3) (ret := (some .boolean)) (by decide) rfl ?_
  intro p e s m args below meth c s₁ B hml hv
  obtain ⟨rfl, hsz, hP, hD0, hE, hX⟩ := hv
  have hx := B.exec
  have hb := B.bytes
  have hr := B.returns
  have hts := atoms_spec (ws := Cond.code yX9_isAbove cX9_isAbove 3 (some .boolean) :: pw) B.pre
  have hq : ∀ w ∈ pw, w.before _ s = true := fun w h => hts w (List.mem_cons_of_mem _ h)
  have hown : s.vm.findClass RX9 = some m.cls := findClass_of_methodNamed B.named
  have hlocks := B.notSynchronized
  subst hsz
  have hD := hD0.self (sz := s.heap.size)
  have hA : ∀ q : Nat, s.heap.size ≤ q → va_A [(g0, .inr (6, [.ref k2, .ref g1, .int 7, .ref g2, .int 2147483647])), (g1, .inl (G.2.1 4, 37, .inr (.inr (.inr (.inr (dcl d)))))), ((d 5), .inr (2, [.int 5, .int 34, .int (-1), .int 0, .int (-1), .int 0, .int 0, .ref (z 20), .ref (z 21), .ref (d 0), .long 1, .ref (z 22), .ref (z 23)]))] s.heap.size q := fun q h => Or.inr h
  have hP : va_P G.1 pCl [(g0, .inr (6, [.ref k2, .ref g1, .int 7, .ref g2, .int 2147483647])), (g1, .inl (G.2.1 4, 37, .inr (.inr (.inr (.inr (dcl d)))))), ((d 5), .inr (2, [.int 5, .int 34, .int (-1), .int 0, .int (-1), .int 0, .int 0, .ref (z 20), .ref (z 21), .ref (d 0), .long 1, .ref (z 22), .ref (z 23)]))] s.heap := hP
  generalize va_A [(g0, .inr (6, [.ref k2, .ref g1, .int 7, .ref g2, .int 2147483647])), (g1, .inl (G.2.1 4, 37, .inr (.inr (.inr (.inr (dcl d)))))), ((d 5), .inr (2, [.int 5, .int 34, .int (-1), .int 0, .int (-1), .int 0, .int 0, .ref (z 20), .ref (z 21), .ref (d 0), .long 1, .ref (z 22), .ref (z 23)]))] s.heap.size = A at hD hE hA ⊢
  have hS : va_S A s.heap s.heap [] := va_S.rf
  have hl := lv_entry ([.ref g0, .int 2, .int 5]) (n := 3) (Nat.le_of_ble_eq_true rfl)
  rw [lg_entry_eq]
  generalize (lg_sl ([.ref g0, .int 2, .int 5]) ++ List.replicate (3 - (lg_sl ([.ref g0, .int 2, .int 5])).length) Slot.unset).toArray = ls at hl ⊢
  have hl : lv_has ls 3 [(0, .ref g0), (1, .int 2), (2, .int 5)] := hl
  refine lv_iload_n hx hb dX9_isAbove_0 rfl (lv_at hl 1 rfl) ?_
  refine lv_if_lt (tgt := 46) hx hb dX9_isAbove_1 (by decide) (fun c1 => absurd c1 (by decide)) (fun c1 => ?_)
  refine lv_iload_n hx hb dX9_isAbove_4 rfl (lv_at hl 1 rfl) ?_
  refine lv_aload_n hx hb dX9_isAbove_5 rfl (lv_at hl 0 rfl) ?_
  refine va_get (D := G.1) (ci := 6) (v := .int 7) (C := RX9) (T := TX9) (N := 5) hx hb hq pin_wsX90 hown hE.1.1 hP 0 rfl rfl 2 (by decide) (hq _ pw_137) (fun _ h9 => h9) rfl dX9_isAbove_6 ?_
  refine lv_icmp_ge (tgt := 46) hx hb dX9_isAbove_9 (by decide) (fun c2 => absurd c2 (by decide)) (fun c2 => ?_)
  refine lv_iload_n hx hb dX9_isAbove_12 rfl (lv_at hl 2 rfl) ?_
  refine lv_if_lt (tgt := 46) hx hb dX9_isAbove_13 (by decide) (fun c3 => absurd c3 (by decide)) (fun c3 => ?_)
  refine lv_iload_n hx hb dX9_isAbove_16 rfl (lv_at hl 2 rfl) ?_
  refine lv_aload_n hx hb dX9_isAbove_17 rfl (lv_at hl 0 rfl) ?_
  refine va_get (D := G.1) (ci := 6) (v := .int 7) (C := RX9) (T := TX9) (N := 5) hx hb hq pin_wsX90 hown hE.1.1 hP 0 rfl rfl 2 (by decide) (hq _ pw_137) (fun _ h9 => h9) rfl dX9_isAbove_18 ?_
  refine lv_icmp_ge (tgt := 46) hx hb dX9_isAbove_21 (by decide) (fun c4 => absurd c4 (by decide)) (fun c4 => ?_)
  refine lv_aload_n hx hb dX9_isAbove_24 rfl (lv_at hl 0 rfl) ?_
  refine va_get (D := G.1) (ci := 6) (v := .ref g1) (C := RX9) (T := TX9) (N := 5) hx hb hq pin_wsX90 hown hE.1.1 hP 0 rfl rfl 1 (by decide) (hq _ pw_132) (fun _ h9 => h9) rfl dX9_isAbove_25 ?_
  refine lv_iload_n hx hb dX9_isAbove_28 rfl (lv_at hl 2 rfl) ?_
  refine va_aldq hx hb hE.1.1 hP 1 4 rfl rfl (by unfold vp_in; decide) dX9_isAbove_29 ?_
  refine W.eq (g2 := F0 m 30 ls [.ref (d 5)]) rfl ?_
  refine va_get (D := G.1) (ci := 2) (v := .long 1) (C := RX2) (T := TX2) (N := 13) hx hb hq pin_wsX20 hown hE.1.1 hP 2 rfl rfl 10 (by decide) (hq _ pw_153) (fun _ h9 => h9) rfl dX9_isAbove_30 ?_
  refine lv_iload_n hx hb dX9_isAbove_33 rfl (lv_at hl 1 rfl) ?_
  refine lv_lushr (v := 0) hx hb dX9_isAbove_34 (by decide) ?_
  refine lv_lconst (v := 1) hx hb dX9_isAbove_35 (by decide) ?_
  refine lv_land hx hb dX9_isAbove_36 ?_
  refine lv_topl (fun x5 e6 => ?_)
  obtain rfl : x5 = 0 := e6.trans (by decide)
  refine lv_lconst (v := 1) hx hb dX9_isAbove_37 (by decide) ?_
  refine W.lcmp hx hb dX9_isAbove_38 ?_
  refine lv_topi (fun x7 e8 => ?_)
  obtain rfl : x7 = (-1) := e8.trans (by decide)
  refine lv_if_ne (tgt := 46) hx hb dX9_isAbove_39 (by decide) (fun c9 => ?_) (fun c9 => absurd c9 (by decide))
  refine lv_iconst (v := 0) hx hb dX9_isAbove_46 (by decide) ?_
  refine W.widen (k := 0) (n := 0) (Nat.le_of_ble_eq_true rfl) (Nat.le_of_ble_eq_true rfl) ?_
  exact W.zret (v := 0) hx hb hr rfl (fun t ht hW => ⟨⟨_, ((fun _ => 0), (fun _ => fun _ => 0), (fun _ => fun _ => 0)), rfl, rfl, by rw [ht]; exact hP.sub [0, 1, 2] rfl, hD.sub [0, 1, 2] (by decide) rfl⟩, hS.F ht⟩) hS.2.2 dX9_isAbove_47
set_option maxHeartbeats 1000000 in
set_option maxRecDepth 100000 in
/-- isAbove(2, 6) -/
theorem c_isAbove_2_6 (l : Launch) (G : pT) (g0 : Nat) (g1 : Nat) (g2 : Nat) (d : Nat → Nat) (z : Nat → Nat) (k2 : Nat) : PM l G pX0 yX9_isAbove cX9_isAbove 3 (some .boolean) ({ frames := 2, cells := 0, slots := 0, locals := 60 }) [.ref g0, .int 2, .int 6] [(g0, .inr (6, [.ref k2, .ref g1, .int 7, .ref g2, .int 2147483647])), (g1, .inl (G.2.1 4, 37, .inr (.inr (.inr (.inr (dcl d)))))), ((d 6), .inr (2, [.int 6, .int 35, .int (-1), .int 0, .int (-1), .int 0, .int 0, .ref (z 24), .ref (z 25), .ref (d 0), .long 1, .ref (z 26), .ref (z 27)]))] (fun (v : Option Value) (u : (Nat → Nat) × (Nat → Nat → Int32) × (Nat → Nat → Int64)) => v = some (.int 0)) (fun u => [(g0, .inr (6, [.ref k2, .ref g1, .int 7, .ref g2, .int 2147483647])), (g1, .inl (G.2.1 4, 37, .inr (.inr (.inr (.inr (dcl d)))))), ((d 6), .inr (2, [.int 6, .int 35, .int (-1), .int 0, .int (-1), .int 0, .int 0, .ref (z 24), .ref (z 25), .ref (d 0), .long 1, .ref (z 26), .ref (z 27)]))]) := by
  intro sz
  refine Met.ofW (cc := cX9_isAbove) (maxL := 3) (ret := (some .boolean)) (by decide) rfl ?_
  intro p e s m args below meth c s₁ B hml hv
  obtain ⟨rfl, hsz, hP, hD0, hE, hX⟩ := hv
  have hx := B.exec
  have hb := B.bytes
  have hr := B.returns
  have hts := atoms_spec (ws := Cond.code yX9_isAbove cX9_isAbove 3 (some .boolean) :: pw) B.pre
  have hq : ∀ w ∈ pw, w.before _ s = true := fun w h => hts w (List.mem_cons_of_mem _ h)
  have hown : s.vm.findClass RX9 = some m.cls := findClass_of_methodNamed B.named
  have hlocks := B.notSynchronized
  subst hsz
  have hD := hD0.self (sz := s.heap.size)
  have hA : ∀ q : Nat, s.heap.size ≤ q → va_A [(g0, .inr (6, [.ref k2, .ref g1, .int 7, .ref g2, .int 2147483647])), (g1, .inl (G.2.1 4, 37, .inr (.inr (.inr (.inr (dcl d)))))), ((d 6), .inr (2, [.int 6, .int 35, .int (-1), .int 0, .int (-1), .int 0, .int 0, .ref (z 24), .ref (z 25), .ref (d 0), .long 1, .ref (z 26), .ref (z 27)]))] s.heap.size q := fun q h => Or.inr h
  have hP : va_P G.1 pCl [(g0, .inr (6, [.ref k2, .ref g1, .int 7, .ref g2, .int 2147483647])), (g1, .inl (G.2.1 4, 37, .inr (.inr (.inr (.inr (dcl d)))))), ((d 6), .inr (2, [.int 6, .int 35, .int (-1), .int 0, .int (-1), .int 0, .int 0, .ref (z 24), .ref (z 25), .ref (d 0), .long 1, .ref (z 26), .ref (z 27)]))] s.heap := hP
  generalize va_A [(g0, .inr (6, [.ref k2, .ref g1, .int 7, .ref g2, .int 2147483647])), (g1, .inl (G.2.1 4, 37, .inr (.inr (.inr (.inr (dcl d)))))), ((d 6), .inr (2, [.int 6, .int 35, .int (-1), .int 0, .int (-1), .int 0, .int 0, .ref (z 24), .ref (z 25), .ref (d 0), .long 1, .ref (z 26), .ref (z 27)]))] s.heap.size = A at hD hE hA ⊢
  have hS : va_S A s.heap s.heap [] := va_S.rf
  have hl := lv_entry ([.ref g0, .int 2, .int 6]) (n := 3) (Nat.le_of_ble_eq_true rfl)
  rw [lg_entry_eq]
  generalize (lg_sl ([.ref g0, .int 2, .int 6]) ++ List.replicate (3 - (lg_sl ([.ref g0, .int 2, .int 6])).length) Slot.unset).toArray = ls at hl ⊢
  have hl : lv_has ls 3 [(0, .ref g0), (1, .int 2), (2, .int 6)] := hl
  refine lv_iload_n hx hb dX9_isAbove_0 rfl (lv_at hl 1 rfl) ?_
  refine lv_if_lt (tgt := 46) hx hb dX9_isAbove_1 (by decide) (fun c1 => absurd c1 (by decide)) (fun c1 => ?_)
  refine lv_iload_n hx hb dX9_isAbove_4 rfl (lv_at hl 1 rfl) ?_
  refine lv_aload_n hx hb dX9_isAbove_5 rfl (lv_at hl 0 rfl) ?_
  refine va_get (D := G.1) (ci := 6) (v := .int 7) (C := RX9) (T := TX9) (N := 5) hx hb hq pin_wsX90 hown hE.1.1 hP 0 rfl rfl 2 (by decide) (hq _ pw_137) (fun _ h9 => h9) rfl dX9_isAbove_6 ?_
  refine lv_icmp_ge (tgt := 46) hx hb dX9_isAbove_9 (by decide) (fun c2 => absurd c2 (by decide)) (fun c2 => ?_)
  refine lv_iload_n hx hb dX9_isAbove_12 rfl (lv_at hl 2 rfl) ?_
  refine lv_if_lt (tgt := 46) hx hb dX9_isAbove_13 (by decide) (fun c3 => absurd c3 (by decide)) (fun c3 => ?_)
  refine lv_iload_n hx hb dX9_isAbove_16 rfl (lv_at hl 2 rfl) ?_
  refine lv_aload_n hx hb dX9_isAbove_17 rfl (lv_at hl 0 rfl) ?_
  refine va_get (D := G.1) (ci := 6) (v := .int 7) (C := RX9) (T := TX9) (N := 5) hx hb hq pin_wsX90 hown hE.1.1 hP 0 rfl rfl 2 (by decide) (hq _ pw_137) (fun _ h9 => h9) rfl dX9_isAbove_18 ?_
  refine lv_icmp_ge (tgt := 46) hx hb dX9_isAbove_21 (by decide) (fun c4 => absurd c4 (by decide)) (fun c4 => ?_)
  refine lv_aload_n hx hb dX9_isAbove_24 rfl (lv_at hl 0 rfl) ?_
  refine va_get (D := G.1) (ci := 6) (v := .ref g1) (C := RX9) (T := TX9) (N := 5) hx hb hq pin_wsX90 hown hE.1.1 hP 0 rfl rfl 1 (by decide) (hq _ pw_132) (fun _ h9 => h9) rfl dX9_isAbove_25 ?_
  refine lv_iload_n hx hb dX9_isAbove_28 rfl (lv_at hl 2 rfl) ?_
  refine va_aldq hx hb hE.1.1 hP 1 4 rfl rfl (by unfold vp_in; decide) dX9_isAbove_29 ?_
  refine W.eq (g2 := F0 m 30 ls [.ref (d 6)]) rfl ?_
  refine va_get (D := G.1) (ci := 2) (v := .long 1) (C := RX2) (T := TX2) (N := 13) hx hb hq pin_wsX20 hown hE.1.1 hP 2 rfl rfl 10 (by decide) (hq _ pw_153) (fun _ h9 => h9) rfl dX9_isAbove_30 ?_
  refine lv_iload_n hx hb dX9_isAbove_33 rfl (lv_at hl 1 rfl) ?_
  refine lv_lushr (v := 0) hx hb dX9_isAbove_34 (by decide) ?_
  refine lv_lconst (v := 1) hx hb dX9_isAbove_35 (by decide) ?_
  refine lv_land hx hb dX9_isAbove_36 ?_
  refine lv_topl (fun x5 e6 => ?_)
  obtain rfl : x5 = 0 := e6.trans (by decide)
  refine lv_lconst (v := 1) hx hb dX9_isAbove_37 (by decide) ?_
  refine W.lcmp hx hb dX9_isAbove_38 ?_
  refine lv_topi (fun x7 e8 => ?_)
  obtain rfl : x7 = (-1) := e8.trans (by decide)
  refine lv_if_ne (tgt := 46) hx hb dX9_isAbove_39 (by decide) (fun c9 => ?_) (fun c9 => absurd c9 (by decide))
  refine lv_iconst (v := 0) hx hb dX9_isAbove_46 (by decide) ?_
  refine W.widen (k := 0) (n := 0) (Nat.le_of_ble_eq_true rfl) (Nat.le_of_ble_eq_true rfl) ?_
  exact W.zret (v := 0) hx hb hr rfl (fun t ht hW => ⟨⟨_, ((fun _ => 0), (fun _ => fun _ => 0), (fun _ => fun _ => 0)), rfl, rfl, by rw [ht]; exact hP.sub [0, 1, 2] rfl, hD.sub [0, 1, 2] (by decide) rfl⟩, hS.F ht⟩) hS.2.2 dX9_isAbove_47
set_option maxHeartbeats 1000000 in
set_option maxRecDepth 100000 in
/-- isAbove(3, 0) -/
theorem c_isAbove_3_0 (l : Launch) (G : pT) (g0 : Nat) (g1 : Nat) (g2 : Nat) (d : Nat → Nat) (z : Nat → Nat) (k2 : Nat) : PM l G pX0 yX9_isAbove cX9_isAbove 3 (some .boolean) ({ frames := 2, cells := 0, slots := 0, locals := 60 }) [.ref g0, .int 3, .int 0] [(g0, .inr (6, [.ref k2, .ref g1, .int 7, .ref g2, .int 2147483647])), (g1, .inl (G.2.1 4, 37, .inr (.inr (.inr (.inr (dcl d)))))), ((d 0), .inr (2, [.int 0, .int 29, .int (-1), .int 0, .int (-1), .int 0, .int 0, .ref (z 0), .ref (z 1), .null, .long 0, .ref (z 2), .ref (z 3)]))] (fun (v : Option Value) (u : (Nat → Nat) × (Nat → Nat → Int32) × (Nat → Nat → Int64)) => v = some (.int 0)) (fun u => [(g0, .inr (6, [.ref k2, .ref g1, .int 7, .ref g2, .int 2147483647])), (g1, .inl (G.2.1 4, 37, .inr (.inr (.inr (.inr (dcl d)))))), ((d 0), .inr (2, [.int 0, .int 29, .int (-1), .int 0, .int (-1), .int 0, .int 0, .ref (z 0), .ref (z 1), .null, .long 0, .ref (z 2), .ref (z 3)]))]) := by
  intro sz
  refine Met.ofW (cc := cX9_isAbove) (maxL := 3) (ret := (some .boolean)) (by decide) rfl ?_
  intro p e s m args below meth c s₁ B hml hv
  obtain ⟨rfl, hsz, hP, hD0, hE, hX⟩ := hv
  have hx := B.exec
  have hb := B.bytes
  have hr := B.returns
  have hts := atoms_spec (ws := Cond.code yX9_isAbove cX9_isAbove 3 (some .boolean) :: pw) B.pre
  have hq : ∀ w ∈ pw, w.before _ s = true := fun w h => hts w (List.mem_cons_of_mem _ h)
  have hown : s.vm.findClass RX9 = some m.cls := findClass_of_methodNamed B.named
  have hlocks := B.notSynchronized
  subst hsz
  have hD := hD0.self (sz := s.heap.size)
  have hA : ∀ q : Nat, s.heap.size ≤ q → va_A [(g0, .inr (6, [.ref k2, .ref g1, .int 7, .ref g2, .int 2147483647])), (g1, .inl (G.2.1 4, 37, .inr (.inr (.inr (.inr (dcl d)))))), ((d 0), .inr (2, [.int 0, .int 29, .int (-1), .int 0, .int (-1), .int 0, .int 0, .ref (z 0), .ref (z 1), .null, .long 0, .ref (z 2), .ref (z 3)]))] s.heap.size q := fun q h => Or.inr h
  have hP : va_P G.1 pCl [(g0, .inr (6, [.ref k2, .ref g1, .int 7, .ref g2, .int 2147483647])), (g1, .inl (G.2.1 4, 37, .inr (.inr (.inr (.inr (dcl d)))))), ((d 0), .inr (2, [.int 0, .int 29, .int (-1), .int 0, .int (-1), .int 0, .int 0, .ref (z 0), .ref (z 1), .null, .long 0, .ref (z 2), .ref (z 3)]))] s.heap := hP
  generalize va_A [(g0, .inr (6, [.ref k2, .ref g1, .int 7, .ref g2, .int 2147483647])), (g1, .inl (G.2.1 4, 37, .inr (.inr (.inr (.inr (dcl d)))))), ((d 0), .inr (2, [.int 0, .int 29, .int (-1), .int 0, .int (-1), .int 0, .int 0, .ref (z 0), .ref (z 1), .null, .long 0, .ref (z 2), .ref (z 3)]))] s.heap.size = A at hD hE hA ⊢
  have hS : va_S A s.heap s.heap [] := va_S.rf
  have hl := lv_entry ([.ref g0, .int 3, .int 0]) (n := 3) (Nat.le_of_ble_eq_true rfl)
  rw [lg_entry_eq]
  generalize (lg_sl ([.ref g0, .int 3, .int 0]) ++ List.replicate (3 - (lg_sl ([.ref g0, .int 3, .int 0])).length) Slot.unset).toArray = ls at hl ⊢
  have hl : lv_has ls 3 [(0, .ref g0), (1, .int 3), (2, .int 0)] := hl
  refine lv_iload_n hx hb dX9_isAbove_0 rfl (lv_at hl 1 rfl) ?_
  refine lv_if_lt (tgt := 46) hx hb dX9_isAbove_1 (by decide) (fun c1 => absurd c1 (by decide)) (fun c1 => ?_)
  refine lv_iload_n hx hb dX9_isAbove_4 rfl (lv_at hl 1 rfl) ?_
  refine lv_aload_n hx hb dX9_isAbove_5 rfl (lv_at hl 0 rfl) ?_
  refine va_get (D := G.1) (ci := 6) (v := .int 7) (C := RX9) (T := TX9) (N := 5) hx hb hq pin_wsX90 hown hE.1.1 hP 0 rfl rfl 2 (by decide) (hq _ pw_137) (fun _ h9 => h9) rfl dX9_isAbove_6 ?_
  refine lv_icmp_ge (tgt := 46) hx hb dX9_isAbove_9 (by decide) (fun c2 => absurd c2 (by decide)) (fun c2 => ?_)
  refine lv_iload_n hx hb dX9_isAbove_12 rfl (lv_at hl 2 rfl) ?_
  refine lv_if_lt (tgt := 46) hx hb dX9_isAbove_13 (by decide) (fun c3 => absurd c3 (by decide)) (fun c3 => ?_)
  refine lv_iload_n hx hb dX9_isAbove_16 rfl (lv_at hl 2 rfl) ?_
  refine lv_aload_n hx hb dX9_isAbove_17 rfl (lv_at hl 0 rfl) ?_
  refine va_get (D := G.1) (ci := 6) (v := .int 7) (C := RX9) (T := TX9) (N := 5) hx hb hq pin_wsX90 hown hE.1.1 hP 0 rfl rfl 2 (by decide) (hq _ pw_137) (fun _ h9 => h9) rfl dX9_isAbove_18 ?_
  refine lv_icmp_ge (tgt := 46) hx hb dX9_isAbove_21 (by decide) (fun c4 => absurd c4 (by decide)) (fun c4 => ?_)
  refine lv_aload_n hx hb dX9_isAbove_24 rfl (lv_at hl 0 rfl) ?_
  refine va_get (D := G.1) (ci := 6) (v := .ref g1) (C := RX9) (T := TX9) (N := 5) hx hb hq pin_wsX90 hown hE.1.1 hP 0 rfl rfl 1 (by decide) (hq _ pw_132) (fun _ h9 => h9) rfl dX9_isAbove_25 ?_
  refine lv_iload_n hx hb dX9_isAbove_28 rfl (lv_at hl 2 rfl) ?_
  refine va_aldq hx hb hE.1.1 hP 1 4 rfl rfl (by unfold vp_in; decide) dX9_isAbove_29 ?_
  refine W.eq (g2 := F0 m 30 ls [.ref (d 0)]) rfl ?_
  refine va_get (D := G.1) (ci := 2) (v := .long 0) (C := RX2) (T := TX2) (N := 13) hx hb hq pin_wsX20 hown hE.1.1 hP 2 rfl rfl 10 (by decide) (hq _ pw_153) (fun _ h9 => h9) rfl dX9_isAbove_30 ?_
  refine lv_iload_n hx hb dX9_isAbove_33 rfl (lv_at hl 1 rfl) ?_
  refine lv_lushr (v := 0) hx hb dX9_isAbove_34 (by decide) ?_
  refine lv_lconst (v := 1) hx hb dX9_isAbove_35 (by decide) ?_
  refine lv_land hx hb dX9_isAbove_36 ?_
  refine lv_topl (fun x5 e6 => ?_)
  obtain rfl : x5 = 0 := e6.trans (by decide)
  refine lv_lconst (v := 1) hx hb dX9_isAbove_37 (by decide) ?_
  refine W.lcmp hx hb dX9_isAbove_38 ?_
  refine lv_topi (fun x7 e8 => ?_)
  obtain rfl : x7 = (-1) := e8.trans (by decide)
  refine lv_if_ne (tgt := 46) hx hb dX9_isAbove_39 (by decide) (fun c9 => ?_) (fun c9 => absurd c9 (by decide))
  refine lv_iconst (v := 0) hx hb dX9_isAbove_46 (by decide) ?_
  refine W.widen (k := 0) (n := 0) (Nat.le_of_ble_eq_true rfl) (Nat.le_of_ble_eq_true rfl) ?_
  exact W.zret (v := 0) hx hb hr rfl (fun t ht hW => ⟨⟨_, ((fun _ => 0), (fun _ => fun _ => 0), (fun _ => fun _ => 0)), rfl, rfl, by rw [ht]; exact hP.sub [0, 1, 2] rfl, hD.sub [0, 1, 2] (by decide) rfl⟩, hS.F ht⟩) hS.2.2 dX9_isAbove_47
set_option maxHeartbeats 1000000 in
set_option maxRecDepth 100000 in
/-- isAbove(3, 1) -/
theorem c_isAbove_3_1 (l : Launch) (G : pT) (g0 : Nat) (g1 : Nat) (g2 : Nat) (d : Nat → Nat) (z : Nat → Nat) (k2 : Nat) : PM l G pX0 yX9_isAbove cX9_isAbove 3 (some .boolean) ({ frames := 2, cells := 0, slots := 0, locals := 60 }) [.ref g0, .int 3, .int 1] [(g0, .inr (6, [.ref k2, .ref g1, .int 7, .ref g2, .int 2147483647])), (g1, .inl (G.2.1 4, 37, .inr (.inr (.inr (.inr (dcl d)))))), ((d 1), .inr (2, [.int 1, .int 30, .int (-1), .int 0, .int (-1), .int 0, .int 0, .ref (z 4), .ref (z 5), .ref (d 0), .long 1, .ref (z 6), .ref (z 7)]))] (fun (v : Option Value) (u : (Nat → Nat) × (Nat → Nat → Int32) × (Nat → Nat → Int64)) => v = some (.int 0)) (fun u => [(g0, .inr (6, [.ref k2, .ref g1, .int 7, .ref g2, .int 2147483647])), (g1, .inl (G.2.1 4, 37, .inr (.inr (.inr (.inr (dcl d)))))), ((d 1), .inr (2, [.int 1, .int 30, .int (-1), .int 0, .int (-1), .int 0, .int 0, .ref (z 4), .ref (z 5), .ref (d 0), .long 1, .ref (z 6), .ref (z 7)]))]) := by
  intro sz
  refine Met.ofW (cc := cX9_isAbove) (maxL := 3) (ret := (some .boolean)) (by decide) rfl ?_
  intro p e s m args below meth c s₁ B hml hv
  obtain ⟨rfl, hsz, hP, hD0, hE, hX⟩ := hv
  have hx := B.exec
  have hb := B.bytes
  have hr := B.returns
  have hts := atoms_spec (ws := Cond.code yX9_isAbove cX9_isAbove 3 (some .boolean) :: pw) B.pre
  have hq : ∀ w ∈ pw, w.before _ s = true := fun w h => hts w (List.mem_cons_of_mem _ h)
  have hown : s.vm.findClass RX9 = some m.cls := findClass_of_methodNamed B.named
  have hlocks := B.notSynchronized
  subst hsz
  have hD := hD0.self (sz := s.heap.size)
  have hA : ∀ q : Nat, s.heap.size ≤ q → va_A [(g0, .inr (6, [.ref k2, .ref g1, .int 7, .ref g2, .int 2147483647])), (g1, .inl (G.2.1 4, 37, .inr (.inr (.inr (.inr (dcl d)))))), ((d 1), .inr (2, [.int 1, .int 30, .int (-1), .int 0, .int (-1), .int 0, .int 0, .ref (z 4), .ref (z 5), .ref (d 0), .long 1, .ref (z 6), .ref (z 7)]))] s.heap.size q := fun q h => Or.inr h
  have hP : va_P G.1 pCl [(g0, .inr (6, [.ref k2, .ref g1, .int 7, .ref g2, .int 2147483647])), (g1, .inl (G.2.1 4, 37, .inr (.inr (.inr (.inr (dcl d)))))), ((d 1), .inr (2, [.int 1, .int 30, .int (-1), .int 0, .int (-1), .int 0, .int 0, .ref (z 4), .ref (z 5), .ref (d 0), .long 1, .ref (z 6), .ref (z 7)]))] s.heap := hP
  generalize va_A [(g0, .inr (6, [.ref k2, .ref g1, .int 7, .ref g2, .int 2147483647])), (g1, .inl (G.2.1 4, 37, .inr (.inr (.inr (.inr (dcl d)))))), ((d 1), .inr (2, [.int 1, .int 30, .int (-1), .int 0, .int (-1), .int 0, .int 0, .ref (z 4), .ref (z 5), .ref (d 0), .long 1, .ref (z 6), .ref (z 7)]))] s.heap.size = A at hD hE hA ⊢
  have hS : va_S A s.heap s.heap [] := va_S.rf
  have hl := lv_entry ([.ref g0, .int 3, .int 1]) (n := 3) (Nat.le_of_ble_eq_true rfl)
  rw [lg_entry_eq]
  generalize (lg_sl ([.ref g0, .int 3, .int 1]) ++ List.replicate (3 - (lg_sl ([.ref g0, .int 3, .int 1])).length) Slot.unset).toArray = ls at hl ⊢
  have hl : lv_has ls 3 [(0, .ref g0), (1, .int 3), (2, .int 1)] := hl
  refine lv_iload_n hx hb dX9_isAbove_0 rfl (lv_at hl 1 rfl) ?_
  refine lv_if_lt (tgt := 46) hx hb dX9_isAbove_1 (by decide) (fun c1 => absurd c1 (by decide)) (fun c1 => ?_)
  refine lv_iload_n hx hb dX9_isAbove_4 rfl (lv_at hl 1 rfl) ?_
  refine lv_aload_n hx hb dX9_isAbove_5 rfl (lv_at hl 0 rfl) ?_
  refine va_get (D := G.1) (ci := 6) (v := .int 7) (C := RX9) (T := TX9) (N := 5) hx hb hq pin_wsX90 hown hE.1.1 hP 0 rfl rfl 2 (by decide) (hq _ pw_137) (fun _ h9 => h9) rfl dX9_isAbove_6 ?_
  refine lv_icmp_ge (tgt := 46) hx hb dX9_isAbove_9 (by decide) (fun c2 => absurd c2 (by decide)) (fun c2 => ?_)
  refine lv_iload_n hx hb dX9_isAbove_12 rfl (lv_at hl 2 rfl) ?_
  refine lv_if_lt (tgt := 46) hx hb dX9_isAbove_13 (by decide) (fun c3 => absurd c3 (by decide)) (fun c3 => ?_)
  refine lv_iload_n hx hb dX9_isAbove_16 rfl (lv_at hl 2 rfl) ?_
  refine lv_aload_n hx hb dX9_isAbove_17 rfl (lv_at hl 0 rfl) ?_
  refine va_get (D := G.1) (ci := 6) (v := .int 7) (C := RX9) (T := TX9) (N := 5) hx hb hq pin_wsX90 hown hE.1.1 hP 0 rfl rfl 2 (by decide) (hq _ pw_137) (fun _ h9 => h9) rfl dX9_isAbove_18 ?_
  refine lv_icmp_ge (tgt := 46) hx hb dX9_isAbove_21 (by decide) (fun c4 => absurd c4 (by decide)) (fun c4 => ?_)
  refine lv_aload_n hx hb dX9_isAbove_24 rfl (lv_at hl 0 rfl) ?_
  refine va_get (D := G.1) (ci := 6) (v := .ref g1) (C := RX9) (T := TX9) (N := 5) hx hb hq pin_wsX90 hown hE.1.1 hP 0 rfl rfl 1 (by decide) (hq _ pw_132) (fun _ h9 => h9) rfl dX9_isAbove_25 ?_
  refine lv_iload_n hx hb dX9_isAbove_28 rfl (lv_at hl 2 rfl) ?_
  refine va_aldq hx hb hE.1.1 hP 1 4 rfl rfl (by unfold vp_in; decide) dX9_isAbove_29 ?_
  refine W.eq (g2 := F0 m 30 ls [.ref (d 1)]) rfl ?_
  refine va_get (D := G.1) (ci := 2) (v := .long 1) (C := RX2) (T := TX2) (N := 13) hx hb hq pin_wsX20 hown hE.1.1 hP 2 rfl rfl 10 (by decide) (hq _ pw_153) (fun _ h9 => h9) rfl dX9_isAbove_30 ?_
  refine lv_iload_n hx hb dX9_isAbove_33 rfl (lv_at hl 1 rfl) ?_
  refine lv_lushr (v := 0) hx hb dX9_isAbove_34 (by decide) ?_
  refine lv_lconst (v := 1) hx hb dX9_isAbove_35 (by decide) ?_
  refine lv_land hx hb dX9_isAbove_36 ?_
  refine lv_topl (fun x5 e6 => ?_)
  obtain rfl : x5 = 0 := e6.trans (by decide)
  refine lv_lconst (v := 1) hx hb dX9_isAbove_37 (by decide) ?_
  refine W.lcmp hx hb dX9_isAbove_38 ?_
  refine lv_topi (fun x7 e8 => ?_)
  obtain rfl : x7 = (-1) := e8.trans (by decide)
  refine lv_if_ne (tgt := 46) hx hb dX9_isAbove_39 (by decide) (fun c9 => ?_) (fun c9 => absurd c9 (by decide))
  refine lv_iconst (v := 0) hx hb dX9_isAbove_46 (by decide) ?_
  refine W.widen (k := 0) (n := 0) (Nat.le_of_ble_eq_true rfl) (Nat.le_of_ble_eq_true rfl) ?_
  exact W.zret (v := 0) hx hb hr rfl (fun t ht hW => ⟨⟨_, ((fun _ => 0), (fun _ => fun _ => 0), (fun _ => fun _ => 0)), rfl, rfl, by rw [ht]; exact hP.sub [0, 1, 2] rfl, hD.sub [0, 1, 2] (by decide) rfl⟩, hS.F ht⟩) hS.2.2 dX9_isAbove_47
set_option maxHeartbeats 1000000 in
set_option maxRecDepth 100000 in
/-- isAbove(3, 2) -/
theorem c_isAbove_3_2 (l : Launch) (G : pT) (g0 : Nat) (g1 : Nat) (g2 : Nat) (d : Nat → Nat) (z : Nat → Nat) (k2 : Nat) : PM l G pX0 yX9_isAbove cX9_isAbove 3 (some .boolean) ({ frames := 2, cells := 0, slots := 0, locals := 60 }) [.ref g0, .int 3, .int 2] [(g0, .inr (6, [.ref k2, .ref g1, .int 7, .ref g2, .int 2147483647])), (g1, .inl (G.2.1 4, 37, .inr (.inr (.inr (.inr (dcl d)))))), ((d 2), .inr (2, [.int 2, .int 31, .int (-1), .int 0, .int (-1), .int 0, .int 0, .ref (z 8), .ref (z 9), .ref (d 0), .long 1, .ref (z 10), .ref (z 11)]))] (fun (v : Option Value) (u : (Nat → Nat) × (Nat → Nat → Int32) × (Nat → Nat → Int64)) => v = some (.int 0)) (fun u => [(g0, .inr (6, [.ref k2, .ref g1, .int 7, .ref g2, .int 2147483647])), (g1, .inl (G.2.1 4, 37, .inr (.inr (.inr (.inr (dcl d)))))), ((d 2), .inr (2, [.int 2, .int 31, .int (-1), .int 0, .int (-1), .int 0, .int 0, .ref (z 8), .ref (z 9), .ref (d 0), .long 1, .ref (z 10), .ref (z 11)]))]) := by
  intro sz
  refine Met.ofW (cc := cX9_isAbove) (maxL := 3) (ret := (some .boolean)) (by decide) rfl ?_
  intro p e s m args below meth c s₁ B hml hv
  obtain ⟨rfl, hsz, hP, hD0, hE, hX⟩ := hv
  have hx := B.exec
  have hb := B.bytes
  have hr := B.returns
  have hts := atoms_spec (ws := Cond.code yX9_isAbove cX9_isAbove 3 (some .boolean) :: pw) B.pre
  have hq : ∀ w ∈ pw, w.before _ s = true := fun w h => hts w (List.mem_cons_of_mem _ h)
  have hown : s.vm.findClass RX9 = some m.cls := findClass_of_methodNamed B.named
  have hlocks := B.notSynchronized
  subst hsz
  have hD := hD0.self (sz := s.heap.size)
  have hA : ∀ q : Nat, s.heap.size ≤ q → va_A [(g0, .inr (6, [.ref k2, .ref g1, .int 7, .ref g2, .int 2147483647])), (g1, .inl (G.2.1 4, 37, .inr (.inr (.inr (.inr (dcl d)))))), ((d 2), .inr (2, [.int 2, .int 31, .int (-1), .int 0, .int (-1), .int 0, .int 0, .ref (z 8), .ref (z 9), .ref (d 0), .long 1, .ref (z 10), .ref (z 11)]))] s.heap.size q := fun q h => Or.inr h
  have hP : va_P G.1 pCl [(g0, .inr (6, [.ref k2, .ref g1, .int 7, .ref g2, .int 2147483647])), (g1, .inl (G.2.1 4, 37, .inr (.inr (.inr (.inr (dcl d)))))), ((d 2), .inr (2, [.int 2, .int 31, .int (-1), .int 0, .int (-1), .int 0, .int 0, .ref (z 8), .ref (z 9), .ref (d 0), .long 1, .ref (z 10), .ref (z 11)]))] s.heap := hP
  generalize va_A [(g0, .inr (6, [.ref k2, .ref g1, .int 7, .ref g2, .int 2147483647])), (g1, .inl (G.2.1 4, 37, .inr (.inr (.inr (.inr (dcl d)))))), ((d 2), .inr (2, [.int 2, .int 31, .int (-1), .int 0, .int (-1), .int 0, .int 0, .ref (z 8), .ref (z 9), .ref (d 0), .long 1, .ref (z 10), .ref (z 11)]))] s.heap.size = A at hD hE hA ⊢
  have hS : va_S A s.heap s.heap [] := va_S.rf
  have hl := lv_entry ([.ref g0, .int 3, .int 2]) (n := 3) (Nat.le_of_ble_eq_true rfl)
  rw [lg_entry_eq]
  generalize (lg_sl ([.ref g0, .int 3, .int 2]) ++ List.replicate (3 - (lg_sl ([.ref g0, .int 3, .int 2])).length) Slot.unset).toArray = ls at hl ⊢
  have hl : lv_has ls 3 [(0, .ref g0), (1, .int 3), (2, .int 2)] := hl
  refine lv_iload_n hx hb dX9_isAbove_0 rfl (lv_at hl 1 rfl) ?_
  refine lv_if_lt (tgt := 46) hx hb dX9_isAbove_1 (by decide) (fun c1 => absurd c1 (by decide)) (fun c1 => ?_)
  refine lv_iload_n hx hb dX9_isAbove_4 rfl (lv_at hl 1 rfl) ?_
  refine lv_aload_n hx hb dX9_isAbove_5 rfl (lv_at hl 0 rfl) ?_
  refine va_get (D := G.1) (ci := 6) (v := .int 7) (C := RX9) (T := TX9) (N := 5) hx hb hq pin_wsX90 hown hE.1.1 hP 0 rfl rfl 2 (by decide) (hq _ pw_137) (fun _ h9 => h9) rfl dX9_isAbove_6 ?_
  refine lv_icmp_ge (tgt := 46) hx hb dX9_isAbove_9 (by decide) (fun c2 => absurd c2 (by decide)) (fun c2 => ?_)
  refine lv_iload_n hx hb dX9_isAbove_12 rfl (lv_at hl 2 rfl) ?_
  refine lv_if_lt (tgt := 46) hx hb dX9_isAbove_13 (by decide) (fun c3 => absurd c3 (by decide)) (fun c3 => ?_)
  refine lv_iload_n hx hb dX9_isAbove_16 rfl (lv_at hl 2 rfl) ?_
  refine lv_aload_n hx hb dX9_isAbove_17 rfl (lv_at hl 0 rfl) ?_
  refine va_get (D := G.1) (ci := 6) (v := .int 7) (C := RX9) (T := TX9) (N := 5) hx hb hq pin_wsX90 hown hE.1.1 hP 0 rfl rfl 2 (by decide) (hq _ pw_137) (fun _ h9 => h9) rfl dX9_isAbove_18 ?_
  refine lv_icmp_ge (tgt := 46) hx hb dX9_isAbove_21 (by decide) (fun c4 => absurd c4 (by decide)) (fun c4 => ?_)
  refine lv_aload_n hx hb dX9_isAbove_24 rfl (lv_at hl 0 rfl) ?_
  refine va_get (D := G.1) (ci := 6) (v := .ref g1) (C := RX9) (T := TX9) (N := 5) hx hb hq pin_wsX90 hown hE.1.1 hP 0 rfl rfl 1 (by decide) (hq _ pw_132) (fun _ h9 => h9) rfl dX9_isAbove_25 ?_
  refine lv_iload_n hx hb dX9_isAbove_28 rfl (lv_at hl 2 rfl) ?_
  refine va_aldq hx hb hE.1.1 hP 1 4 rfl rfl (by unfold vp_in; decide) dX9_isAbove_29 ?_
  refine W.eq (g2 := F0 m 30 ls [.ref (d 2)]) rfl ?_
  refine va_get (D := G.1) (ci := 2) (v := .long 1) (C := RX2) (T := TX2) (N := 13) hx hb hq pin_wsX20 hown hE.1.1 hP 2 rfl rfl 10 (by decide) (hq _ pw_153) (fun _ h9 => h9) rfl dX9_isAbove_30 ?_
  refine lv_iload_n hx hb dX9_isAbove_33 rfl (lv_at hl 1 rfl) ?_
  refine lv_lushr (v := 0) hx hb dX9_isAbove_34 (by decide) ?_
  refine lv_lconst (v := 1) hx hb dX9_isAbove_35 (by decide) ?_
  refine lv_land hx hb dX9_isAbove_36 ?_
  refine lv_topl (fun x5 e6 => ?_)
  obtain rfl : x5 = 0 := e6.trans (by decide)
  refine lv_lconst (v := 1) hx hb dX9_isAbove_37 (by decide) ?_
  refine W.lcmp hx hb dX9_isAbove_38 ?_
  refine lv_topi (fun x7 e8 => ?_)
  obtain rfl : x7 = (-1) := e8.trans (by decide)
  refine lv_if_ne (tgt := 46) hx hb dX9_isAbove_39 (by decide) (fun c9 => ?_) (fun c9 => absurd c9 (by decide))
  refine lv_iconst (v := 0) hx hb dX9_isAbove_46 (by decide) ?_
  refine W.widen (k := 0) (n := 0) (Nat.le_of_ble_eq_true rfl) (Nat.le_of_ble_eq_true rfl) ?_
  exact W.zret (v := 0) hx hb hr rfl (fun t ht hW => ⟨⟨_, ((fun _ => 0), (fun _ => fun _ => 0), (fun _ => fun _ => 0)), rfl, rfl, by rw [ht]; exact hP.sub [0, 1, 2] rfl, hD.sub [0, 1, 2] (by decide) rfl⟩, hS.F ht⟩) hS.2.2 dX9_isAbove_47
set_option maxHeartbeats 1000000 in
set_option maxRecDepth 100000 in
/-- isAbove(3, 3) -/
theorem c_isAbove_3_3 (l : Launch) (G : pT) (g0 : Nat) (g1 : Nat) (g2 : Nat) (d : Nat → Nat) (z : Nat → Nat) (k2 : Nat) : PM l G pX0 yX9_isAbove cX9_isAbove 3 (some .boolean) ({ frames := 2, cells := 0, slots := 0, locals := 60 }) [.ref g0, .int 3, .int 3] [(g0, .inr (6, [.ref k2, .ref g1, .int 7, .ref g2, .int 2147483647])), (g1, .inl (G.2.1 4, 37, .inr (.inr (.inr (.inr (dcl d)))))), ((d 3), .inr (2, [.int 3, .int 32, .int (-1), .int 0, .int (-1), .int 0, .int 0, .ref (z 12), .ref (z 13), .ref (d 0), .long 1, .ref (z 14), .ref (z 15)]))] (fun (v : Option Value) (u : (Nat → Nat) × (Nat → Nat → Int32) × (Nat → Nat → Int64)) => v = some (.int 0)) (fun u => [(g0, .inr (6, [.ref k2, .ref g1, .int 7, .ref g2, .int 2147483647])), (g1, .inl (G.2.1 4, 37, .inr (.inr (.inr (.inr (dcl d)))))), ((d 3), .inr (2, [.int 3, .int 32, .int (-1), .int 0, .int (-1), .int 0, .int 0, .ref (z 12), .ref (z 13), .ref (d 0), .long 1, .ref (z 14), .ref (z 15)]))]) := by
  intro sz
  refine Met.ofW (cc := cX9_isAbove) (maxL := 3) (ret := (some .boolean)) (by decide) rfl ?_
  intro p e s m args below meth c s₁ B hml hv
  obtain ⟨rfl, hsz, hP, hD0, hE, hX⟩ := hv
  have hx := B.exec
  have hb := B.bytes
  have hr := B.returns
  have hts := atoms_spec (ws := Cond.code yX9_isAbove cX9_isAbove 3 (some .boolean) :: pw) B.pre
  have hq : ∀ w ∈ pw, w.before _ s = true := fun w h => hts w (List.mem_cons_of_mem _ h)
  have hown : s.vm.findClass RX9 = some m.cls := findClass_of_methodNamed B.named
  have hlocks := B.notSynchronized
  subst hsz
  have hD := hD0.self (sz := s.heap.size)
  have hA : ∀ q : Nat, s.heap.size ≤ q → va_A [(g0, .inr (6, [.ref k2, .ref g1, .int 7, .ref g2, .int 2147483647])), (g1, .inl (G.2.1 4, 37, .inr (.inr (.inr (.inr (dcl d)))))), ((d 3), .inr (2, [.int 3, .int 32, .int (-1), .int 0, .int (-1), .int 0, .int 0, .ref (z 12), .ref (z 13), .ref (d 0), .long 1, .ref (z 14), .ref (z 15)]))] s.heap.size q := fun q h => Or.inr h
  have hP : va_P G.1 pCl [(g0, .inr (6, [.ref k2, .ref g1, .int 7, .ref g2, .int 2147483647])), (g1, .inl (G.2.1 4, 37, .inr (.inr (.inr (.inr (dcl d)))))), ((d 3), .inr (2, [.int 3, .int 32, .int (-1), .int 0, .int (-1), .int 0, .int 0, .ref (z 12), .ref (z 13), .ref (d 0), .long 1, .ref (z 14), .ref (z 15)]))] s.heap := hP
  generalize va_A [(g0, .inr (6, [.ref k2, .ref g1, .int 7, .ref g2, .int 2147483647])), (g1, .inl (G.2.1 4, 37, .inr (.inr (.inr (.inr (dcl d)))))), ((d 3), .inr (2, [.int 3, .int 32, .int (-1), .int 0, .int (-1), .int 0, .int 0, .ref (z 12), .ref (z 13), .ref (d 0), .long 1, .ref (z 14), .ref (z 15)]))] s.heap.size = A at hD hE hA ⊢
  have hS : va_S A s.heap s.heap [] := va_S.rf
  have hl := lv_entry ([.ref g0, .int 3, .int 3]) (n := 3) (Nat.le_of_ble_eq_true rfl)
  rw [lg_entry_eq]
  generalize (lg_sl ([.ref g0, .int 3, .int 3]) ++ List.replicate (3 - (lg_sl ([.ref g0, .int 3, .int 3])).length) Slot.unset).toArray = ls at hl ⊢
  have hl : lv_has ls 3 [(0, .ref g0), (1, .int 3), (2, .int 3)] := hl
  refine lv_iload_n hx hb dX9_isAbove_0 rfl (lv_at hl 1 rfl) ?_
  refine lv_if_lt (tgt := 46) hx hb dX9_isAbove_1 (by decide) (fun c1 => absurd c1 (by decide)) (fun c1 => ?_)
  refine lv_iload_n hx hb dX9_isAbove_4 rfl (lv_at hl 1 rfl) ?_
  refine lv_aload_n hx hb dX9_isAbove_5 rfl (lv_at hl 0 rfl) ?_
  refine va_get (D := G.1) (ci := 6) (v := .int 7) (C := RX9) (T := TX9) (N := 5) hx hb hq pin_wsX90 hown hE.1.1 hP 0 rfl rfl 2 (by decide) (hq _ pw_137) (fun _ h9 => h9) rfl dX9_isAbove_6 ?_
  refine lv_icmp_ge (tgt := 46) hx hb dX9_isAbove_9 (by decide) (fun c2 => absurd c2 (by decide)) (fun c2 => ?_)
  refine lv_iload_n hx hb dX9_isAbove_12 rfl (lv_at hl 2 rfl) ?_
  refine lv_if_lt (tgt := 46) hx hb dX9_isAbove_13 (by decide) (fun c3 => absurd c3 (by decide)) (fun c3 => ?_)
  refine lv_iload_n hx hb dX9_isAbove_16 rfl (lv_at hl 2 rfl) ?_
  refine lv_aload_n hx hb dX9_isAbove_17 rfl (lv_at hl 0 rfl) ?_
  refine va_get (D := G.1) (ci := 6) (v := .int 7) (C := RX9) (T := TX9) (N := 5) hx hb hq pin_wsX90 hown hE.1.1 hP 0 rfl rfl 2 (by decide) (hq _ pw_137) (fun _ h9 => h9) rfl dX9_isAbove_18 ?_
  refine lv_icmp_ge (tgt := 46) hx hb dX9_isAbove_21 (by decide) (fun c4 => absurd c4 (by decide)) (fun c4 => ?_)
  refine lv_aload_n hx hb dX9_isAbove_24 rfl (lv_at hl 0 rfl) ?_
  refine va_get (D := G.1) (ci := 6) (v := .ref g1) (C := RX9) (T := TX9) (N := 5) hx hb hq pin_wsX90 hown hE.1.1 hP 0 rfl rfl 1 (by decide) (hq _ pw_132) (fun _ h9 => h9) rfl dX9_isAbove_25 ?_
  refine lv_iload_n hx hb dX9_isAbove_28 rfl (lv_at hl 2 rfl) ?_
  refine va_aldq hx hb hE.1.1 hP 1 4 rfl rfl (by unfold vp_in; decide) dX9_isAbove_29 ?_
  refine W.eq (g2 := F0 m 30 ls [.ref (d 3)]) rfl ?_
  refine va_get (D := G.1) (ci := 2) (v := .long 1) (C := RX2) (T := TX2) (N := 13) hx hb hq pin_wsX20 hown hE.1.1 hP 2 rfl rfl 10 (by decide) (hq _ pw_153) (fun _ h9 => h9) rfl dX9_isAbove_30 ?_
  refine lv_iload_n hx hb dX9_isAbove_33 rfl (lv_at hl 1 rfl) ?_
  refine lv_lushr (v := 0) hx hb dX9_isAbove_34 (by decide) ?_
  refine lv_lconst (v := 1) hx hb dX9_isAbove_35 (by decide) ?_
  refine lv_land hx hb dX9_isAbove_36 ?_
  refine lv_topl (fun x5 e6 => ?_)
  obtain rfl : x5 = 0 := e6.trans (by decide)
  refine lv_lconst (v := 1) hx hb dX9_isAbove_37 (by decide) ?_
  refine W.lcmp hx hb dX9_isAbove_38 ?_
  refine lv_topi (fun x7 e8 => ?_)
  obtain rfl : x7 = (-1) := e8.trans (by decide)
  refine lv_if_ne (tgt := 46) hx hb dX9_isAbove_39 (by decide) (fun c9 => ?_) (fun c9 => absurd c9 (by decide))
  refine lv_iconst (v := 0) hx hb dX9_isAbove_46 (by decide) ?_
  refine W.widen (k := 0) (n := 0) (Nat.le_of_ble_eq_true rfl) (Nat.le_of_ble_eq_true rfl) ?_
  exact W.zret (v := 0) hx hb hr rfl (fun t ht hW => ⟨⟨_, ((fun _ => 0), (fun _ => fun _ => 0), (fun _ => fun _ => 0)), rfl, rfl, by rw [ht]; exact hP.sub [0, 1, 2] rfl, hD.sub [0, 1, 2] (by decide) rfl⟩, hS.F ht⟩) hS.2.2 dX9_isAbove_47
set_option maxHeartbeats 1000000 in
set_option maxRecDepth 100000 in
/-- isAbove(3, 4) -/
theorem c_isAbove_3_4 (l : Launch) (G : pT) (g0 : Nat) (g1 : Nat) (g2 : Nat) (d : Nat → Nat) (z : Nat → Nat) (k2 : Nat) : PM l G pX0 yX9_isAbove cX9_isAbove 3 (some .boolean) ({ frames := 2, cells := 0, slots := 0, locals := 60 }) [.ref g0, .int 3, .int 4] [(g0, .inr (6, [.ref k2, .ref g1, .int 7, .ref g2, .int 2147483647])), (g1, .inl (G.2.1 4, 37, .inr (.inr (.inr (.inr (dcl d)))))), ((d 4), .inr (2, [.int 4, .int 33, .int (-1), .int 0, .int (-1), .int 0, .int 0, .ref (z 16), .ref (z 17), .ref (d 0), .long 1, .ref (z 18), .ref (z 19)]))] (fun (v : Option Value) (u : (Nat → Nat) × (Nat → Nat → Int32) × (Nat → Nat → Int64)) => v = some (.int 0)) (fun u => [(g0, .inr (6, [.ref k2, .ref g1, .int 7, .ref g2, .int 2147483647])), (g1, .inl (G.2.1 4, 37, .inr (.inr (.inr (.inr (dcl d)))))), ((d 4), .inr (2, [.int 4, .int 33, .int (-1), .int 0, .int (-1), .int 0, .int 0, .ref (z 16), .ref (z 17), .ref (d 0), .long 1, .ref (z 18), .ref (z 19)]))]) := by
  intro sz
  refine Met.ofW (cc := cX9_isAbove) (maxL := 3) (ret := (some .boolean)) (by decide) rfl ?_
  intro p e s m args below meth c s₁ B hml hv
  obtain ⟨rfl, hsz, hP, hD0, hE, hX⟩ := hv
  have hx := B.exec
  have hb := B.bytes
  have hr := B.returns
  have hts := atoms_spec (ws := Cond.code yX9_isAbove cX9_isAbove 3 (some .boolean) :: pw) B.pre
  have hq : ∀ w ∈ pw, w.before _ s = true := fun w h => hts w (List.mem_cons_of_mem _ h)
  have hown : s.vm.findClass RX9 = some m.cls := findClass_of_methodNamed B.named
  have hlocks := B.notSynchronized
  subst hsz
  have hD := hD0.self (sz := s.heap.size)
  have hA : ∀ q : Nat, s.heap.size ≤ q → va_A [(g0, .inr (6, [.ref k2, .ref g1, .int 7, .ref g2, .int 2147483647])), (g1, .inl (G.2.1 4, 37, .inr (.inr (.inr (.inr (dcl d)))))), ((d 4), .inr (2, [.int 4, .int 33, .int (-1), .int 0, .int (-1), .int 0, .int 0, .ref (z 16), .ref (z 17), .ref (d 0), .long 1, .ref (z 18), .ref (z 19)]))] s.heap.size q := fun q h => Or.inr h
  have hP : va_P G.1 pCl [(g0, .inr (6, [.ref k2, .ref g1, .int 7, .ref g2, .int 2147483647])), (g1, .inl (G.2.1 4, 37, .inr (.inr (.inr (.inr (dcl d)))))), ((d 4), .inr (2, [.int 4, .int 33, .int (-1), .int 0, .int (-1), .int 0, .int 0, .ref (z 16), .ref (z 17), .ref (d 0), .long 1, .ref (z 18), .ref (z 19)]))] s.heap := hP
  generalize va_A [(g0, .inr (6, [.ref k2, .ref g1, .int 7, .ref g2, .int 2147483647])), (g1, .inl (G.2.1 4, 37, .inr (.inr (.inr (.inr (dcl d)))))), ((d 4), .inr (2, [.int 4, .int 33, .int (-1), .int 0, .int (-1), .int 0, .int 0, .ref (z 16), .ref (z 17), .ref (d 0), .long 1, .ref (z 18), .ref (z 19)]))] s.heap.size = A at hD hE hA ⊢
  have hS : va_S A s.heap s.heap [] := va_S.rf
  have hl := lv_entry ([.ref g0, .int 3, .int 4]) (n := 3) (Nat.le_of_ble_eq_true rfl)
  rw [lg_entry_eq]
  generalize (lg_sl ([.ref g0, .int 3, .int 4]) ++ List.replicate (3 - (lg_sl ([.ref g0, .int 3, .int 4])).length) Slot.unset).toArray = ls at hl ⊢
  have hl : lv_has ls 3 [(0, .ref g0), (1, .int 3), (2, .int 4)] := hl
  refine lv_iload_n hx hb dX9_isAbove_0 rfl (lv_at hl 1 rfl) ?_
  refine lv_if_lt (tgt := 46) hx hb dX9_isAbove_1 (by decide) (fun c1 => absurd c1 (by decide)) (fun c1 => ?_)
  refine lv_iload_n hx hb dX9_isAbove_4 rfl (lv_at hl 1 rfl) ?_
  refine lv_aload_n hx hb dX9_isAbove_5 rfl (lv_at hl 0 rfl) ?_
  refine va_get (D := G.1) (ci := 6) (v := .int 7) (C := RX9) (T := TX9) (N := 5) hx hb hq pin_wsX90 hown hE.1.1 hP 0 rfl rfl 2 (by decide) (hq _ pw_137) (fun _ h9 => h9) rfl dX9_isAbove_6 ?_
  refine lv_icmp_ge (tgt := 46) hx hb dX9_isAbove_9 (by decide) (fun c2 => absurd c2 (by decide)) (fun c2 => ?_)
  refine lv_iload_n hx hb dX9_isAbove_12 rfl (lv_at hl 2 rfl) ?_
  refine lv_if_lt (tgt := 46) hx hb dX9_isAbove_13 (by decide) (fun c3 => absurd c3 (by decide)) (fun c3 => ?_)
  refine lv_iload_n hx hb dX9_isAbove_16 rfl (lv_at hl 2 rfl) ?_
  refine lv_aload_n hx hb dX9_isAbove_17 rfl (lv_at hl 0 rfl) ?_
  refine va_get (D := G.1) (ci := 6) (v := .int 7) (C := RX9) (T := TX9) (N := 5) hx hb hq pin_wsX90 hown hE.1.1 hP 0 rfl rfl 2 (by decide) (hq _ pw_137) (fun _ h9 => h9) rfl dX9_isAbove_18 ?_
  refine lv_icmp_ge (tgt := 46) hx hb dX9_isAbove_21 (by decide) (fun c4 => absurd c4 (by decide)) (fun c4 => ?_)
  refine lv_aload_n hx hb dX9_isAbove_24 rfl (lv_at hl 0 rfl) ?_
  refine va_get (D := G.1) (ci := 6) (v := .ref g1) (C := RX9) (T := TX9) (N := 5) hx hb hq pin_wsX90 hown hE.1.1 hP 0 rfl rfl 1 (by decide) (hq _ pw_132) (fun _ h9 => h9) rfl dX9_isAbove_25 ?_
  refine lv_iload_n hx hb dX9_isAbove_28 rfl (lv_at hl 2 rfl) ?_
  refine va_aldq hx hb hE.1.1 hP 1 4 rfl rfl (by unfold vp_in; decide) dX9_isAbove_29 ?_
  refine W.eq (g2 := F0 m 30 ls [.ref (d 4)]) rfl ?_
  refine va_get (D := G.1) (ci := 2) (v := .long 1) (C := RX2) (T := TX2) (N := 13) hx hb hq pin_wsX20 hown hE.1.1 hP 2 rfl rfl 10 (by decide) (hq _ pw_153) (fun _ h9 => h9) rfl dX9_isAbove_30 ?_
  refine lv_iload_n hx hb dX9_isAbove_33 rfl (lv_at hl 1 rfl) ?_
  refine lv_lushr (v := 0) hx hb dX9_isAbove_34 (by decide) ?_
  refine lv_lconst (v := 1) hx hb dX9_isAbove_35 (by decide) ?_
  refine lv_land hx hb dX9_isAbove_36 ?_
  refine lv_topl (fun x5 e6 => ?_)
  obtain rfl : x5 = 0 := e6.trans (by decide)
  refine lv_lconst (v := 1) hx hb dX9_isAbove_37 (by decide) ?_
  refine W.lcmp hx hb dX9_isAbove_38 ?_
  refine lv_topi (fun x7 e8 => ?_)
  obtain rfl : x7 = (-1) := e8.trans (by decide)
  refine lv_if_ne (tgt := 46) hx hb dX9_isAbove_39 (by decide) (fun c9 => ?_) (fun c9 => absurd c9 (by decide))
  refine lv_iconst (v := 0) hx hb dX9_isAbove_46 (by decide) ?_
  refine W.widen (k := 0) (n := 0) (Nat.le_of_ble_eq_true rfl) (Nat.le_of_ble_eq_true rfl) ?_
  exact W.zret (v := 0) hx hb hr rfl (fun t ht hW => ⟨⟨_, ((fun _ => 0), (fun _ => fun _ => 0), (fun _ => fun _ => 0)), rfl, rfl, by rw [ht]; exact hP.sub [0, 1, 2] rfl, hD.sub [0, 1, 2] (by decide) rfl⟩, hS.F ht⟩) hS.2.2 dX9_isAbove_47
set_option maxHeartbeats 1000000 in
set_option maxRecDepth 100000 in
/-- isAbove(3, 5) -/
theorem c_isAbove_3_5 (l : Launch) (G : pT) (g0 : Nat) (g1 : Nat) (g2 : Nat) (d : Nat → Nat) (z : Nat → Nat) (k2 : Nat) : PM l G pX0 yX9_isAbove cX9_isAbove 3 (some .boolean) ({ frames := 2, cells := 0, slots := 0, locals := 60 }) [.ref g0, .int 3, .int 5] [(g0, .inr (6, [.ref k2, .ref g1, .int 7, .ref g2, .int 2147483647])), (g1, .inl (G.2.1 4, 37, .inr (.inr (.inr (.inr (dcl d)))))), ((d 5), .inr (2, [.int 5, .int 34, .int (-1), .int 0, .int (-1), .int 0, .int 0, .ref (z 20), .ref (z 21), .ref (d 0), .long 1, .ref (z 22), .ref (z 23)]))] (fun (v : Option Value) (u : (Nat → Nat) × (Nat → Nat → Int32) × (Nat → Nat → Int64)) => v = some (.int 0)) (fun u => [(g0, .inr (6, [.ref k2, .ref g1, .int 7, .ref g2, .int 2147483647])), (g1, .inl (G.2.1 4, 37, .inr (.inr (.inr (.inr (dcl d)))))), ((d 5), .inr (2, [.int 5, .int 34, .int (-1), .int 0, .int (-1), .int 0, .int 0, .ref (z 20), .ref (z 21), .ref (d 0), .long 1, .ref (z 22), .ref (z 23)]))]) := by
  intro sz
  refine Met.ofW (cc := cX9_isAbove) (maxL := 3) (ret := (some .boolean)) (by decide) rfl ?_
  intro p e s m args below meth c s₁ B hml hv
  obtain ⟨rfl, hsz, hP, hD0, hE, hX⟩ := hv
  have hx := B.exec
  have hb := B.bytes
  have hr := B.returns
  have hts := atoms_spec (ws := Cond.code yX9_isAbove cX9_isAbove 3 (some .boolean) :: pw) B.pre
  have hq : ∀ w ∈ pw, w.before _ s = true := fun w h => hts w (List.mem_cons_of_mem _ h)
  have hown : s.vm.findClass RX9 = some m.cls := findClass_of_methodNamed B.named
  have hlocks := B.notSynchronized
  subst hsz
  have hD := hD0.self (sz := s.heap.size)
  have hA : ∀ q : Nat, s.heap.size ≤ q → va_A [(g0, .inr (6, [.ref k2, .ref g1, .int 7, .ref g2, .int 2147483647])), (g1, .inl (G.2.1 4, 37, .inr (.inr (.inr (.inr (dcl d)))))), ((d 5), .inr (2, [.int 5, .int 34, .int (-1), .int 0, .int (-1), .int 0, .int 0, .ref (z 20), .ref (z 21), .ref (d 0), .long 1, .ref (z 22), .ref (z 23)]))] s.heap.size q := fun q h => Or.inr h
  have hP : va_P G.1 pCl [(g0, .inr (6, [.ref k2, .ref g1, .int 7, .ref g2, .int 2147483647])), (g1, .inl (G.2.1 4, 37, .inr (.inr (.inr (.inr (dcl d)))))), ((d 5), .inr (2, [.int 5, .int 34, .int (-1), .int 0, .int (-1), .int 0, .int 0, .ref (z 20), .ref (z 21), .ref (d 0), .long 1, .ref (z 22), .ref (z 23)]))] s.heap := hP
  generalize va_A [(g0, .inr (6, [.ref k2, .ref g1, .int 7, .ref g2, .int 2147483647])), (g1, .inl (G.2.1 4, 37, .inr (.inr (.inr (.inr (dcl d)))))), ((d 5), .inr (2, [.int 5, .int 34, .int (-1), .int 0, .int (-1), .int 0, .int 0, .ref (z 20), .ref (z 21), .ref (d 0), .long 1, .ref (z 22), .ref (z 23)]))] s.heap.size = A at hD hE hA ⊢
  have hS : va_S A s.heap s.heap [] := va_S.rf
  have hl := lv_entry ([.ref g0, .int 3, .int 5]) (n := 3) (Nat.le_of_ble_eq_true rfl)
  rw [lg_entry_eq]
  generalize (lg_sl ([.ref g0, .int 3, .int 5]) ++ List.replicate (3 - (lg_sl ([.ref g0, .int 3, .int 5])).length) Slot.unset).toArray = ls at hl ⊢
  have hl : lv_has ls 3 [(0, .ref g0), (1, .int 3), (2, .int 5)] := hl
  refine lv_iload_n hx hb dX9_isAbove_0 rfl (lv_at hl 1 rfl) ?_
  refine lv_if_lt (tgt := 46) hx hb dX9_isAbove_1 (by decide) (fun c1 => absurd c1 (by decide)) (fun c1 => ?_)
  refine lv_iload_n hx hb dX9_isAbove_4 rfl (lv_at hl 1 rfl) ?_
  refine lv_aload_n hx hb dX9_isAbove_5 rfl (lv_at hl 0 rfl) ?_
  refine va_get (D := G.1) (ci := 6) (v := .int 7) (C := RX9) (T := TX9) (N := 5) hx hb hq pin_wsX90 hown hE.1.1 hP 0 rfl rfl 2 (by decide) (hq _ pw_137) (fun _ h9 => h9) rfl dX9_isAbove_6 ?_
  refine lv_icmp_ge (tgt := 46) hx hb dX9_isAbove_9 (by decide) (fun c2 => absurd c2 (by decide)) (fun c2 => ?_)
  refine lv_iload_n hx hb dX9_isAbove_12 rfl (lv_at hl 2 rfl) ?_
  refine lv_if_lt (tgt := 46) hx hb dX9_isAbove_13 (by decide) (fun c3 => absurd c3 (by decide)) (fun c3 => ?_)
  refine lv_iload_n hx hb dX9_isAbove_16 rfl (lv_at hl 2 rfl) ?_
  refine lv_aload_n hx hb dX9_isAbove_17 rfl (lv_at hl 0 rfl) ?_
  refine va_get (D := G.1) (ci := 6) (v := .int 7) (C := RX9) (T := TX9) (N := 5) hx hb hq pin_wsX90 hown hE.1.1 hP 0 rfl rfl 2 (by decide) (hq _ pw_137) (fun _ h9 => h9) rfl dX9_isAbove_18 ?_
  refine lv_icmp_ge (tgt := 46) hx hb dX9_isAbove_21 (by decide) (fun c4 => absurd c4 (by decide)) (fun c4 => ?_)
  refine lv_aload_n hx hb dX9_isAbove_24 rfl (lv_at hl 0 rfl) ?_
  refine va_get (D := G.1) (ci := 6) (v := .ref g1) (C := RX9) (T := TX9) (N := 5) hx hb hq pin_wsX90 hown hE.1.1 hP 0 rfl rfl 1 (by decide) (hq _ pw_132) (fun _ h9 => h9) rfl dX9_isAbove_25 ?_
  refine lv_iload_n hx hb dX9_isAbove_28 rfl (lv_at hl 2 rfl) ?_
  refine va_aldq hx hb hE.1.1 hP 1 4 rfl rfl (by unfold vp_in; decide) dX9_isAbove_29 ?_
  refine W.eq (g2 := F0 m 30 ls [.ref (d 5)]) rfl ?_
  refine va_get (D := G.1) (ci := 2) (v := .long 1) (C := RX2) (T := TX2) (N := 13) hx hb hq pin_wsX20 hown hE.1.1 hP 2 rfl rfl 10 (by decide) (hq _ pw_153) (fun _ h9 => h9) rfl dX9_isAbove_30 ?_
  refine lv_iload_n hx hb dX9_isAbove_33 rfl (lv_at hl 1 rfl) ?_
  refine lv_lushr (v := 0) hx hb dX9_isAbove_34 (by decide) ?_
  refine lv_lconst (v := 1) hx hb dX9_isAbove_35 (by decide) ?_
  refine lv_land hx hb dX9_isAbove_36 ?_
  refine lv_topl (fun x5 e6 => ?_)
  obtain rfl : x5 = 0 := e6.trans (by decide)
  refine lv_lconst (v := 1) hx hb dX9_isAbove_37 (by decide) ?_
  refine W.lcmp hx hb dX9_isAbove_38 ?_
  refine lv_topi (fun x7 e8 => ?_)
  obtain rfl : x7 = (-1) := e8.trans (by decide)
  refine lv_if_ne (tgt := 46) hx hb dX9_isAbove_39 (by decide) (fun c9 => ?_) (fun c9 => absurd c9 (by decide))
  refine lv_iconst (v := 0) hx hb dX9_isAbove_46 (by decide) ?_
  refine W.widen (k := 0) (n := 0) (Nat.le_of_ble_eq_true rfl) (Nat.le_of_ble_eq_true rfl) ?_
  exact W.zret (v := 0) hx hb hr rfl (fun t ht hW => ⟨⟨_, ((fun _ => 0), (fun _ => fun _ => 0), (fun _ => fun _ => 0)), rfl, rfl, by rw [ht]; exact hP.sub [0, 1, 2] rfl, hD.sub [0, 1, 2] (by decide) rfl⟩, hS.F ht⟩) hS.2.2 dX9_isAbove_47
set_option maxHeartbeats 1000000 in
set_option maxRecDepth 100000 in
/-- isAbove(3, 6) -/
theorem c_isAbove_3_6 (l : Launch) (G : pT) (g0 : Nat) (g1 : Nat) (g2 : Nat) (d : Nat → Nat) (z : Nat → Nat) (k2 : Nat) : PM l G pX0 yX9_isAbove cX9_isAbove 3 (some .boolean) ({ frames := 2, cells := 0, slots := 0, locals := 60 }) [.ref g0, .int 3, .int 6] [(g0, .inr (6, [.ref k2, .ref g1, .int 7, .ref g2, .int 2147483647])), (g1, .inl (G.2.1 4, 37, .inr (.inr (.inr (.inr (dcl d)))))), ((d 6), .inr (2, [.int 6, .int 35, .int (-1), .int 0, .int (-1), .int 0, .int 0, .ref (z 24), .ref (z 25), .ref (d 0), .long 1, .ref (z 26), .ref (z 27)]))] (fun (v : Option Value) (u : (Nat → Nat) × (Nat → Nat → Int32) × (Nat → Nat → Int64)) => v = some (.int 0)) (fun u => [(g0, .inr (6, [.ref k2, .ref g1, .int 7, .ref g2, .int 2147483647])), (g1, .inl (G.2.1 4, 37, .inr (.inr (.inr (.inr (dcl d)))))), ((d 6), .inr (2, [.int 6, .int 35, .int (-1), .int 0, .int (-1), .int 0, .int 0, .ref (z 24), .ref (z 25), .ref (d 0), .long 1, .ref (z 26), .ref (z 27)]))]) := by
  intro sz
  refine Met.ofW (cc := cX9_isAbove) (maxL := 3) (ret := (some .boolean)) (by decide) rfl ?_
  intro p e s m args below meth c s₁ B hml hv
  obtain ⟨rfl, hsz, hP, hD0, hE, hX⟩ := hv
  have hx := B.exec
  have hb := B.bytes
  have hr := B.returns
  have hts := atoms_spec (ws := Cond.code yX9_isAbove cX9_isAbove 3 (some .boolean) :: pw) B.pre
  have hq : ∀ w ∈ pw, w.before _ s = true := fun w h => hts w (List.mem_cons_of_mem _ h)
  have hown : s.vm.findClass RX9 = some m.cls := findClass_of_methodNamed B.named
  have hlocks := B.notSynchronized
  subst hsz
  have hD := hD0.self (sz := s.heap.size)
  have hA : ∀ q : Nat, s.heap.size ≤ q → va_A [(g0, .inr (6, [.ref k2, .ref g1, .int 7, .ref g2, .int 2147483647])), (g1, .inl (G.2.1 4, 37, .inr (.inr (.inr (.inr (dcl d)))))), ((d 6), .inr (2, [.int 6, .int 35, .int (-1), .int 0, .int (-1), .int 0, .int 0, .ref (z 24), .ref (z 25), .ref (d 0), .long 1, .ref (z 26), .ref (z 27)]))] s.heap.size q := fun q h => Or.inr h
  have hP : va_P G.1 pCl [(g0, .inr (6, [.ref k2, .ref g1, .int 7, .ref g2, .int 2147483647])), (g1, .inl (G.2.1 4, 37, .inr (.inr (.inr (.inr (dcl d)))))), ((d 6), .inr (2, [.int 6, .int 35, .int (-1), .int 0, .int (-1), .int 0, .int 0, .ref (z 24), .ref (z 25), .ref (d 0), .long 1, .ref (z 26), .ref (z 27)]))] s.heap := hP
  generalize va_A [(g0, .inr (6, [.ref k2, .ref g1, .int 7, .ref g2, .int 2147483647])), (g1, .inl (G.2.1 4, 37, .inr (.inr (.inr (.inr (dcl d)))))), ((d 6), .inr (2, [.int 6, .int 35, .int (-1), .int 0, .int (-1), .int 0, .int 0, .ref (z 24), .ref (z 25), .ref (d 0), .long 1, .ref (z 26), .ref (z 27)]))] s.heap.size = A at hD hE hA ⊢
  have hS : va_S A s.heap s.heap [] := va_S.rf
  have hl := lv_entry ([.ref g0, .int 3, .int 6]) (n := 3) (Nat.le_of_ble_eq_true rfl)
  rw [lg_entry_eq]
  generalize (lg_sl ([.ref g0, .int 3, .int 6]) ++ List.replicate (3 - (lg_sl ([.ref g0, .int 3, .int 6])).length) Slot.unset).toArray = ls at hl ⊢
  have hl : lv_has ls 3 [(0, .ref g0), (1, .int 3), (2, .int 6)] := hl
  refine lv_iload_n hx hb dX9_isAbove_0 rfl (lv_at hl 1 rfl) ?_
  refine lv_if_lt (tgt := 46) hx hb dX9_isAbove_1 (by decide) (fun c1 => absurd c1 (by decide)) (fun c1 => ?_)
  refine lv_iload_n hx hb dX9_isAbove_4 rfl (lv_at hl 1 rfl) ?_
  refine lv_aload_n hx hb dX9_isAbove_5 rfl (lv_at hl 0 rfl) ?_
  refine va_get (D := G.1) (ci := 6) (v := .int 7) (C := RX9) (T := TX9) (N := 5) hx hb hq pin_wsX90 hown hE.1.1 hP 0 rfl rfl 2 (by decide) (hq _ pw_137) (fun _ h9 => h9) rfl dX9_isAbove_6 ?_
  refine lv_icmp_ge (tgt := 46) hx hb dX9_isAbove_9 (by decide) (fun c2 => absurd c2 (by decide)) (fun c2 => ?_)
  refine lv_iload_n hx hb dX9_isAbove_12 rfl (lv_at hl 2 rfl) ?_
  refine lv_if_lt (tgt := 46) hx hb dX9_isAbove_13 (by decide) (fun c3 => absurd c3 (by decide)) (fun c3 => ?_)
  refine lv_iload_n hx hb dX9_isAbove_16 rfl (lv_at hl 2 rfl) ?_
  refine lv_aload_n hx hb dX9_isAbove_17 rfl (lv_at hl 0 rfl) ?_
  refine va_get (D := G.1) (ci := 6) (v := .int 7) (C := RX9) (T := TX9) (N := 5) hx hb hq pin_wsX90 hown hE.1.1 hP 0 rfl rfl 2 (by decide) (hq _ pw_137) (fun _ h9 => h9) rfl dX9_isAbove_18 ?_
  refine lv_icmp_ge (tgt := 46) hx hb dX9_isAbove_21 (by decide) (fun c4 => absurd c4 (by decide)) (fun c4 => ?_)
  refine lv_aload_n hx hb dX9_isAbove_24 rfl (lv_at hl 0 rfl) ?_
  refine va_get (D := G.1) (ci := 6) (v := .ref g1) (C := RX9) (T := TX9) (N := 5) hx hb hq pin_wsX90 hown hE.1.1 hP 0 rfl rfl 1 (by decide) (hq _ pw_132) (fun _ h9 => h9) rfl dX9_isAbove_25 ?_
  refine lv_iload_n hx hb dX9_isAbove_28 rfl (lv_at hl 2 rfl) ?_
  refine va_aldq hx hb hE.1.1 hP 1 4 rfl rfl (by unfold vp_in; decide) dX9_isAbove_29 ?_
  refine W.eq (g2 := F0 m 30 ls [.ref (d 6)]) rfl ?_
  refine va_get (D := G.1) (ci := 2) (v := .long 1) (C := RX2) (T := TX2) (N := 13) hx hb hq pin_wsX20 hown hE.1.1 hP 2 rfl rfl 10 (by decide) (hq _ pw_153) (fun _ h9 => h9) rfl dX9_isAbove_30 ?_
  refine lv_iload_n hx hb dX9_isAbove_33 rfl (lv_at hl 1 rfl) ?_
  refine lv_lushr (v := 0) hx hb dX9_isAbove_34 (by decide) ?_
  refine lv_lconst (v := 1) hx hb dX9_isAbove_35 (by decide) ?_
  refine lv_land hx hb dX9_isAbove_36 ?_
  refine lv_topl (fun x5 e6 => ?_)
  obtain rfl : x5 = 0 := e6.trans (by decide)
  refine lv_lconst (v := 1) hx hb dX9_isAbove_37 (by decide) ?_
  refine W.lcmp hx hb dX9_isAbove_38 ?_
  refine lv_topi (fun x7 e8 => ?_)
  obtain rfl : x7 = (-1) := e8.trans (by decide)
  refine lv_if_ne (tgt := 46) hx hb dX9_isAbove_39 (by decide) (fun c9 => ?_) (fun c9 => absurd c9 (by decide))
  refine lv_iconst (v := 0) hx hb dX9_isAbove_46 (by decide) ?_
  refine W.widen (k := 0) (n := 0) (Nat.le_of_ble_eq_true rfl) (Nat.le_of_ble_eq_true rfl) ?_
  exact W.zret (v := 0) hx hb hr rfl (fun t ht hW => ⟨⟨_, ((fun _ => 0), (fun _ => fun _ => 0), (fun _ => fun _ => 0)), rfl, rfl, by rw [ht]; exact hP.sub [0, 1, 2] rfl, hD.sub [0, 1, 2] (by decide) rfl⟩, hS.F ht⟩) hS.2.2 dX9_isAbove_47
set_option maxHeartbeats 1000000 in
set_option maxRecDepth 100000 in
/-- isAbove(4, 0) -/
theorem c_isAbove_4_0 (l : Launch) (G : pT) (g0 : Nat) (g1 : Nat) (g2 : Nat) (d : Nat → Nat) (z : Nat → Nat) (k2 : Nat) : PM l G pX0 yX9_isAbove cX9_isAbove 3 (some .boolean) ({ frames := 2, cells := 0, slots := 0, locals := 60 }) [.ref g0, .int 4, .int 0] [(g0, .inr (6, [.ref k2, .ref g1, .int 7, .ref g2, .int 2147483647])), (g1, .inl (G.2.1 4, 37, .inr (.inr (.inr (.inr (dcl d)))))), ((d 0), .inr (2, [.int 0, .int 29, .int (-1), .int 0, .int (-1), .int 0, .int 0, .ref (z 0), .ref (z 1), .null, .long 0, .ref (z 2), .ref (z 3)]))] (fun (v : Option Value) (u : (Nat → Nat) × (Nat → Nat → Int32) × (Nat → Nat → Int64)) => v = some (.int 0)) (fun u => [(g0, .inr (6, [.ref k2, .ref g1, .int 7, .ref g2, .int 2147483647])), (g1, .inl (G.2.1 4, 37, .inr (.inr (.inr (.inr (dcl d)))))), ((d 0), .inr (2, [.int 0, .int 29, .int (-1), .int 0, .int (-1), .int 0, .int 0, .ref (z 0), .ref (z 1), .null, .long 0, .ref (z 2), .ref (z 3)]))]) := by
  intro sz
  refine Met.ofW (cc := cX9_isAbove) (maxL := 3) (ret := (some .boolean)) (by decide) rfl ?_
  intro p e s m args below meth c s₁ B hml hv
  obtain ⟨rfl, hsz, hP, hD0, hE, hX⟩ := hv
  have hx := B.exec
  have hb := B.bytes
  have hr := B.returns
  have hts := atoms_spec (ws := Cond.code yX9_isAbove cX9_isAbove 3 (some .boolean) :: pw) B.pre
  have hq : ∀ w ∈ pw, w.before _ s = true := fun w h => hts w (List.mem_cons_of_mem _ h)
  have hown : s.vm.findClass RX9 = some m.cls := findClass_of_methodNamed B.named
  have hlocks := B.notSynchronized
  subst hsz
  have hD := hD0.self (sz := s.heap.size)
  have hA : ∀ q : Nat, s.heap.size ≤ q → va_A [(g0, .inr (6, [.ref k2, .ref g1, .int 7, .ref g2, .int 2147483647])), (g1, .inl (G.2.1 4, 37, .inr (.inr (.inr (.inr (dcl d)))))), ((d 0), .inr (2, [.int 0, .int 29, .int (-1), .int 0, .int (-1), .int 0, .int 0, .ref (z 0), .ref (z 1), .null, .long 0, .ref (z 2), .ref (z 3)]))] s.heap.size q := fun q h => Or.inr h
  have hP : va_P G.1 pCl [(g0, .inr (6, [.ref k2, .ref g1, .int 7, .ref g2, .int 2147483647])), (g1, .inl (G.2.1 4, 37, .inr (.inr (.inr (.inr (dcl d)))))), ((d 0), .inr (2, [.int 0, .int 29, .int (-1), .int 0, .int (-1), .int 0, .int 0, .ref (z 0), .ref (z 1), .null, .long 0, .ref (z 2), .ref (z 3)]))] s.heap := hP
  generalize va_A [(g0, .inr (6, [.ref k2, .ref g1, .int 7, .ref g2, .int 2147483647])), (g1, .inl (G.2.1 4, 37, .inr (.inr (.inr (.inr (dcl d)))))), ((d 0), .inr (2, [.int 0, .int 29, .int (-1), .int 0, .int (-1), .int 0, .int 0, .ref (z 0), .ref (z 1), .null, .long 0, .ref (z 2), .ref (z 3)]))] s.heap.size = A at hD hE hA ⊢
  have hS : va_S A s.heap s.heap [] := va_S.rf
  have hl := lv_entry ([.ref g0, .int 4, .int 0]) (n := 3) (Nat.le_of_ble_eq_true rfl)
  rw [lg_entry_eq]
  generalize (lg_sl ([.ref g0, .int 4, .int 0]) ++ List.replicate (3 - (lg_sl ([.ref g0, .int 4, .int 0])).length) Slot.unset).toArray = ls at hl ⊢
  have hl : lv_has ls 3 [(0, .ref g0), (1, .int 4), (2, .int 0)] := hl
  refine lv_iload_n hx hb dX9_isAbove_0 rfl (lv_at hl 1 rfl) ?_
  refine lv_if_lt (tgt := 46) hx hb dX9_isAbove_1 (by decide) (fun c1 => absurd c1 (by decide)) (fun c1 => ?_)
  refine lv_iload_n hx hb dX9_isAbove_4 rfl (lv_at hl 1 rfl) ?_
  refine lv_aload_n hx hb dX9_isAbove_5 rfl (lv_at hl 0 rfl) ?_
  refine va_get (D := G.1) (ci := 6) (v := .int 7) (C := RX9) (T := TX9) (N := 5) hx hb hq pin_wsX90 hown hE.1.1 hP 0 rfl rfl 2 (by decide) (hq _ pw_137) (fun _ h9 => h9) rfl dX9_isAbove_6 ?_
  refine lv_icmp_ge (tgt := 46) hx hb dX9_isAbove_9 (by decide) (fun c2 => absurd c2 (by decide)) (fun c2 => ?_)
  refine lv_iload_n hx hb dX9_isAbove_12 rfl (lv_at hl 2 rfl) ?_
  refine lv_if_lt (tgt := 46) hx hb dX9_isAbove_13 (by decide) (fun c3 => absurd c3 (by decide)) (fun c3 => ?_)
  refine lv_iload_n hx hb dX9_isAbove_16 rfl (lv_at hl 2 rfl) ?_
  refine lv_aload_n hx hb dX9_isAbove_17 rfl (lv_at hl 0 rfl) ?_
  refine va_get (D := G.1) (ci := 6) (v := .int 7) (C := RX9) (T := TX9) (N := 5) hx hb hq pin_wsX90 hown hE.1.1 hP 0 rfl rfl 2 (by decide) (hq _ pw_137) (fun _ h9 => h9) rfl dX9_isAbove_18 ?_
  refine lv_icmp_ge (tgt := 46) hx hb dX9_isAbove_21 (by decide) (fun c4 => absurd c4 (by decide)) (fun c4 => ?_)
  refine lv_aload_n hx hb dX9_isAbove_24 rfl (lv_at hl 0 rfl) ?_
  refine va_get (D := G.1) (ci := 6) (v := .ref g1) (C := RX9) (T := TX9) (N := 5) hx hb hq pin_wsX90 hown hE.1.1 hP 0 rfl rfl 1 (by decide) (hq _ pw_132) (fun _ h9 => h9) rfl dX9_isAbove_25 ?_
  refine lv_iload_n hx hb dX9_isAbove_28 rfl (lv_at hl 2 rfl) ?_
  refine va_aldq hx hb hE.1.1 hP 1 4 rfl rfl (by unfold vp_in; decide) dX9_isAbove_29 ?_
  refine W.eq (g2 := F0 m 30 ls [.ref (d 0)]) rfl ?_
  refine va_get (D := G.1) (ci := 2) (v := .long 0) (C := RX2) (T := TX2) (N := 13) hx hb hq pin_wsX20 hown hE.1.1 hP 2 rfl rfl 10 (by decide) (hq _ pw_153) (fun _ h9 => h9) rfl dX9_isAbove_30 ?_
  refine lv_iload_n hx hb dX9_isAbove_33 rfl (lv_at hl 1 rfl) ?_
  refine lv_lushr (v := 0) hx hb dX9_isAbove_34 (by decide) ?_
  refine lv_lconst (v := 1) hx hb dX9_isAbove_35 (by decide) ?_
  refine lv_land hx hb dX9_isAbove_36 ?_
  refine lv_topl (fun x5 e6 => ?_)
  obtain rfl : x5 = 0 := e6.trans (by decide)
  refine lv_lconst (v := 1) hx hb dX9_isAbove_37 (by decide) ?_
  refine W.lcmp hx hb dX9_isAbove_38 ?_
  refine lv_topi (fun x7 e8 => ?_)
  obtain rfl : x7 = (-1) := e8.trans (by decide)
  refine lv_if_ne (tgt := 46) hx hb dX9_isAbove_39 (by decide) (fun c9 => ?_) (fun c9 => absurd c9 (by decide))
  refine lv_iconst (v := 0) hx hb dX9_isAbove_46 (by decide) ?_
  refine W.widen (k := 0) (n := 0) (Nat.le_of_ble_eq_true rfl) (Nat.le_of_ble_eq_true rfl) ?_
  exact W.zret (v := 0) hx hb hr rfl (fun t ht hW => ⟨⟨_, ((fun _ => 0), (fun _ => fun _ => 0), (fun _ => fun _ => 0)), rfl, rfl, by rw [ht]; exact hP.sub [0, 1, 2] rfl, hD.sub [0, 1, 2] (by decide) rfl⟩, hS.F ht⟩) hS.2.2 dX9_isAbove_47
set_option maxHeartbeats 1000000 in
set_option maxRecDepth 100000 in
/-- isAbove(4, 1) -/
theorem c_isAbove_4_1 (l : Launch) (G : pT) (g0 : Nat) (g1 : Nat) (g2 : Nat) (d : Nat → Nat) (z : Nat → Nat) (k2 : Nat) : PM l G pX0 yX9_isAbove cX9_isAbove 3 (some .boolean) ({ frames := 2, cells := 0, slots := 0, locals := 60 }) [.ref g0, .int 4, .int 1] [(g0, .inr (6, [.ref k2, .ref g1, .int 7, .ref g2, .int 2147483647])), (g1, .inl (G.2.1 4, 37, .inr (.inr (.inr (.inr (dcl d)))))), ((d 1), .inr (2, [.int 1, .int 30, .int (-1), .int 0, .int (-1), .int 0, .int 0, .ref (z 4), .ref (z 5), .ref (d 0), .long 1, .ref (z 6), .ref (z 7)]))] (fun (v : Option Value) (u : (Nat → Nat) × (Nat → Nat → Int32) × (Nat → Nat → Int64)) => v = some (.int 0)) (fun u => [(g0, .inr (6, [.ref k2, .ref g1, .int 7, .ref g2, .int 2147483647])), (g1, .inl (G.2.1 4, 37, .inr (.inr (.inr (.inr (dcl d)))))), ((d 1), .inr (2, [.int 1, .int 30, .int (-1), .int 0, .int (-1), .int 0, .int 0, .ref (z 4), .ref (z 5), .ref (d 0), .long 1, .ref (z 6), .ref (z 7)]))]) := by
  intro sz
  refine Met.ofW (cc := cX9_isAbove) (maxL := 3) (ret := (some .boolean)) (by decide) rfl ?_
  intro p e s m args below meth c s₁ B hml hv
  obtain ⟨rfl, hsz, hP, hD0, hE, hX⟩ := hv
  have hx := B.exec
  have hb := B.bytes
  have hr := B.returns
  have hts := atoms_spec (ws := Cond.code yX9_isAbove cX9_isAbove 3 (some .boolean) :: pw) B.pre
  have hq : ∀ w ∈ pw, w.before _ s = true := fun w h => hts w (List.mem_cons_of_mem _ h)
  have hown : s.vm.findClass RX9 = some m.cls := findClass_of_methodNamed B.named
  have hlocks := B.notSynchronized
  subst hsz
  have hD := hD0.self (sz := s.heap.size)
  have hA : ∀ q : Nat, s.heap.size ≤ q → va_A [(g0, .inr (6, [.ref k2, .ref g1, .int 7, .ref g2, .int 2147483647])), (g1, .inl (G.2.1 4, 37, .inr (.inr (.inr (.inr (dcl d)))))), ((d 1), .inr (2, [.int 1, .int 30, .int (-1), .int 0, .int (-1), .int 0, .int 0, .ref (z 4), .ref (z 5), .ref (d 0), .long 1, .ref (z 6), .ref (z 7)]))] s.heap.size q := fun q h => Or.inr h
  have hP : va_P G.1 pCl [(g0, .inr (6, [.ref k2, .ref g1, .int 7, .ref g2, .int 2147483647])), (g1, .inl (G.2.1 4, 37, .inr (.inr (.inr (.inr (dcl d)))))), ((d 1), .inr (2, [.int 1, .int 30, .int (-1), .int 0, .int (-1), .int 0, .int 0, .ref (z 4), .ref (z 5), .ref (d 0), .long 1, .ref (z 6), .ref (z 7)]))] s.heap := hP
  generalize va_A [(g0, .inr (6, [.ref k2, .ref g1, .int 7, .ref g2, .int 2147483647])), (g1, .inl (G.2.1 4, 37, .inr (.inr (.inr (.inr (dcl d)))))), ((d 1), .inr (2, [.int 1, .int 30, .int (-1), .int 0, .int (-1), .int 0, .int 0, .ref (z 4), .ref (z 5), .ref (d 0), .long 1, .ref (z 6), .ref (z 7)]))] s.heap.size = A at hD hE hA ⊢
  have hS : va_S A s.heap s.heap [] := va_S.rf
  have hl := lv_entry ([.ref g0, .int 4, .int 1]) (n := 3) (Nat.le_of_ble_eq_true rfl)
  rw [lg_entry_eq]
  generalize (lg_sl ([.ref g0, .int 4, .int 1]) ++ List.replicate (3 - (lg_sl ([.ref g0, .int 4, .int 1])).length) Slot.unset).toArray = ls at hl ⊢
  have hl : lv_has ls 3 [(0, .ref g0), (1, .int 4), (2, .int 1)] := hl
  refine lv_iload_n hx hb dX9_isAbove_0 rfl (lv_at hl 1 rfl) ?_
  refine lv_if_lt (tgt := 46) hx hb dX9_isAbove_1 (by decide) (fun c1 => absurd c1 (by decide)) (fun c1 => ?_)
  refine lv_iload_n hx hb dX9_isAbove_4 rfl (lv_at hl 1 rfl) ?_
  refine lv_aload_n hx hb dX9_isAbove_5 rfl (lv_at hl 0 rfl) ?_
  refine va_get (D := G.1) (ci := 6) (v := .int 7) (C := RX9) (T := TX9) (N := 5) hx hb hq pin_wsX90 hown hE.1.1 hP 0 rfl rfl 2 (by decide) (hq _ pw_137) (fun _ h9 => h9) rfl dX9_isAbove_6 ?_
  refine lv_icmp_ge (tgt := 46) hx hb dX9_isAbove_9 (by decide) (fun c2 => absurd c2 (by decide)) (fun c2 => ?_)
  refine lv_iload_n hx hb dX9_isAbove_12 rfl (lv_at hl 2 rfl) ?_
  refine lv_if_lt (tgt := 46) hx hb dX9_isAbove_13 (by decide) (fun c3 => absurd c3 (by decide)) (fun c3 => ?_)
  refine lv_iload_n hx hb dX9_isAbove_16 rfl (lv_at hl 2 rfl) ?_
  refine lv_aload_n hx hb dX9_isAbove_17 rfl (lv_at hl 0 rfl) ?_
  refine va_get (D := G.1) (ci := 6) (v := .int 7) (C := RX9) (T := TX9) (N := 5) hx hb hq pin_wsX90 hown hE.1.1 hP 0 rfl rfl 2 (by decide) (hq _ pw_137) (fun _ h9 => h9) rfl dX9_isAbove_18 ?_
  refine lv_icmp_ge (tgt := 46) hx hb dX9_isAbove_21 (by decide) (fun c4 => absurd c4 (by decide)) (fun c4 => ?_)
  refine lv_aload_n hx hb dX9_isAbove_24 rfl (lv_at hl 0 rfl) ?_
  refine va_get (D := G.1) (ci := 6) (v := .ref g1) (C := RX9) (T := TX9) (N := 5) hx hb hq pin_wsX90 hown hE.1.1 hP 0 rfl rfl 1 (by decide) (hq _ pw_132) (fun _ h9 => h9) rfl dX9_isAbove_25 ?_
  refine lv_iload_n hx hb dX9_isAbove_28 rfl (lv_at hl 2 rfl) ?_
  refine va_aldq hx hb hE.1.1 hP 1 4 rfl rfl (by unfold vp_in; decide) dX9_isAbove_29 ?_
  refine W.eq (g2 := F0 m 30 ls [.ref (d 1)]) rfl ?_
  refine va_get (D := G.1) (ci := 2) (v := .long 1) (C := RX2) (T := TX2) (N := 13) hx hb hq pin_wsX20 hown hE.1.1 hP 2 rfl rfl 10 (by decide) (hq _ pw_153) (fun _ h9 => h9) rfl dX9_isAbove_30 ?_
  refine lv_iload_n hx hb dX9_isAbove_33 rfl (lv_at hl 1 rfl) ?_
  refine lv_lushr (v := 0) hx hb dX9_isAbove_34 (by decide) ?_
  refine lv_lconst (v := 1) hx hb dX9_isAbove_35 (by decide) ?_
  refine lv_land hx hb dX9_isAbove_36 ?_
  refine lv_topl (fun x5 e6 => ?_)
  obtain rfl : x5 = 0 := e6.trans (by decide)
  refine lv_lconst (v := 1) hx hb dX9_isAbove_37 (by decide) ?_
  refine W.lcmp hx hb dX9_isAbove_38 ?_
  refine lv_topi (fun x7 e8 => ?_)
  obtain rfl : x7 = (-1) := e8.trans (by decide)
  refine lv_if_ne (tgt := 46) hx hb dX9_isAbove_39 (by decide) (fun c9 => ?_) (fun c9 => absurd c9 (by decide))
  refine lv_iconst (v := 0) hx hb dX9_isAbove_46 (by decide) ?_
  refine W.widen (k := 0) (n := 0) (Nat.le_of_ble_eq_true rfl) (Nat.le_of_ble_eq_true rfl) ?_
  exact W.zret (v := 0) hx hb hr rfl (fun t ht hW => ⟨⟨_, ((fun _ => 0), (fun _ => fun _ => 0), (fun _ => fun _ => 0)), rfl, rfl, by rw [ht]; exact hP.sub [0, 1, 2] rfl, hD.sub [0, 1, 2] (by decide) rfl⟩, hS.F ht⟩) hS.2.2 dX9_isAbove_47
set_option maxHeartbeats 1000000 in
set_option maxRecDepth 100000 in
/-- isAbove(4, 2) -/
theorem c_isAbove_4_2 (l : Launch) (G : pT) (g0 : Nat) (g1 : Nat) (g2 : Nat) (d : Nat → Nat) (z : Nat → Nat) (k2 : Nat) : PM l G pX0 yX9_isAbove cX9_isAbove 3 (some .boolean) ({ frames := 2, cells := 0, slots := 0, locals := 60 }) [.ref g0, .int 4, .int 2] [(g0, .inr (6, [.ref k2, .ref g1, .int 7, .ref g2, .int 2147483647])), (g1, .inl (G.2.1 4, 37, .inr (.inr (.inr (.inr (dcl d)))))), ((d 2), .inr (2, [.int 2, .int 31, .int (-1), .int 0, .int (-1), .int 0, .int 0, .ref (z 8), .ref (z 9), .ref (d 0), .long 1, .ref (z 10), .ref (z 11)]))] (fun (v : Option Value) (u : (Nat → Nat) × (Nat → Nat → Int32) × (Nat → Nat → Int64)) => v = some (.int 0)) (fun u => [(g0, .inr (6, [.ref k2, .ref g1, .int 7, .ref g2, .int 2147483647])), (g1, .inl (G.2.1 4, 37, .inr (.inr (.inr (.inr (dcl d)))))), ((d 2), .inr (2, [.int 2, .int 31, .int (-1), .int 0, .int (-1), .int 0, .int 0, .ref (z 8), .ref (z 9), .ref (d 0), .long 1, .ref (z 10), .ref (z 11)]))]) := by
  intro sz
  refine Met.ofW (cc := cX9_isAbove) (maxL := 3) (ret := (some .boolean)) (by decide) rfl ?_
  intro p e s m args below meth c s₁ B hml hv
  obtain ⟨rfl, hsz, hP, hD0, hE, hX⟩ := hv
  have hx := B.exec
  have hb := B.bytes
  have hr := B.returns
  have hts := atoms_spec (ws := Cond.code yX9_isAbove cX9_isAbove 3 (some .boolean) :: pw) B.pre
  have hq : ∀ w ∈ pw, w.before _ s = true := fun w h => hts w (List.mem_cons_of_mem _ h)
  have hown : s.vm.findClass RX9 = some m.cls := findClass_of_methodNamed B.named
  have hlocks := B.notSynchronized
  subst hsz
  have hD := hD0.self (sz := s.heap.size)
  have hA : ∀ q : Nat, s.heap.size ≤ q → va_A [(g0, .inr (6, [.ref k2, .ref g1, .int 7, .ref g2, .int 2147483647])), (g1, .inl (G.2.1 4, 37, .inr (.inr (.inr (.inr (dcl d)))))), ((d 2), .inr (2, [.int 2, .int 31, .int (-1), .int 0, .int (-1), .int 0, .int 0, .ref (z 8), .ref (z 9), .ref (d 0), .long 1, .ref (z 10), .ref (z 11)]))] s.heap.size q := fun q h => Or.inr h
  have hP : va_P G.1 pCl [(g0, .inr (6, [.ref k2, .ref g1, .int 7, .ref g2, .int 2147483647])), (g1, .inl (G.2.1 4, 37, .inr (.inr (.inr (.inr (dcl d)))))), ((d 2), .inr (2, [.int 2, .int 31, .int (-1), .int 0, .int (-1), .int 0, .int 0, .ref (z 8), .ref (z 9), .ref (d 0), .long 1, .ref (z 10), .ref (z 11)]))] s.heap := hP
  generalize va_A [(g0, .inr (6, [.ref k2, .ref g1, .int 7, .ref g2, .int 2147483647])), (g1, .inl (G.2.1 4, 37, .inr (.inr (.inr (.inr (dcl d)))))), ((d 2), .inr (2, [.int 2, .int 31, .int (-1), .int 0, .int (-1), .int 0, .int 0, .ref (z 8), .ref (z 9), .ref (d 0), .long 1, .ref (z 10), .ref (z 11)]))] s.heap.size = A at hD hE hA ⊢
  have hS : va_S A s.heap s.heap [] := va_S.rf
  have hl := lv_entry ([.ref g0, .int 4, .int 2]) (n := 3) (Nat.le_of_ble_eq_true rfl)
  rw [lg_entry_eq]
  generalize (lg_sl ([.ref g0, .int 4, .int 2]) ++ List.replicate (3 - (lg_sl ([.ref g0, .int 4, .int 2])).length) Slot.unset).toArray = ls at hl ⊢
  have hl : lv_has ls 3 [(0, .ref g0), (1, .int 4), (2, .int 2)] := hl
  refine lv_iload_n hx hb dX9_isAbove_0 rfl (lv_at hl 1 rfl) ?_
  refine lv_if_lt (tgt := 46) hx hb dX9_isAbove_1 (by decide) (fun c1 => absurd c1 (by decide)) (fun c1 => ?_)
  refine lv_iload_n hx hb dX9_isAbove_4 rfl (lv_at hl 1 rfl) ?_
  refine lv_aload_n hx hb dX9_isAbove_5 rfl (lv_at hl 0 rfl) ?_
  refine va_get (D := G.1) (ci := 6) (v := .int 7) (C := RX9) (T := TX9) (N := 5) hx hb hq pin_wsX90 hown hE.1.1 hP 0 rfl rfl 2 (by decide) (hq _ pw_137) (fun _ h9 => h9) rfl dX9_isAbove_6 ?_
  refine lv_icmp_ge (tgt := 46) hx hb dX9_isAbove_9 (by decide) (fun c2 => absurd c2 (by decide)) (fun c2 => ?_)
  refine lv_iload_n hx hb dX9_isAbove_12 rfl (lv_at hl 2 rfl) ?_
  refine lv_if_lt (tgt := 46) hx hb dX9_isAbove_13 (by decide) (fun c3 => absurd c3 (by decide)) (fun c3 => ?_)
  refine lv_iload_n hx hb dX9_isAbove_16 rfl (lv_at hl 2 rfl) ?_
  refine lv_aload_n hx hb dX9_isAbove_17 rfl (lv_at hl 0 rfl) ?_
  refine va_get (D := G.1) (ci := 6) (v := .int 7) (C := RX9) (T := TX9) (N := 5) hx hb hq pin_wsX90 hown hE.1.1 hP 0 rfl rfl 2 (by decide) (hq _ pw_137) (fun _ h9 => h9) rfl dX9_isAbove_18 ?_
  refine lv_icmp_ge (tgt := 46) hx hb dX9_isAbove_21 (by decide) (fun c4 => absurd c4 (by decide)) (fun c4 => ?_)
  refine lv_aload_n hx hb dX9_isAbove_24 rfl (lv_at hl 0 rfl) ?_
  refine va_get (D := G.1) (ci := 6) (v := .ref g1) (C := RX9) (T := TX9) (N := 5) hx hb hq pin_wsX90 hown hE.1.1 hP 0 rfl rfl 1 (by decide) (hq _ pw_132) (fun _ h9 => h9) rfl dX9_isAbove_25 ?_
  refine lv_iload_n hx hb dX9_isAbove_28 rfl (lv_at hl 2 rfl) ?_
  refine va_aldq hx hb hE.1.1 hP 1 4 rfl rfl (by unfold vp_in; decide) dX9_isAbove_29 ?_
  refine W.eq (g2 := F0 m 30 ls [.ref (d 2)]) rfl ?_
  refine va_get (D := G.1) (ci := 2) (v := .long 1) (C := RX2) (T := TX2) (N := 13) hx hb hq pin_wsX20 hown hE.1.1 hP 2 rfl rfl 10 (by decide) (hq _ pw_153) (fun _ h9 => h9) rfl dX9_isAbove_30 ?_
  refine lv_iload_n hx hb dX9_isAbove_33 rfl (lv_at hl 1 rfl) ?_
  refine lv_lushr (v := 0) hx hb dX9_isAbove_34 (by decide) ?_
  refine lv_lconst (v := 1) hx hb dX9_isAbove_35 (by decide) ?_
  refine lv_land hx hb dX9_isAbove_36 ?_
  refine lv_topl (fun x5 e6 => ?_)
  obtain rfl : x5 = 0 := e6.trans (by decide)
  refine lv_lconst (v := 1) hx hb dX9_isAbove_37 (by decide) ?_
  refine W.lcmp hx hb dX9_isAbove_38 ?_
  refine lv_topi (fun x7 e8 => ?_)
  obtain rfl : x7 = (-1) := e8.trans (by decide)
  refine lv_if_ne (tgt := 46) hx hb dX9_isAbove_39 (by decide) (fun c9 => ?_) (fun c9 => absurd c9 (by decide))
  refine lv_iconst (v := 0) hx hb dX9_isAbove_46 (by decide) ?_
  refine W.widen (k := 0) (n := 0) (Nat.le_of_ble_eq_true rfl) (Nat.le_of_ble_eq_true rfl) ?_
  exact W.zret (v := 0) hx hb hr rfl (fun t ht hW => ⟨⟨_, ((fun _ => 0), (fun _ => fun _ => 0), (fun _ => fun _ => 0)), rfl, rfl, by rw [ht]; exact hP.sub [0, 1, 2] rfl, hD.sub [0, 1, 2] (by decide) rfl⟩, hS.F ht⟩) hS.2.2 dX9_isAbove_47
set_option maxHeartbeats 1000000 in
set_option maxRecDepth 100000 in
/-- isAbove(4, 3) -/
theorem c_isAbove_4_3 (l : Launch) (G : pT) (g0 : Nat) (g1 : Nat) (g2 : Nat) (d : Nat → Nat) (z : Nat → Nat) (k2 : Nat) : PM l G pX0 yX9_isAbove cX9_isAbove 3 (some .boolean) ({ frames := 2, cells := 0, slots := 0, locals := 60 }) [.ref g0, .int 4, .int 3] [(g0, .inr (6, [.ref k2, .ref g1, .int 7, .ref g2, .int 2147483647])), (g1, .inl (G.2.1 4, 37, .inr (.inr (.inr (.inr (dcl d)))))), ((d 3), .inr (2, [.int 3, .int 32, .int (-1), .int 0, .int (-1), .int 0, .int 0, .ref (z 12), .ref (z 13), .ref (d 0), .long 1, .ref (z 14), .ref (z 15)]))] (fun (v : Option Value) (u : (Nat → Nat) × (Nat → Nat → Int32) × (Nat → Nat → Int64)) => v = some (.int 0)) (fun u => [(g0, .inr (6, [.ref k2, .ref g1, .int 7, .ref g2, .int 2147483647])), (g1, .inl (G.2.1 4, 37, .inr (.inr (.inr (.inr (dcl d)))))), ((d 3), .inr (2, [.int 3, .int 32, .int (-1), .int 0, .int (-1), .int 0, .int 0, .ref (z 12), .ref (z 13), .ref (d 0), .long 1, .ref (z 14), .ref (z 15)]))]) := by
  intro sz
  refine Met.ofW (cc := cX9_isAbove) (maxL := 3) (ret := (some .boolean)) (by decide) rfl ?_
  intro p e s m args below meth c s₁ B hml hv
  obtain ⟨rfl, hsz, hP, hD0, hE, hX⟩ := hv
  have hx := B.exec
  have hb := B.bytes
  have hr := B.returns
  have hts := atoms_spec (ws := Cond.code yX9_isAbove cX9_isAbove 3 (some .boolean) :: pw) B.pre
  have hq : ∀ w ∈ pw, w.before _ s = true := fun w h => hts w (List.mem_cons_of_mem _ h)
  have hown : s.vm.findClass RX9 = some m.cls := findClass_of_methodNamed B.named
  have hlocks := B.notSynchronized
  subst hsz
  have hD := hD0.self (sz := s.heap.size)
  have hA : ∀ q : Nat, s.heap.size ≤ q → va_A [(g0, .inr (6, [.ref k2, .ref g1, .int 7, .ref g2, .int 2147483647])), (g1, .inl (G.2.1 4, 37, .inr (.inr (.inr (.inr (dcl d)))))), ((d 3), .inr (2, [.int 3, .int 32, .int (-1), .int 0, .int (-1), .int 0, .int 0, .ref (z 12), .ref (z 13), .ref (d 0), .long 1, .ref (z 14), .ref (z 15)]))] s.heap.size q := fun q h => Or.inr h
  have hP : va_P G.1 pCl [(g0, .inr (6, [.ref k2, .ref g1, .int 7, .ref g2, .int 2147483647])), (g1, .inl (G.2.1 4, 37, .inr (.inr (.inr (.inr (dcl d)))))), ((d 3), .inr (2, [.int 3, .int 32, .int (-1), .int 0, .int (-1), .int 0, .int 0, .ref (z 12), .ref (z 13), .ref (d 0), .long 1, .ref (z 14), .ref (z 15)]))] s.heap := hP
  generalize va_A [(g0, .inr (6, [.ref k2, .ref g1, .int 7, .ref g2, .int 2147483647])), (g1, .inl (G.2.1 4, 37, .inr (.inr (.inr (.inr (dcl d)))))), ((d 3), .inr (2, [.int 3, .int 32, .int (-1), .int 0, .int (-1), .int 0, .int 0, .ref (z 12), .ref (z 13), .ref (d 0), .long 1, .ref (z 14), .ref (z 15)]))] s.heap.size = A at hD hE hA ⊢
  have hS : va_S A s.heap s.heap [] := va_S.rf
  have hl := lv_entry ([.ref g0, .int 4, .int 3]) (n := 3) (Nat.le_of_ble_eq_true rfl)
  rw [lg_entry_eq]
  generalize (lg_sl ([.ref g0, .int 4, .int 3]) ++ List.replicate (3 - (lg_sl ([.ref g0, .int 4, .int 3])).length) Slot.unset).toArray = ls at hl ⊢
  have hl : lv_has ls 3 [(0, .ref g0), (1, .int 4), (2, .int 3)] := hl
  refine lv_iload_n hx hb dX9_isAbove_0 rfl (lv_at hl 1 rfl) ?_
  refine lv_if_lt (tgt := 46) hx hb dX9_isAbove_1 (by decide) (fun c1 => absurd c1 (by decide)) (fun c1 => ?_)
  refine lv_iload_n hx hb dX9_isAbove_4 rfl (lv_at hl 1 rfl) ?_
  refine lv_aload_n hx hb dX9_isAbove_5 rfl (lv_at hl 0 rfl) ?_
  refine va_get (D := G.1) (ci := 6) (v := .int 7) (C := RX9) (T := TX9) (N := 5) hx hb hq pin_wsX90 hown hE.1.1 hP 0 rfl rfl 2 (by decide) (hq _ pw_137) (fun _ h9 => h9) rfl dX9_isAbove_6 ?_
  refine lv_icmp_ge (tgt := 46) hx hb dX9_isAbove_9 (by decide) (fun c2 => absurd c2 (by decide)) (fun c2 => ?_)
  refine lv_iload_n hx hb dX9_isAbove_12 rfl (lv_at hl 2 rfl) ?_
  refine lv_if_lt (tgt := 46) hx hb dX9_isAbove_13 (by decide) (fun c3 => absurd c3 (by decide)) (fun c3 => ?_)
  refine lv_iload_n hx hb dX9_isAbove_16 rfl (lv_at hl 2 rfl) ?_
  refine lv_aload_n hx hb dX9_isAbove_17 rfl (lv_at hl 0 rfl) ?_
  refine va_get (D := G.1) (ci := 6) (v := .int 7) (C := RX9) (T := TX9) (N := 5) hx hb hq pin_wsX90 hown hE.1.1 hP 0 rfl rfl 2 (by decide) (hq _ pw_137) (fun _ h9 => h9) rfl dX9_isAbove_18 ?_
  refine lv_icmp_ge (tgt := 46) hx hb dX9_isAbove_21 (by decide) (fun c4 => absurd c4 (by decide)) (fun c4 => ?_)
  refine lv_aload_n hx hb dX9_isAbove_24 rfl (lv_at hl 0 rfl) ?_
  refine va_get (D := G.1) (ci := 6) (v := .ref g1) (C := RX9) (T := TX9) (N := 5) hx hb hq pin_wsX90 hown hE.1.1 hP 0 rfl rfl 1 (by decide) (hq _ pw_132) (fun _ h9 => h9) rfl dX9_isAbove_25 ?_
  refine lv_iload_n hx hb dX9_isAbove_28 rfl (lv_at hl 2 rfl) ?_
  refine va_aldq hx hb hE.1.1 hP 1 4 rfl rfl (by unfold vp_in; decide) dX9_isAbove_29 ?_
  refine W.eq (g2 := F0 m 30 ls [.ref (d 3)]) rfl ?_
  refine va_get (D := G.1) (ci := 2) (v := .long 1) (C := RX2) (T := TX2) (N := 13) hx hb hq pin_wsX20 hown hE.1.1 hP 2 rfl rfl 10 (by decide) (hq _ pw_153) (fun _ h9 => h9) rfl dX9_isAbove_30 ?_
  refine lv_iload_n hx hb dX9_isAbove_33 rfl (lv_at hl 1 rfl) ?_
  refine lv_lushr (v := 0) hx hb dX9_isAbove_34 (by decide) ?_
  refine lv_lconst (v := 1) hx hb dX9_isAbove_35 (by decide) ?_
  refine lv_land hx hb dX9_isAbove_36 ?_
  refine lv_topl (fun x5 e6 => ?_)
  obtain rfl : x5 = 0 := e6.trans (by decide)
  refine lv_lconst (v := 1) hx hb dX9_isAbove_37 (by decide) ?_
  refine W.lcmp hx hb dX9_isAbove_38 ?_
  refine lv_topi (fun x7 e8 => ?_)
  obtain rfl : x7 = (-1) := e8.trans (by decide)
  refine lv_if_ne (tgt := 46) hx hb dX9_isAbove_39 (by decide) (fun c9 => ?_) (fun c9 => absurd c9 (by decide))
  refine lv_iconst (v := 0) hx hb dX9_isAbove_46 (by decide) ?_
  refine W.widen (k := 0) (n := 0) (Nat.le_of_ble_eq_true rfl) (Nat.le_of_ble_eq_true rfl) ?_
  exact W.zret (v := 0) hx hb hr rfl (fun t ht hW => ⟨⟨_, ((fun _ => 0), (fun _ => fun _ => 0), (fun _ => fun _ => 0)), rfl, rfl, by rw [ht]; exact hP.sub [0, 1, 2] rfl, hD.sub [0, 1, 2] (by decide) rfl⟩, hS.F ht⟩) hS.2.2 dX9_isAbove_47
set_option maxHeartbeats 1000000 in
set_option maxRecDepth 100000 in
/-- isAbove(4, 4) -/
theorem c_isAbove_4_4 (l : Launch) (G : pT) (g0 : Nat) (g1 : Nat) (g2 : Nat) (d : Nat → Nat) (z : Nat → Nat) (k2 : Nat) : PM l G pX0 yX9_isAbove cX9_isAbove 3 (some .boolean) ({ frames := 2, cells := 0, slots := 0, locals := 60 }) [.ref g0, .int 4, .int 4] [(g0, .inr (6, [.ref k2, .ref g1, .int 7, .ref g2, .int 2147483647])), (g1, .inl (G.2.1 4, 37, .inr (.inr (.inr (.inr (dcl d)))))), ((d 4), .inr (2, [.int 4, .int 33, .int (-1), .int 0, .int (-1), .int 0, .int 0, .ref (z 16), .ref (z 17), .ref (d 0), .long 1, .ref (z 18), .ref (z 19)]))] (fun (v : Option Value) (u : (Nat → Nat) × (Nat → Nat → Int32) × (Nat → Nat → Int64)) => v = some (.int 0)) (fun u => [(g0, .inr (6, [.ref k2, .ref g1, .int 7, .ref g2, .int 2147483647])), (g1, .inl (G.2.1 4, 37, .inr (.inr (.inr (.inr (dcl d)))))), ((d 4), .inr (2, [.int 4, .int 33, .int (-1), .int 0, .int (-1), .int 0, .int 0, .ref (z 16), .ref (z 17), .ref (d 0), .long 1, .ref (z 18), .ref (z 19)]))]) := by
  intro sz
  refine Met.ofW (cc := cX9_isAbove) (maxL := 3) (ret := (some .boolean)) (by decide) rfl ?_
  intro p e s m args below meth c s₁ B hml hv
  obtain ⟨rfl, hsz, hP, hD0, hE, hX⟩ := hv
  have hx := B.exec
  have hb := B.bytes
  have hr := B.returns
  have hts := atoms_spec (ws := Cond.code yX9_isAbove cX9_isAbove 3 (some .boolean) :: pw) B.pre
  have hq : ∀ w ∈ pw, w.before _ s = true := fun w h => hts w (List.mem_cons_of_mem _ h)
  have hown : s.vm.findClass RX9 = some m.cls := findClass_of_methodNamed B.named
  have hlocks := B.notSynchronized
  subst hsz
  have hD := hD0.self (sz := s.heap.size)
  have hA : ∀ q : Nat, s.heap.size ≤ q → va_A [(g0, .inr (6, [.ref k2, .ref g1, .int 7, .ref g2, .int 2147483647])), (g1, .inl (G.2.1 4, 37, .inr (.inr (.inr (.inr (dcl d)))))), ((d 4), .inr (2, [.int 4, .int 33, .int (-1), .int 0, .int (-1), .int 0, .int 0, .ref (z 16), .ref (z 17), .ref (d 0), .long 1, .ref (z 18), .ref (z 19)]))] s.heap.size q := fun q h => Or.inr h
  have hP : va_P G.1 pCl [(g0, .inr (6, [.ref k2, .ref g1, .int 7, .ref g2, .int 2147483647])), (g1, .inl (G.2.1 4, 37, .inr (.inr (.inr (.inr (dcl d)))))), ((d 4), .inr (2, [.int 4, .int 33, .int (-1), .int 0, .int (-1), .int 0, .int 0, .ref (z 16), .ref (z 17), .ref (d 0), .long 1, .ref (z 18), .ref (z 19)]))] s.heap := hP
  generalize va_A [(g0, .inr (6, [.ref k2, .ref g1, .int 7, .ref g2, .int 2147483647])), (g1, .inl (G.2.1 4, 37, .inr (.inr (.inr (.inr (dcl d)))))), ((d 4), .inr (2, [.int 4, .int 33, .int (-1), .int 0, .int (-1), .int 0, .int 0, .ref (z 16), .ref (z 17), .ref (d 0), .long 1, .ref (z 18), .ref (z 19)]))] s.heap.size = A at hD hE hA ⊢
  have hS : va_S A s.heap s.heap [] := va_S.rf
  have hl := lv_entry ([.ref g0, .int 4, .int 4]) (n := 3) (Nat.le_of_ble_eq_true rfl)
  rw [lg_entry_eq]
  generalize (lg_sl ([.ref g0, .int 4, .int 4]) ++ List.replicate (3 - (lg_sl ([.ref g0, .int 4, .int 4])).length) Slot.unset).toArray = ls at hl ⊢
  have hl : lv_has ls 3 [(0, .ref g0), (1, .int 4), (2, .int 4)] := hl
  refine lv_iload_n hx hb dX9_isAbove_0 rfl (lv_at hl 1 rfl) ?_
  refine lv_if_lt (tgt := 46) hx hb dX9_isAbove_1 (by decide) (fun c1 => absurd c1 (by decide)) (fun c1 => ?_)
  refine lv_iload_n hx hb dX9_isAbove_4 rfl (lv_at hl 1 rfl) ?_
  refine lv_aload_n hx hb dX9_isAbove_5 rfl (lv_at hl 0 rfl) ?_
  refine va_get (D := G.1) (ci := 6) (v := .int 7) (C := RX9) (T := TX9) (N := 5) hx hb hq pin_wsX90 hown hE.1.1 hP 0 rfl rfl 2 (by decide) (hq _ pw_137) (fun _ h9 => h9) rfl dX9_isAbove_6 ?_
  refine lv_icmp_ge (tgt := 46) hx hb dX9_isAbove_9 (by decide) (fun c2 => absurd c2 (by decide)) (fun c2 => ?_)
  refine lv_iload_n hx hb dX9_isAbove_12 rfl (lv_at hl 2 rfl) ?_
  refine lv_if_lt (tgt := 46) hx hb dX9_isAbove_13 (by decide) (fun c3 => absurd c3 (by decide)) (fun c3 => ?_)
  refine lv_iload_n hx hb dX9_isAbove_16 rfl (lv_at hl 2 rfl) ?_
  refine lv_aload_n hx hb dX9_isAbove_17 rfl (lv_at hl 0 rfl) ?_
  refine va_get (D := G.1) (ci := 6) (v := .int 7) (C := RX9) (T := TX9) (N := 5) hx hb hq pin_wsX90 hown hE.1.1 hP 0 rfl rfl 2 (by decide) (hq _ pw_137) (fun _ h9 => h9) rfl dX9_isAbove_18 ?_
  refine lv_icmp_ge (tgt := 46) hx hb dX9_isAbove_21 (by decide) (fun c4 => absurd c4 (by decide)) (fun c4 => ?_)
  refine lv_aload_n hx hb dX9_isAbove_24 rfl (lv_at hl 0 rfl) ?_
  refine va_get (D := G.1) (ci := 6) (v := .ref g1) (C := RX9) (T := TX9) (N := 5) hx hb hq pin_wsX90 hown hE.1.1 hP 0 rfl rfl 1 (by decide) (hq _ pw_132) (fun _ h9 => h9) rfl dX9_isAbove_25 ?_
  refine lv_iload_n hx hb dX9_isAbove_28 rfl (lv_at hl 2 rfl) ?_
  refine va_aldq hx hb hE.1.1 hP 1 4 rfl rfl (by unfold vp_in; decide) dX9_isAbove_29 ?_
  refine W.eq (g2 := F0 m 30 ls [.ref (d 4)]) rfl ?_
  refine va_get (D := G.1) (ci := 2) (v := .long 1) (C := RX2) (T := TX2) (N := 13) hx hb hq pin_wsX20 hown hE.1.1 hP 2 rfl rfl 10 (by decide) (hq _ pw_153) (fun _ h9 => h9) rfl dX9_isAbove_30 ?_
  refine lv_iload_n hx hb dX9_isAbove_33 rfl (lv_at hl 1 rfl) ?_
  refine lv_lushr (v := 0) hx hb dX9_isAbove_34 (by decide) ?_
  refine lv_lconst (v := 1) hx hb dX9_isAbove_35 (by decide) ?_
  refine lv_land hx hb dX9_isAbove_36 ?_
  refine lv_topl (fun x5 e6 => ?_)
  obtain rfl : x5 = 0 := e6.trans (by decide)
  refine lv_lconst (v := 1) hx hb dX9_isAbove_37 (by decide) ?_
  refine W.lcmp hx hb dX9_isAbove_38 ?_
  refine lv_topi (fun x7 e8 => ?_)
  obtain rfl : x7 = (-1) := e8.trans (by decide)
  refine lv_if_ne (tgt := 46) hx hb dX9_isAbove_39 (by decide) (fun c9 => ?_) (fun c9 => absurd c9 (by decide))
  refine lv_iconst (v := 0) hx hb dX9_isAbove_46 (by decide) ?_
  refine W.widen (k := 0) (n := 0) (Nat.le_of_ble_eq_true rfl) (Nat.le_of_ble_eq_true rfl) ?_
  exact W.zret (v := 0) hx hb hr rfl (fun t ht hW => ⟨⟨_, ((fun _ => 0), (fun _ => fun _ => 0), (fun _ => fun _ => 0)), rfl, rfl, by rw [ht]; exact hP.sub [0, 1, 2] rfl, hD.sub [0, 1, 2] (by decide) rfl⟩, hS.F ht⟩) hS.2.2 dX9_isAbove_47
set_option maxHeartbeats 1000000 in
set_option maxRecDepth 100000 in
/-- isAbove(4, 5) -/
theorem c_isAbove_4_5 (l : Launch) (G : pT) (g0 : Nat) (g1 : Nat) (g2 : Nat) (d : Nat → Nat) (z : Nat → Nat) (k2 : Nat) : PM l G pX0 yX9_isAbove cX9_isAbove 3 (some .boolean) ({ frames := 2, cells := 0, slots := 0, locals := 60 }) [.ref g0, .int 4, .int 5] [(g0, .inr (6, [.ref k2, .ref g1, .int 7, .ref g2, .int 2147483647])), (g1, .inl (G.2.1 4, 37, .inr (.inr (.inr (.inr (dcl d)))))), ((d 5), .inr (2, [.int 5, .int 34, .int (-1), .int 0, .int (-1), .int 0, .int 0, .ref (z 20), .ref (z 21), .ref (d 0), .long 1, .ref (z 22), .ref (z 23)]))] (fun (v : Option Value) (u : (Nat → Nat) × (Nat → Nat → Int32) × (Nat → Nat → Int64)) => v = some (.int 0)) (fun u => [(g0, .inr (6, [.ref k2, .ref g1, .int 7, .ref g2, .int 2147483647])), (g1, .inl (G.2.1 4, 37, .inr (.inr (.inr (.inr (dcl d)))))), ((d 5), .inr (2, [.int 5, .int 34, .int (-1), .int 0, .int (-1), .int 0, .int 0, .ref (z 20), .ref (z 21), .ref (d 0), .long 1, .ref (z 22), .ref (z 23)]))]) := by
  intro sz
  refine Met.ofW (cc := cX9_isAbove) (maxL := 3) (ret := (some .boolean)) (by decide) rfl ?_
  intro p e s m args below meth c s₁ B hml hv
  obtain ⟨rfl, hsz, hP, hD0, hE, hX⟩ := hv
  have hx := B.exec
  have hb := B.bytes
  have hr := B.returns
  have hts := atoms_spec (ws := Cond.code yX9_isAbove cX9_isAbove 3 (some .boolean) :: pw) B.pre
  have hq : ∀ w ∈ pw, w.before _ s = true := fun w h => hts w (List.mem_cons_of_mem _ h)
  have hown : s.vm.findClass RX9 = some m.cls := findClass_of_methodNamed B.named
  have hlocks := B.notSynchronized
  subst hsz
  have hD := hD0.self (sz := s.heap.size)
  have hA : ∀ q : Nat, s.heap.size ≤ q → va_A [(g0, .inr (6, [.ref k2, .ref g1, .int 7, .ref g2, .int 2147483647])), (g1, .inl (G.2.1 4, 37, .inr (.inr (.inr (.inr (dcl d)))))), ((d 5), .inr (2, [.int 5, .int 34, .int (-1), .int 0, .int (-1), .int 0, .int 0, .ref (z 20), .ref (z 21), .ref (d 0), .long 1, .ref (z 22), .ref (z 23)]))] s.heap.size q := fun q h => Or.inr h
  have hP : va_P G.1 pCl [(g0, .inr (6, [.ref k2, .ref g1, .int 7, .ref g2, .int 2147483647])), (g1, .inl (G.2.1 4, 37, .inr (.inr (.inr (.inr (dcl d)))))), ((d 5), .inr (2, [.int 5, .int 34, .int (-1), .int 0, .int (-1), .int 0, .int 0, .ref (z 20), .ref (z 21), .ref (d 0), .long 1, .ref (z 22), .ref (z 23)]))] s.heap := hP
  generalize va_A [(g0, .inr (6, [.ref k2, .ref g1, .int 7, .ref g2, .int 2147483647])), (g1, .inl (G.2.1 4, 37, .inr (.inr (.inr (.inr (dcl d)))))), ((d 5), .inr (2, [.int 5, .int 34, .int (-1), .int 0, .int (-1), .int 0, .int 0, .ref (z 20), .ref (z 21), .ref (d 0), .long 1, .ref (z 22), .ref (z 23)]))] s.heap.size = A at hD hE hA ⊢
  have hS : va_S A s.heap s.heap [] := va_S.rf
  have hl := lv_entry ([.ref g0, .int 4, .int 5]) (n := 3) (Nat.le_of_ble_eq_true rfl)
  rw [lg_entry_eq]
  generalize (lg_sl ([.ref g0, .int 4, .int 5]) ++ List.replicate (3 - (lg_sl ([.ref g0, .int 4, .int 5])).length) Slot.unset).toArray = ls at hl ⊢
  have hl : lv_has ls 3 [(0, .ref g0), (1, .int 4), (2, .int 5)] := hl
  refine lv_iload_n hx hb dX9_isAbove_0 rfl (lv_at hl 1 rfl) ?_
  refine lv_if_lt (tgt := 46) hx hb dX9_isAbove_1 (by decide) (fun c1 => absurd c1 (by decide)) (fun c1 => ?_)
  refine lv_iload_n hx hb dX9_isAbove_4 rfl (lv_at hl 1 rfl) ?_
  refine lv_aload_n hx hb dX9_isAbove_5 rfl (lv_at hl 0 rfl) ?_
  refine va_get (D := G.1) (ci := 6) (v := .int 7) (C := RX9) (T := TX9) (N := 5) hx hb hq pin_wsX90 hown hE.1.1 hP 0 rfl rfl 2 (by decide) (hq _ pw_137) (fun _ h9 => h9) rfl dX9_isAbove_6 ?_
  refine lv_icmp_ge (tgt := 46) hx hb dX9_isAbove_9 (by decide) (fun c2 => absurd c2 (by decide)) (fun c2 => ?_)
  refine lv_iload_n hx hb dX9_isAbove_12 rfl (lv_at hl 2 rfl) ?_
  refine lv_if_lt (tgt := 46) hx hb dX9_isAbove_13 (by decide) (fun c3 => absurd c3 (by decide)) (fun c3 => ?_)
  refine lv_iload_n hx hb dX9_isAbove_16 rfl (lv_at hl 2 rfl) ?_
  refine lv_aload_n hx hb dX9_isAbove_17 rfl (lv_at hl 0 rfl) ?_
  refine va_get (D := G.1) (ci := 6) (v := .int 7) (C := RX9) (T := TX9) (N := 5) hx hb hq pin_wsX90 hown hE.1.1 hP 0 rfl rfl 2 (by decide) (hq _ pw_137) (fun _ h9 => h9) rfl dX9_isAbove_18 ?_
  refine lv_icmp_ge (tgt := 46) hx hb dX9_isAbove_21 (by decide) (fun c4 => absurd c4 (by decide)) (fun c4 => ?_)
  refine lv_aload_n hx hb dX9_isAbove_24 rfl (lv_at hl 0 rfl) ?_
  refine va_get (D := G.1) (ci := 6) (v := .ref g1) (C := RX9) (T := TX9) (N := 5) hx hb hq pin_wsX90 hown hE.1.1 hP 0 rfl rfl 1 (by decide) (hq _ pw_132) (fun _ h9 => h9) rfl dX9_isAbove_25 ?_
  refine lv_iload_n hx hb dX9_isAbove_28 rfl (lv_at hl 2 rfl) ?_
  refine va_aldq hx hb hE.1.1 hP 1 4 rfl rfl (by unfold vp_in; decide) dX9_isAbove_29 ?_
  refine W.eq (g2 := F0 m 30 ls [.ref (d 5)]) rfl ?_
  refine va_get (D := G.1) (ci := 2) (v := .long 1) (C := RX2) (T := TX2) (N := 13) hx hb hq pin_wsX20 hown hE.1.1 hP 2 rfl rfl 10 (by decide) (hq _ pw_153) (fun _ h9 => h9) rfl dX9_isAbove_30 ?_
  refine lv_iload_n hx hb dX9_isAbove_33 rfl (lv_at hl 1 rfl) ?_
  refine lv_lushr (v := 0) hx hb dX9_isAbove_34 (by decide) ?_
  refine lv_lconst (v := 1) hx hb dX9_isAbove_35 (by decide) ?_
  refine lv_land hx hb dX9_isAbove_36 ?_
  refine lv_topl (fun x5 e6 => ?_)
  obtain rfl : x5 = 0 := e6.trans (by decide)
  refine lv_lconst (v := 1) hx hb dX9_isAbove_37 (by decide) ?_
  refine W.lcmp hx hb dX9_isAbove_38 ?_
  refine lv_topi (fun x7 e8 => ?_)
  obtain rfl : x7 = (-1) := e8.trans (by decide)
  refine lv_if_ne (tgt := 46) hx hb dX9_isAbove_39 (by decide) (fun c9 => ?_) (fun c9 => absurd c9 (by decide))
  refine lv_iconst (v := 0) hx hb dX9_isAbove_46 (by decide) ?_
  refine W.widen (k := 0) (n := 0) (Nat.le_of_ble_eq_true rfl) (Nat.le_of_ble_eq_true rfl) ?_
  exact W.zret (v := 0) hx hb hr rfl (fun t ht hW => ⟨⟨_, ((fun _ => 0), (fun _ => fun _ => 0), (fun _ => fun _ => 0)), rfl, rfl, by rw [ht]; exact hP.sub [0, 1, 2] rfl, hD.sub [0, 1, 2] (by decide) rfl⟩, hS.F ht⟩) hS.2.2 dX9_isAbove_47
set_option maxHeartbeats 1000000 in
set_option maxRecDepth 100000 in
/-- isAbove(4, 6) -/
theorem c_isAbove_4_6 (l : Launch) (G : pT) (g0 : Nat) (g1 : Nat) (g2 : Nat) (d : Nat → Nat) (z : Nat → Nat) (k2 : Nat) : PM l G pX0 yX9_isAbove cX9_isAbove 3 (some .boolean) ({ frames := 2, cells := 0, slots := 0, locals := 60 }) [.ref g0, .int 4, .int 6] [(g0, .inr (6, [.ref k2, .ref g1, .int 7, .ref g2, .int 2147483647])), (g1, .inl (G.2.1 4, 37, .inr (.inr (.inr (.inr (dcl d)))))), ((d 6), .inr (2, [.int 6, .int 35, .int (-1), .int 0, .int (-1), .int 0, .int 0, .ref (z 24), .ref (z 25), .ref (d 0), .long 1, .ref (z 26), .ref (z 27)]))] (fun (v : Option Value) (u : (Nat → Nat) × (Nat → Nat → Int32) × (Nat → Nat → Int64)) => v = some (.int 0)) (fun u => [(g0, .inr (6, [.ref k2, .ref g1, .int 7, .ref g2, .int 2147483647])), (g1, .inl (G.2.1 4, 37, .inr (.inr (.inr (.inr (dcl d)))))), ((d 6), .inr (2, [.int 6, .int 35, .int (-1), .int 0, .int (-1), .int 0, .int 0, .ref (z 24), .ref (z 25), .ref (d 0), .long 1, .ref (z 26), .ref (z 27)]))]) := by
  intro sz
  refine Met.ofW (cc := cX9_isAbove) (maxL := 3) (ret := (some .boolean)) (by decide) rfl ?_
  intro p e s m args below meth c s₁ B hml hv
  obtain ⟨rfl, hsz, hP, hD0, hE, hX⟩ := hv
  have hx := B.exec
  have hb := B.bytes
  have hr := B.returns
  have hts := atoms_spec (ws := Cond.code yX9_isAbove cX9_isAbove 3 (some .boolean) :: pw) B.pre
  have hq : ∀ w ∈ pw, w.before _ s = true := fun w h => hts w (List.mem_cons_of_mem _ h)
  have hown : s.vm.findClass RX9 = some m.cls := findClass_of_methodNamed B.named
  have hlocks := B.notSynchronized
  subst hsz
  have hD := hD0.self (sz := s.heap.size)
  have hA : ∀ q : Nat, s.heap.size ≤ q → va_A [(g0, .inr (6, [.ref k2, .ref g1, .int 7, .ref g2, .int 2147483647])), (g1, .inl (G.2.1 4, 37, .inr (.inr (.inr (.inr (dcl d)))))), ((d 6), .inr (2, [.int 6, .int 35, .int (-1), .int 0, .int (-1), .int 0, .int 0, .ref (z 24), .ref (z 25), .ref (d 0), .long 1, .ref (z 26), .ref (z 27)]))] s.heap.size q := fun q h => Or.inr h
  have hP : va_P G.1 pCl [(g0, .inr (6, [.ref k2, .ref g1, .int 7, .ref g2, .int 2147483647])), (g1, .inl (G.2.1 4, 37, .inr (.inr (.inr (.inr (dcl d)))))), ((d 6), .inr (2, [.int 6, .int 35, .int (-1), .int 0, .int (-1), .int 0, .int 0, .ref (z 24), .ref (z 25), .ref (d 0), .long 1, .ref (z 26), .ref (z 27)]))] s.heap := hP
  generalize va_A [(g0, .inr (6, [.ref k2, .ref g1, .int 7, .ref g2, .int 2147483647])), (g1, .inl (G.2.1 4, 37, .inr (.inr (.inr (.inr (dcl d)))))), ((d 6), .inr (2, [.int 6, .int 35, .int (-1), .int 0, .int (-1), .int 0, .int 0, .ref (z 24), .ref (z 25), .ref (d 0), .long 1, .ref (z 26), .ref (z 27)]))] s.heap.size = A at hD hE hA ⊢
  have hS : va_S A s.heap s.heap [] := va_S.rf
  have hl := lv_entry ([.ref g0, .int 4, .int 6]) (n := 3) (Nat.le_of_ble_eq_true rfl)
  rw [lg_entry_eq]
  generalize (lg_sl ([.ref g0, .int 4, .int 6]) ++ List.replicate (3 - (lg_sl ([.ref g0, .int 4, .int 6])).length) Slot.unset).toArray = ls at hl ⊢
  have hl : lv_has ls 3 [(0, .ref g0), (1, .int 4), (2, .int 6)] := hl
  refine lv_iload_n hx hb dX9_isAbove_0 rfl (lv_at hl 1 rfl) ?_
  refine lv_if_lt (tgt := 46) hx hb dX9_isAbove_1 (by decide) (fun c1 => absurd c1 (by decide)) (fun c1 => ?_)
  refine lv_iload_n hx hb dX9_isAbove_4 rfl (lv_at hl 1 rfl) ?_
  refine lv_aload_n hx hb dX9_isAbove_5 rfl (lv_at hl 0 rfl) ?_
  refine va_get (D := G.1) (ci := 6) (v := .int 7) (C := RX9) (T := TX9) (N := 5) hx hb hq pin_wsX90 hown hE.1.1 hP 0 rfl rfl 2 (by decide) (hq _ pw_137) (fun _ h9 => h9) rfl dX9_isAbove_6 ?_
  refine lv_icmp_ge (tgt := 46) hx hb dX9_isAbove_9 (by decide) (fun c2 => absurd c2 (by decide)) (fun c2 => ?_)
  refine lv_iload_n hx hb dX9_isAbove_12 rfl (lv_at hl 2 rfl) ?_
  refine lv_if_lt (tgt := 46) hx hb dX9_isAbove_13 (by decide) (fun c3 => absurd c3 (by decide)) (fun c3 => ?_)
  refine lv_iload_n hx hb dX9_isAbove_16 rfl (lv_at hl 2 rfl) ?_
  refine lv_aload_n hx hb dX9_isAbove_17 rfl (lv_at hl 0 rfl) ?_
  refine va_get (D := G.1) (ci := 6) (v := .int 7) (C := RX9) (T := TX9) (N := 5) hx hb hq pin_wsX90 hown hE.1.1 hP 0 rfl rfl 2 (by decide) (hq _ pw_137) (fun _ h9 => h9) rfl dX9_isAbove_18 ?_
  refine lv_icmp_ge (tgt := 46) hx hb dX9_isAbove_21 (by decide) (fun c4 => absurd c4 (by decide)) (fun c4 => ?_)
  refine lv_aload_n hx hb dX9_isAbove_24 rfl (lv_at hl 0 rfl) ?_
  refine va_get (D := G.1) (ci := 6) (v := .ref g1) (C := RX9) (T := TX9) (N := 5) hx hb hq pin_wsX90 hown hE.1.1 hP 0 rfl rfl 1 (by decide) (hq _ pw_132) (fun _ h9 => h9) rfl dX9_isAbove_25 ?_
  refine lv_iload_n hx hb dX9_isAbove_28 rfl (lv_at hl 2 rfl) ?_
  refine va_aldq hx hb hE.1.1 hP 1 4 rfl rfl (by unfold vp_in; decide) dX9_isAbove_29 ?_
  refine W.eq (g2 := F0 m 30 ls [.ref (d 6)]) rfl ?_
  refine va_get (D := G.1) (ci := 2) (v := .long 1) (C := RX2) (T := TX2) (N := 13) hx hb hq pin_wsX20 hown hE.1.1 hP 2 rfl rfl 10 (by decide) (hq _ pw_153) (fun _ h9 => h9) rfl dX9_isAbove_30 ?_
  refine lv_iload_n hx hb dX9_isAbove_33 rfl (lv_at hl 1 rfl) ?_
  refine lv_lushr (v := 0) hx hb dX9_isAbove_34 (by decide) ?_
  refine lv_lconst (v := 1) hx hb dX9_isAbove_35 (by decide) ?_
  refine lv_land hx hb dX9_isAbove_36 ?_
  refine lv_topl (fun x5 e6 => ?_)
  obtain rfl : x5 = 0 := e6.trans (by decide)
  refine lv_lconst (v := 1) hx hb dX9_isAbove_37 (by decide) ?_
  refine W.lcmp hx hb dX9_isAbove_38 ?_
  refine lv_topi (fun x7 e8 => ?_)
  obtain rfl : x7 = (-1) := e8.trans (by decide)
  refine lv_if_ne (tgt := 46) hx hb dX9_isAbove_39 (by decide) (fun c9 => ?_) (fun c9 => absurd c9 (by decide))
  refine lv_iconst (v := 0) hx hb dX9_isAbove_46 (by decide) ?_
  refine W.widen (k := 0) (n := 0) (Nat.le_of_ble_eq_true rfl) (Nat.le_of_ble_eq_true rfl) ?_
  exact W.zret (v := 0) hx hb hr rfl (fun t ht hW => ⟨⟨_, ((fun _ => 0), (fun _ => fun _ => 0), (fun _ => fun _ => 0)), rfl, rfl, by rw [ht]; exact hP.sub [0, 1, 2] rfl, hD.sub [0, 1, 2] (by decide) rfl⟩, hS.F ht⟩) hS.2.2 dX9_isAbove_47
set_option maxHeartbeats 1000000 in
set_option maxRecDepth 100000 in
/-- isAbove(5, 0) -/
theorem c_isAbove_5_0 (l : Launch) (G : pT) (g0 : Nat) (g1 : Nat) (g2 : Nat) (d : Nat → Nat) (z : Nat → Nat) (k2 : Nat) : PM l G pX0 yX9_isAbove cX9_isAbove 3 (some .boolean) ({ frames := 2, cells := 0, slots := 0, locals := 60 }) [.ref g0, .int 5, .int 0] [(g0, .inr (6, [.ref k2, .ref g1, .int 7, .ref g2, .int 2147483647])), (g1, .inl (G.2.1 4, 37, .inr (.inr (.inr (.inr (dcl d)))))), ((d 0), .inr (2, [.int 0, .int 29, .int (-1), .int 0, .int (-1), .int 0, .int 0, .ref (z 0), .ref (z 1), .null, .long 0, .ref (z 2), .ref (z 3)]))] (fun (v : Option Value) (u : (Nat → Nat) × (Nat → Nat → Int32) × (Nat → Nat → Int64)) => v = some (.int 0)) (fun u => [(g0, .inr (6, [.ref k2, .ref g1, .int 7, .ref g2, .int 2147483647])), (g1, .inl (G.2.1 4, 37, .inr (.inr (.inr (.inr (dcl d)))))), ((d 0), .inr (2, [.int 0, .int 29, .int (-1), .int 0, .int (-1), .int 0, .int 0, .ref (z 0), .ref (z 1), .null, .long 0, .ref (z 2), .ref (z 3)]))]) := by
  intro sz
  refine Met.ofW (cc := cX9_isAbove) (maxL := 3) (ret := (some .boolean)) (by decide) rfl ?_
  intro p e s m args below meth c s₁ B hml hv
  obtain ⟨rfl, hsz, hP, hD0, hE, hX⟩ := hv
  have hx := B.exec
  have hb := B.bytes
  have hr := B.returns
  have hts := atoms_spec (ws := Cond.code yX9_isAbove cX9_isAbove 3 (some .boolean) :: pw) B.pre
  have hq : ∀ w ∈ pw, w.before _ s = true := fun w h => hts w (List.mem_cons_of_mem _ h)
  have hown : s.vm.findClass RX9 = some m.cls := findClass_of_methodNamed B.named
  have hlocks := B.notSynchronized
  subst hsz
  have hD := hD0.self (sz := s.heap.size)
  have hA : ∀ q : Nat, s.heap.size ≤ q → va_A [(g0, .inr (6, [.ref k2, .ref g1, .int 7, .ref g2, .int 2147483647])), (g1, .inl (G.2.1 4, 37, .inr (.inr (.inr (.inr (dcl d)))))), ((d 0), .inr (2, [.int 0, .int 29, .int (-1), .int 0, .int (-1), .int 0, .int 0, .ref (z 0), .ref (z 1), .null, .long 0, .ref (z 2), .ref (z 3)]))] s.heap.size q := fun q h => Or.inr h
  have hP : va_P G.1 pCl [(g0, .inr (6, [.ref k2, .ref g1, .int 7, .ref g2, .int 2147483647])), (g1, .inl (G.2.1 4, 37, .inr (.inr (.inr (.inr (dcl d)))))), ((d 0), .inr (2, [.int 0, .int 29, .int (-1), .int 0, .int (-1), .int 0, .int 0, .ref (z 0), .ref (z 1), .null, .long 0, .ref (z 2), .ref (z 3)]))] s.heap := hP
  generalize va_A [(g0, .inr (6, [.ref k2, .ref g1, .int 7, .ref g2, .int 2147483647])), (g1, .inl (G.2.1 4, 37, .inr (.inr (.inr (.inr (dcl d)))))), ((d 0), .inr (2, [.int 0, .int 29, .int (-1), .int 0, .int (-1), .int 0, .int 0, .ref (z 0), .ref (z 1), .null, .long 0, .ref (z 2), .ref (z 3)]))] s.heap.size = A at hD hE hA ⊢
  have hS : va_S A s.heap s.heap [] := va_S.rf
  have hl := lv_entry ([.ref g0, .int 5, .int 0]) (n := 3) (Nat.le_of_ble_eq_true rfl)
  rw [lg_entry_eq]
  generalize (lg_sl ([.ref g0, .int 5, .int 0]) ++ List.replicate (3 - (lg_sl ([.ref g0, .int 5, .int 0])).length) Slot.unset).toArray = ls at hl ⊢
  have hl : lv_has ls 3 [(0, .ref g0), (1, .int 5), (2, .int 0)] := hl
  refine lv_iload_n hx hb dX9_isAbove_0 rfl (lv_at hl 1 rfl) ?_
  refine lv_if_lt (tgt := 46) hx hb dX9_isAbove_1 (by decide) (fun c1 => absurd c1 (by decide)) (fun c1 => ?_)
  refine lv_iload_n hx hb dX9_isAbove_4 rfl (lv_at hl 1 rfl) ?_
  refine lv_aload_n hx hb dX9_isAbove_5 rfl (lv_at hl 0 rfl) ?_
  refine va_get (D := G.1) (ci := 6) (v := .int 7) (C := RX9) (T := TX9) (N := 5) hx hb hq pin_wsX90 hown hE.1.1 hP 0 rfl rfl 2 (by decide) (hq _ pw_137) (fun _ h9 => h9) rfl dX9_isAbove_6 ?_
  refine lv_icmp_ge (tgt := 46) hx hb dX9_isAbove_9 (by decide) (fun c2 => absurd c2 (by decide)) (fun c2 => ?_)
  refine lv_iload_n hx hb dX9_isAbove_12 rfl (lv_at hl 2 rfl) ?_
  refine lv_if_lt (tgt := 46) hx hb dX9_isAbove_13 (by decide) (fun c3 => absurd c3 (by decide)) (fun c3 => ?_)
  refine lv_iload_n hx hb dX9_isAbove_16 rfl (lv_at hl 2 rfl) ?_
  refine lv_aload_n hx hb dX9_isAbove_17 rfl (lv_at hl 0 rfl) ?_
  refine va_get (D := G.1) (ci := 6) (v := .int 7) (C := RX9) (T := TX9) (N := 5) hx hb hq pin_wsX90 hown hE.1.1 hP 0 rfl rfl 2 (by decide) (hq _ pw_137) (fun _ h9 => h9) rfl dX9_isAbove_18 ?_
  refine lv_icmp_ge (tgt := 46) hx hb dX9_isAbove_21 (by decide) (fun c4 => absurd c4 (by decide)) (fun c4 => ?_)
  refine lv_aload_n hx hb dX9_isAbove_24 rfl (lv_at hl 0 rfl) ?_
  refine va_get (D := G.1) (ci := 6) (v := .ref g1) (C := RX9) (T := TX9) (N := 5) hx hb hq pin_wsX90 hown hE.1.1 hP 0 rfl rfl 1 (by decide) (hq _ pw_132) (fun _ h9 => h9) rfl dX9_isAbove_25 ?_
  refine lv_iload_n hx hb dX9_isAbove_28 rfl (lv_at hl 2 rfl) ?_
  refine va_aldq hx hb hE.1.1 hP 1 4 rfl rfl (by unfold vp_in; decide) dX9_isAbove_29 ?_
  refine W.eq (g2 := F0 m 30 ls [.ref (d 0)]) rfl ?_
  refine va_get (D := G.1) (ci := 2) (v := .long 0) (C := RX2) (T := TX2) (N := 13) hx hb hq pin_wsX20 hown hE.1.1 hP 2 rfl rfl 10 (by decide) (hq _ pw_153) (fun _ h9 => h9) rfl dX9_isAbove_30 ?_
  refine lv_iload_n hx hb dX9_isAbove_33 rfl (lv_at hl 1 rfl) ?_
  refine lv_lushr (v := 0) hx hb dX9_isAbove_34 (by decide) ?_
  refine lv_lconst (v := 1) hx hb dX9_isAbove_35 (by decide) ?_
  refine lv_land hx hb dX9_isAbove_36 ?_
  refine lv_topl (fun x5 e6 => ?_)
  obtain rfl : x5 = 0 := e6.trans (by decide)
  refine lv_lconst (v := 1) hx hb dX9_isAbove_37 (by decide) ?_
  refine W.lcmp hx hb dX9_isAbove_38 ?_
  refine lv_topi (fun x7 e8 => ?_)
  obtain rfl : x7 = (-1) := e8.trans (by decide)
  refine lv_if_ne (tgt := 46) hx hb dX9_isAbove_39 (by decide) (fun c9 => ?_) (fun c9 => absurd c9 (by decide))
  refine lv_iconst (v := 0) hx hb dX9_isAbove_46 (by decide) ?_
  refine W.widen (k := 0) (n := 0) (Nat.le_of_ble_eq_true rfl) (Nat.le_of_ble_eq_true rfl) ?_
  exact W.zret (v := 0) hx hb hr rfl (fun t ht hW => ⟨⟨_, ((fun _ => 0), (fun _ => fun _ => 0), (fun _ => fun _ => 0)), rfl, rfl, by rw [ht]; exact hP.sub [0, 1, 2] rfl, hD.sub [0, 1, 2] (by decide) rfl⟩, hS.F ht⟩) hS.2.2 dX9_isAbove_47
set_option maxHeartbeats 1000000 in
set_option maxRecDepth 100000 in
/-- isAbove(5, 1) -/
theorem c_isAbove_5_1 (l : Launch) (G : pT) (g0 : Nat) (g1 : Nat) (g2 : Nat) (d : Nat → Nat) (z : Nat → Nat) (k2 : Nat) : PM l G pX0 yX9_isAbove cX9_isAbove 3 (some .boolean) ({ frames := 2, cells := 0, slots := 0, locals := 60 }) [.ref g0, .int 5, .int 1] [(g0, .inr (6, [.ref k2, .ref g1, .int 7, .ref g2, .int 2147483647])), (g1, .inl (G.2.1 4, 37, .inr (.inr (.inr (.inr (dcl d)))))), ((d 1), .inr (2, [.int 1, .int 30, .int (-1), .int 0, .int (-1), .int 0, .int 0, .ref (z 4), .ref (z 5), .ref (d 0), .long 1, .ref (z 6), .ref (z 7)]))] (fun (v : Option Value) (u : (Nat → Nat) × (Nat → Nat → Int32) × (Nat → Nat → Int64)) => v = some (.int 0)) (fun u => [(g0, .inr (6, [.ref k2, .ref g1, .int 7, .ref g2, .int 2147483647])), (g1, .inl (G.2.1 4, 37, .inr (.inr (.inr (.inr (dcl d)))))), ((d 1), .inr (2, [.int 1, .int 30, .int (-1), .int 0, .int (-1), .int 0, .int 0, .ref (z 4), .ref (z 5), .ref (d 0), .long 1, .ref (z 6), .ref (z 7)]))]) := by
  intro sz
  refine Met.ofW (cc := cX9_isAbove) (maxL := 3) (ret := (some .boolean)) (by decide) rfl ?_
  intro p e s m args below meth c s₁ B hml hv
  obtain ⟨rfl, hsz, hP, hD0, hE, hX⟩ := hv
  have hx := B.exec
  have hb := B.bytes
  have hr := B.returns
  have hts := atoms_spec (ws := Cond.code yX9_isAbove cX9_isAbove 3 (some .boolean) :: pw) B.pre
  have hq : ∀ w ∈ pw, w.before _ s = true := fun w h => hts w (List.mem_cons_of_mem _ h)
  have hown : s.vm.findClass RX9 = some m.cls := findClass_of_methodNamed B.named
  have hlocks := B.notSynchronized
  subst hsz
  have hD := hD0.self (sz := s.heap.size)
  have hA : ∀ q : Nat, s.heap.size ≤ q → va_A [(g0, .inr (6, [.ref k2, .ref g1, .int 7, .ref g2, .int 2147483647])), (g1, .inl (G.2.1 4, 37, .inr (.inr (.inr (.inr (dcl d)))))), ((d 1), .inr (2, [.int 1, .int 30, .int (-1), .int 0, .int (-1), .int 0, .int 0, .ref (z 4), .ref (z 5), .ref (d 0), .long 1, .ref (z 6), .ref (z 7)]))] s.heap.size q := fun q h => Or.inr h
  have hP : va_P G.1 pCl [(g0, .inr (6, [.ref k2, .ref g1, .int 7, .ref g2, .int 2147483647])), (g1, .inl (G.2.1 4, 37, .inr (.inr (.inr (.inr (dcl d)))))), ((d 1), .inr (2, [.int 1, .int 30, .int (-1), .int 0, .int (-1), .int 0, .int 0, .ref (z 4), .ref (z 5), .ref (d 0), .long 1, .ref (z 6), .ref (z 7)]))] s.heap := hP
  generalize va_A [(g0, .inr (6, [.ref k2, .ref g1, .int 7, .ref g2, .int 2147483647])), (g1, .inl (G.2.1 4, 37, .inr (.inr (.inr (.inr (dcl d)))))), ((d 1), .inr (2, [.int 1, .int 30, .int (-1), .int 0, .int (-1), .int 0, .int 0, .ref (z 4), .ref (z 5), .ref (d 0), .long 1, .ref (z 6), .ref (z 7)]))] s.heap.size = A at hD hE hA ⊢
  have hS : va_S A s.heap s.heap [] := va_S.rf
  have hl := lv_entry ([.ref g0, .int 5, .int 1]) (n := 3) (Nat.le_of_ble_eq_true rfl)
  rw [lg_entry_eq]
  generalize (lg_sl ([.ref g0, .int 5, .int 1]) ++ List.replicate (3 - (lg_sl ([.ref g0, .int 5, .int 1])).length) Slot.unset).toArray = ls at hl ⊢
  have hl : lv_has ls 3 [(0, .ref g0), (1, .int 5), (2, .int 1)] := hl
  refine lv_iload_n hx hb dX9_isAbove_0 rfl (lv_at hl 1 rfl) ?_
  refine lv_if_lt (tgt := 46) hx hb dX9_isAbove_1 (by decide) (fun c1 => absurd c1 (by decide)) (fun c1 => ?_)
  refine lv_iload_n hx hb dX9_isAbove_4 rfl (lv_at hl 1 rfl) ?_
  refine lv_aload_n hx hb dX9_isAbove_5 rfl (lv_at hl 0 rfl) ?_
  refine va_get (D := G.1) (ci := 6) (v := .int 7) (C := RX9) (T := TX9) (N := 5) hx hb hq pin_wsX90 hown hE.1.1 hP 0 rfl rfl 2 (by decide) (hq _ pw_137) (fun _ h9 => h9) rfl dX9_isAbove_6 ?_
  refine lv_icmp_ge (tgt := 46) hx hb dX9_isAbove_9 (by decide) (fun c2 => absurd c2 (by decide)) (fun c2 => ?_)
  refine lv_iload_n hx hb dX9_isAbove_12 rfl (lv_at hl 2 rfl) ?_
  refine lv_if_lt (tgt := 46) hx hb dX9_isAbove_13 (by decide) (fun c3 => absurd c3 (by decide)) (fun c3 => ?_)
  refine lv_iload_n hx hb dX9_isAbove_16 rfl (lv_at hl 2 rfl) ?_
  refine lv_aload_n hx hb dX9_isAbove_17 rfl (lv_at hl 0 rfl) ?_
  refine va_get (D := G.1) (ci := 6) (v := .int 7) (C := RX9) (T := TX9) (N := 5) hx hb hq pin_wsX90 hown hE.1.1 hP 0 rfl rfl 2 (by decide) (hq _ pw_137) (fun _ h9 => h9) rfl dX9_isAbove_18 ?_
  refine lv_icmp_ge (tgt := 46) hx hb dX9_isAbove_21 (by decide) (fun c4 => absurd c4 (by decide)) (fun c4 => ?_)
  refine lv_aload_n hx hb dX9_isAbove_24 rfl (lv_at hl 0 rfl) ?_
  refine va_get (D := G.1) (ci := 6) (v := .ref g1) (C := RX9) (T := TX9) (N := 5) hx hb hq pin_wsX90 hown hE.1.1 hP 0 rfl rfl 1 (by decide) (hq _ pw_132) (fun _ h9 => h9) rfl dX9_isAbove_25 ?_
  refine lv_iload_n hx hb dX9_isAbove_28 rfl (lv_at hl 2 rfl) ?_
  refine va_aldq hx hb hE.1.1 hP 1 4 rfl rfl (by unfold vp_in; decide) dX9_isAbove_29 ?_
  refine W.eq (g2 := F0 m 30 ls [.ref (d 1)]) rfl ?_
  refine va_get (D := G.1) (ci := 2) (v := .long 1) (C := RX2) (T := TX2) (N := 13) hx hb hq pin_wsX20 hown hE.1.1 hP 2 rfl rfl 10 (by decide) (hq _ pw_153) (fun _ h9 => h9) rfl dX9_isAbove_30 ?_
  refine lv_iload_n hx hb dX9_isAbove_33 rfl (lv_at hl 1 rfl) ?_
  refine lv_lushr (v := 0) hx hb dX9_isAbove_34 (by decide) ?_
  refine lv_lconst (v := 1) hx hb dX9_isAbove_35 (by decide) ?_
  refine lv_land hx hb dX9_isAbove_36 ?_
  refine lv_topl (fun x5 e6 => ?_)
  obtain rfl : x5 = 0 := e6.trans (by decide)
  refine lv_lconst (v := 1) hx hb dX9_isAbove_37 (by decide) ?_
  refine W.lcmp hx hb dX9_isAbove_38 ?_
  refine lv_topi (fun x7 e8 => ?_)
  obtain rfl : x7 = (-1) := e8.trans (by decide)
  refine lv_if_ne (tgt := 46) hx hb dX9_isAbove_39 (by decide) (fun c9 => ?_) (fun c9 => absurd c9 (by decide))
  refine lv_iconst (v := 0) hx hb dX9_isAbove_46 (by decide) ?_
  refine W.widen (k := 0) (n := 0) (Nat.le_of_ble_eq_true rfl) (Nat.le_of_ble_eq_true rfl) ?_
  exact W.zret (v := 0) hx hb hr rfl (fun t ht hW => ⟨⟨_, ((fun _ => 0), (fun _ => fun _ => 0), (fun _ => fun _ => 0)), rfl, rfl, by rw [ht]; exact hP.sub [0, 1, 2] rfl, hD.sub [0, 1, 2] (by decide) rfl⟩, hS.F ht⟩) hS.2.2 dX9_isAbove_47
set_option maxHeartbeats 1000000 in
set_option maxRecDepth 100000 in
/-- isAbove(5, 2) -/
theorem c_isAbove_5_2 (l : Launch) (G : pT) (g0 : Nat) (g1 : Nat) (g2 : Nat) (d : Nat → Nat) (z : Nat → Nat) (k2 : Nat) : PM l G pX0 yX9_isAbove cX9_isAbove 3 (some .boolean) ({ frames := 2, cells := 0, slots := 0, locals := 60 }) [.ref g0, .int 5, .int 2] [(g0, .inr (6, [.ref k2, .ref g1, .int 7, .ref g2, .int 2147483647])), (g1, .inl (G.2.1 4, 37, .inr (.inr (.inr (.inr (dcl d)))))), ((d 2), .inr (2, [.int 2, .int 31, .int (-1), .int 0, .int (-1), .int 0, .int 0, .ref (z 8), .ref (z 9), .ref (d 0), .long 1, .ref (z 10), .ref (z 11)]))] (fun (v : Option Value) (u : (Nat → Nat) × (Nat → Nat → Int32) × (Nat → Nat → Int64)) => v = some (.int 0)) (fun u => [(g0, .inr (6, [.ref k2, .ref g1, .int 7, .ref g2, .int 2147483647])), (g1, .inl (G.2.1 4, 37, .inr (.inr (.inr (.inr (dcl d)))))), ((d 2), .inr (2, [.int 2, .int 31, .int (-1), .int 0, .int (-1), .int 0, .int 0, .ref (z 8), .ref (z 9), .ref (d 0), .long 1, .ref (z 10), .ref (z 11)]))]) := by
  intro sz
  refine Met.ofW (cc := cX9_isAbove) (maxL := 3) (ret := (some .boolean)) (by decide) rfl ?_
  intro p e s m args below meth c s₁ B hml hv
  obtain ⟨rfl, hsz, hP, hD0, hE, hX⟩ := hv
  have hx := B.exec
  have hb := B.bytes
  have hr := B.returns
  have hts := atoms_spec (ws := Cond.code yX9_isAbove cX9_isAbove 3 (some .boolean) :: pw) B.pre
  have hq : ∀ w ∈ pw, w.before _ s = true := fun w h => hts w (List.mem_cons_of_mem _ h)
  have hown : s.vm.findClass RX9 = some m.cls := findClass_of_methodNamed B.named
  have hlocks := B.notSynchronized
  subst hsz
  have hD := hD0.self (sz := s.heap.size)
  have hA : ∀ q : Nat, s.heap.size ≤ q → va_A [(g0, .inr (6, [.ref k2, .ref g1, .int 7, .ref g2, .int 2147483647])), (g1, .inl (G.2.1 4, 37, .inr (.inr (.inr (.inr (dcl d)))))), ((d 2), .inr (2, [.int 2, .int 31, .int (-1), .int 0, .int (-1), .int 0, .int 0, .ref (z 8), .ref (z 9), .ref (d 0), .long 1, .ref (z 10), .ref (z 11)]))] s.heap.size q := fun q h => Or.inr h
  have hP : va_P G.1 pCl [(g0, .inr (6, [.ref k2, .ref g1, .int 7, .ref g2, .int 2147483647])), (g1, .inl (G.2.1 4, 37, .inr (.inr (.inr (.inr (dcl d)))))), ((d 2), .inr (2, [.int 2, .int 31, .int (-1), .int 0, .int (-1), .int 0, .int 0, .ref (z 8), .ref (z 9), .ref (d 0), .long 1, .ref (z 10), .ref (z 11)]))] s.heap := hP
  generalize va_A [(g0, .inr (6, [.ref k2, .ref g1, .int 7, .ref g2, .int 2147483647])), (g1, .inl (G.2.1 4, 37, .inr (.inr (.inr (.inr (dcl d)))))), ((d 2), .inr (2, [.int 2, .int 31, .int (-1), .int 0, .int (-1), .int 0, .int 0, .ref (z 8), .ref (z 9), .ref (d 0), .long 1, .ref (z 10), .ref (z 11)]))] s.heap.size = A at hD hE hA ⊢
  have hS : va_S A s.heap s.heap [] := va_S.rf
  have hl := lv_entry ([.ref g0, .int 5, .int 2]) (n := 3) (Nat.le_of_ble_eq_true rfl)
  rw [lg_entry_eq]
  generalize (lg_sl ([.ref g0, .int 5, .int 2]) ++ List.replicate (3 - (lg_sl ([.ref g0, .int 5, .int 2])).length) Slot.unset).toArray = ls at hl ⊢
  have hl : lv_has ls 3 [(0, .ref g0), (1, .int 5), (2, .int 2)] := hl
  refine lv_iload_n hx hb dX9_isAbove_0 rfl (lv_at hl 1 rfl) ?_
  refine lv_if_lt (tgt := 46) hx hb dX9_isAbove_1 (by decide) (fun c1 => absurd c1 (by decide)) (fun c1 => ?_)
  refine lv_iload_n hx hb dX9_isAbove_4 rfl (lv_at hl 1 rfl) ?_
  refine lv_aload_n hx hb dX9_isAbove_5 rfl (lv_at hl 0 rfl) ?_
  refine va_get (D := G.1) (ci := 6) (v := .int 7) (C := RX9) (T := TX9) (N := 5) hx hb hq pin_wsX90 hown hE.1.1 hP 0 rfl rfl 2 (by decide) (hq _ pw_137) (fun _ h9 => h9) rfl dX9_isAbove_6 ?_
  refine lv_icmp_ge (tgt := 46) hx hb dX9_isAbove_9 (by decide) (fun c2 => absurd c2 (by decide)) (fun c2 => ?_)
  refine lv_iload_n hx hb dX9_isAbove_12 rfl (lv_at hl 2 rfl) ?_
  refine lv_if_lt (tgt := 46) hx hb dX9_isAbove_13 (by decide) (fun c3 => absurd c3 (by decide)) (fun c3 => ?_)
  refine lv_iload_n hx hb dX9_isAbove_16 rfl (lv_at hl 2 rfl) ?_
  refine lv_aload_n hx hb dX9_isAbove_17 rfl (lv_at hl 0 rfl) ?_
  refine va_get (D := G.1) (ci := 6) (v := .int 7) (C := RX9) (T := TX9) (N := 5) hx hb hq pin_wsX90 hown hE.1.1 hP 0 rfl rfl 2 (by decide) (hq _ pw_137) (fun _ h9 => h9) rfl dX9_isAbove_18 ?_
  refine lv_icmp_ge (tgt := 46) hx hb dX9_isAbove_21 (by decide) (fun c4 => absurd c4 (by decide)) (fun c4 => ?_)
  refine lv_aload_n hx hb dX9_isAbove_24 rfl (lv_at hl 0 rfl) ?_
  refine va_get (D := G.1) (ci := 6) (v := .ref g1) (C := RX9) (T := TX9) (N := 5) hx hb hq pin_wsX90 hown hE.1.1 hP 0 rfl rfl 1 (by decide) (hq _ pw_132) (fun _ h9 => h9) rfl dX9_isAbove_25 ?_
  refine lv_iload_n hx hb dX9_isAbove_28 rfl (lv_at hl 2 rfl) ?_
  refine va_aldq hx hb hE.1.1 hP 1 4 rfl rfl (by unfold vp_in; decide) dX9_isAbove_29 ?_
  refine W.eq (g2 := F0 m 30 ls [.ref (d 2)]) rfl ?_
  refine va_get (D := G.1) (ci := 2) (v := .long 1) (C := RX2) (T := TX2) (N := 13) hx hb hq pin_wsX20 hown hE.1.1 hP 2 rfl rfl 10 (by decide) (hq _ pw_153) (fun _ h9 => h9) rfl dX9_isAbove_30 ?_
  refine lv_iload_n hx hb dX9_isAbove_33 rfl (lv_at hl 1 rfl) ?_
  refine lv_lushr (v := 0) hx hb dX9_isAbove_34 (by decide) ?_
  refine lv_lconst (v := 1) hx hb dX9_isAbove_35 (by decide) ?_
  refine lv_land hx hb dX9_isAbove_36 ?_
  refine lv_topl (fun x5 e6 => ?_)
  obtain rfl : x5 = 0 := e6.trans (by decide)
  refine lv_lconst (v := 1) hx hb dX9_isAbove_37 (by decide) ?_
  refine W.lcmp hx hb dX9_isAbove_38 ?_
  refine lv_topi (fun x7 e8 => ?_)
  obtain rfl : x7 = (-1) := e8.trans (by decide)
  refine lv_if_ne (tgt := 46) hx hb dX9_isAbove_39 (by decide) (fun c9 => ?_) (fun c9 => absurd c9 (by decide))
  refine lv_iconst (v := 0) hx hb dX9_isAbove_46 (by decide) ?_
  refine W.widen (k := 0) (n := 0) (Nat.le_of_ble_eq_true rfl) (Nat.le_of_ble_eq_true rfl) ?_
  exact W.zret (v := 0) hx hb hr rfl (fun t ht hW => ⟨⟨_, ((fun _ => 0), (fun _ => fun _ => 0), (fun _ => fun _ => 0)), rfl, rfl, by rw [ht]; exact hP.sub [0, 1, 2] rfl, hD.sub [0, 1, 2] (by decide) rfl⟩, hS.F ht⟩) hS.2.2 dX9_isAbove_47
set_option maxHeartbeats 1000000 in
set_option maxRecDepth 100000 in
/-- isAbove(5, 3) -/
theorem c_isAbove_5_3 (l : Launch) (G : pT) (g0 : Nat) (g1 : Nat) (g2 : Nat) (d : Nat → Nat) (z : Nat → Nat) (k2 : Nat) : PM l G pX0 yX9_isAbove cX9_isAbove 3 (some .boolean) ({ frames := 2, cells := 0, slots := 0, locals := 60 }) [.ref g0, .int 5, .int 3] [(g0, .inr (6, [.ref k2, .ref g1, .int 7, .ref g2, .int 2147483647])), (g1, .inl (G.2.1 4, 37, .inr (.inr (.inr (.inr (dcl d)))))), ((d 3), .inr (2, [.int 3, .int 32, .int (-1), .int 0, .int (-1), .int 0, .int 0, .ref (z 12), .ref (z 13), .ref (d 0), .long 1, .ref (z 14), .ref (z 15)]))] (fun (v : Option Value) (u : (Nat → Nat) × (Nat → Nat → Int32) × (Nat → Nat → Int64)) => v = some (.int 0)) (fun u => [(g0, .inr (6, [.ref k2, .ref g1, .int 7, .ref g2, .int 2147483647])), (g1, .inl (G.2.1 4, 37, .inr (.inr (.inr (.inr (dcl d)))))), ((d 3), .inr (2, [.int 3, .int 32, .int (-1), .int 0, .int (-1), .int 0, .int 0, .ref (z 12), .ref (z 13), .ref (d 0), .long 1, .ref (z 14), .ref (z 15)]))]) := by
  intro sz
  refine Met.ofW (cc := cX9_isAbove) (maxL := 3) (ret := (some .boolean)) (by decide) rfl ?_
  intro p e s m args below meth c s₁ B hml hv
  obtain ⟨rfl, hsz, hP, hD0, hE, hX⟩ := hv
  have hx := B.exec
  have hb := B.bytes
  have hr := B.returns
  have hts := atoms_spec (ws := Cond.code yX9_isAbove cX9_isAbove 3 (some .boolean) :: pw) B.pre
  have hq : ∀ w ∈ pw, w.before _ s = true := fun w h => hts w (List.mem_cons_of_mem _ h)
  have hown : s.vm.findClass RX9 = some m.cls := findClass_of_methodNamed B.named
  have hlocks := B.notSynchronized
  subst hsz
  have hD := hD0.self (sz := s.heap.size)
  have hA : ∀ q : Nat, s.heap.size ≤ q → va_A [(g0, .inr (6, [.ref k2, .ref g1, .int 7, .ref g2, .int 2147483647])), (g1, .inl (G.2.1 4, 37, .inr (.inr (.inr (.inr (dcl d)))))), ((d 3), .inr (2, [.int 3, .int 32, .int (-1), .int 0, .int (-1), .int 0, .int 0, .ref (z 12), .ref (z 13), .ref (d 0), .long 1, .ref (z 14), .ref (z 15)]))] s.heap.size q := fun q h => Or.inr h
  have hP : va_P G.1 pCl [(g0, .inr (6, [.ref k2, .ref g1, .int 7, .ref g2, .int 2147483647])), (g1, .inl (G.2.1 4, 37, .inr (.inr (.inr (.inr (dcl d)))))), ((d 3), .inr (2, [.int 3, .int 32, .int (-1), .int 0, .int (-1), .int 0, .int 0, .ref (z 12), .ref (z 13), .ref (d 0), .long 1, .ref (z 14), .ref (z 15)]))] s.heap := hP
  generalize va_A [(g0, .inr (6, [.ref k2, .ref g1, .int 7, .ref g2, .int 2147483647])), (g1, .inl (G.2.1 4, 37, .inr (.inr (.inr (.inr (dcl d)))))), ((d 3), .inr (2, [.int 3, .int 32, .int (-1), .int 0, .int (-1), .int 0, .int 0, .ref (z 12), .ref (z 13), .ref (d 0), .long 1, .ref (z 14), .ref (z 15)]))] s.heap.size = A at hD hE hA ⊢
  have hS : va_S A s.heap s.heap [] := va_S.rf
  have hl := lv_entry ([.ref g0, .int 5, .int 3]) (n := 3) (Nat.le_of_ble_eq_true rfl)
  rw [lg_entry_eq]
  generalize (lg_sl ([.ref g0, .int 5, .int 3]) ++ List.replicate (3 - (lg_sl ([.ref g0, .int 5, .int 3])).length) Slot.unset).toArray = ls at hl ⊢
  have hl : lv_has ls 3 [(0, .ref g0), (1, .int 5), (2, .int 3)] := hl
  refine lv_iload_n hx hb dX9_isAbove_0 rfl (lv_at hl 1 rfl) ?_
  refine lv_if_lt (tgt := 46) hx hb dX9_isAbove_1 (by decide) (fun c1 => absurd c1 (by decide)) (fun c1 => ?_)
  refine lv_iload_n hx hb dX9_isAbove_4 rfl (lv_at hl 1 rfl) ?_
  refine lv_aload_n hx hb dX9_isAbove_5 rfl (lv_at hl 0 rfl) ?_
  refine va_get (D := G.1) (ci := 6) (v := .int 7) (C := RX9) (T := TX9) (N := 5) hx hb hq pin_wsX90 hown hE.1.1 hP 0 rfl rfl 2 (by decide) (hq _ pw_137) (fun _ h9 => h9) rfl dX9_isAbove_6 ?_
  refine lv_icmp_ge (tgt := 46) hx hb dX9_isAbove_9 (by decide) (fun c2 => absurd c2 (by decide)) (fun c2 => ?_)
  refine lv_iload_n hx hb dX9_isAbove_12 rfl (lv_at hl 2 rfl) ?_
  refine lv_if_lt (tgt := 46) hx hb dX9_isAbove_13 (by decide) (fun c3 => absurd c3 (by decide)) (fun c3 => ?_)
  refine lv_iload_n hx hb dX9_isAbove_16 rfl (lv_at hl 2 rfl) ?_
  refine lv_aload_n hx hb dX9_isAbove_17 rfl (lv_at hl 0 rfl) ?_
  refine va_get (D := G.1) (ci := 6) (v := .int 7) (C := RX9) (T := TX9) (N := 5) hx hb hq pin_wsX90 hown hE.1.1 hP 0 rfl rfl 2 (by decide) (hq _ pw_137) (fun _ h9 => h9) rfl dX9_isAbove_18 ?_
  refine lv_icmp_ge (tgt := 46) hx hb dX9_isAbove_21 (by decide) (fun c4 => absurd c4 (by decide)) (fun c4 => ?_)
  refine lv_aload_n hx hb dX9_isAbove_24 rfl (lv_at hl 0 rfl) ?_
  refine va_get (D := G.1) (ci := 6) (v := .ref g1) (C := RX9) (T := TX9) (N := 5) hx hb hq pin_wsX90 hown hE.1.1 hP 0 rfl rfl 1 (by decide) (hq _ pw_132) (fun _ h9 => h9) rfl dX9_isAbove_25 ?_
  refine lv_iload_n hx hb dX9_isAbove_28 rfl (lv_at hl 2 rfl) ?_
  refine va_aldq hx hb hE.1.1 hP 1 4 rfl rfl (by unfold vp_in; decide) dX9_isAbove_29 ?_
  refine W.eq (g2 := F0 m 30 ls [.ref (d 3)]) rfl ?_
  refine va_get (D := G.1) (ci := 2) (v := .long 1) (C := RX2) (T := TX2) (N := 13) hx hb hq pin_wsX20 hown hE.1.1 hP 2 rfl rfl 10 (by decide) (hq _ pw_153) (fun _ h9 => h9) rfl dX9_isAbove_30 ?_
  refine lv_iload_n hx hb dX9_isAbove_33 rfl (lv_at hl 1 rfl) ?_
  refine lv_lushr (v := 0) hx hb dX9_isAbove_34 (by decide) ?_
  refine lv_lconst (v := 1) hx hb dX9_isAbove_35 (by decide) ?_
  refine lv_land hx hb dX9_isAbove_36 ?_
  refine lv_topl (fun x5 e6 => ?_)
  obtain rfl : x5 = 0 := e6.trans (by decide)
  refine lv_lconst (v := 1) hx hb dX9_isAbove_37 (by decide) ?_
  refine W.lcmp hx hb dX9_isAbove_38 ?_
  refine lv_topi (fun x7 e8 => ?_)
  obtain rfl : x7 = (-1) := e8.trans (by decide)
  refine lv_if_ne (tgt := 46) hx hb dX9_isAbove_39 (by decide) (fun c9 => ?_) (fun c9 => absurd c9 (by decide))
  refine lv_iconst (v := 0) hx hb dX9_isAbove_46 (by decide) ?_
  refine W.widen (k := 0) (n := 0) (Nat.le_of_ble_eq_true rfl) (Nat.le_of_ble_eq_true rfl) ?_
  exact W.zret (v := 0) hx hb hr rfl (fun t ht hW => ⟨⟨_, ((fun _ => 0), (fun _ => fun _ => 0), (fun _ => fun _ => 0)), rfl, rfl, by rw [ht]; exact hP.sub [0, 1, 2] rfl, hD.sub [0, 1, 2] (by decide) rfl⟩, hS.F ht⟩) hS.2.2 dX9_isAbove_47
set_option maxHeartbeats 1000000 in
set_option maxRecDepth 100000 in
/-- isAbove(5, 4) -/
theorem c_isAbove_5_4 (l : Launch) (G : pT) (g0 : Nat) (g1 : Nat) (g2 : Nat) (d : Nat → Nat) (z : Nat → Nat) (k2 : Nat) : PM l G pX0 yX9_isAbove cX9_isAbove 3 (some .boolean) ({ frames := 2, cells := 0, slots := 0, locals := 60 }) [.ref g0, .int 5, .int 4] [(g0, .inr (6, [.ref k2, .ref g1, .int 7, .ref g2, .int 2147483647])), (g1, .inl (G.2.1 4, 37, .inr (.inr (.inr (.inr (dcl d)))))), ((d 4), .inr (2, [.int 4, .int 33, .int (-1), .int 0, .int (-1), .int 0, .int 0, .ref (z 16), .ref (z 17), .ref (d 0), .long 1, .ref (z 18), .ref (z 19)]))] (fun (v : Option Value) (u : (Nat → Nat) × (Nat → Nat → Int32) × (Nat → Nat → Int64)) => v = some (.int 0)) (fun u => [(g0, .inr (6, [.ref k2, .ref g1, .int 7, .ref g2, .int 2147483647])), (g1, .inl (G.2.1 4, 37, .inr (.inr (.inr (.inr (dcl d)))))), ((d 4), .inr (2, [.int 4, .int 33, .int (-1), .int 0, .int (-1), .int 0, .int 0, .ref (z 16), .ref (z 17), .ref (d 0), .long 1, .ref (z 18), .ref (z 19)]))]) := by
  intro sz
  refine Met.ofW (cc := cX9_isAbove) (maxL := 3) (ret := (some .boolean)) (by decide) rfl ?_
  intro p e s m args below meth c s₁ B hml hv
  obtain ⟨rfl, hsz, hP, hD0, hE, hX⟩ := hv
  have hx := B.exec
  have hb := B.bytes
  have hr := B.returns
  have hts := atoms_spec (ws := Cond.code yX9_isAbove cX9_isAbove 3 (some .boolean) :: pw) B.pre
  have hq : ∀ w ∈ pw, w.before _ s = true := fun w h => hts w (List.mem_cons_of_mem _ h)
  have hown : s.vm.findClass RX9 = some m.cls := findClass_of_methodNamed B.named
  have hlocks := B.notSynchronized
  subst hsz
  have hD := hD0.self (sz := s.heap.size)
  have hA : ∀ q : Nat, s.heap.size ≤ q → va_A [(g0, .inr (6, [.ref k2, .ref g1, .int 7, .ref g2, .int 2147483647])), (g1, .inl (G.2.1 4, 37, .inr (.inr (.inr (.inr (dcl d)))))), ((d 4), .inr (2, [.int 4, .int 33, .int (-1), .int 0, .int (-1), .int 0, .int 0, .ref (z 16), .ref (z 17), .ref (d 0), .long 1, .ref (z 18), .ref (z 19)]))] s.heap.size q := fun q h => Or.inr h
  have hP : va_P G.1 pCl [(g0, .inr (6, [.ref k2, .ref g1, .int 7, .ref g2, .int 2147483647])), (g1, .inl (G.2.1 4, 37, .inr (.inr (.inr (.inr (dcl d)))))), ((d 4), .inr (2, [.int 4, .int 33, .int (-1), .int 0, .int (-1), .int 0, .int 0, .ref (z 16), .ref (z 17), .ref (d 0), .long 1, .ref (z 18), .ref (z 19)]))] s.heap := hP
  generalize va_A [(g0, .inr (6, [.ref k2, .ref g1, .int 7, .ref g2, .int 2147483647])), (g1, .inl (G.2.1 4, 37, .inr (.inr (.inr (.inr (dcl d)))))), ((d 4), .inr (2, [.int 4, .int 33, .int (-1), .int 0, .int (-1), .int 0, .int 0, .ref (z 16), .ref (z 17), .ref (d 0), .long 1, .ref (z 18), .ref (z 19)]))] s.heap.size = A at hD hE hA ⊢
  have hS : va_S A s.heap s.heap [] := va_S.rf
  have hl := lv_entry ([.ref g0, .int 5, .int 4]) (n := 3) (Nat.le_of_ble_eq_true rfl)
  rw [lg_entry_eq]
  generalize (lg_sl ([.ref g0, .int 5, .int 4]) ++ List.replicate (3 - (lg_sl ([.ref g0, .int 5, .int 4])).length) Slot.unset).toArray = ls at hl ⊢
  have hl : lv_has ls 3 [(0, .ref g0), (1, .int 5), (2, .int 4)] := hl
  refine lv_iload_n hx hb dX9_isAbove_0 rfl (lv_at hl 1 rfl) ?_
  refine lv_if_lt (tgt := 46) hx hb dX9_isAbove_1 (by decide) (fun c1 => absurd c1 (by decide)) (fun c1 => ?_)
  refine lv_iload_n hx hb dX9_isAbove_4 rfl (lv_at hl 1 rfl) ?_
  refine lv_aload_n hx hb dX9_isAbove_5 rfl (lv_at hl 0 rfl) ?_
  refine va_get (D := G.1) (ci := 6) (v := .int 7) (C := RX9) (T := TX9) (N := 5) hx hb hq pin_wsX90 hown hE.1.1 hP 0 rfl rfl 2 (by decide) (hq _ pw_137) (fun _ h9 => h9) rfl dX9_isAbove_6 ?_
  refine lv_icmp_ge (tgt := 46) hx hb dX9_isAbove_9 (by decide) (fun c2 => absurd c2 (by decide)) (fun c2 => ?_)
  refine lv_iload_n hx hb dX9_isAbove_12 rfl (lv_at hl 2 rfl) ?_
  refine lv_if_lt (tgt := 46) hx hb dX9_isAbove_13 (by decide) (fun c3 => absurd c3 (by decide)) (fun c3 => ?_)
  refine lv_iload_n hx hb dX9_isAbove_16 rfl (lv_at hl 2 rfl) ?_
  refine lv_aload_n hx hb dX9_isAbove_17 rfl (lv_at hl 0 rfl) ?_
  refine va_get (D := G.1) (ci := 6) (v := .int 7) (C := RX9) (T := TX9) (N := 5) hx hb hq pin_wsX90 hown hE.1.1 hP 0 rfl rfl 2 (by decide) (hq _ pw_137) (fun _ h9 => h9) rfl dX9_isAbove_18 ?_
  refine lv_icmp_ge (tgt := 46) hx hb dX9_isAbove_21 (by decide) (fun c4 => absurd c4 (by decide)) (fun c4 => ?_)
  refine lv_aload_n hx hb dX9_isAbove_24 rfl (lv_at hl 0 rfl) ?_
  refine va_get (D := G.1) (ci := 6) (v := .ref g1) (C := RX9) (T := TX9) (N := 5) hx hb hq pin_wsX90 hown hE.1.1 hP 0 rfl rfl 1 (by decide) (hq _ pw_132) (fun _ h9 => h9) rfl dX9_isAbove_25 ?_
  refine lv_iload_n hx hb dX9_isAbove_28 rfl (lv_at hl 2 rfl) ?_
  refine va_aldq hx hb hE.1.1 hP 1 4 rfl rfl (by unfold vp_in; decide) dX9_isAbove_29 ?_
  refine W.eq (g2 := F0 m 30 ls [.ref (d 4)]) rfl ?_
  refine va_get (D := G.1) (ci := 2) (v := .long 1) (C := RX2) (T := TX2) (N := 13) hx hb hq pin_wsX20 hown hE.1.1 hP 2 rfl rfl 10 (by decide) (hq _ pw_153) (fun _ h9 => h9) rfl dX9_isAbove_30 ?_
  refine lv_iload_n hx hb dX9_isAbove_33 rfl (lv_at hl 1 rfl) ?_
  refine lv_lushr (v := 0) hx hb dX9_isAbove_34 (by decide) ?_
  refine lv_lconst (v := 1) hx hb dX9_isAbove_35 (by decide) ?_
  refine lv_land hx hb dX9_isAbove_36 ?_
  refine lv_topl (fun x5 e6 => ?_)
  obtain rfl : x5 = 0 := e6.trans (by decide)
  refine lv_lconst (v := 1) hx hb dX9_isAbove_37 (by decide) ?_
  refine W.lcmp hx hb dX9_isAbove_38 ?_
  refine lv_topi (fun x7 e8 => ?_)
  obtain rfl : x7 = (-1) := e8.trans (by decide)
  refine lv_if_ne (tgt := 46) hx hb dX9_isAbove_39 (by decide) (fun c9 => ?_) (fun c9 => absurd c9 (by decide))
  refine lv_iconst (v := 0) hx hb dX9_isAbove_46 (by decide) ?_
  refine W.widen (k := 0) (n := 0) (Nat.le_of_ble_eq_true rfl) (Nat.le_of_ble_eq_true rfl) ?_
  exact W.zret (v := 0) hx hb hr rfl (fun t ht hW => ⟨⟨_, ((fun _ => 0), (fun _ => fun _ => 0), (fun _ => fun _ => 0)), rfl, rfl, by rw [ht]; exact hP.sub [0, 1, 2] rfl, hD.sub [0, 1, 2] (by decide) rfl⟩, hS.F ht⟩) hS.2.2 dX9_isAbove_47
set_option maxHeartbeats 1000000 in
set_option maxRecDepth 100000 in
/-- isAbove(5, 5) -/
theorem c_isAbove_5_5 (l : Launch) (G : pT) (g0 : Nat) (g1 : Nat) (g2 : Nat) (d : Nat → Nat) (z : Nat → Nat) (k2 : Nat) : PM l G pX0 yX9_isAbove cX9_isAbove 3 (some .boolean) ({ frames := 2, cells := 0, slots := 0, locals := 60 }) [.ref g0, .int 5, .int 5] [(g0, .inr (6, [.ref k2, .ref g1, .int 7, .ref g2, .int 2147483647])), (g1, .inl (G.2.1 4, 37, .inr (.inr (.inr (.inr (dcl d)))))), ((d 5), .inr (2, [.int 5, .int 34, .int (-1), .int 0, .int (-1), .int 0, .int 0, .ref (z 20), .ref (z 21), .ref (d 0), .long 1, .ref (z 22), .ref (z 23)]))] (fun (v : Option Value) (u : (Nat → Nat) × (Nat → Nat → Int32) × (Nat → Nat → Int64)) => v = some (.int 0)) (fun u => [(g0, .inr (6, [.ref k2, .ref g1, .int 7, .ref g2, .int 2147483647])), (g1, .inl (G.2.1 4, 37, .inr (.inr (.inr (.inr (dcl d)))))), ((d 5), .inr (2, [.int 5, .int 34, .int (-1), .int 0, .int (-1), .int 0, .int 0, .ref (z 20), .ref (z 21), .ref (d 0), .long 1, .ref (z 22), .ref (z 23)]))]) := by
  intro sz
  refine Met.ofW (cc := cX9_isAbove) (maxL := 3) (ret := (some .boolean)) (by decide) rfl ?_
  intro p e s m args below meth c s₁ B hml hv
  obtain ⟨rfl, hsz, hP, hD0, hE, hX⟩ := hv
  have hx := B.exec
  have hb := B.bytes
  have hr := B.returns
  have hts := atoms_spec (ws := Cond.code yX9_isAbove cX9_isAbove 3 (some .boolean) :: pw) B.pre
  have hq : ∀ w ∈ pw, w.before _ s = true := fun w h => hts w (List.mem_cons_of_mem _ h)
  have hown : s.vm.findClass RX9 = some m.cls := findClass_of_methodNamed B.named
  have hlocks := B.notSynchronized
  subst hsz
  have hD := hD0.self (sz := s.heap.size)
  have hA : ∀ q : Nat, s.heap.size ≤ q → va_A [(g0, .inr (6, [.ref k2, .ref g1, .int 7, .ref g2, .int 2147483647])), (g1, .inl (G.2.1 4, 37, .inr (.inr (.inr (.inr (dcl d)))))), ((d 5), .inr (2, [.int 5, .int 34, .int (-1), .int 0, .int (-1), .int 0, .int 0, .ref (z 20), .ref (z 21), .ref (d 0), .long 1, .ref (z 22), .ref (z 23)]))] s.heap.size q := fun q h => Or.inr h
  have hP : va_P G.1 pCl [(g0, .inr (6, [.ref k2, .ref g1, .int 7, .ref g2, .int 2147483647])), (g1, .inl (G.2.1 4, 37, .inr (.inr (.inr (.inr (dcl d)))))), ((d 5), .inr (2, [.int 5, .int 34, .int (-1), .int 0, .int (-1), .int 0, .int 0, .ref (z 20), .ref (z 21), .ref (d 0), .long 1, .ref (z 22), .ref (z 23)]))] s.heap := hP
  generalize va_A [(g0, .inr (6, [.ref k2, .ref g1, .int 7, .ref g2, .int 2147483647])), (g1, .inl (G.2.1 4, 37, .inr (.inr (.inr (.inr (dcl d)))))), ((d 5), .inr (2, [.int 5, .int 34, .int (-1), .int 0, .int (-1), .int 0, .int 0, .ref (z 20), .ref (z 21), .ref (d 0), .long 1, .ref (z 22), .ref (z 23)]))] s.heap.size = A at hD hE hA ⊢
  have hS : va_S A s.heap s.heap [] := va_S.rf
  have hl := lv_entry ([.ref g0, .int 5, .int 5]) (n := 3) (Nat.le_of_ble_eq_true rfl)
  rw [lg_entry_eq]
  generalize (lg_sl ([.ref g0, .int 5, .int 5]) ++ List.replicate (3 - (lg_sl ([.ref g0, .int 5, .int 5])).length) Slot.unset).toArray = ls at hl ⊢
  have hl : lv_has ls 3 [(0, .ref g0), (1, .int 5), (2, .int 5)] := hl
  refine lv_iload_n hx hb dX9_isAbove_0 rfl (lv_at hl 1 rfl) ?_
  refine lv_if_lt (tgt := 46) hx hb dX9_isAbove_1 (by decide) (fun c1 => absurd c1 (by decide)) (fun c1 => ?_)
  refine lv_iload_n hx hb dX9_isAbove_4 rfl (lv_at hl 1 rfl) ?_
  refine lv_aload_n hx hb dX9_isAbove_5 rfl (lv_at hl 0 rfl) ?_
  refine va_get (D := G.1) (ci := 6) (v := .int 7) (C := RX9) (T := TX9) (N := 5) hx hb hq pin_wsX90 hown hE.1.1 hP 0 rfl rfl 2 (by decide) (hq _ pw_137) (fun _ h9 => h9) rfl dX9_isAbove_6 ?_
  refine lv_icmp_ge (tgt := 46) hx hb dX9_isAbove_9 (by decide) (fun c2 => absurd c2 (by decide)) (fun c2 => ?_)
  refine lv_iload_n hx hb dX9_isAbove_12 rfl (lv_at hl 2 rfl) ?_
  refine lv_if_lt (tgt := 46) hx hb dX9_isAbove_13 (by decide) (fun c3 => absurd c3 (by decide)) (fun c3 => ?_)
  refine lv_iload_n hx hb dX9_isAbove_16 rfl (lv_at hl 2 rfl) ?_
  refine lv_aload_n hx hb dX9_isAbove_17 rfl (lv_at hl 0 rfl) ?_
  refine va_get (D := G.1) (ci := 6) (v := .int 7) (C := RX9) (T := TX9) (N := 5) hx hb hq pin_wsX90 hown hE.1.1 hP 0 rfl rfl 2 (by decide) (hq _ pw_137) (fun _ h9 => h9) rfl dX9_isAbove_18 ?_
  refine lv_icmp_ge (tgt := 46) hx hb dX9_isAbove_21 (by decide) (fun c4 => absurd c4 (by decide)) (fun c4 => ?_)
  refine lv_aload_n hx hb dX9_isAbove_24 rfl (lv_at hl 0 rfl) ?_
  refine va_get (D := G.1) (ci := 6) (v := .ref g1) (C := RX9) (T := TX9) (N := 5) hx hb hq pin_wsX90 hown hE.1.1 hP 0 rfl rfl 1 (by decide) (hq _ pw_132) (fun _ h9 => h9) rfl dX9_isAbove_25 ?_
  refine lv_iload_n hx hb dX9_isAbove_28 rfl (lv_at hl 2 rfl) ?_
  refine va_aldq hx hb hE.1.1 hP 1 4 rfl rfl (by unfold vp_in; decide) dX9_isAbove_29 ?_
  refine W.eq (g2 := F0 m 30 ls [.ref (d 5)]) rfl ?_
  refine va_get (D := G.1) (ci := 2) (v := .long 1) (C := RX2) (T := TX2) (N := 13) hx hb hq pin_wsX20 hown hE.1.1 hP 2 rfl rfl 10 (by decide) (hq _ pw_153) (fun _ h9 => h9) rfl dX9_isAbove_30 ?_
  refine lv_iload_n hx hb dX9_isAbove_33 rfl (lv_at hl 1 rfl) ?_
  refine lv_lushr (v := 0) hx hb dX9_isAbove_34 (by decide) ?_
  refine lv_lconst (v := 1) hx hb dX9_isAbove_35 (by decide) ?_
  refine lv_land hx hb dX9_isAbove_36 ?_
  refine lv_topl (fun x5 e6 => ?_)
  obtain rfl : x5 = 0 := e6.trans (by decide)
  refine lv_lconst (v := 1) hx hb dX9_isAbove_37 (by decide) ?_
  refine W.lcmp hx hb dX9_isAbove_38 ?_
  refine lv_topi (fun x7 e8 => ?_)
  obtain rfl : x7 = (-1) := e8.trans (by decide)
  refine lv_if_ne (tgt := 46) hx hb dX9_isAbove_39 (by decide) (fun c9 => ?_) (fun c9 => absurd c9 (by decide))
  refine lv_iconst (v := 0) hx hb dX9_isAbove_46 (by decide) ?_
  refine W.widen (k := 0) (n := 0) (Nat.le_of_ble_eq_true rfl) (Nat.le_of_ble_eq_true rfl) ?_
  exact W.zret (v := 0) hx hb hr rfl (fun t ht hW => ⟨⟨_, ((fun _ => 0), (fun _ => fun _ => 0), (fun _ => fun _ => 0)), rfl, rfl, by rw [ht]; exact hP.sub [0, 1, 2] rfl, hD.sub [0, 1, 2] (by decide) rfl⟩, hS.F ht⟩) hS.2.2 dX9_isAbove_47
set_option maxHeartbeats 1000000 in
set_option maxRecDepth 100000 in
/-- isAbove(5, 6) -/
theorem c_isAbove_5_6 (l : Launch) (G : pT) (g0 : Nat) (g1 : Nat) (g2 : Nat) (d : Nat → Nat) (z : Nat → Nat) (k2 : Nat) : PM l G pX0 yX9_isAbove cX9_isAbove 3 (some .boolean) ({ frames := 2, cells := 0, slots := 0, locals := 60 }) [.ref g0, .int 5, .int 6] [(g0, .inr (6, [.ref k2, .ref g1, .int 7, .ref g2, .int 2147483647])), (g1, .inl (G.2.1 4, 37, .inr (.inr (.inr (.inr (dcl d)))))), ((d 6), .inr (2, [.int 6, .int 35, .int (-1), .int 0, .int (-1), .int 0, .int 0, .ref (z 24), .ref (z 25), .ref (d 0), .long 1, .ref (z 26), .ref (z 27)]))] (fun (v : Option Value) (u : (Nat → Nat) × (Nat → Nat → Int32) × (Nat → Nat → Int64)) => v = some (.int 0)) (fun u => [(g0, .inr (6, [.ref k2, .ref g1, .int 7, .ref g2, .int 2147483647])), (g1, .inl (G.2.1 4, 37, .inr (.inr (.inr (.inr (dcl d)))))), ((d 6), .inr (2, [.int 6, .int 35, .int (-1), .int 0, .int (-1), .int 0, .int 0, .ref (z 24), .ref (z 25), .ref (d 0), .long 1, .ref (z 26), .ref (z 27)]))]) := by
  intro sz
  refine Met.ofW (cc := cX9_isAbove) (maxL := 3) (ret := (some .boolean)) (by decide) rfl ?_
  intro p e s m args below meth c s₁ B hml hv
  obtain ⟨rfl, hsz, hP, hD0, hE, hX⟩ := hv
  have hx := B.exec
  have hb := B.bytes
  have hr := B.returns
  have hts := atoms_spec (ws := Cond.code yX9_isAbove cX9_isAbove 3 (some .boolean) :: pw) B.pre
  have hq : ∀ w ∈ pw, w.before _ s = true := fun w h => hts w (List.mem_cons_of_mem _ h)
  have hown : s.vm.findClass RX9 = some m.cls := findClass_of_methodNamed B.named
  have hlocks := B.notSynchronized
  subst hsz
  have hD := hD0.self (sz := s.heap.size)
  have hA : ∀ q : Nat, s.heap.size ≤ q → va_A [(g0, .inr (6, [.ref k2, .ref g1, .int 7, .ref g2, .int 2147483647])), (g1, .inl (G.2.1 4, 37, .inr (.inr (.inr (.inr (dcl d)))))), ((d 6), .inr (2, [.int 6, .int 35, .int (-1), .int 0, .int (-1), .int 0, .int 0, .ref (z 24), .ref (z 25), .ref (d 0), .long 1, .ref (z 26), .ref (z 27)]))] s.heap.size q := fun q h => Or.inr h
  have hP : va_P G.1 pCl [(g0, .inr (6, [.ref k2, .ref g1, .int 7, .ref g2, .int 2147483647])), (g1, .inl (G.2.1 4, 37, .inr (.inr (.inr (.inr (dcl d)))))), ((d 6), .inr (2, [.int 6, .int 35, .int (-1), .int 0, .int (-1), .int 0, .int 0, .ref (z 24), .ref (z 25), .ref (d 0), .long 1, .ref (z 26), .ref (z 27)]))] s.heap := hP
  generalize va_A [(g0, .inr (6, [.ref k2, .ref g1, .int 7, .ref g2, .int 2147483647])), (g1, .inl (G.2.1 4, 37, .inr (.inr (.inr (.inr (dcl d)))))), ((d 6), .inr (2, [.int 6, .int 35, .int (-1), .int 0, .int (-1), .int 0, .int 0, .ref (z 24), .ref (z 25), .ref (d 0), .long 1, .ref (z 26), .ref (z 27)]))] s.heap.size = A at hD hE hA ⊢
  have hS : va_S A s.heap s.heap [] := va_S.rf
  have hl := lv_entry ([.ref g0, .int 5, .int 6]) (n := 3) (Nat.le_of_ble_eq_true rfl)
  rw [lg_entry_eq]
  generalize (lg_sl ([.ref g0, .int 5, .int 6]) ++ List.replicate (3 - (lg_sl ([.ref g0, .int 5, .int 6])).length) Slot.unset).toArray = ls at hl ⊢
  have hl : lv_has ls 3 [(0, .ref g0), (1, .int 5), (2, .int 6)] := hl
  refine lv_iload_n hx hb dX9_isAbove_0 rfl (lv_at hl 1 rfl) ?_
  refine lv_if_lt (tgt := 46) hx hb dX9_isAbove_1 (by decide) (fun c1 => absurd c1 (by decide)) (fun c1 => ?_)
  refine lv_iload_n hx hb dX9_isAbove_4 rfl (lv_at hl 1 rfl) ?_
  refine lv_aload_n hx hb dX9_isAbove_5 rfl (lv_at hl 0 rfl) ?_
  refine va_get (D := G.1) (ci := 6) (v := .int 7) (C := RX9) (T := TX9) (N := 5) hx hb hq pin_wsX90 hown hE.1.1 hP 0 rfl rfl 2 (by decide) (hq _ pw_137) (fun _ h9 => h9) rfl dX9_isAbove_6 ?_
  refine lv_icmp_ge (tgt := 46) hx hb dX9_isAbove_9 (by decide) (fun c2 => absurd c2 (by decide)) (fun c2 => ?_)
  refine lv_iload_n hx hb dX9_isAbove_12 rfl (lv_at hl 2 rfl) ?_
  refine lv_if_lt (tgt := 46) hx hb dX9_isAbove_13 (by decide) (fun c3 => absurd c3 (by decide)) (fun c3 => ?_)
  refine lv_iload_n hx hb dX9_isAbove_16 rfl (lv_at hl 2 rfl) ?_
  refine lv_aload_n hx hb dX9_isAbove_17 rfl (lv_at hl 0 rfl) ?_
  refine va_get (D := G.1) (ci := 6) (v := .int 7) (C := RX9) (T := TX9) (N := 5) hx hb hq pin_wsX90 hown hE.1.1 hP 0 rfl rfl 2 (by decide) (hq _ pw_137) (fun _ h9 => h9) rfl dX9_isAbove_18 ?_
  refine lv_icmp_ge (tgt := 46) hx hb dX9_isAbove_21 (by decide) (fun c4 => absurd c4 (by decide)) (fun c4 => ?_)
  refine lv_aload_n hx hb dX9_isAbove_24 rfl (lv_at hl 0 rfl) ?_
  refine va_get (D := G.1) (ci := 6) (v := .ref g1) (C := RX9) (T := TX9) (N := 5) hx hb hq pin_wsX90 hown hE.1.1 hP 0 rfl rfl 1 (by decide) (hq _ pw_132) (fun _ h9 => h9) rfl dX9_isAbove_25 ?_
  refine lv_iload_n hx hb dX9_isAbove_28 rfl (lv_at hl 2 rfl) ?_
  refine va_aldq hx hb hE.1.1 hP 1 4 rfl rfl (by unfold vp_in; decide) dX9_isAbove_29 ?_
  refine W.eq (g2 := F0 m 30 ls [.ref (d 6)]) rfl ?_
  refine va_get (D := G.1) (ci := 2) (v := .long 1) (C := RX2) (T := TX2) (N := 13) hx hb hq pin_wsX20 hown hE.1.1 hP 2 rfl rfl 10 (by decide) (hq _ pw_153) (fun _ h9 => h9) rfl dX9_isAbove_30 ?_
  refine lv_iload_n hx hb dX9_isAbove_33 rfl (lv_at hl 1 rfl) ?_
  refine lv_lushr (v := 0) hx hb dX9_isAbove_34 (by decide) ?_
  refine lv_lconst (v := 1) hx hb dX9_isAbove_35 (by decide) ?_
  refine lv_land hx hb dX9_isAbove_36 ?_
  refine lv_topl (fun x5 e6 => ?_)
  obtain rfl : x5 = 0 := e6.trans (by decide)
  refine lv_lconst (v := 1) hx hb dX9_isAbove_37 (by decide) ?_
  refine W.lcmp hx hb dX9_isAbove_38 ?_
  refine lv_topi (fun x7 e8 => ?_)
  obtain rfl : x7 = (-1) := e8.trans (by decide)
  refine lv_if_ne (tgt := 46) hx hb dX9_isAbove_39 (by decide) (fun c9 => ?_) (fun c9 => absurd c9 (by decide))
  refine lv_iconst (v := 0) hx hb dX9_isAbove_46 (by decide) ?_
  refine W.widen (k := 0) (n := 0) (Nat.le_of_ble_eq_true rfl) (Nat.le_of_ble_eq_true rfl) ?_
  exact W.zret (v := 0) hx hb hr rfl (fun t ht hW => ⟨⟨_, ((fun _ => 0), (fun _ => fun _ => 0), (fun _ => fun _ => 0)), rfl, rfl, by rw [ht]; exact hP.sub [0, 1, 2] rfl, hD.sub [0, 1, 2] (by decide) rfl⟩, hS.F ht⟩) hS.2.2 dX9_isAbove_47
set_option maxHeartbeats 1000000 in
set_option maxRecDepth 100000 in
/-- isAbove(6, 0) -/
theorem c_isAbove_6_0 (l : Launch) (G : pT) (g0 : Nat) (g1 : Nat) (g2 : Nat) (d : Nat → Nat) (z : Nat → Nat) (k2 : Nat) : PM l G pX0 yX9_isAbove cX9_isAbove 3 (some .boolean) ({ frames := 2, cells := 0, slots := 0, locals := 60 }) [.ref g0, .int 6, .int 0] [(g0, .inr (6, [.ref k2, .ref g1, .int 7, .ref g2, .int 2147483647])), (g1, .inl (G.2.1 4, 37, .inr (.inr (.inr (.inr (dcl d)))))), ((d 0), .inr (2, [.int 0, .int 29, .int (-1), .int 0, .int (-1), .int 0, .int 0, .ref (z 0), .ref (z 1), .null, .long 0, .ref (z 2), .ref (z 3)]))] (fun (v : Option Value) (u : (Nat → Nat) × (Nat → Nat → Int32) × (Nat → Nat → Int64)) => v = some (.int 0)) (fun u => [(g0, .inr (6, [.ref k2, .ref g1, .int 7, .ref g2, .int 2147483647])), (g1, .inl (G.2.1 4, 37, .inr (.inr (.inr (.inr (dcl d)))))), ((d 0), .inr (2, [.int 0, .int 29, .int (-1), .int 0, .int (-1), .int 0, .int 0, .ref (z 0), .ref (z 1), .null, .long 0, .ref (z 2), .ref (z 3)]))]) := by
  intro sz
  refine Met.ofW (cc := cX9_isAbove) (maxL := 3) (ret := (some .boolean)) (by decide) rfl ?_
  intro p e s m args below meth c s₁ B hml hv
  obtain ⟨rfl, hsz, hP, hD0, hE, hX⟩ := hv
  have hx := B.exec
  have hb := B.bytes
  have hr := B.returns
  have hts := atoms_spec (ws := Cond.code yX9_isAbove cX9_isAbove 3 (some .boolean) :: pw) B.pre
  have hq : ∀ w ∈ pw, w.before _ s = true := fun w h => hts w (List.mem_cons_of_mem _ h)
  have hown : s.vm.findClass RX9 = some m.cls := findClass_of_methodNamed B.named
  have hlocks := B.notSynchronized
  subst hsz
  have hD := hD0.self (sz := s.heap.size)
  have hA : ∀ q : Nat, s.heap.size ≤ q → va_A [(g0, .inr (6, [.ref k2, .ref g1, .int 7, .ref g2, .int 2147483647])), (g1, .inl (G.2.1 4, 37, .inr (.inr (.inr (.inr (dcl d)))))), ((d 0), .inr (2, [.int 0, .int 29, .int (-1), .int 0, .int (-1), .int 0, .int 0, .ref (z 0), .ref (z 1), .null, .long 0, .ref (z 2), .ref (z 3)]))] s.heap.size q := fun q h => Or.inr h
  have hP : va_P G.1 pCl [(g0, .inr (6, [.ref k2, .ref g1, .int 7, .ref g2, .int 2147483647])), (g1, .inl (G.2.1 4, 37, .inr (.inr (.inr (.inr (dcl d)))))), ((d 0), .inr (2, [.int 0, .int 29, .int (-1), .int 0, .int (-1), .int 0, .int 0, .ref (z 0), .ref (z 1), .null, .long 0, .ref (z 2), .ref (z 3)]))] s.heap := hP
  generalize va_A [(g0, .inr (6, [.ref k2, .ref g1, .int 7, .ref g2, .int 2147483647])), (g1, .inl (G.2.1 4, 37, .inr (.inr (.inr (.inr (dcl d)))))), ((d 0), .inr (2, [.int 0, .int 29, .int (-1), .int 0, .int (-1), .int 0, .int 0, .ref (z 0), .ref (z 1), .null, .long 0, .ref (z 2), .ref (z 3)]))] s.heap.size = A at hD hE hA ⊢
  have hS : va_S A s.heap s.heap [] := va_S.rf
  have hl := lv_entry ([.ref g0, .int 6, .int 0]) (n := 3) (Nat.le_of_ble_eq_true rfl)
  rw [lg_entry_eq]
  generalize (lg_sl ([.ref g0, .int 6, .int 0]) ++ List.replicate (3 - (lg_sl ([.ref g0, .int 6, .int 0])).length) Slot.unset).toArray = ls at hl ⊢
  have hl : lv_has ls 3 [(0, .ref g0), (1, .int 6), (2, .int 0)] := hl
  refine lv_iload_n hx hb dX9_isAbove_0 rfl (lv_at hl 1 rfl) ?_
  refine lv_if_lt (tgt := 46) hx hb dX9_isAbove_1 (by decide) (fun c1 => absurd c1 (by decide)) (fun c1 => ?_)
  refine lv_iload_n hx hb dX9_isAbove_4 rfl (lv_at hl 1 rfl) ?_
  refine lv_aload_n hx hb dX9_isAbove_5 rfl (lv_at hl 0 rfl) ?_
  refine va_get (D := G.1) (ci := 6) (v := .int 7) (C := RX9) (T := TX9) (N := 5) hx hb hq pin_wsX90 hown hE.1.1 hP 0 rfl rfl 2 (by decide) (hq _ pw_137) (fun _ h9 => h9) rfl dX9_isAbove_6 ?_
  refine lv_icmp_ge (tgt := 46) hx hb dX9_isAbove_9 (by decide) (fun c2 => absurd c2 (by decide)) (fun c2 => ?_)
  refine lv_iload_n hx hb dX9_isAbove_12 rfl (lv_at hl 2 rfl) ?_
  refine lv_if_lt (tgt := 46) hx hb dX9_isAbove_13 (by decide) (fun c3 => absurd c3 (by decide)) (fun c3 => ?_)
  refine lv_iload_n hx hb dX9_isAbove_16 rfl (lv_at hl 2 rfl) ?_
  refine lv_aload_n hx hb dX9_isAbove_17 rfl (lv_at hl 0 rfl) ?_
  refine va_get (D := G.1) (ci := 6) (v := .int 7) (C := RX9) (T := TX9) (N := 5) hx hb hq pin_wsX90 hown hE.1.1 hP 0 rfl rfl 2 (by decide) (hq _ pw_137) (fun _ h9 => h9) rfl dX9_isAbove_18 ?_
  refine lv_icmp_ge (tgt := 46) hx hb dX9_isAbove_21 (by decide) (fun c4 => absurd c4 (by decide)) (fun c4 => ?_)
  refine lv_aload_n hx hb dX9_isAbove_24 rfl (lv_at hl 0 rfl) ?_
  refine va_get (D := G.1) (ci := 6) (v := .ref g1) (C := RX9) (T := TX9) (N := 5) hx hb hq pin_wsX90 hown hE.1.1 hP 0 rfl rfl 1 (by decide) (hq _ pw_132) (fun _ h9 => h9) rfl dX9_isAbove_25 ?_
  refine lv_iload_n hx hb dX9_isAbove_28 rfl (lv_at hl 2 rfl) ?_
  refine va_aldq hx hb hE.1.1 hP 1 4 rfl rfl (by unfold vp_in; decide) dX9_isAbove_29 ?_
  refine W.eq (g2 := F0 m 30 ls [.ref (d 0)]) rfl ?_
  refine va_get (D := G.1) (ci := 2) (v := .long 0) (C := RX2) (T := TX2) (N := 13) hx hb hq pin_wsX20 hown hE.1.1 hP 2 rfl rfl 10 (by decide) (hq _ pw_153) (fun _ h9 => h9) rfl dX9_isAbove_30 ?_
  refine lv_iload_n hx hb dX9_isAbove_33 rfl (lv_at hl 1 rfl) ?_
  refine lv_lushr (v := 0) hx hb dX9_isAbove_34 (by decide) ?_
  refine lv_lconst (v := 1) hx hb dX9_isAbove_35 (by decide) ?_
  refine lv_land hx hb dX9_isAbove_36 ?_
  refine lv_topl (fun x5 e6 => ?_)
  obtain rfl : x5 = 0 := e6.trans (by decide)
  refine lv_lconst (v := 1) hx hb dX9_isAbove_37 (by decide) ?_
  refine W.lcmp hx hb dX9_isAbove_38 ?_
  refine lv_topi (fun x7 e8 => ?_)
  obtain rfl : x7 = (-1) := e8.trans (by decide)
  refine lv_if_ne (tgt := 46) hx hb dX9_isAbove_39 (by decide) (fun c9 => ?_) (fun c9 => absurd c9 (by decide))
  refine lv_iconst (v := 0) hx hb dX9_isAbove_46 (by decide) ?_
  refine W.widen (k := 0) (n := 0) (Nat.le_of_ble_eq_true rfl) (Nat.le_of_ble_eq_true rfl) ?_
  exact W.zret (v := 0) hx hb hr rfl (fun t ht hW => ⟨⟨_, ((fun _ => 0), (fun _ => fun _ => 0), (fun _ => fun _ => 0)), rfl, rfl, by rw [ht]; exact hP.sub [0, 1, 2] rfl, hD.sub [0, 1, 2] (by decide) rfl⟩, hS.F ht⟩) hS.2.2 dX9_isAbove_47
set_option maxHeartbeats 1000000 in
set_option maxRecDepth 100000 in
/-- isAbove(6, 1) -/
theorem c_isAbove_6_1 (l : Launch) (G : pT) (g0 : Nat) (g1 : Nat) (g2 : Nat) (d : Nat → Nat) (z : Nat → Nat) (k2 : Nat) : PM l G pX0 yX9_isAbove cX9_isAbove 3 (some .boolean) ({ frames := 2, cells := 0, slots := 0, locals := 60 }) [.ref g0, .int 6, .int 1] [(g0, .inr (6, [.ref k2, .ref g1, .int 7, .ref g2, .int 2147483647])), (g1, .inl (G.2.1 4, 37, .inr (.inr (.inr (.inr (dcl d)))))), ((d 1), .inr (2, [.int 1, .int 30, .int (-1), .int 0, .int (-1), .int 0, .int 0, .ref (z 4), .ref (z 5), .ref (d 0), .long 1, .ref (z 6), .ref (z 7)]))] (fun (v : Option Value) (u : (Nat → Nat) × (Nat → Nat → Int32) × (Nat → Nat → Int64)) => v = some (.int 0)) (fun u => [(g0, .inr (6, [.ref k2, .ref g1, .int 7, .ref g2, .int 2147483647])), (g1, .inl (G.2.1 4, 37, .inr (.inr (.inr (.inr (dcl d)))))), ((d 1), .inr (2, [.int 1, .int 30, .int (-1), .int 0, .int (-1), .int 0, .int 0, .ref (z 4), .ref (z 5), .ref (d 0), .long 1, .ref (z 6), .ref (z 7)]))]) := by
  intro sz
  refine Met.ofW (cc := cX9_isAbove) (maxL := 3) (ret := (some .boolean)) (by decide) rfl ?_
  intro p e s m args below meth c s₁ B hml hv
  obtain ⟨rfl, hsz, hP, hD0, hE, hX⟩ := hv
  have hx := B.exec
  have hb := B.bytes
  have hr := B.returns
  have hts := atoms_spec (ws := Cond.code yX9_isAbove cX9_isAbove 3 (some .boolean) :: pw) B.pre
  have hq : ∀ w ∈ pw, w.before _ s = true := fun w h => hts w (List.mem_cons_of_mem _ h)
  have hown : s.vm.findClass RX9 = some m.cls := findClass_of_methodNamed B.named
  have hlocks := B.notSynchronized
  subst hsz
  have hD := hD0.self (sz := s.heap.size)
  have hA : ∀ q : Nat, s.heap.size ≤ q → va_A [(g0, .inr (6, [.ref k2, .ref g1, .int 7, .ref g2, .int 2147483647])), (g1, .inl (G.2.1 4, 37, .inr (.inr (.inr (.inr (dcl d)))))), ((d 1), .inr (2, [.int 1, .int 30, .int (-1), .int 0, .int (-1), .int 0, .int 0, .ref (z 4), .ref (z 5), .ref (d 0), .long 1, .ref (z 6), .ref (z 7)]))] s.heap.size q := fun q h => Or.inr h
  have hP : va_P G.1 pCl [(g0, .inr (6, [.ref k2, .ref g1, .int 7, .ref g2, .int 2147483647])), (g1, .inl (G.2.1 4, 37, .inr (.inr (.inr (.inr (dcl d)))))), ((d 1), .inr (2, [.int 1, .int 30, .int (-1), .int 0, .int (-1), .int 0, .int 0, .ref (z 4), .ref (z 5), .ref (d 0), .long 1, .ref (z 6), .ref (z 7)]))] s.heap := hP
  generalize va_A [(g0, .inr (6, [.ref k2, .ref g1, .int 7, .ref g2, .int 2147483647])), (g1, .inl (G.2.1 4, 37, .inr (.inr (.inr (.inr (dcl d)))))), ((d 1), .inr (2, [.int 1, .int 30, .int (-1), .int 0, .int (-1), .int 0, .int 0, .ref (z 4), .ref (z 5), .ref (d 0), .long 1, .ref (z 6), .ref (z 7)]))] s.heap.size = A at hD hE hA ⊢
  have hS : va_S A s.heap s.heap [] := va_S.rf
  have hl := lv_entry ([.ref g0, .int 6, .int 1]) (n := 3) (Nat.le_of_ble_eq_true rfl)
  rw [lg_entry_eq]
  generalize (lg_sl ([.ref g0, .int 6, .int 1]) ++ List.replicate (3 - (lg_sl ([.ref g0, .int 6, .int 1])).length) Slot.unset).toArray = ls at hl ⊢
  have hl : lv_has ls 3 [(0, .ref g0), (1, .int 6), (2, .int 1)] := hl
  refine lv_iload_n hx hb dX9_isAbove_0 rfl (lv_at hl 1 rfl) ?_
  refine lv_if_lt (tgt := 46) hx hb dX9_isAbove_1 (by decide) (fun c1 => absurd c1 (by decide)) (fun c1 => ?_)
  refine lv_iload_n hx hb dX9_isAbove_4 rfl (lv_at hl 1 rfl) ?_
  refine lv_aload_n hx hb dX9_isAbove_5 rfl (lv_at hl 0 rfl) ?_
  refine va_get (D := G.1) (ci := 6) (v := .int 7) (C := RX9) (T := TX9) (N := 5) hx hb hq pin_wsX90 hown hE.1.1 hP 0 rfl rfl 2 (by decide) (hq _ pw_137) (fun _ h9 => h9) rfl dX9_isAbove_6 ?_
  refine lv_icmp_ge (tgt := 46) hx hb dX9_isAbove_9 (by decide) (fun c2 => absurd c2 (by decide)) (fun c2 => ?_)
  refine lv_iload_n hx hb dX9_isAbove_12 rfl (lv_at hl 2 rfl) ?_
  refine lv_if_lt (tgt := 46) hx hb dX9_isAbove_13 (by decide) (fun c3 => absurd c3 (by decide)) (fun c3 => ?_)
  refine lv_iload_n hx hb dX9_isAbove_16 rfl (lv_at hl 2 rfl) ?_
  refine lv_aload_n hx hb dX9_isAbove_17 rfl (lv_at hl 0 rfl) ?_
  refine va_get (D := G.1) (ci := 6) (v := .int 7) (C := RX9) (T := TX9) (N := 5) hx hb hq pin_wsX90 hown hE.1.1 hP 0 rfl rfl 2 (by decide) (hq _ pw_137) (fun _ h9 => h9) rfl dX9_isAbove_18 ?_
  refine lv_icmp_ge (tgt := 46) hx hb dX9_isAbove_21 (by decide) (fun c4 => absurd c4 (by decide)) (fun c4 => ?_)
  refine lv_aload_n hx hb dX9_isAbove_24 rfl (lv_at hl 0 rfl) ?_
  refine va_get (D := G.1) (ci := 6) (v := .ref g1) (C := RX9) (T := TX9) (N := 5) hx hb hq pin_wsX90 hown hE.1.1 hP 0 rfl rfl 1 (by decide) (hq _ pw_132) (fun _ h9 => h9) rfl dX9_isAbove_25 ?_
  refine lv_iload_n hx hb dX9_isAbove_28 rfl (lv_at hl 2 rfl) ?_
  refine va_aldq hx hb hE.1.1 hP 1 4 rfl rfl (by unfold vp_in; decide) dX9_isAbove_29 ?_
  refine W.eq (g2 := F0 m 30 ls [.ref (d 1)]) rfl ?_
  refine va_get (D := G.1) (ci := 2) (v := .long 1) (C := RX2) (T := TX2) (N := 13) hx hb hq pin_wsX20 hown hE.1.1 hP 2 rfl rfl 10 (by decide) (hq _ pw_153) (fun _ h9 => h9) rfl dX9_isAbove_30 ?_
  refine lv_iload_n hx hb dX9_isAbove_33 rfl (lv_at hl 1 rfl) ?_
  refine lv_lushr (v := 0) hx hb dX9_isAbove_34 (by decide) ?_
  refine lv_lconst (v := 1) hx hb dX9_isAbove_35 (by decide) ?_
  refine lv_land hx hb dX9_isAbove_36 ?_
  refine lv_topl (fun x5 e6 => ?_)
  obtain rfl : x5 = 0 := e6.trans (by decide)
  refine lv_lconst (v := 1) hx hb dX9_isAbove_37 (by decide) ?_
  refine W.lcmp hx hb dX9_isAbove_38 ?_
  refine lv_topi (fun x7 e8 => ?_)
  obtain rfl : x7 = (-1) := e8.trans (by decide)
  refine lv_if_ne (tgt := 46) hx hb dX9_isAbove_39 (by decide) (fun c9 => ?_) (fun c9 => absurd c9 (by decide))
  refine lv_iconst (v := 0) hx hb dX9_isAbove_46 (by decide) ?_
  refine W.widen (k := 0) (n := 0) (Nat.le_of_ble_eq_true rfl) (Nat.le_of_ble_eq_true rfl) ?_
  exact W.zret (v := 0) hx hb hr rfl (fun t ht hW => ⟨⟨_, ((fun _ => 0), (fun _ => fun _ => 0), (fun _ => fun _ => 0)), rfl, rfl, by rw [ht]; exact hP.sub [0, 1, 2] rfl, hD.sub [0, 1, 2] (by decide) rfl⟩, hS.F ht⟩) hS.2.2 dX9_isAbove_47
set_option maxHeartbeats 1000000 in
set_option maxRecDepth 100000 in
/-- isAbove(6, 2) -/
theorem c_isAbove_6_2 (l : Launch) (G : pT) (g0 : Nat) (g1 : Nat) (g2 : Nat) (d : Nat → Nat) (z : Nat → Nat) (k2 : Nat) : PM l G pX0 yX9_isAbove cX9_isAbove 3 (some .boolean) ({ frames := 2, cells := 0, slots := 0, locals := 60 }) [.ref g0, .int 6, .int 2] [(g0, .inr (6, [.ref k2, .ref g1, .int 7, .ref g2, .int 2147483647])), (g1, .inl (G.2.1 4, 37, .inr (.inr (.inr (.inr (dcl d)))))), ((d 2), .inr (2, [.int 2, .int 31, .int (-1), .int 0, .int (-1), .int 0, .int 0, .ref (z 8), .ref (z 9), .ref (d 0), .long 1, .ref (z 10), .ref (z 11)]))] (fun (v : Option Value) (u : (Nat → Nat) × (Nat → Nat → Int32) × (Nat → Nat → Int64)) => v = some (.int 0)) (fun u => [(g0, .inr (6, [.ref k2, .ref g1, .int 7, .ref g2, .int 2147483647])), (g1, .inl (G.2.1 4, 37, .inr (.inr (.inr (.inr (dcl d)))))), ((d 2), .inr (2, [.int 2, .int 31, .int (-1), .int 0, .int (-1), .int 0, .int 0, .ref (z 8), .ref (z 9), .ref (d 0), .long 1, .ref (z 10), .ref (z 11)]))]) := by
  intro sz
  refine Met.ofW (cc := cX9_isAbove) (maxL := 3) (ret := (some .boolean)) (by decide) rfl ?_
  intro p e s m args below meth c s₁ B hml hv
  obtain ⟨rfl, hsz, hP, hD0, hE, hX⟩ := hv
  have hx := B.exec
  have hb := B.bytes
  have hr := B.returns
  have hts := atoms_spec (ws := Cond.code yX9_isAbove cX9_isAbove 3 (some .boolean) :: pw) B.pre
  have hq : ∀ w ∈ pw, w.before _ s = true := fun w h => hts w (List.mem_cons_of_mem _ h)
  have hown : s.vm.findClass RX9 = some m.cls := findClass_of_methodNamed B.named
  have hlocks := B.notSynchronized
  subst hsz
  have hD := hD0.self (sz := s.heap.size)
  have hA : ∀ q : Nat, s.heap.size ≤ q → va_A [(g0, .inr (6, [.ref k2, .ref g1, .int 7, .ref g2, .int 2147483647])), (g1, .inl (G.2.1 4, 37, .inr (.inr (.inr (.inr (dcl d)))))), ((d 2), .inr (2, [.int 2, .int 31, .int (-1), .int 0, .int (-1), .int 0, .int 0, .ref (z 8), .ref (z 9), .ref (d 0), .long 1, .ref (z 10), .ref (z 11)]))] s.heap.size q := fun q h => Or.inr h
  have hP : va_P G.1 pCl [(g0, .inr (6, [.ref k2, .ref g1, .int 7, .ref g2, .int 2147483647])), (g1, .inl (G.2.1 4, 37, .inr (.inr (.inr (.inr (dcl d)))))), ((d 2), .inr (2, [.int 2, .int 31, .int (-1), .int 0, .int (-1), .int 0, .int 0, .ref (z 8), .ref (z 9), .ref (d 0), .long 1, .ref (z 10), .ref (z 11)]))] s.heap := hP
  generalize va_A [(g0, .inr (6, [.ref k2, .ref g1, .int 7, .ref g2, .int 2147483647])), (g1, .inl (G.2.1 4, 37, .inr (.inr (.inr (.inr (dcl d)))))), ((d 2), .inr (2, [.int 2, .int 31, .int (-1), .int 0, .int (-1), .int 0, .int 0, .ref (z 8), .ref (z 9), .ref (d 0), .long 1, .ref (z 10), .ref (z 11)]))] s.heap.size = A at hD hE hA ⊢
  have hS : va_S A s.heap s.heap [] := va_S.rf
  have hl := lv_entry ([.ref g0, .int 6, .int 2]) (n := 3) (Nat.le_of_ble_eq_true rfl)
  rw [lg_entry_eq]
  generalize (lg_sl ([.ref g0, .int 6, .int 2]) ++ List.replicate (3 - (lg_sl ([.ref g0, .int 6, .int 2])).length) Slot.unset).toArray = ls at hl ⊢
  have hl : lv_has ls 3 [(0, .ref g0), (1, .int 6), (2, .int 2)] := hl
  refine lv_iload_n hx hb dX9_isAbove_0 rfl (lv_at hl 1 rfl) ?_
  refine lv_if_lt (tgt := 46) hx hb dX9_isAbove_1 (by decide) (fun c1 => absurd c1 (by decide)) (fun c1 => ?_)
  refine lv_iload_n hx hb dX9_isAbove_4 rfl (lv_at hl 1 rfl) ?_
  refine lv_aload_n hx hb dX9_isAbove_5 rfl (lv_at hl 0 rfl) ?_
  refine va_get (D := G.1) (ci := 6) (v := .int 7) (C := RX9) (T := TX9) (N := 5) hx hb hq pin_wsX90 hown hE.1.1 hP 0 rfl rfl 2 (by decide) (hq _ pw_137) (fun _ h9 => h9) rfl dX9_isAbove_6 ?_
  refine lv_icmp_ge (tgt := 46) hx hb dX9_isAbove_9 (by decide) (fun c2 => absurd c2 (by decide)) (fun c2 => ?_)
  refine lv_iload_n hx hb dX9_isAbove_12 rfl (lv_at hl 2 rfl) ?_
  refine lv_if_lt (tgt := 46) hx hb dX9_isAbove_13 (by decide) (fun c3 => absurd c3 (by decide)) (fun c3 => ?_)
  refine lv_iload_n hx hb dX9_isAbove_16 rfl (lv_at hl 2 rfl) ?_
  refine lv_aload_n hx hb dX9_isAbove_17 rfl (lv_at hl 0 rfl) ?_
  refine va_get (D := G.1) (ci := 6) (v := .int 7) (C := RX9) (T := TX9) (N := 5) hx hb hq pin_wsX90 hown hE.1.1 hP 0 rfl rfl 2 (by decide) (hq _ pw_137) (fun _ h9 => h9) rfl dX9_isAbove_18 ?_
  refine lv_icmp_ge (tgt := 46) hx hb dX9_isAbove_21 (by decide) (fun c4 => absurd c4 (by decide)) (fun c4 => ?_)
  refine lv_aload_n hx hb dX9_isAbove_24 rfl (lv_at hl 0 rfl) ?_
  refine va_get (D := G.1) (ci := 6) (v := .ref g1) (C := RX9) (T := TX9) (N := 5) hx hb hq pin_wsX90 hown hE.1.1 hP 0 rfl rfl 1 (by decide) (hq _ pw_132) (fun _ h9 => h9) rfl dX9_isAbove_25 ?_
  refine lv_iload_n hx hb dX9_isAbove_28 rfl (lv_at hl 2 rfl) ?_
  refine va_aldq hx hb hE.1.1 hP 1 4 rfl rfl (by unfold vp_in; decide) dX9_isAbove_29 ?_
  refine W.eq (g2 := F0 m 30 ls [.ref (d 2)]) rfl ?_
  refine va_get (D := G.1) (ci := 2) (v := .long 1) (C := RX2) (T := TX2) (N := 13) hx hb hq pin_wsX20 hown hE.1.1 hP 2 rfl rfl 10 (by decide) (hq _ pw_153) (fun _ h9 => h9) rfl dX9_isAbove_30 ?_
  refine lv_iload_n hx hb dX9_isAbove_33 rfl (lv_at hl 1 rfl) ?_
  refine lv_lushr (v := 0) hx hb dX9_isAbove_34 (by decide) ?_
  refine lv_lconst (v := 1) hx hb dX9_isAbove_35 (by decide) ?_
  refine lv_land hx hb dX9_isAbove_36 ?_
  refine lv_topl (fun x5 e6 => ?_)
  obtain rfl : x5 = 0 := e6.trans (by decide)
  refine lv_lconst (v := 1) hx hb dX9_isAbove_37 (by decide) ?_
  refine W.lcmp hx hb dX9_isAbove_38 ?_
  refine lv_topi (fun x7 e8 => ?_)
  obtain rfl : x7 = (-1) := e8.trans (by decide)
  refine lv_if_ne (tgt := 46) hx hb dX9_isAbove_39 (by decide) (fun c9 => ?_) (fun c9 => absurd c9 (by decide))
  refine lv_iconst (v := 0) hx hb dX9_isAbove_46 (by decide) ?_
  refine W.widen (k := 0) (n := 0) (Nat.le_of_ble_eq_true rfl) (Nat.le_of_ble_eq_true rfl) ?_
  exact W.zret (v := 0) hx hb hr rfl (fun t ht hW => ⟨⟨_, ((fun _ => 0), (fun _ => fun _ => 0), (fun _ => fun _ => 0)), rfl, rfl, by rw [ht]; exact hP.sub [0, 1, 2] rfl, hD.sub [0, 1, 2] (by decide) rfl⟩, hS.F ht⟩) hS.2.2 dX9_isAbove_47
set_option maxHeartbeats 1000000 in
set_option maxRecDepth 100000 in
/-- isAbove(6, 3) -/
theorem c_isAbove_6_3 (l : Launch) (G : pT) (g0 : Nat) (g1 : Nat) (g2 : Nat) (d : Nat → Nat) (z : Nat → Nat) (k2 : Nat) : PM l G pX0 yX9_isAbove cX9_isAbove 3 (some .boolean) ({ frames := 2, cells := 0, slots := 0, locals := 60 }) [.ref g0, .int 6, .int 3] [(g0, .inr (6, [.ref k2, .ref g1, .int 7, .ref g2, .int 2147483647])), (g1, .inl (G.2.1 4, 37, .inr (.inr (.inr (.inr (dcl d)))))), ((d 3), .inr (2, [.int 3, .int 32, .int (-1), .int 0, .int (-1), .int 0, .int 0, .ref (z 12), .ref (z 13), .ref (d 0), .long 1, .ref (z 14), .ref (z 15)]))] (fun (v : Option Value) (u : (Nat → Nat) × (Nat → Nat → Int32) × (Nat → Nat → Int64)) => v = some (.int 0)) (fun u => [(g0, .inr (6, [.ref k2, .ref g1, .int 7, .ref g2, .int 2147483647])), (g1, .inl (G.2.1 4, 37, .inr (.inr (.inr (.inr (dcl d)))))), ((d 3), .inr (2, [.int 3, .int 32, .int (-1), .int 0, .int (-1), .int 0, .int 0, .ref (z 12), .ref (z 13), .ref (d 0), .long 1, .ref (z 14), .ref (z 15)]))]) := by
  intro sz
  refine Met.ofW (cc := cX9_isAbove) (maxL := 3) (ret := (some .boolean)) (by decide) rfl ?_
  intro p e s m args below meth c s₁ B hml hv
  obtain ⟨rfl, hsz, hP, hD0, hE, hX⟩ := hv
  have hx := B.exec
  have hb := B.bytes
  have hr := B.returns
  have hts := atoms_spec (ws := Cond.code yX9_isAbove cX9_isAbove 3 (some .boolean) :: pw) B.pre
  have hq : ∀ w ∈ pw, w.before _ s = true := fun w h => hts w (List.mem_cons_of_mem _ h)
  have hown : s.vm.findClass RX9 = some m.cls := findClass_of_methodNamed B.named
  have hlocks := B.notSynchronized
  subst hsz
  have hD := hD0.self (sz := s.heap.size)
  have hA : ∀ q : Nat, s.heap.size ≤ q → va_A [(g0, .inr (6, [.ref k2, .ref g1, .int 7, .ref g2, .int 2147483647])), (g1, .inl (G.2.1 4, 37, .inr (.inr (.inr (.inr (dcl d)))))), ((d 3), .inr (2, [.int 3, .int 32, .int (-1), .int 0, .int (-1), .int 0, .int 0, .ref (z 12), .ref (z 13), .ref (d 0), .long 1, .ref (z 14), .ref (z 15)]))] s.heap.size q := fun q h => Or.inr h
  have hP : va_P G.1 pCl [(g0, .inr (6, [.ref k2, .ref g1, .int 7, .ref g2, .int 2147483647])), (g1, .inl (G.2.1 4, 37, .inr (.inr (.inr (.inr (dcl d)))))), ((d 3), .inr (2, [.int 3, .int 32, .int (-1), .int 0, .int (-1), .int 0, .int 0, .ref (z 12), .ref (z 13), .ref (d 0), .long 1, .ref (z 14), .ref (z 15)]))] s.heap := hP
  generalize va_A [(g0, .inr (6, [.ref k2, .ref g1, .int 7, .ref g2, .int 2147483647])), (g1, .inl (G.2.1 4, 37, .inr (.inr (.inr (.inr (dcl d)))))), ((d 3), .inr (2, [.int 3, .int 32, .int (-1), .int 0, .int (-1), .int 0, .int 0, .ref (z 12), .ref (z 13), .ref (d 0), .long 1, .ref (z 14), .ref (z 15)]))] s.heap.size = A at hD hE hA ⊢
  have hS : va_S A s.heap s.heap [] := va_S.rf
  have hl := lv_entry ([.ref g0, .int 6, .int 3]) (n := 3) (Nat.le_of_ble_eq_true rfl)
  rw [lg_entry_eq]
  generalize (lg_sl ([.ref g0, .int 6, .int 3]) ++ List.replicate (3 - (lg_sl ([.ref g0, .int 6, .int 3])).length) Slot.unset).toArray = ls at hl ⊢
  have hl : lv_has ls 3 [(0, .ref g0), (1, .int 6), (2, .int 3)] := hl
  refine lv_iload_n hx hb dX9_isAbove_0 rfl (lv_at hl 1 rfl) ?_
  refine lv_if_lt (tgt := 46) hx hb dX9_isAbove_1 (by decide) (fun c1 => absurd c1 (by decide)) (fun c1 => ?_)
  refine lv_iload_n hx hb dX9_isAbove_4 rfl (lv_at hl 1 rfl) ?_
  refine lv_aload_n hx hb dX9_isAbove_5 rfl (lv_at hl 0 rfl) ?_
  refine va_get (D := G.1) (ci := 6) (v := .int 7) (C := RX9) (T := TX9) (N := 5) hx hb hq pin_wsX90 hown hE.1.1 hP 0 rfl rfl 2 (by decide) (hq _ pw_137) (fun _ h9 => h9) rfl dX9_isAbove_6 ?_
  refine lv_icmp_ge (tgt := 46) hx hb dX9_isAbove_9 (by decide) (fun c2 => absurd c2 (by decide)) (fun c2 => ?_)
  refine lv_iload_n hx hb dX9_isAbove_12 rfl (lv_at hl 2 rfl) ?_
  refine lv_if_lt (tgt := 46) hx hb dX9_isAbove_13 (by decide) (fun c3 => absurd c3 (by decide)) (fun c3 => ?_)
  refine lv_iload_n hx hb dX9_isAbove_16 rfl (lv_at hl 2 rfl) ?_
  refine lv_aload_n hx hb dX9_isAbove_17 rfl (lv_at hl 0 rfl) ?_
  refine va_get (D := G.1) (ci := 6) (v := .int 7) (C := RX9) (T := TX9) (N := 5) hx hb hq pin_wsX90 hown hE.1.1 hP 0 rfl rfl 2 (by decide) (hq _ pw_137) (fun _ h9 => h9) rfl dX9_isAbove_18 ?_
  refine lv_icmp_ge (tgt := 46) hx hb dX9_isAbove_21 (by decide) (fun c4 => absurd c4 (by decide)) (fun c4 => ?_)
  refine lv_aload_n hx hb dX9_isAbove_24 rfl (lv_at hl 0 rfl) ?_
  refine va_get (D := G.1) (ci := 6) (v := .ref g1) (C := RX9) (T := TX9) (N := 5) hx hb hq pin_wsX90 hown hE.1.1 hP 0 rfl rfl 1 (by decide) (hq _ pw_132) (fun _ h9 => h9) rfl dX9_isAbove_25 ?_
  refine lv_iload_n hx hb dX9_isAbove_28 rfl (lv_at hl 2 rfl) ?_
  refine va_aldq hx hb hE.1.1 hP 1 4 rfl rfl (by unfold vp_in; decide) dX9_isAbove_29 ?_
  refine W.eq (g2 := F0 m 30 ls [.ref (d 3)]) rfl ?_
  refine va_get (D := G.1) (ci := 2) (v := .long 1) (C := RX2) (T := TX2) (N := 13) hx hb hq pin_wsX20 hown hE.1.1 hP 2 rfl rfl 10 (by decide) (hq _ pw_153) (fun _ h9 => h9) rfl dX9_isAbove_30 ?_
  refine lv_iload_n hx hb dX9_isAbove_33 rfl (lv_at hl 1 rfl) ?_
  refine lv_lushr (v := 0) hx hb dX9_isAbove_34 (by decide) ?_
  refine lv_lconst (v := 1) hx hb dX9_isAbove_35 (by decide) ?_
  refine lv_land hx hb dX9_isAbove_36 ?_
  refine lv_topl (fun x5 e6 => ?_)
  obtain rfl : x5 = 0 := e6.trans (by decide)
  refine lv_lconst (v := 1) hx hb dX9_isAbove_37 (by decide) ?_
  refine W.lcmp hx hb dX9_isAbove_38 ?_
  refine lv_topi (fun x7 e8 => ?_)
  obtain rfl : x7 = (-1) := e8.trans (by decide)
  refine lv_if_ne (tgt := 46) hx hb dX9_isAbove_39 (by decide) (fun c9 => ?_) (fun c9 => absurd c9 (by decide))
  refine lv_iconst (v := 0) hx hb dX9_isAbove_46 (by decide) ?_
  refine W.widen (k := 0) (n := 0) (Nat.le_of_ble_eq_true rfl) (Nat.le_of_ble_eq_true rfl) ?_
  exact W.zret (v := 0) hx hb hr rfl (fun t ht hW => ⟨⟨_, ((fun _ => 0), (fun _ => fun _ => 0), (fun _ => fun _ => 0)), rfl, rfl, by rw [ht]; exact hP.sub [0, 1, 2] rfl, hD.sub [0, 1, 2] (by decide) rfl⟩, hS.F ht⟩) hS.2.2 dX9_isAbove_47
set_option maxHeartbeats 1000000 in
set_option maxRecDepth 100000 in
/-- isAbove(6, 4) -/
theorem c_isAbove_6_4 (l : Launch) (G : pT) (g0 : Nat) (g1 : Nat) (g2 : Nat) (d : Nat → Nat) (z : Nat → Nat) (k2 : Nat) : PM l G pX0 yX9_isAbove cX9_isAbove 3 (some .boolean) ({ frames := 2, cells := 0, slots := 0, locals := 60 }) [.ref g0, .int 6, .int 4] [(g0, .inr (6, [.ref k2, .ref g1, .int 7, .ref g2, .int 2147483647])), (g1, .inl (G.2.1 4, 37, .inr (.inr (.inr (.inr (dcl d)))))), ((d 4), .inr (2, [.int 4, .int 33, .int (-1), .int 0, .int (-1), .int 0, .int 0, .ref (z 16), .ref (z 17), .ref (d 0), .long 1, .ref (z 18), .ref (z 19)]))] (fun (v : Option Value) (u : (Nat → Nat) × (Nat → Nat → Int32) × (Nat → Nat → Int64)) => v = some (.int 0)) (fun u => [(g0, .inr (6, [.ref k2, .ref g1, .int 7, .ref g2, .int 2147483647])), (g1, .inl (G.2.1 4, 37, .inr (.inr (.inr (.inr (dcl d)))))), ((d 4), .inr (2, [.int 4, .int 33, .int (-1), .int 0, .int (-1), .int 0, .int 0, .ref (z 16), .ref (z 17), .ref (d 0), .long 1, .ref (z 18), .ref (z 19)]))]) := by
  intro sz
  refine Met.ofW (cc := cX9_isAbove) (maxL := 3) (ret := (some .boolean)) (by decide) rfl ?_
  intro p e s m args below meth c s₁ B hml hv
  obtain ⟨rfl, hsz, hP, hD0, hE, hX⟩ := hv
  have hx := B.exec
  have hb := B.bytes
  have hr := B.returns
  have hts := atoms_spec (ws := Cond.code yX9_isAbove cX9_isAbove 3 (some .boolean) :: pw) B.pre
  have hq : ∀ w ∈ pw, w.before _ s = true := fun w h => hts w (List.mem_cons_of_mem _ h)
  have hown : s.vm.findClass RX9 = some m.cls := findClass_of_methodNamed B.named
  have hlocks := B.notSynchronized
  subst hsz
  have hD := hD0.self (sz := s.heap.size)
  have hA : ∀ q : Nat, s.heap.size ≤ q → va_A [(g0, .inr (6, [.ref k2, .ref g1, .int 7, .ref g2, .int 2147483647])), (g1, .inl (G.2.1 4, 37, .inr (.inr (.inr (.inr (dcl d)))))), ((d 4), .inr (2, [.int 4, .int 33, .int (-1), .int 0, .int (-1), .int 0, .int 0, .ref (z 16), .ref (z 17), .ref (d 0), .long 1, .ref (z 18), .ref (z 19)]))] s.heap.size q := fun q h => Or.inr h
  have hP : va_P G.1 pCl [(g0, .inr (6, [.ref k2, .ref g1, .int 7, .ref g2, .int 2147483647])), (g1, .inl (G.2.1 4, 37, .inr (.inr (.inr (.inr (dcl d)))))), ((d 4), .inr (2, [.int 4, .int 33, .int (-1), .int 0, .int (-1), .int 0, .int 0, .ref (z 16), .ref (z 17), .ref (d 0), .long 1, .ref (z 18), .ref (z 19)]))] s.heap := hP
  generalize va_A [(g0, .inr (6, [.ref k2, .ref g1, .int 7, .ref g2, .int 2147483647])), (g1, .inl (G.2.1 4, 37, .inr (.inr (.inr (.inr (dcl d)))))), ((d 4), .inr (2, [.int 4, .int 33, .int (-1), .int 0, .int (-1), .int 0, .int 0, .ref (z 16), .ref (z 17), .ref (d 0), .long 1, .ref (z 18), .ref (z 19)]))] s.heap.size = A at hD hE hA ⊢
  have hS : va_S A s.heap s.heap [] := va_S.rf
  have hl := lv_entry ([.ref g0, .int 6, .int 4]) (n := 3) (Nat.le_of_ble_eq_true rfl)
  rw [lg_entry_eq]
  generalize (lg_sl ([.ref g0, .int 6, .int 4]) ++ List.replicate (3 - (lg_sl ([.ref g0, .int 6, .int 4])).length) Slot.unset).toArray = ls at hl ⊢
  have hl : lv_has ls 3 [(0, .ref g0), (1, .int 6), (2, .int 4)] := hl
  refine lv_iload_n hx hb dX9_isAbove_0 rfl (lv_at hl 1 rfl) ?_
  refine lv_if_lt (tgt := 46) hx hb dX9_isAbove_1 (by decide) (fun c1 => absurd c1 (by decide)) (fun c1 => ?_)
  refine lv_iload_n hx hb dX9_isAbove_4 rfl (lv_at hl 1 rfl) ?_
  refine lv_aload_n hx hb dX9_isAbove_5 rfl (lv_at hl 0 rfl) ?_
  refine va_get (D := G.1) (ci := 6) (v := .int 7) (C := RX9) (T := TX9) (N := 5) hx hb hq pin_wsX90 hown hE.1.1 hP 0 rfl rfl 2 (by decide) (hq _ pw_137) (fun _ h9 => h9) rfl dX9_isAbove_6 ?_
  refine lv_icmp_ge (tgt := 46) hx hb dX9_isAbove_9 (by decide) (fun c2 => absurd c2 (by decide)) (fun c2 => ?_)
  refine lv_iload_n hx hb dX9_isAbove_12 rfl (lv_at hl 2 rfl) ?_
  refine lv_if_lt (tgt := 46) hx hb dX9_isAbove_13 (by decide) (fun c3 => absurd c3 (by decide)) (fun c3 => ?_)
  refine lv_iload_n hx hb dX9_isAbove_16 rfl (lv_at hl 2 rfl) ?_
  refine lv_aload_n hx hb dX9_isAbove_17 rfl (lv_at hl 0 rfl) ?_
  refine va_get (D := G.1) (ci := 6) (v := .int 7) (C := RX9) (T := TX9) (N := 5) hx hb hq pin_wsX90 hown hE.1.1 hP 0 rfl rfl 2 (by decide) (hq _ pw_137) (fun _ h9 => h9) rfl dX9_isAbove_18 ?_
  refine lv_icmp_ge (tgt := 46) hx hb dX9_isAbove_21 (by decide) (fun c4 => absurd c4 (by decide)) (fun c4 => ?_)
  refine lv_aload_n hx hb dX9_isAbove_24 rfl (lv_at hl 0 rfl) ?_
  refine va_get (D := G.1) (ci := 6) (v := .ref g1) (C := RX9) (T := TX9) (N := 5) hx hb hq pin_wsX90 hown hE.1.1 hP 0 rfl rfl 1 (by decide) (hq _ pw_132) (fun _ h9 => h9) rfl dX9_isAbove_25 ?_
  refine lv_iload_n hx hb dX9_isAbove_28 rfl (lv_at hl 2 rfl) ?_
  refine va_aldq hx hb hE.1.1 hP 1 4 rfl rfl (by unfold vp_in; decide) dX9_isAbove_29 ?_
  refine W.eq (g2 := F0 m 30 ls [.ref (d 4)]) rfl ?_
  refine va_get (D := G.1) (ci := 2) (v := .long 1) (C := RX2) (T := TX2) (N := 13) hx hb hq pin_wsX20 hown hE.1.1 hP 2 rfl rfl 10 (by decide) (hq _ pw_153) (fun _ h9 => h9) rfl dX9_isAbove_30 ?_
  refine lv_iload_n hx hb dX9_isAbove_33 rfl (lv_at hl 1 rfl) ?_
  refine lv_lushr (v := 0) hx hb dX9_isAbove_34 (by decide) ?_
  refine lv_lconst (v := 1) hx hb dX9_isAbove_35 (by decide) ?_
  refine lv_land hx hb dX9_isAbove_36 ?_
  refine lv_topl (fun x5 e6 => ?_)
  obtain rfl : x5 = 0 := e6.trans (by decide)
  refine lv_lconst (v := 1) hx hb dX9_isAbove_37 (by decide) ?_
  refine W.lcmp hx hb dX9_isAbove_38 ?_
  refine lv_topi (fun x7 e8 => ?_)
  obtain rfl : x7 = (-1) := e8.trans (by decide)
  refine lv_if_ne (tgt := 46) hx hb dX9_isAbove_39 (by decide) (fun c9 => ?_) (fun c9 => absurd c9 (by decide))
  refine lv_iconst (v := 0) hx hb dX9_isAbove_46 (by decide) ?_
  refine W.widen (k := 0) (n := 0) (Nat.le_of_ble_eq_true rfl) (Nat.le_of_ble_eq_true rfl) ?_
  exact W.zret (v := 0) hx hb hr rfl (fun t ht hW => ⟨⟨_, ((fun _ => 0), (fun _ => fun _ => 0), (fun _ => fun _ => 0)), rfl, rfl, by rw [ht]; exact hP.sub [0, 1, 2] rfl, hD.sub [0, 1, 2] (by decide) rfl⟩, hS.F ht⟩) hS.2.2 dX9_isAbove_47
set_option maxHeartbeats 1000000 in
set_option maxRecDepth 100000 in
/-- isAbove(6, 5) -/
theorem c_isAbove_6_5 (l : Launch) (G : pT) (g0 : Nat) (g1 : Nat) (g2 : Nat) (d : Nat → Nat) (z : Nat → Nat) (k2 : Nat) : PM l G pX0 yX9_isAbove cX9_isAbove 3 (some .boolean) ({ frames := 2, cells := 0, slots := 0, locals := 60 }) [.ref g0, .int 6, .int 5] [(g0, .inr (6, [.ref k2, .ref g1, .int 7, .ref g2, .int 2147483647])), (g1, .inl (G.2.1 4, 37, .inr (.inr (.inr (.inr (dcl d)))))), ((d 5), .inr (2, [.int 5, .int 34, .int (-1), .int 0, .int (-1), .int 0, .int 0, .ref (z 20), .ref (z 21), .ref (d 0), .long 1, .ref (z 22), .ref (z 23)]))] (fun (v : Option Value) (u : (Nat → Nat) × (Nat → Nat → Int32) × (Nat → Nat → Int64)) => v = some (.int 0)) (fun u => [(g0, .inr (6, [.ref k2, .ref g1, .int 7, .ref g2, .int 2147483647])), (g1, .inl (G.2.1 4, 37, .inr (.inr (.inr (.inr (dcl d)))))), ((d 5), .inr (2, [.int 5, .int 34, .int (-1), .int 0, .int (-1), .int 0, .int 0, .ref (z 20), .ref (z 21), .ref (d 0), .long 1, .ref (z 22), .ref (z 23)]))]) := by
  intro sz
  refine Met.ofW (cc := cX9_isAbove) (maxL := 3) (ret := (some .boolean)) (by decide) rfl ?_
  intro p e s m args below meth c s₁ B hml hv
  obtain ⟨rfl, hsz, hP, hD0, hE, hX⟩ := hv
  have hx := B.exec
  have hb := B.bytes
  have hr := B.returns
  have hts := atoms_spec (ws := Cond.code yX9_isAbove cX9_isAbove 3 (some .boolean) :: pw) B.pre
  have hq : ∀ w ∈ pw, w.before _ s = true := fun w h => hts w (List.mem_cons_of_mem _ h)
  have hown : s.vm.findClass RX9 = some m.cls := findClass_of_methodNamed B.named
  have hlocks := B.notSynchronized
  subst hsz
  have hD := hD0.self (sz := s.heap.size)
  have hA : ∀ q : Nat, s.heap.size ≤ q → va_A [(g0, .inr (6, [.ref k2, .ref g1, .int 7, .ref g2, .int 2147483647])), (g1, .inl (G.2.1 4, 37, .inr (.inr (.inr (.inr (dcl d)))))), ((d 5), .inr (2, [.int 5, .int 34, .int (-1), .int 0, .int (-1), .int 0, .int 0, .ref (z 20), .ref (z 21), .ref (d 0), .long 1, .ref (z 22), .ref (z 23)]))] s.heap.size q := fun q h => Or.inr h
  have hP : va_P G.1 pCl [(g0, .inr (6, [.ref k2, .ref g1, .int 7, .ref g2, .int 2147483647])), (g1, .inl (G.2.1 4, 37, .inr (.inr (.inr (.inr (dcl d)))))), ((d 5), .inr (2, [.int 5, .int 34, .int (-1), .int 0, .int (-1), .int 0, .int 0, .ref (z 20), .ref (z 21), .ref (d 0), .long 1, .ref (z 22), .ref (z 23)]))] s.heap := hP
  generalize va_A [(g0, .inr (6, [.ref k2, .ref g1, .int 7, .ref g2, .int 2147483647])), (g1, .inl (G.2.1 4, 37, .inr (.inr (.inr (.inr (dcl d)))))), ((d 5), .inr (2, [.int 5, .int 34, .int (-1), .int 0, .int (-1), .int 0, .int 0, .ref (z 20), .ref (z 21), .ref (d 0), .long 1, .ref (z 22), .ref (z 23)]))] s.heap.size = A at hD hE hA ⊢
  have hS : va_S A s.heap s.heap [] := va_S.rf
  have hl := lv_entry ([.ref g0, .int 6, .int 5]) (n := 3) (Nat.le_of_ble_eq_true rfl)
  rw [lg_entry_eq]
  generalize (lg_sl ([.ref g0, .int 6, .int 5]) ++ List.replicate (3 - (lg_sl ([.ref g0, .int 6, .int 5])).length) Slot.unset).toArray = ls at hl ⊢
  have hl : lv_has ls 3 [(0, .ref g0), (1, .int 6), (2, .int 5)] := hl
  refine lv_iload_n hx hb dX9_isAbove_0 rfl (lv_at hl 1 rfl) ?_
  refine lv_if_lt (tgt := 46) hx hb dX9_isAbove_1 (by decide) (fun c1 => absurd c1 (by decide)) (fun c1 => ?_)
  refine lv_iload_n hx hb dX9_isAbove_4 rfl (lv_at hl 1 rfl) ?_
  refine lv_aload_n hx hb dX9_isAbove_5 rfl (lv_at hl 0 rfl) ?_
  refine va_get (D := G.1) (ci := 6) (v := .int 7) (C := RX9) (T := TX9) (N := 5) hx hb hq pin_wsX90 hown hE.1.1 hP 0 rfl rfl 2 (by decide) (hq _ pw_137) (fun _ h9 => h9) rfl dX9_isAbove_6 ?_
  refine lv_icmp_ge (tgt := 46) hx hb dX9_isAbove_9 (by decide) (fun c2 => absurd c2 (by decide)) (fun c2 => ?_)
  refine lv_iload_n hx hb dX9_isAbove_12 rfl (lv_at hl 2 rfl) ?_
  refine lv_if_lt (tgt := 46) hx hb dX9_isAbove_13 (by decide) (fun c3 => absurd c3 (by decide)) (fun c3 => ?_)
  refine lv_iload_n hx hb dX9_isAbove_16 rfl (lv_at hl 2 rfl) ?_
  refine lv_aload_n hx hb dX9_isAbove_17 rfl (lv_at hl 0 rfl) ?_
  refine va_get (D := G.1) (ci := 6) (v := .int 7) (C := RX9) (T := TX9) (N := 5) hx hb hq pin_wsX90 hown hE.1.1 hP 0 rfl rfl 2 (by decide) (hq _ pw_137) (fun _ h9 => h9) rfl dX9_isAbove_18 ?_
  refine lv_icmp_ge (tgt := 46) hx hb dX9_isAbove_21 (by decide) (fun c4 => absurd c4 (by decide)) (fun c4 => ?_)
  refine lv_aload_n hx hb dX9_isAbove_24 rfl (lv_at hl 0 rfl) ?_
  refine va_get (D := G.1) (ci := 6) (v := .ref g1) (C := RX9) (T := TX9) (N := 5) hx hb hq pin_wsX90 hown hE.1.1 hP 0 rfl rfl 1 (by decide) (hq _ pw_132) (fun _ h9 => h9) rfl dX9_isAbove_25 ?_
  refine lv_iload_n hx hb dX9_isAbove_28 rfl (lv_at hl 2 rfl) ?_
  refine va_aldq hx hb hE.1.1 hP 1 4 rfl rfl (by unfold vp_in; decide) dX9_isAbove_29 ?_
  refine W.eq (g2 := F0 m 30 ls [.ref (d 5)]) rfl ?_
  refine va_get (D := G.1) (ci := 2) (v := .long 1) (C := RX2) (T := TX2) (N := 13) hx hb hq pin_wsX20 hown hE.1.1 hP 2 rfl rfl 10 (by decide) (hq _ pw_153) (fun _ h9 => h9) rfl dX9_isAbove_30 ?_
  refine lv_iload_n hx hb dX9_isAbove_33 rfl (lv_at hl 1 rfl) ?_
  refine lv_lushr (v := 0) hx hb dX9_isAbove_34 (by decide) ?_
  refine lv_lconst (v := 1) hx hb dX9_isAbove_35 (by decide) ?_
  refine lv_land hx hb dX9_isAbove_36 ?_
  refine lv_topl (fun x5 e6 => ?_)
  obtain rfl : x5 = 0 := e6.trans (by decide)
  refine lv_lconst (v := 1) hx hb dX9_isAbove_37 (by decide) ?_
  refine W.lcmp hx hb dX9_isAbove_38 ?_
  refine lv_topi (fun x7 e8 => ?_)
  obtain rfl : x7 = (-1) := e8.trans (by decide)
  refine lv_if_ne (tgt := 46) hx hb dX9_isAbove_39 (by decide) (fun c9 => ?_) (fun c9 => absurd c9 (by decide))
  refine lv_iconst (v := 0) hx hb dX9_isAbove_46 (by decide) ?_
  refine W.widen (k := 0) (n := 0) (Nat.le_of_ble_eq_true rfl) (Nat.le_of_ble_eq_true rfl) ?_
  exact W.zret (v := 0) hx hb hr rfl (fun t ht hW => ⟨⟨_, ((fun _ => 0), (fun _ => fun _ => 0), (fun _ => fun _ => 0)), rfl, rfl, by rw [ht]; exact hP.sub [0, 1, 2] rfl, hD.sub [0, 1, 2] (by decide) rfl⟩, hS.F ht⟩) hS.2.2 dX9_isAbove_47
set_option maxHeartbeats 1000000 in
set_option maxRecDepth 100000 in
/-- isAbove(6, 6) -/
theorem c_isAbove_6_6 (l : Launch) (G : pT) (g0 : Nat) (g1 : Nat) (g2 : Nat) (d : Nat → Nat) (z : Nat → Nat) (k2 : Nat) : PM l G pX0 yX9_isAbove cX9_isAbove 3 (some .boolean) ({ frames := 2, cells := 0, slots := 0, locals := 60 }) [.ref g0, .int 6, .int 6] [(g0, .inr (6, [.ref k2, .ref g1, .int 7, .ref g2, .int 2147483647])), (g1, .inl (G.2.1 4, 37, .inr (.inr (.inr (.inr (dcl d)))))), ((d 6), .inr (2, [.int 6, .int 35, .int (-1), .int 0, .int (-1), .int 0, .int 0, .ref (z 24), .ref (z 25), .ref (d 0), .long 1, .ref (z 26), .ref (z 27)]))] (fun (v : Option Value) (u : (Nat → Nat) × (Nat → Nat → Int32) × (Nat → Nat → Int64)) => v = some (.int 0)) (fun u => [(g0, .inr (6, [.ref k2, .ref g1, .int 7, .ref g2, .int 2147483647])), (g1, .inl (G.2.1 4, 37, .inr (.inr (.inr (.inr (dcl d)))))), ((d 6), .inr (2, [.int 6, .int 35, .int (-1), .int 0, .int (-1), .int 0, .int 0, .ref (z 24), .ref (z 25), .ref (d 0), .long 1, .ref (z 26), .ref (z 27)]))]) := by
  intro sz
  refine Met.ofW (cc := cX9_isAbove) (maxL := 3) (ret := (some .boolean)) (by decide) rfl ?_
  intro p e s m args below meth c s₁ B hml hv
  obtain ⟨rfl, hsz, hP, hD0, hE, hX⟩ := hv
  have hx := B.exec
  have hb := B.bytes
  have hr := B.returns
  have hts := atoms_spec (ws := Cond.code yX9_isAbove cX9_isAbove 3 (some .boolean) :: pw) B.pre
  have hq : ∀ w ∈ pw, w.before _ s = true := fun w h => hts w (List.mem_cons_of_mem _ h)
  have hown : s.vm.findClass RX9 = some m.cls := findClass_of_methodNamed B.named
  have hlocks := B.notSynchronized
  subst hsz
  have hD := hD0.self (sz := s.heap.size)
  have hA : ∀ q : Nat, s.heap.size ≤ q → va_A [(g0, .inr (6, [.ref k2, .ref g1, .int 7, .ref g2, .int 2147483647])), (g1, .inl (G.2.1 4, 37, .inr (.inr (.inr (.inr (dcl d)))))), ((d 6), .inr (2, [.int 6, .int 35, .int (-1), .int 0, .int (-1), .int 0, .int 0, .ref (z 24), .ref (z 25), .ref (d 0), .long 1, .ref (z 26), .ref (z 27)]))] s.heap.size q := fun q h => Or.inr h
  have hP : va_P G.1 pCl [(g0, .inr (6, [.ref k2, .ref g1, .int 7, .ref g2, .int 2147483647])), (g1, .inl (G.2.1 4, 37, .inr (.inr (.inr (.inr (dcl d)))))), ((d 6), .inr (2, [.int 6, .int 35, .int (-1), .int 0, .int (-1), .int 0, .int 0, .ref (z 24), .ref (z 25), .ref (d 0), .long 1, .ref (z 26), .ref (z 27)]))] s.heap := hP
  generalize va_A [(g0, .inr (6, [.ref k2, .ref g1, .int 7, .ref g2, .int 2147483647])), (g1, .inl (G.2.1 4, 37, .inr (.inr (.inr (.inr (dcl d)))))), ((d 6), .inr (2, [.int 6, .int 35, .int (-1), .int 0, .int (-1), .int 0, .int 0, .ref (z 24), .ref (z 25), .ref (d 0), .long 1, .ref (z 26), .ref (z 27)]))] s.heap.size = A at hD hE hA ⊢
  have hS : va_S A s.heap s.heap [] := va_S.rf
  have hl := lv_entry ([.ref g0, .int 6, .int 6]) (n := 3) (Nat.le_of_ble_eq_true rfl)
  rw [lg_entry_eq]
  generalize (lg_sl ([.ref g0, .int 6, .int 6]) ++ List.replicate (3 - (lg_sl ([.ref g0, .int 6, .int 6])).length) Slot.unset).toArray = ls at hl ⊢
  have hl : lv_has ls 3 [(0, .ref g0), (1, .int 6), (2, .int 6)] := hl
  refine lv_iload_n hx hb dX9_isAbove_0 rfl (lv_at hl 1 rfl) ?_
  refine lv_if_lt (tgt := 46) hx hb dX9_isAbove_1 (by decide) (fun c1 => absurd c1 (by decide)) (fun c1 => ?_)
  refine lv_iload_n hx hb dX9_isAbove_4 rfl (lv_at hl 1 rfl) ?_
  refine lv_aload_n hx hb dX9_isAbove_5 rfl (lv_at hl 0 rfl) ?_
  refine va_get (D := G.1) (ci := 6) (v := .int 7) (C := RX9) (T := TX9) (N := 5) hx hb hq pin_wsX90 hown hE.1.1 hP 0 rfl rfl 2 (by decide) (hq _ pw_137) (fun _ h9 => h9) rfl dX9_isAbove_6 ?_
  refine lv_icmp_ge (tgt := 46) hx hb dX9_isAbove_9 (by decide) (fun c2 => absurd c2 (by decide)) (fun c2 => ?_)
  refine lv_iload_n hx hb dX9_isAbove_12 rfl (lv_at hl 2 rfl) ?_
  refine lv_if_lt (tgt := 46) hx hb dX9_isAbove_13 (by decide) (fun c3 => absurd c3 (by decide)) (fun c3 => ?_)
  refine lv_iload_n hx hb dX9_isAbove_16 rfl (lv_at hl 2 rfl) ?_
  refine lv_aload_n hx hb dX9_isAbove_17 rfl (lv_at hl 0 rfl) ?_
  refine va_get (D := G.1) (ci := 6) (v := .int 7) (C := RX9) (T := TX9) (N := 5) hx hb hq pin_wsX90 hown hE.1.1 hP 0 rfl rfl 2 (by decide) (hq _ pw_137) (fun _ h9 => h9) rfl dX9_isAbove_18 ?_
  refine lv_icmp_ge (tgt := 46) hx hb dX9_isAbove_21 (by decide) (fun c4 => absurd c4 (by decide)) (fun c4 => ?_)
  refine lv_aload_n hx hb dX9_isAbove_24 rfl (lv_at hl 0 rfl) ?_
  refine va_get (D := G.1) (ci := 6) (v := .ref g1) (C := RX9) (T := TX9) (N := 5) hx hb hq pin_wsX90 hown hE.1.1 hP 0 rfl rfl 1 (by decide) (hq _ pw_132) (fun _ h9 => h9) rfl dX9_isAbove_25 ?_
  refine lv_iload_n hx hb dX9_isAbove_28 rfl (lv_at hl 2 rfl) ?_
  refine va_aldq hx hb hE.1.1 hP 1 4 rfl rfl (by unfold vp_in; decide) dX9_isAbove_29 ?_
  refine W.eq (g2 := F0 m 30 ls [.ref (d 6)]) rfl ?_
  refine va_get (D := G.1) (ci := 2) (v := .long 1) (C := RX2) (T := TX2) (N := 13) hx hb hq pin_wsX20 hown hE.1.1 hP 2 rfl rfl 10 (by decide) (hq _ pw_153) (fun _ h9 => h9) rfl dX9_isAbove_30 ?_
  refine lv_iload_n hx hb dX9_isAbove_33 rfl (lv_at hl 1 rfl) ?_
  refine lv_lushr (v := 0) hx hb dX9_isAbove_34 (by decide) ?_
  refine lv_lconst (v := 1) hx hb dX9_isAbove_35 (by decide) ?_
  refine lv_land hx hb dX9_isAbove_36 ?_
  refine lv_topl (fun x5 e6 => ?_)
  obtain rfl : x5 = 0 := e6.trans (by decide)
  refine lv_lconst (v := 1) hx hb dX9_isAbove_37 (by decide) ?_
  refine W.lcmp hx hb dX9_isAbove_38 ?_
  refine lv_topi (fun x7 e8 => ?_)
  obtain rfl : x7 = (-1) := e8.trans (by decide)
  refine lv_if_ne (tgt := 46) hx hb dX9_isAbove_39 (by decide) (fun c9 => ?_) (fun c9 => absurd c9 (by decide))
  refine lv_iconst (v := 0) hx hb dX9_isAbove_46 (by decide) ?_
  refine W.widen (k := 0) (n := 0) (Nat.le_of_ble_eq_true rfl) (Nat.le_of_ble_eq_true rfl) ?_
  exact W.zret (v := 0) hx hb hr rfl (fun t ht hW => ⟨⟨_, ((fun _ => 0), (fun _ => fun _ => 0), (fun _ => fun _ => 0)), rfl, rfl, by rw [ht]; exact hP.sub [0, 1, 2] rfl, hD.sub [0, 1, 2] (by decide) rfl⟩, hS.F ht⟩) hS.2.2 dX9_isAbove_47
