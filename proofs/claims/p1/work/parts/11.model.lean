theorem m1_lt {x : Int32} (h : ¬ x < 0) : (-1) < x := by
  rw [Int32.lt_iff_toInt_lt] at h ⊢
  have a : (0 : Int32).toInt = 0 := by decide
  have b : ((-1) : Int32).toInt = -1 := by decide
  omega
theorem cnt_mid {x : Int32} (h1 : ¬ x < 2) (h2 : x ≤ 11) : cnt x = 0 := by
  unfold cnt
  rw [if_neg]
  intro q
  rcases q with q | q
  · exact h1 (Int32.lt_trans q (by decide))
  · exact absurd h2 (Int32.not_le.mpr q)
theorem cnt_hi {x : Int32} (h : ¬ x ≤ 11) : cnt x = (-1) := by unfold cnt; rw [if_pos (Or.inr (Int32.not_le.mp h))]
theorem cnt_lo {x : Int32} (h1 : x < 2) (h2 : ¬ x = 0) (h3 : ¬ x = 1) : cnt x = (-1) := by
  unfold cnt
  have a := i_ne (n := 0) (by decide) h2
  have b := i_ne (n := 1) (by decide) h3
  have c : (0 : Int32).toInt = 0 := by decide
  have d : (2 : Int32).toInt = 2 := by decide
  rw [if_pos]
  left
  rw [Int32.lt_iff_toInt_lt] at h1 ⊢
  omega
/-- 'low <= x <= high' as the reference asks it -/
def isin (x lo hi : Int32) : Int32 := if x < lo ∨ hi < x then 0 else 1
theorem dX12_feed_0 : decode cX12_feed 0 = .ok (.aload_n 0, 1) := by decide +kernel
theorem dX12_feed_1 : decode cX12_feed 1 = .ok (.iconst 0, 1) := by decide +kernel
theorem dX12_feed_2 : decode cX12_feed 2 = .ok (.putfield 252, 3) := by decide +kernel
theorem dX12_feed_5 : decode cX12_feed 5 = .ok (.aload_n 0, 1) := by decide +kernel
theorem dX12_feed_6 : decode cX12_feed 6 = .ok (.getfield 255, 3) := by decide +kernel
theorem dX12_feed_9 : decode cX12_feed 9 = .ok (.bipush 20, 2) := by decide +kernel
theorem dX12_feed_11 : decode cX12_feed 11 = .ok (.iadd, 1) := by decide +kernel
theorem dX12_feed_12 : decode cX12_feed 12 = .ok (.sipush 5000, 3) := by decide +kernel
theorem dX12_feed_15 : decode cX12_feed 15 = .ok (.if_icmp .le 5, 3) := by decide +kernel
theorem dX12_feed_20 : decode cX12_feed 20 = .ok (.iconst 0, 1) := by decide +kernel
theorem dX12_feed_21 : decode cX12_feed 21 = .ok (.istore 6, 2) := by decide +kernel
theorem dX12_feed_23 : decode cX12_feed 23 = .ok (.iload 6, 2) := by decide +kernel
theorem dX12_feed_25 : decode cX12_feed 25 = .ok (.bipush 20, 2) := by decide +kernel
theorem dX12_feed_27 : decode cX12_feed 27 = .ok (.if_icmp .ge 93, 3) := by decide +kernel
theorem dX12_feed_30 : decode cX12_feed 30 = .ok (.iload 6, 2) := by decide +kernel
theorem dX12_feed_32 : decode cX12_feed 32 = .ok (.iconst 4, 1) := by decide +kernel
theorem dX12_feed_33 : decode cX12_feed 33 = .ok (.if_icmp .ge 7, 3) := by decide +kernel
theorem dX12_feed_36 : decode cX12_feed 36 = .ok (.iload_n 1, 1) := by decide +kernel
theorem dX12_feed_37 : decode cX12_feed 37 = .ok (.goto 39, 3) := by decide +kernel
theorem dX12_feed_76 : decode cX12_feed 76 = .ok (.istore 7, 2) := by decide +kernel
theorem dX12_feed_78 : decode cX12_feed 78 = .ok (.aload_n 0, 1) := by decide +kernel
theorem dX12_feed_79 : decode cX12_feed 79 = .ok (.getfield 7, 3) := by decide +kernel
theorem dX12_feed_82 : decode cX12_feed 82 = .ok (.aload_n 0, 1) := by decide +kernel
theorem dX12_feed_83 : decode cX12_feed 83 = .ok (.getfield 255, 3) := by decide +kernel
theorem dX12_feed_86 : decode cX12_feed 86 = .ok (.iload 7, 2) := by decide +kernel
theorem dX12_feed_88 : decode cX12_feed 88 = .ok (.bipush 24, 2) := by decide +kernel
theorem dX12_feed_90 : decode cX12_feed 90 = .ok (.bipush 8, 2) := by decide +kernel
theorem dX12_feed_92 : decode cX12_feed 92 = .ok (.iload 6, 2) := by decide +kernel
theorem dX12_feed_94 : decode cX12_feed 94 = .ok (.iconst 4, 1) := by decide +kernel
theorem dX12_feed_95 : decode cX12_feed 95 = .ok (.irem, 1) := by decide +kernel
theorem dX12_feed_96 : decode cX12_feed 96 = .ok (.imul, 1) := by decide +kernel
theorem dX12_feed_97 : decode cX12_feed 97 = .ok (.isub, 1) := by decide +kernel
theorem dX12_feed_98 : decode cX12_feed 98 = .ok (.ishr, 1) := by decide +kernel
theorem dX12_feed_99 : decode cX12_feed 99 = .ok (.sipush 255, 3) := by decide +kernel
theorem dX12_feed_102 : decode cX12_feed 102 = .ok (.iand, 1) := by decide +kernel
theorem dX12_feed_103 : decode cX12_feed 103 = .ok (.iastore, 1) := by decide +kernel
theorem dX12_feed_104 : decode cX12_feed 104 = .ok (.aload_n 0, 1) := by decide +kernel
theorem dX12_feed_105 : decode cX12_feed 105 = .ok (.dup, 1) := by decide +kernel
theorem dX12_feed_106 : decode cX12_feed 106 = .ok (.getfield 255, 3) := by decide +kernel
theorem dX12_feed_109 : decode cX12_feed 109 = .ok (.iconst 1, 1) := by decide +kernel
theorem dX12_feed_110 : decode cX12_feed 110 = .ok (.iadd, 1) := by decide +kernel
theorem dX12_feed_111 : decode cX12_feed 111 = .ok (.putfield 255, 3) := by decide +kernel
theorem dX12_feed_114 : decode cX12_feed 114 = .ok (.iinc 6 1, 3) := by decide +kernel
theorem dX12_feed_117 : decode cX12_feed 117 = .ok (.goto (-94), 3) := by decide +kernel
theorem dX12_feed_40 : decode cX12_feed 40 = .ok (.iload 6, 2) := by decide +kernel
theorem dX12_feed_42 : decode cX12_feed 42 = .ok (.bipush 8, 2) := by decide +kernel
theorem dX12_feed_44 : decode cX12_feed 44 = .ok (.if_icmp .ge 7, 3) := by decide +kernel
theorem dX12_feed_47 : decode cX12_feed 47 = .ok (.iload_n 2, 1) := by decide +kernel
theorem dX12_feed_48 : decode cX12_feed 48 = .ok (.goto 28, 3) := by decide +kernel
theorem dX12_feed_51 : decode cX12_feed 51 = .ok (.iload 6, 2) := by decide +kernel
theorem dX12_feed_53 : decode cX12_feed 53 = .ok (.bipush 12, 2) := by decide +kernel
theorem dX12_feed_55 : decode cX12_feed 55 = .ok (.if_icmp .ge 7, 3) := by decide +kernel
theorem dX12_feed_58 : decode cX12_feed 58 = .ok (.iload_n 3, 1) := by decide +kernel
theorem dX12_feed_59 : decode cX12_feed 59 = .ok (.goto 17, 3) := by decide +kernel
theorem dX12_feed_62 : decode cX12_feed 62 = .ok (.iload 6, 2) := by decide +kernel
theorem dX12_feed_64 : decode cX12_feed 64 = .ok (.bipush 16, 2) := by decide +kernel
theorem dX12_feed_66 : decode cX12_feed 66 = .ok (.if_icmp .ge 8, 3) := by decide +kernel
theorem dX12_feed_69 : decode cX12_feed 69 = .ok (.iload 4, 2) := by decide +kernel
theorem dX12_feed_71 : decode cX12_feed 71 = .ok (.goto 5, 3) := by decide +kernel
theorem dX12_feed_74 : decode cX12_feed 74 = .ok (.iload 5, 2) := by decide +kernel
theorem dX12_feed_120 : decode cX12_feed 120 = .ok (.aload_n 0, 1) := by decide +kernel
theorem dX12_feed_121 : decode cX12_feed 121 = .ok (.getfield 255, 3) := by decide +kernel
theorem dX12_feed_124 : decode cX12_feed 124 = .ok (.ireturn, 1) := by decide +kernel
set_option maxHeartbeats 1000000 in
set_option maxRecDepth 100000 in
/-- feed of the reference: 20 -/
theorem m_feed (l : Launch) (G : pT) (h0 : Nat) (a : Nat → Nat) (x1 : Int32) (x2 : Int32) (x3 : Int32) (x4 : Int32) (x5 : Int32) : PM l G pX0 yX12_feed cX12_feed 8 (some .int) ({ frames := 2, cells := 0, slots := 0, locals := 60 }) [.ref h0, .int x1, .int x2, .int x3, .int x4, .int x5] [(h0, .inr (9, (mF a))), ((a 0), .inl (G.2.1 0, 5000, .inl (fun _ => 0)))] (fun (v : Option Value) (u : (Nat → Nat) × (Nat → Nat → Int32) × (Nat → Nat → Int64)) => v = some (.int 20)) (fun u => []) := by
  intro sz
  refine Met.ofW (cc := cX12_feed) (maxL := 8) (ret := (some .int)) (by decide) rfl ?_
  intro p e s m args below meth c s₁ B hml hv
  obtain ⟨rfl, hsz, hP, hD0, hE, hX⟩ := hv
  have hx := B.exec
  have hb := B.bytes
  have hr := B.returns
  have hts := atoms_spec (ws := Cond.code yX12_feed cX12_feed 8 (some .int) :: pw) B.pre
  have hq : ∀ w ∈ pw, w.before _ s = true := fun w h => hts w (List.mem_cons_of_mem _ h)
  have hown : s.vm.findClass RX12 = some m.cls := findClass_of_methodNamed B.named
  have hlocks := B.notSynchronized
  subst hsz
  have hD := hD0.self (sz := s.heap.size)
  have hA : ∀ q : Nat, s.heap.size ≤ q → va_A [(h0, .inr (9, (mF a))), ((a 0), .inl (G.2.1 0, 5000, .inl (fun _ => 0)))] s.heap.size q := fun q h => Or.inr h
  have hP : va_P G.1 pCl [(h0, .inr (9, (mF a))), ((a 0), .inl (G.2.1 0, 5000, .inl (fun _ => 0)))] s.heap := hP
  generalize va_A [(h0, .inr (9, (mF a))), ((a 0), .inl (G.2.1 0, 5000, .inl (fun _ => 0)))] s.heap.size = A at hD hE hA ⊢
  have hS : va_S A s.heap s.heap [] := va_S.rf
  have hl := lv_entry ([.ref h0, .int x1, .int x2, .int x3, .int x4, .int x5]) (n := 8) (Nat.le_of_ble_eq_true rfl)
  rw [lg_entry_eq]
  generalize (lg_sl ([.ref h0, .int x1, .int x2, .int x3, .int x4, .int x5]) ++ List.replicate (8 - (lg_sl ([.ref h0, .int x1, .int x2, .int x3, .int x4, .int x5])).length) Slot.unset).toArray = ls at hl ⊢
  have hl : lv_has ls 8 [(0, .ref h0), (1, .int x1), (2, .int x2), (3, .int x3), (4, .int x4), (5, .int x5)] := hl
  obtain ⟨fs, ef⟩ : ∃ z : List Value, z = (mF a) := ⟨_, rfl⟩
  have hn : fs.length = 134 := by rw [ef]; rfl
  have hP : va_P G.1 pCl [(h0, .inr (9, fs)), ((a 0), .inl (G.2.1 0, 5000, .inl (fun _ => 0)))] s.heap := by rw [ef]; exact hP
  have hD : va_D A [(h0, .inr (9, fs)), ((a 0), .inl (G.2.1 0, 5000, .inl (fun _ => 0)))] := by rw [ef]; exact hD
  refine lv_aload_n hx hb dX12_feed_0 rfl (lv_at hl 0 rfl) ?_
  refine lv_iconst (v := 0) hx hb dX12_feed_1 (by decide) ?_
  refine va_put (D := G.1) (ci := 9) (v := .int 0) (ty := .int) (C := RX12) (T := TX12) (N := 134) hx hb hq pin_wsX120 tyX12 tyX12_ok nmX12 hown hE.1.1 hP hD hS 0 rfl rfl 0 (by decide) (by rw [tFX12_0]; exact hq _ pw_259) (fun _ h9 => h9) (by rw [tFX12_0]) (by rw [tFX12_0]; decide +kernel) rfl rfl (by rw [hn]; decide) dX12_feed_2 (fun H locs hP hD hS => ?_)
  obtain ⟨fs1, e2⟩ : ∃ z : List Value, z = fs.set 0 (.int 0) := ⟨_, rfl⟩
  have hn3 : fs1.length = 134 := by rw [e2, List.length_set]; exact hn
  have hP : va_P G.1 pCl [(h0, .inr (9, fs1)), ((a 0), .inl (G.2.1 0, 5000, .inl (fun _ => 0)))] H := by rw [e2]; exact hP
  have hD : va_D A [(h0, .inr (9, fs1)), ((a 0), .inl (G.2.1 0, 5000, .inl (fun _ => 0)))] := by rw [e2]; exact hD
  refine lv_aload_n hx hb dX12_feed_5 rfl (lv_at hl 0 rfl) ?_
  refine va_get (D := G.1) (ci := 9) (v := .int 0) (C := RX12) (T := TX12) (N := 134) hx hb hq pin_wsX120 hown hE.1.1 hP 0 rfl rfl 2 (by decide) (by rw [tFX12_2]; exact hq _ pw_260) (fun _ h9 => h9) (by rw [e2, List.getElem?_set_ne (by decide), ef]; rfl) dX12_feed_6 ?_
  refine lv_bipush (v := 20) hx hb dX12_feed_9 (by decide) ?_
  refine lv_iadd hx hb dX12_feed_11 ?_
  refine lv_topi (fun x6 e7 => ?_)
  obtain rfl : x6 = 20 := e7.trans (by decide)
  refine lv_sipush (v := 5000) hx hb dX12_feed_12 (by decide) ?_
  refine lv_icmp_le (tgt := 20) hx hb dX12_feed_15 (by decide) (fun c8 => ?_) (fun c8 => absurd c8 (by decide))
  refine lv_iconst (v := 0) hx hb dX12_feed_20 (by decide) ?_
  refine lv_istore (lv' := [(6, .int 0), (0, .ref h0), (1, .int x1), (2, .int x2), (3, .int x3), (4, .int x4), (5, .int x5)]) hx hb dX12_feed_21 hl (by decide) rfl (fun ls hl => ?_)
  refine lv_iload hx hb dX12_feed_23 (lv_at hl 0 rfl) ?_
  refine lv_bipush (v := 20) hx hb dX12_feed_25 (by decide) ?_
  refine lv_icmp_ge (tgt := 120) hx hb dX12_feed_27 (by decide) (fun c9 => absurd c9 (by decide)) (fun c9 => ?_)
  refine lv_iload hx hb dX12_feed_30 (lv_at hl 0 rfl) ?_
  refine lv_iconst (v := 4) hx hb dX12_feed_32 (by decide) ?_
  refine lv_icmp_ge (tgt := 40) hx hb dX12_feed_33 (by decide) (fun c10 => absurd c10 (by decide)) (fun c10 => ?_)
  refine lv_iload_n hx hb dX12_feed_36 rfl (lv_at hl 2 rfl) ?_
  refine lv_goto (tgt := 76) hx hb dX12_feed_37 (by decide) ?_
  refine lv_istore (lv' := [(7, .int x1), (6, .int 0), (0, .ref h0), (1, .int x1), (2, .int x2), (3, .int x3), (4, .int x4), (5, .int x5)]) hx hb dX12_feed_76 hl (by decide) rfl (fun ls hl => ?_)
  refine lv_aload_n hx hb dX12_feed_78 rfl (lv_at hl 2 rfl) ?_
  refine va_get (D := G.1) (ci := 9) (v := .ref (a 0)) (C := RX12) (T := TX12) (N := 134) hx hb hq pin_wsX120 hown hE.1.1 hP 0 rfl rfl 1 (by decide) (by rw [tFX12_1]; exact hq _ pw_178) (fun _ h9 => h9) (by rw [e2, List.getElem?_set_ne (by decide), ef]; rfl) dX12_feed_79 ?_
  refine lv_aload_n hx hb dX12_feed_82 rfl (lv_at hl 2 rfl) ?_
  refine va_get (D := G.1) (ci := 9) (v := .int 0) (C := RX12) (T := TX12) (N := 134) hx hb hq pin_wsX120 hown hE.1.1 hP 0 rfl rfl 2 (by decide) (by rw [tFX12_2]; exact hq _ pw_260) (fun _ h9 => h9) (by rw [e2, List.getElem?_set_ne (by decide), ef]; rfl) dX12_feed_83 ?_
  refine lv_iload hx hb dX12_feed_86 (lv_at hl 0 rfl) ?_
  refine lv_bipush (v := 24) hx hb dX12_feed_88 (by decide) ?_
  refine lv_bipush (v := 8) hx hb dX12_feed_90 (by decide) ?_
  refine lv_iload hx hb dX12_feed_92 (lv_at hl 1 rfl) ?_
  refine lv_iconst (v := 4) hx hb dX12_feed_94 (by decide) ?_
  refine lv_irem hx hb dX12_feed_95 (by decide) ?_
  refine lv_topi (fun x11 e12 => ?_)
  obtain rfl : x11 = 0 := e12.trans (by decide)
  refine lv_imul hx hb dX12_feed_96 ?_
  refine lv_topi (fun x13 e14 => ?_)
  obtain rfl : x13 = 0 := e14.trans (by decide)
  refine lv_isub hx hb dX12_feed_97 ?_
  refine lv_topi (fun x15 e16 => ?_)
  obtain rfl : x15 = 24 := e16.trans (by decide)
  refine lv_ishr hx hb dX12_feed_98 ?_
  refine lv_topi (fun x17 e18 => ?_)
  refine lv_sipush (v := 255) hx hb dX12_feed_99 (by decide) ?_
  refine lv_iand hx hb dX12_feed_102 ?_
  refine lv_topi (fun x19 e20 => ?_)
  refine va_iast hx hb hE.1.1 hP hD hS 1 0 rfl rfl (by unfold vp_in; decide) dX12_feed_103 (fun H locs hP hD hS => ?_)
  have hP : va_P G.1 pCl [(h0, .inr (9, fs1)), ((a 0), .inl (G.2.1 0, 5000, .inl (upd (fun _ => 0) (Int32.toNatClampNeg 0) x19)))] H := hP
  have hD : va_D A [(h0, .inr (9, fs1)), ((a 0), .inl (G.2.1 0, 5000, .inl (upd (fun _ => 0) (Int32.toNatClampNeg 0) x19)))] := hD
  generalize (upd (fun _ => 0) (Int32.toNatClampNeg 0) x19) = f21 at hP hD
  refine lv_aload_n hx hb dX12_feed_104 rfl (lv_at hl 2 rfl) ?_
  refine lv_dup hx hb dX12_feed_105 rfl ?_
  refine va_get (D := G.1) (ci := 9) (v := .int 0) (C := RX12) (T := TX12) (N := 134) hx hb hq pin_wsX120 hown hE.1.1 hP 0 rfl rfl 2 (by decide) (by rw [tFX12_2]; exact hq _ pw_260) (fun _ h9 => h9) (by rw [e2, List.getElem?_set_ne (by decide), ef]; rfl) dX12_feed_106 ?_
  refine lv_iconst (v := 1) hx hb dX12_feed_109 (by decide) ?_
  refine lv_iadd hx hb dX12_feed_110 ?_
  refine lv_topi (fun x22 e23 => ?_)
  obtain rfl : x22 = 1 := e23.trans (by decide)
  refine va_put (D := G.1) (ci := 9) (v := .int 1) (ty := .int) (C := RX12) (T := TX12) (N := 134) hx hb hq pin_wsX120 tyX12 tyX12_ok nmX12 hown hE.1.1 hP hD hS 0 rfl rfl 2 (by decide) (by rw [tFX12_2]; exact hq _ pw_260) (fun _ h9 => h9) (by rw [tFX12_2]) (by rw [tFX12_2]; decide +kernel) rfl rfl (by rw [hn3]; decide) dX12_feed_111 (fun H locs hP hD hS => ?_)
  obtain ⟨fs24, e25⟩ : ∃ z : List Value, z = fs1.set 2 (.int 1) := ⟨_, rfl⟩
  have hn26 : fs24.length = 134 := by rw [e25, List.length_set]; exact hn3
  have hP : va_P G.1 pCl [(h0, .inr (9, fs24)), ((a 0), .inl (G.2.1 0, 5000, .inl f21))] H := by rw [e25]; exact hP
  have hD : va_D A [(h0, .inr (9, fs24)), ((a 0), .inl (G.2.1 0, 5000, .inl f21))] := by rw [e25]; exact hD
  refine lv_iinc (v := 1) (lv' := [(6, .int 1), (7, .int x1), (0, .ref h0), (1, .int x1), (2, .int x2), (3, .int x3), (4, .int x4), (5, .int x5)]) hx hb dX12_feed_114 hl (k := 1) rfl (by decide) (by decide) rfl (fun ls hl => ?_)
  refine lv_goto (tgt := 23) hx hb dX12_feed_117 (by decide) ?_
  refine lv_iload hx hb dX12_feed_23 (lv_at hl 0 rfl) ?_
  refine lv_bipush (v := 20) hx hb dX12_feed_25 (by decide) ?_
  refine lv_icmp_ge (tgt := 120) hx hb dX12_feed_27 (by decide) (fun c27 => absurd c27 (by decide)) (fun c27 => ?_)
  refine lv_iload hx hb dX12_feed_30 (lv_at hl 0 rfl) ?_
  refine lv_iconst (v := 4) hx hb dX12_feed_32 (by decide) ?_
  refine lv_icmp_ge (tgt := 40) hx hb dX12_feed_33 (by decide) (fun c28 => absurd c28 (by decide)) (fun c28 => ?_)
  refine lv_iload_n hx hb dX12_feed_36 rfl (lv_at hl 3 rfl) ?_
  refine lv_goto (tgt := 76) hx hb dX12_feed_37 (by decide) ?_
  refine lv_istore (lv' := [(7, .int x1), (6, .int 1), (0, .ref h0), (1, .int x1), (2, .int x2), (3, .int x3), (4, .int x4), (5, .int x5)]) hx hb dX12_feed_76 hl (by decide) rfl (fun ls hl => ?_)
  refine lv_aload_n hx hb dX12_feed_78 rfl (lv_at hl 2 rfl) ?_
  refine va_get (D := G.1) (ci := 9) (v := .ref (a 0)) (C := RX12) (T := TX12) (N := 134) hx hb hq pin_wsX120 hown hE.1.1 hP 0 rfl rfl 1 (by decide) (by rw [tFX12_1]; exact hq _ pw_178) (fun _ h9 => h9) (by rw [e25, List.getElem?_set_ne (by decide), e2, List.getElem?_set_ne (by decide), ef]; rfl) dX12_feed_79 ?_
  refine lv_aload_n hx hb dX12_feed_82 rfl (lv_at hl 2 rfl) ?_
  refine va_get (D := G.1) (ci := 9) (v := .int 1) (C := RX12) (T := TX12) (N := 134) hx hb hq pin_wsX120 hown hE.1.1 hP 0 rfl rfl 2 (by decide) (by rw [tFX12_2]; exact hq _ pw_260) (fun _ h9 => h9) (by rw [e25]; exact List.getElem?_set_self (by rw [hn3]; decide)) dX12_feed_83 ?_
  refine lv_iload hx hb dX12_feed_86 (lv_at hl 0 rfl) ?_
  refine lv_bipush (v := 24) hx hb dX12_feed_88 (by decide) ?_
  refine lv_bipush (v := 8) hx hb dX12_feed_90 (by decide) ?_
  refine lv_iload hx hb dX12_feed_92 (lv_at hl 1 rfl) ?_
  refine lv_iconst (v := 4) hx hb dX12_feed_94 (by decide) ?_
  refine lv_irem hx hb dX12_feed_95 (by decide) ?_
  refine lv_topi (fun x29 e30 => ?_)
  obtain rfl : x29 = 1 := e30.trans (by decide)
  refine lv_imul hx hb dX12_feed_96 ?_
  refine lv_topi (fun x31 e32 => ?_)
  obtain rfl : x31 = 8 := e32.trans (by decide)
  refine lv_isub hx hb dX12_feed_97 ?_
  refine lv_topi (fun x33 e34 => ?_)
  obtain rfl : x33 = 16 := e34.trans (by decide)
  refine lv_ishr hx hb dX12_feed_98 ?_
  refine lv_topi (fun x35 e36 => ?_)
  refine lv_sipush (v := 255) hx hb dX12_feed_99 (by decide) ?_
  refine lv_iand hx hb dX12_feed_102 ?_
  refine lv_topi (fun x37 e38 => ?_)
  refine va_iast hx hb hE.1.1 hP hD hS 1 0 rfl rfl (by unfold vp_in; decide) dX12_feed_103 (fun H locs hP hD hS => ?_)
  have hP : va_P G.1 pCl [(h0, .inr (9, fs24)), ((a 0), .inl (G.2.1 0, 5000, .inl (upd f21 (Int32.toNatClampNeg 1) x37)))] H := hP
  have hD : va_D A [(h0, .inr (9, fs24)), ((a 0), .inl (G.2.1 0, 5000, .inl (upd f21 (Int32.toNatClampNeg 1) x37)))] := hD
  generalize (upd f21 (Int32.toNatClampNeg 1) x37) = f39 at hP hD
  refine lv_aload_n hx hb dX12_feed_104 rfl (lv_at hl 2 rfl) ?_
  refine lv_dup hx hb dX12_feed_105 rfl ?_
  refine va_get (D := G.1) (ci := 9) (v := .int 1) (C := RX12) (T := TX12) (N := 134) hx hb hq pin_wsX120 hown hE.1.1 hP 0 rfl rfl 2 (by decide) (by rw [tFX12_2]; exact hq _ pw_260) (fun _ h9 => h9) (by rw [e25]; exact List.getElem?_set_self (by rw [hn3]; decide)) dX12_feed_106 ?_
  refine lv_iconst (v := 1) hx hb dX12_feed_109 (by decide) ?_
  refine lv_iadd hx hb dX12_feed_110 ?_
  refine lv_topi (fun x40 e41 => ?_)
  obtain rfl : x40 = 2 := e41.trans (by decide)
  refine va_put (D := G.1) (ci := 9) (v := .int 2) (ty := .int) (C := RX12) (T := TX12) (N := 134) hx hb hq pin_wsX120 tyX12 tyX12_ok nmX12 hown hE.1.1 hP hD hS 0 rfl rfl 2 (by decide) (by rw [tFX12_2]; exact hq _ pw_260) (fun _ h9 => h9) (by rw [tFX12_2]) (by rw [tFX12_2]; decide +kernel) rfl rfl (by rw [hn26]; decide) dX12_feed_111 (fun H locs hP hD hS => ?_)
  obtain ⟨fs42, e43⟩ : ∃ z : List Value, z = fs24.set 2 (.int 2) := ⟨_, rfl⟩
  have hn44 : fs42.length = 134 := by rw [e43, List.length_set]; exact hn26
  have hP : va_P G.1 pCl [(h0, .inr (9, fs42)), ((a 0), .inl (G.2.1 0, 5000, .inl f39))] H := by rw [e43]; exact hP
  have hD : va_D A [(h0, .inr (9, fs42)), ((a 0), .inl (G.2.1 0, 5000, .inl f39))] := by rw [e43]; exact hD
  refine lv_iinc (v := 2) (lv' := [(6, .int 2), (7, .int x1), (0, .ref h0), (1, .int x1), (2, .int x2), (3, .int x3), (4, .int x4), (5, .int x5)]) hx hb dX12_feed_114 hl (k := 1) rfl (by decide) (by decide) rfl (fun ls hl => ?_)
  refine lv_goto (tgt := 23) hx hb dX12_feed_117 (by decide) ?_
  refine lv_iload hx hb dX12_feed_23 (lv_at hl 0 rfl) ?_
  refine lv_bipush (v := 20) hx hb dX12_feed_25 (by decide) ?_
  refine lv_icmp_ge (tgt := 120) hx hb dX12_feed_27 (by decide) (fun c45 => absurd c45 (by decide)) (fun c45 => ?_)
  refine lv_iload hx hb dX12_feed_30 (lv_at hl 0 rfl) ?_
  refine lv_iconst (v := 4) hx hb dX12_feed_32 (by decide) ?_
  refine lv_icmp_ge (tgt := 40) hx hb dX12_feed_33 (by decide) (fun c46 => absurd c46 (by decide)) (fun c46 => ?_)
  refine lv_iload_n hx hb dX12_feed_36 rfl (lv_at hl 3 rfl) ?_
  refine lv_goto (tgt := 76) hx hb dX12_feed_37 (by decide) ?_
  refine lv_istore (lv' := [(7, .int x1), (6, .int 2), (0, .ref h0), (1, .int x1), (2, .int x2), (3, .int x3), (4, .int x4), (5, .int x5)]) hx hb dX12_feed_76 hl (by decide) rfl (fun ls hl => ?_)
  refine lv_aload_n hx hb dX12_feed_78 rfl (lv_at hl 2 rfl) ?_
  refine va_get (D := G.1) (ci := 9) (v := .ref (a 0)) (C := RX12) (T := TX12) (N := 134) hx hb hq pin_wsX120 hown hE.1.1 hP 0 rfl rfl 1 (by decide) (by rw [tFX12_1]; exact hq _ pw_178) (fun _ h9 => h9) (by rw [e43, List.getElem?_set_ne (by decide), e25, List.getElem?_set_ne (by decide), e2, List.getElem?_set_ne (by decide), ef]; rfl) dX12_feed_79 ?_
  refine lv_aload_n hx hb dX12_feed_82 rfl (lv_at hl 2 rfl) ?_
  refine va_get (D := G.1) (ci := 9) (v := .int 2) (C := RX12) (T := TX12) (N := 134) hx hb hq pin_wsX120 hown hE.1.1 hP 0 rfl rfl 2 (by decide) (by rw [tFX12_2]; exact hq _ pw_260) (fun _ h9 => h9) (by rw [e43]; exact List.getElem?_set_self (by rw [hn26]; decide)) dX12_feed_83 ?_
  refine lv_iload hx hb dX12_feed_86 (lv_at hl 0 rfl) ?_
  refine lv_bipush (v := 24) hx hb dX12_feed_88 (by decide) ?_
  refine lv_bipush (v := 8) hx hb dX12_feed_90 (by decide) ?_
  refine lv_iload hx hb dX12_feed_92 (lv_at hl 1 rfl) ?_
  refine lv_iconst (v := 4) hx hb dX12_feed_94 (by decide) ?_
  refine lv_irem hx hb dX12_feed_95 (by decide) ?_
  refine lv_topi (fun x47 e48 => ?_)
  obtain rfl : x47 = 2 := e48.trans (by decide)
  refine lv_imul hx hb dX12_feed_96 ?_
  refine lv_topi (fun x49 e50 => ?_)
  obtain rfl : x49 = 16 := e50.trans (by decide)
  refine lv_isub hx hb dX12_feed_97 ?_
  refine lv_topi (fun x51 e52 => ?_)
  obtain rfl : x51 = 8 := e52.trans (by decide)
  refine lv_ishr hx hb dX12_feed_98 ?_
  refine lv_topi (fun x53 e54 => ?_)
  refine lv_sipush (v := 255) hx hb dX12_feed_99 (by decide) ?_
  refine lv_iand hx hb dX12_feed_102 ?_
  refine lv_topi (fun x55 e56 => ?_)
  refine va_iast hx hb hE.1.1 hP hD hS 1 0 rfl rfl (by unfold vp_in; decide) dX12_feed_103 (fun H locs hP hD hS => ?_)
  have hP : va_P G.1 pCl [(h0, .inr (9, fs42)), ((a 0), .inl (G.2.1 0, 5000, .inl (upd f39 (Int32.toNatClampNeg 2) x55)))] H := hP
  have hD : va_D A [(h0, .inr (9, fs42)), ((a 0), .inl (G.2.1 0, 5000, .inl (upd f39 (Int32.toNatClampNeg 2) x55)))] := hD
  generalize (upd f39 (Int32.toNatClampNeg 2) x55) = f57 at hP hD
  refine lv_aload_n hx hb dX12_feed_104 rfl (lv_at hl 2 rfl) ?_
  refine lv_dup hx hb dX12_feed_105 rfl ?_
  refine va_get (D := G.1) (ci := 9) (v := .int 2) (C := RX12) (T := TX12) (N := 134) hx hb hq pin_wsX120 hown hE.1.1 hP 0 rfl rfl 2 (by decide) (by rw [tFX12_2]; exact hq _ pw_260) (fun _ h9 => h9) (by rw [e43]; exact List.getElem?_set_self (by rw [hn26]; decide)) dX12_feed_106 ?_
  refine lv_iconst (v := 1) hx hb dX12_feed_109 (by decide) ?_
  refine lv_iadd hx hb dX12_feed_110 ?_
  refine lv_topi (fun x58 e59 => ?_)
  obtain rfl : x58 = 3 := e59.trans (by decide)
  refine va_put (D := G.1) (ci := 9) (v := .int 3) (ty := .int) (C := RX12) (T := TX12) (N := 134) hx hb hq pin_wsX120 tyX12 tyX12_ok nmX12 hown hE.1.1 hP hD hS 0 rfl rfl 2 (by decide) (by rw [tFX12_2]; exact hq _ pw_260) (fun _ h9 => h9) (by rw [tFX12_2]) (by rw [tFX12_2]; decide +kernel) rfl rfl (by rw [hn44]; decide) dX12_feed_111 (fun H locs hP hD hS => ?_)
  obtain ⟨fs60, e61⟩ : ∃ z : List Value, z = fs42.set 2 (.int 3) := ⟨_, rfl⟩
  have hn62 : fs60.length = 134 := by rw [e61, List.length_set]; exact hn44
  have hP : va_P G.1 pCl [(h0, .inr (9, fs60)), ((a 0), .inl (G.2.1 0, 5000, .inl f57))] H := by rw [e61]; exact hP
  have hD : va_D A [(h0, .inr (9, fs60)), ((a 0), .inl (G.2.1 0, 5000, .inl f57))] := by rw [e61]; exact hD
  refine lv_iinc (v := 3) (lv' := [(6, .int 3), (7, .int x1), (0, .ref h0), (1, .int x1), (2, .int x2), (3, .int x3), (4, .int x4), (5, .int x5)]) hx hb dX12_feed_114 hl (k := 1) rfl (by decide) (by decide) rfl (fun ls hl => ?_)
  refine lv_goto (tgt := 23) hx hb dX12_feed_117 (by decide) ?_
  refine lv_iload hx hb dX12_feed_23 (lv_at hl 0 rfl) ?_
  refine lv_bipush (v := 20) hx hb dX12_feed_25 (by decide) ?_
  refine lv_icmp_ge (tgt := 120) hx hb dX12_feed_27 (by decide) (fun c63 => absurd c63 (by decide)) (fun c63 => ?_)
  refine lv_iload hx hb dX12_feed_30 (lv_at hl 0 rfl) ?_
  refine lv_iconst (v := 4) hx hb dX12_feed_32 (by decide) ?_
  refine lv_icmp_ge (tgt := 40) hx hb dX12_feed_33 (by decide) (fun c64 => absurd c64 (by decide)) (fun c64 => ?_)
  refine lv_iload_n hx hb dX12_feed_36 rfl (lv_at hl 3 rfl) ?_
  refine lv_goto (tgt := 76) hx hb dX12_feed_37 (by decide) ?_
  refine lv_istore (lv' := [(7, .int x1), (6, .int 3), (0, .ref h0), (1, .int x1), (2, .int x2), (3, .int x3), (4, .int x4), (5, .int x5)]) hx hb dX12_feed_76 hl (by decide) rfl (fun ls hl => ?_)
  refine lv_aload_n hx hb dX12_feed_78 rfl (lv_at hl 2 rfl) ?_
  refine va_get (D := G.1) (ci := 9) (v := .ref (a 0)) (C := RX12) (T := TX12) (N := 134) hx hb hq pin_wsX120 hown hE.1.1 hP 0 rfl rfl 1 (by decide) (by rw [tFX12_1]; exact hq _ pw_178) (fun _ h9 => h9) (by rw [e61, List.getElem?_set_ne (by decide), e43, List.getElem?_set_ne (by decide), e25, List.getElem?_set_ne (by decide), e2, List.getElem?_set_ne (by decide), ef]; rfl) dX12_feed_79 ?_
  refine lv_aload_n hx hb dX12_feed_82 rfl (lv_at hl 2 rfl) ?_
  refine va_get (D := G.1) (ci := 9) (v := .int 3) (C := RX12) (T := TX12) (N := 134) hx hb hq pin_wsX120 hown hE.1.1 hP 0 rfl rfl 2 (by decide) (by rw [tFX12_2]; exact hq _ pw_260) (fun _ h9 => h9) (by rw [e61]; exact List.getElem?_set_self (by rw [hn44]; decide)) dX12_feed_83 ?_
  refine lv_iload hx hb dX12_feed_86 (lv_at hl 0 rfl) ?_
  refine lv_bipush (v := 24) hx hb dX12_feed_88 (by decide) ?_
  refine lv_bipush (v := 8) hx hb dX12_feed_90 (by decide) ?_
  refine lv_iload hx hb dX12_feed_92 (lv_at hl 1 rfl) ?_
  refine lv_iconst (v := 4) hx hb dX12_feed_94 (by decide) ?_
  refine lv_irem hx hb dX12_feed_95 (by decide) ?_
  refine lv_topi (fun x65 e66 => ?_)
  obtain rfl : x65 = 3 := e66.trans (by decide)
  refine lv_imul hx hb dX12_feed_96 ?_
  refine lv_topi (fun x67 e68 => ?_)
  obtain rfl : x67 = 24 := e68.trans (by decide)
  refine lv_isub hx hb dX12_feed_97 ?_
  refine lv_topi (fun x69 e70 => ?_)
  obtain rfl : x69 = 0 := e70.trans (by decide)
  refine lv_ishr hx hb dX12_feed_98 ?_
  refine lv_topi (fun x71 e72 => ?_)
  refine lv_sipush (v := 255) hx hb dX12_feed_99 (by decide) ?_
  refine lv_iand hx hb dX12_feed_102 ?_
  refine lv_topi (fun x73 e74 => ?_)
  refine va_iast hx hb hE.1.1 hP hD hS 1 0 rfl rfl (by unfold vp_in; decide) dX12_feed_103 (fun H locs hP hD hS => ?_)
  have hP : va_P G.1 pCl [(h0, .inr (9, fs60)), ((a 0), .inl (G.2.1 0, 5000, .inl (upd f57 (Int32.toNatClampNeg 3) x73)))] H := hP
  have hD : va_D A [(h0, .inr (9, fs60)), ((a 0), .inl (G.2.1 0, 5000, .inl (upd f57 (Int32.toNatClampNeg 3) x73)))] := hD
  generalize (upd f57 (Int32.toNatClampNeg 3) x73) = f75 at hP hD
  refine lv_aload_n hx hb dX12_feed_104 rfl (lv_at hl 2 rfl) ?_
  refine lv_dup hx hb dX12_feed_105 rfl ?_
  refine va_get (D := G.1) (ci := 9) (v := .int 3) (C := RX12) (T := TX12) (N := 134) hx hb hq pin_wsX120 hown hE.1.1 hP 0 rfl rfl 2 (by decide) (by rw [tFX12_2]; exact hq _ pw_260) (fun _ h9 => h9) (by rw [e61]; exact List.getElem?_set_self (by rw [hn44]; decide)) dX12_feed_106 ?_
  refine lv_iconst (v := 1) hx hb dX12_feed_109 (by decide) ?_
  refine lv_iadd hx hb dX12_feed_110 ?_
  refine lv_topi (fun x76 e77 => ?_)
  obtain rfl : x76 = 4 := e77.trans (by decide)
  refine va_put (D := G.1) (ci := 9) (v := .int 4) (ty := .int) (C := RX12) (T := TX12) (N := 134) hx hb hq pin_wsX120 tyX12 tyX12_ok nmX12 hown hE.1.1 hP hD hS 0 rfl rfl 2 (by decide) (by rw [tFX12_2]; exact hq _ pw_260) (fun _ h9 => h9) (by rw [tFX12_2]) (by rw [tFX12_2]; decide +kernel) rfl rfl (by rw [hn62]; decide) dX12_feed_111 (fun H locs hP hD hS => ?_)
  obtain ⟨fs78, e79⟩ : ∃ z : List Value, z = fs60.set 2 (.int 4) := ⟨_, rfl⟩
  have hn80 : fs78.length = 134 := by rw [e79, List.length_set]; exact hn62
  have hP : va_P G.1 pCl [(h0, .inr (9, fs78)), ((a 0), .inl (G.2.1 0, 5000, .inl f75))] H := by rw [e79]; exact hP
  have hD : va_D A [(h0, .inr (9, fs78)), ((a 0), .inl (G.2.1 0, 5000, .inl f75))] := by rw [e79]; exact hD
  refine lv_iinc (v := 4) (lv' := [(6, .int 4), (7, .int x1), (0, .ref h0), (1, .int x1), (2, .int x2), (3, .int x3), (4, .int x4), (5, .int x5)]) hx hb dX12_feed_114 hl (k := 1) rfl (by decide) (by decide) rfl (fun ls hl => ?_)
  refine lv_goto (tgt := 23) hx hb dX12_feed_117 (by decide) ?_
  refine lv_iload hx hb dX12_feed_23 (lv_at hl 0 rfl) ?_
  refine lv_bipush (v := 20) hx hb dX12_feed_25 (by decide) ?_
  refine lv_icmp_ge (tgt := 120) hx hb dX12_feed_27 (by decide) (fun c81 => absurd c81 (by decide)) (fun c81 => ?_)
  refine lv_iload hx hb dX12_feed_30 (lv_at hl 0 rfl) ?_
  refine lv_iconst (v := 4) hx hb dX12_feed_32 (by decide) ?_
  refine lv_icmp_ge (tgt := 40) hx hb dX12_feed_33 (by decide) (fun c82 => ?_) (fun c82 => absurd c82 (by decide))
  refine lv_iload hx hb dX12_feed_40 (lv_at hl 0 rfl) ?_
  refine lv_bipush (v := 8) hx hb dX12_feed_42 (by decide) ?_
  refine lv_icmp_ge (tgt := 51) hx hb dX12_feed_44 (by decide) (fun c83 => absurd c83 (by decide)) (fun c83 => ?_)
  refine lv_iload_n hx hb dX12_feed_47 rfl (lv_at hl 4 rfl) ?_
  refine lv_goto (tgt := 76) hx hb dX12_feed_48 (by decide) ?_
  refine lv_istore (lv' := [(7, .int x2), (6, .int 4), (0, .ref h0), (1, .int x1), (2, .int x2), (3, .int x3), (4, .int x4), (5, .int x5)]) hx hb dX12_feed_76 hl (by decide) rfl (fun ls hl => ?_)
  refine lv_aload_n hx hb dX12_feed_78 rfl (lv_at hl 2 rfl) ?_
  refine va_get (D := G.1) (ci := 9) (v := .ref (a 0)) (C := RX12) (T := TX12) (N := 134) hx hb hq pin_wsX120 hown hE.1.1 hP 0 rfl rfl 1 (by decide) (by rw [tFX12_1]; exact hq _ pw_178) (fun _ h9 => h9) (by rw [e79, List.getElem?_set_ne (by decide), e61, List.getElem?_set_ne (by decide), e43, List.getElem?_set_ne (by decide), e25, List.getElem?_set_ne (by decide), e2, List.getElem?_set_ne (by decide), ef]; rfl) dX12_feed_79 ?_
  refine lv_aload_n hx hb dX12_feed_82 rfl (lv_at hl 2 rfl) ?_
  refine va_get (D := G.1) (ci := 9) (v := .int 4) (C := RX12) (T := TX12) (N := 134) hx hb hq pin_wsX120 hown hE.1.1 hP 0 rfl rfl 2 (by decide) (by rw [tFX12_2]; exact hq _ pw_260) (fun _ h9 => h9) (by rw [e79]; exact List.getElem?_set_self (by rw [hn62]; decide)) dX12_feed_83 ?_
  refine lv_iload hx hb dX12_feed_86 (lv_at hl 0 rfl) ?_
  refine lv_bipush (v := 24) hx hb dX12_feed_88 (by decide) ?_
  refine lv_bipush (v := 8) hx hb dX12_feed_90 (by decide) ?_
  refine lv_iload hx hb dX12_feed_92 (lv_at hl 1 rfl) ?_
  refine lv_iconst (v := 4) hx hb dX12_feed_94 (by decide) ?_
  refine lv_irem hx hb dX12_feed_95 (by decide) ?_
  refine lv_topi (fun x84 e85 => ?_)
  obtain rfl : x84 = 0 := e85.trans (by decide)
  refine lv_imul hx hb dX12_feed_96 ?_
  refine lv_topi (fun x86 e87 => ?_)
  obtain rfl : x86 = 0 := e87.trans (by decide)
  refine lv_isub hx hb dX12_feed_97 ?_
  refine lv_topi (fun x88 e89 => ?_)
  obtain rfl : x88 = 24 := e89.trans (by decide)
  refine lv_ishr hx hb dX12_feed_98 ?_
  refine lv_topi (fun x90 e91 => ?_)
  refine lv_sipush (v := 255) hx hb dX12_feed_99 (by decide) ?_
  refine lv_iand hx hb dX12_feed_102 ?_
  refine lv_topi (fun x92 e93 => ?_)
  refine va_iast hx hb hE.1.1 hP hD hS 1 0 rfl rfl (by unfold vp_in; decide) dX12_feed_103 (fun H locs hP hD hS => ?_)
  have hP : va_P G.1 pCl [(h0, .inr (9, fs78)), ((a 0), .inl (G.2.1 0, 5000, .inl (upd f75 (Int32.toNatClampNeg 4) x92)))] H := hP
  have hD : va_D A [(h0, .inr (9, fs78)), ((a 0), .inl (G.2.1 0, 5000, .inl (upd f75 (Int32.toNatClampNeg 4) x92)))] := hD
  generalize (upd f75 (Int32.toNatClampNeg 4) x92) = f94 at hP hD
  refine lv_aload_n hx hb dX12_feed_104 rfl (lv_at hl 2 rfl) ?_
  refine lv_dup hx hb dX12_feed_105 rfl ?_
  refine va_get (D := G.1) (ci := 9) (v := .int 4) (C := RX12) (T := TX12) (N := 134) hx hb hq pin_wsX120 hown hE.1.1 hP 0 rfl rfl 2 (by decide) (by rw [tFX12_2]; exact hq _ pw_260) (fun _ h9 => h9) (by rw [e79]; exact List.getElem?_set_self (by rw [hn62]; decide)) dX12_feed_106 ?_
  refine lv_iconst (v := 1) hx hb dX12_feed_109 (by decide) ?_
  refine lv_iadd hx hb dX12_feed_110 ?_
  refine lv_topi (fun x95 e96 => ?_)
  obtain rfl : x95 = 5 := e96.trans (by decide)
  refine va_put (D := G.1) (ci := 9) (v := .int 5) (ty := .int) (C := RX12) (T := TX12) (N := 134) hx hb hq pin_wsX120 tyX12 tyX12_ok nmX12 hown hE.1.1 hP hD hS 0 rfl rfl 2 (by decide) (by rw [tFX12_2]; exact hq _ pw_260) (fun _ h9 => h9) (by rw [tFX12_2]) (by rw [tFX12_2]; decide +kernel) rfl rfl (by rw [hn80]; decide) dX12_feed_111 (fun H locs hP hD hS => ?_)
  obtain ⟨fs97, e98⟩ : ∃ z : List Value, z = fs78.set 2 (.int 5) := ⟨_, rfl⟩
  have hn99 : fs97.length = 134 := by rw [e98, List.length_set]; exact hn80
  have hP : va_P G.1 pCl [(h0, .inr (9, fs97)), ((a 0), .inl (G.2.1 0, 5000, .inl f94))] H := by rw [e98]; exact hP
  have hD : va_D A [(h0, .inr (9, fs97)), ((a 0), .inl (G.2.1 0, 5000, .inl f94))] := by rw [e98]; exact hD
  refine lv_iinc (v := 5) (lv' := [(6, .int 5), (7, .int x2), (0, .ref h0), (1, .int x1), (2, .int x2), (3, .int x3), (4, .int x4), (5, .int x5)]) hx hb dX12_feed_114 hl (k := 1) rfl (by decide) (by decide) rfl (fun ls hl => ?_)
  refine lv_goto (tgt := 23) hx hb dX12_feed_117 (by decide) ?_
  refine lv_iload hx hb dX12_feed_23 (lv_at hl 0 rfl) ?_
  refine lv_bipush (v := 20) hx hb dX12_feed_25 (by decide) ?_
  refine lv_icmp_ge (tgt := 120) hx hb dX12_feed_27 (by decide) (fun c100 => absurd c100 (by decide)) (fun c100 => ?_)
  refine lv_iload hx hb dX12_feed_30 (lv_at hl 0 rfl) ?_
  refine lv_iconst (v := 4) hx hb dX12_feed_32 (by decide) ?_
  refine lv_icmp_ge (tgt := 40) hx hb dX12_feed_33 (by decide) (fun c101 => ?_) (fun c101 => absurd c101 (by decide))
  refine lv_iload hx hb dX12_feed_40 (lv_at hl 0 rfl) ?_
  refine lv_bipush (v := 8) hx hb dX12_feed_42 (by decide) ?_
  refine lv_icmp_ge (tgt := 51) hx hb dX12_feed_44 (by decide) (fun c102 => absurd c102 (by decide)) (fun c102 => ?_)
  refine lv_iload_n hx hb dX12_feed_47 rfl (lv_at hl 4 rfl) ?_
  refine lv_goto (tgt := 76) hx hb dX12_feed_48 (by decide) ?_
  refine lv_istore (lv' := [(7, .int x2), (6, .int 5), (0, .ref h0), (1, .int x1), (2, .int x2), (3, .int x3), (4, .int x4), (5, .int x5)]) hx hb dX12_feed_76 hl (by decide) rfl (fun ls hl => ?_)
  refine lv_aload_n hx hb dX12_feed_78 rfl (lv_at hl 2 rfl) ?_
  refine va_get (D := G.1) (ci := 9) (v := .ref (a 0)) (C := RX12) (T := TX12) (N := 134) hx hb hq pin_wsX120 hown hE.1.1 hP 0 rfl rfl 1 (by decide) (by rw [tFX12_1]; exact hq _ pw_178) (fun _ h9 => h9) (by rw [e98, List.getElem?_set_ne (by decide), e79, List.getElem?_set_ne (by decide), e61, List.getElem?_set_ne (by decide), e43, List.getElem?_set_ne (by decide), e25, List.getElem?_set_ne (by decide), e2, List.getElem?_set_ne (by decide), ef]; rfl) dX12_feed_79 ?_
  refine lv_aload_n hx hb dX12_feed_82 rfl (lv_at hl 2 rfl) ?_
  refine va_get (D := G.1) (ci := 9) (v := .int 5) (C := RX12) (T := TX12) (N := 134) hx hb hq pin_wsX120 hown hE.1.1 hP 0 rfl rfl 2 (by decide) (by rw [tFX12_2]; exact hq _ pw_260) (fun _ h9 => h9) (by rw [e98]; exact List.getElem?_set_self (by rw [hn80]; decide)) dX12_feed_83 ?_
  refine lv_iload hx hb dX12_feed_86 (lv_at hl 0 rfl) ?_
  refine lv_bipush (v := 24) hx hb dX12_feed_88 (by decide) ?_
  refine lv_bipush (v := 8) hx hb dX12_feed_90 (by decide) ?_
  refine lv_iload hx hb dX12_feed_92 (lv_at hl 1 rfl) ?_
  refine lv_iconst (v := 4) hx hb dX12_feed_94 (by decide) ?_
  refine lv_irem hx hb dX12_feed_95 (by decide) ?_
  refine lv_topi (fun x103 e104 => ?_)
  obtain rfl : x103 = 1 := e104.trans (by decide)
  refine lv_imul hx hb dX12_feed_96 ?_
  refine lv_topi (fun x105 e106 => ?_)
  obtain rfl : x105 = 8 := e106.trans (by decide)
  refine lv_isub hx hb dX12_feed_97 ?_
  refine lv_topi (fun x107 e108 => ?_)
  obtain rfl : x107 = 16 := e108.trans (by decide)
  refine lv_ishr hx hb dX12_feed_98 ?_
  refine lv_topi (fun x109 e110 => ?_)
  refine lv_sipush (v := 255) hx hb dX12_feed_99 (by decide) ?_
  refine lv_iand hx hb dX12_feed_102 ?_
  refine lv_topi (fun x111 e112 => ?_)
  refine va_iast hx hb hE.1.1 hP hD hS 1 0 rfl rfl (by unfold vp_in; decide) dX12_feed_103 (fun H locs hP hD hS => ?_)
  have hP : va_P G.1 pCl [(h0, .inr (9, fs97)), ((a 0), .inl (G.2.1 0, 5000, .inl (upd f94 (Int32.toNatClampNeg 5) x111)))] H := hP
  have hD : va_D A [(h0, .inr (9, fs97)), ((a 0), .inl (G.2.1 0, 5000, .inl (upd f94 (Int32.toNatClampNeg 5) x111)))] := hD
  generalize (upd f94 (Int32.toNatClampNeg 5) x111) = f113 at hP hD
  refine lv_aload_n hx hb dX12_feed_104 rfl (lv_at hl 2 rfl) ?_
  refine lv_dup hx hb dX12_feed_105 rfl ?_
  refine va_get (D := G.1) (ci := 9) (v := .int 5) (C := RX12) (T := TX12) (N := 134) hx hb hq pin_wsX120 hown hE.1.1 hP 0 rfl rfl 2 (by decide) (by rw [tFX12_2]; exact hq _ pw_260) (fun _ h9 => h9) (by rw [e98]; exact List.getElem?_set_self (by rw [hn80]; decide)) dX12_feed_106 ?_
  refine lv_iconst (v := 1) hx hb dX12_feed_109 (by decide) ?_
  refine lv_iadd hx hb dX12_feed_110 ?_
  refine lv_topi (fun x114 e115 => ?_)
  obtain rfl : x114 = 6 := e115.trans (by decide)
  refine va_put (D := G.1) (ci := 9) (v := .int 6) (ty := .int) (C := RX12) (T := TX12) (N := 134) hx hb hq pin_wsX120 tyX12 tyX12_ok nmX12 hown hE.1.1 hP hD hS 0 rfl rfl 2 (by decide) (by rw [tFX12_2]; exact hq _ pw_260) (fun _ h9 => h9) (by rw [tFX12_2]) (by rw [tFX12_2]; decide +kernel) rfl rfl (by rw [hn99]; decide) dX12_feed_111 (fun H locs hP hD hS => ?_)
  obtain ⟨fs116, e117⟩ : ∃ z : List Value, z = fs97.set 2 (.int 6) := ⟨_, rfl⟩
  have hn118 : fs116.length = 134 := by rw [e117, List.length_set]; exact hn99
  have hP : va_P G.1 pCl [(h0, .inr (9, fs116)), ((a 0), .inl (G.2.1 0, 5000, .inl f113))] H := by rw [e117]; exact hP
  have hD : va_D A [(h0, .inr (9, fs116)), ((a 0), .inl (G.2.1 0, 5000, .inl f113))] := by rw [e117]; exact hD
  refine lv_iinc (v := 6) (lv' := [(6, .int 6), (7, .int x2), (0, .ref h0), (1, .int x1), (2, .int x2), (3, .int x3), (4, .int x4), (5, .int x5)]) hx hb dX12_feed_114 hl (k := 1) rfl (by decide) (by decide) rfl (fun ls hl => ?_)
  refine lv_goto (tgt := 23) hx hb dX12_feed_117 (by decide) ?_
  refine lv_iload hx hb dX12_feed_23 (lv_at hl 0 rfl) ?_
  refine lv_bipush (v := 20) hx hb dX12_feed_25 (by decide) ?_
  refine lv_icmp_ge (tgt := 120) hx hb dX12_feed_27 (by decide) (fun c119 => absurd c119 (by decide)) (fun c119 => ?_)
  refine lv_iload hx hb dX12_feed_30 (lv_at hl 0 rfl) ?_
  refine lv_iconst (v := 4) hx hb dX12_feed_32 (by decide) ?_
  refine lv_icmp_ge (tgt := 40) hx hb dX12_feed_33 (by decide) (fun c120 => ?_) (fun c120 => absurd c120 (by decide))
  refine lv_iload hx hb dX12_feed_40 (lv_at hl 0 rfl) ?_
  refine lv_bipush (v := 8) hx hb dX12_feed_42 (by decide) ?_
  refine lv_icmp_ge (tgt := 51) hx hb dX12_feed_44 (by decide) (fun c121 => absurd c121 (by decide)) (fun c121 => ?_)
  refine lv_iload_n hx hb dX12_feed_47 rfl (lv_at hl 4 rfl) ?_
  refine lv_goto (tgt := 76) hx hb dX12_feed_48 (by decide) ?_
  refine lv_istore (lv' := [(7, .int x2), (6, .int 6), (0, .ref h0), (1, .int x1), (2, .int x2), (3, .int x3), (4, .int x4), (5, .int x5)]) hx hb dX12_feed_76 hl (by decide) rfl (fun ls hl => ?_)
  refine lv_aload_n hx hb dX12_feed_78 rfl (lv_at hl 2 rfl) ?_
  refine va_get (D := G.1) (ci := 9) (v := .ref (a 0)) (C := RX12) (T := TX12) (N := 134) hx hb hq pin_wsX120 hown hE.1.1 hP 0 rfl rfl 1 (by decide) (by rw [tFX12_1]; exact hq _ pw_178) (fun _ h9 => h9) (by rw [e117, List.getElem?_set_ne (by decide), e98, List.getElem?_set_ne (by decide), e79, List.getElem?_set_ne (by decide), e61, List.getElem?_set_ne (by decide), e43, List.getElem?_set_ne (by decide), e25, List.getElem?_set_ne (by decide), e2, List.getElem?_set_ne (by decide), ef]; rfl) dX12_feed_79 ?_
  refine lv_aload_n hx hb dX12_feed_82 rfl (lv_at hl 2 rfl) ?_
  refine va_get (D := G.1) (ci := 9) (v := .int 6) (C := RX12) (T := TX12) (N := 134) hx hb hq pin_wsX120 hown hE.1.1 hP 0 rfl rfl 2 (by decide) (by rw [tFX12_2]; exact hq _ pw_260) (fun _ h9 => h9) (by rw [e117]; exact List.getElem?_set_self (by rw [hn99]; decide)) dX12_feed_83 ?_
  refine lv_iload hx hb dX12_feed_86 (lv_at hl 0 rfl) ?_
  refine lv_bipush (v := 24) hx hb dX12_feed_88 (by decide) ?_
  refine lv_bipush (v := 8) hx hb dX12_feed_90 (by decide) ?_
  refine lv_iload hx hb dX12_feed_92 (lv_at hl 1 rfl) ?_
  refine lv_iconst (v := 4) hx hb dX12_feed_94 (by decide) ?_
  refine lv_irem hx hb dX12_feed_95 (by decide) ?_
  refine lv_topi (fun x122 e123 => ?_)
  obtain rfl : x122 = 2 := e123.trans (by decide)
  refine lv_imul hx hb dX12_feed_96 ?_
  refine lv_topi (fun x124 e125 => ?_)
  obtain rfl : x124 = 16 := e125.trans (by decide)
  refine lv_isub hx hb dX12_feed_97 ?_
  refine lv_topi (fun x126 e127 => ?_)
  obtain rfl : x126 = 8 := e127.trans (by decide)
  refine lv_ishr hx hb dX12_feed_98 ?_
  refine lv_topi (fun x128 e129 => ?_)
  refine lv_sipush (v := 255) hx hb dX12_feed_99 (by decide) ?_
  refine lv_iand hx hb dX12_feed_102 ?_
  refine lv_topi (fun x130 e131 => ?_)
  refine va_iast hx hb hE.1.1 hP hD hS 1 0 rfl rfl (by unfold vp_in; decide) dX12_feed_103 (fun H locs hP hD hS => ?_)
  have hP : va_P G.1 pCl [(h0, .inr (9, fs116)), ((a 0), .inl (G.2.1 0, 5000, .inl (upd f113 (Int32.toNatClampNeg 6) x130)))] H := hP
  have hD : va_D A [(h0, .inr (9, fs116)), ((a 0), .inl (G.2.1 0, 5000, .inl (upd f113 (Int32.toNatClampNeg 6) x130)))] := hD
  generalize (upd f113 (Int32.toNatClampNeg 6) x130) = f132 at hP hD
  refine lv_aload_n hx hb dX12_feed_104 rfl (lv_at hl 2 rfl) ?_
  refine lv_dup hx hb dX12_feed_105 rfl ?_
  refine va_get (D := G.1) (ci := 9) (v := .int 6) (C := RX12) (T := TX12) (N := 134) hx hb hq pin_wsX120 hown hE.1.1 hP 0 rfl rfl 2 (by decide) (by rw [tFX12_2]; exact hq _ pw_260) (fun _ h9 => h9) (by rw [e117]; exact List.getElem?_set_self (by rw [hn99]; decide)) dX12_feed_106 ?_
  refine lv_iconst (v := 1) hx hb dX12_feed_109 (by decide) ?_
  refine lv_iadd hx hb dX12_feed_110 ?_
  refine lv_topi (fun x133 e134 => ?_)
  obtain rfl : x133 = 7 := e134.trans (by decide)
  refine va_put (D := G.1) (ci := 9) (v := .int 7) (ty := .int) (C := RX12) (T := TX12) (N := 134) hx hb hq pin_wsX120 tyX12 tyX12_ok nmX12 hown hE.1.1 hP hD hS 0 rfl rfl 2 (by decide) (by rw [tFX12_2]; exact hq _ pw_260) (fun _ h9 => h9) (by rw [tFX12_2]) (by rw [tFX12_2]; decide +kernel) rfl rfl (by rw [hn118]; decide) dX12_feed_111 (fun H locs hP hD hS => ?_)
  obtain ⟨fs135, e136⟩ : ∃ z : List Value, z = fs116.set 2 (.int 7) := ⟨_, rfl⟩
  have hn137 : fs135.length = 134 := by rw [e136, List.length_set]; exact hn118
  have hP : va_P G.1 pCl [(h0, .inr (9, fs135)), ((a 0), .inl (G.2.1 0, 5000, .inl f132))] H := by rw [e136]; exact hP
  have hD : va_D A [(h0, .inr (9, fs135)), ((a 0), .inl (G.2.1 0, 5000, .inl f132))] := by rw [e136]; exact hD
  refine lv_iinc (v := 7) (lv' := [(6, .int 7), (7, .int x2), (0, .ref h0), (1, .int x1), (2, .int x2), (3, .int x3), (4, .int x4), (5, .int x5)]) hx hb dX12_feed_114 hl (k := 1) rfl (by decide) (by decide) rfl (fun ls hl => ?_)
  refine lv_goto (tgt := 23) hx hb dX12_feed_117 (by decide) ?_
  refine lv_iload hx hb dX12_feed_23 (lv_at hl 0 rfl) ?_
  refine lv_bipush (v := 20) hx hb dX12_feed_25 (by decide) ?_
  refine lv_icmp_ge (tgt := 120) hx hb dX12_feed_27 (by decide) (fun c138 => absurd c138 (by decide)) (fun c138 => ?_)
  refine lv_iload hx hb dX12_feed_30 (lv_at hl 0 rfl) ?_
  refine lv_iconst (v := 4) hx hb dX12_feed_32 (by decide) ?_
  refine lv_icmp_ge (tgt := 40) hx hb dX12_feed_33 (by decide) (fun c139 => ?_) (fun c139 => absurd c139 (by decide))
  refine lv_iload hx hb dX12_feed_40 (lv_at hl 0 rfl) ?_
  refine lv_bipush (v := 8) hx hb dX12_feed_42 (by decide) ?_
  refine lv_icmp_ge (tgt := 51) hx hb dX12_feed_44 (by decide) (fun c140 => absurd c140 (by decide)) (fun c140 => ?_)
  refine lv_iload_n hx hb dX12_feed_47 rfl (lv_at hl 4 rfl) ?_
  refine lv_goto (tgt := 76) hx hb dX12_feed_48 (by decide) ?_
  refine lv_istore (lv' := [(7, .int x2), (6, .int 7), (0, .ref h0), (1, .int x1), (2, .int x2), (3, .int x3), (4, .int x4), (5, .int x5)]) hx hb dX12_feed_76 hl (by decide) rfl (fun ls hl => ?_)
  refine lv_aload_n hx hb dX12_feed_78 rfl (lv_at hl 2 rfl) ?_
  refine va_get (D := G.1) (ci := 9) (v := .ref (a 0)) (C := RX12) (T := TX12) (N := 134) hx hb hq pin_wsX120 hown hE.1.1 hP 0 rfl rfl 1 (by decide) (by rw [tFX12_1]; exact hq _ pw_178) (fun _ h9 => h9) (by rw [e136, List.getElem?_set_ne (by decide), e117, List.getElem?_set_ne (by decide), e98, List.getElem?_set_ne (by decide), e79, List.getElem?_set_ne (by decide), e61, List.getElem?_set_ne (by decide), e43, List.getElem?_set_ne (by decide), e25, List.getElem?_set_ne (by decide), e2, List.getElem?_set_ne (by decide), ef]; rfl) dX12_feed_79 ?_
  refine lv_aload_n hx hb dX12_feed_82 rfl (lv_at hl 2 rfl) ?_
  refine va_get (D := G.1) (ci := 9) (v := .int 7) (C := RX12) (T := TX12) (N := 134) hx hb hq pin_wsX120 hown hE.1.1 hP 0 rfl rfl 2 (by decide) (by rw [tFX12_2]; exact hq _ pw_260) (fun _ h9 => h9) (by rw [e136]; exact List.getElem?_set_self (by rw [hn118]; decide)) dX12_feed_83 ?_
  refine lv_iload hx hb dX12_feed_86 (lv_at hl 0 rfl) ?_
  refine lv_bipush (v := 24) hx hb dX12_feed_88 (by decide) ?_
  refine lv_bipush (v := 8) hx hb dX12_feed_90 (by decide) ?_
  refine lv_iload hx hb dX12_feed_92 (lv_at hl 1 rfl) ?_
  refine lv_iconst (v := 4) hx hb dX12_feed_94 (by decide) ?_
  refine lv_irem hx hb dX12_feed_95 (by decide) ?_
  refine lv_topi (fun x141 e142 => ?_)
  obtain rfl : x141 = 3 := e142.trans (by decide)
  refine lv_imul hx hb dX12_feed_96 ?_
  refine lv_topi (fun x143 e144 => ?_)
  obtain rfl : x143 = 24 := e144.trans (by decide)
  refine lv_isub hx hb dX12_feed_97 ?_
  refine lv_topi (fun x145 e146 => ?_)
  obtain rfl : x145 = 0 := e146.trans (by decide)
  refine lv_ishr hx hb dX12_feed_98 ?_
  refine lv_topi (fun x147 e148 => ?_)
  refine lv_sipush (v := 255) hx hb dX12_feed_99 (by decide) ?_
  refine lv_iand hx hb dX12_feed_102 ?_
  refine lv_topi (fun x149 e150 => ?_)
  refine va_iast hx hb hE.1.1 hP hD hS 1 0 rfl rfl (by unfold vp_in; decide) dX12_feed_103 (fun H locs hP hD hS => ?_)
  have hP : va_P G.1 pCl [(h0, .inr (9, fs135)), ((a 0), .inl (G.2.1 0, 5000, .inl (upd f132 (Int32.toNatClampNeg 7) x149)))] H := hP
  have hD : va_D A [(h0, .inr (9, fs135)), ((a 0), .inl (G.2.1 0, 5000, .inl (upd f132 (Int32.toNatClampNeg 7) x149)))] := hD
  generalize (upd f132 (Int32.toNatClampNeg 7) x149) = f151 at hP hD
  refine lv_aload_n hx hb dX12_feed_104 rfl (lv_at hl 2 rfl) ?_
  refine lv_dup hx hb dX12_feed_105 rfl ?_
  refine va_get (D := G.1) (ci := 9) (v := .int 7) (C := RX12) (T := TX12) (N := 134) hx hb hq pin_wsX120 hown hE.1.1 hP 0 rfl rfl 2 (by decide) (by rw [tFX12_2]; exact hq _ pw_260) (fun _ h9 => h9) (by rw [e136]; exact List.getElem?_set_self (by rw [hn118]; decide)) dX12_feed_106 ?_
  refine lv_iconst (v := 1) hx hb dX12_feed_109 (by decide) ?_
  refine lv_iadd hx hb dX12_feed_110 ?_
  refine lv_topi (fun x152 e153 => ?_)
  obtain rfl : x152 = 8 := e153.trans (by decide)
  refine va_put (D := G.1) (ci := 9) (v := .int 8) (ty := .int) (C := RX12) (T := TX12) (N := 134) hx hb hq pin_wsX120 tyX12 tyX12_ok nmX12 hown hE.1.1 hP hD hS 0 rfl rfl 2 (by decide) (by rw [tFX12_2]; exact hq _ pw_260) (fun _ h9 => h9) (by rw [tFX12_2]) (by rw [tFX12_2]; decide +kernel) rfl rfl (by rw [hn137]; decide) dX12_feed_111 (fun H locs hP hD hS => ?_)
  obtain ⟨fs154, e155⟩ : ∃ z : List Value, z = fs135.set 2 (.int 8) := ⟨_, rfl⟩
  have hn156 : fs154.length = 134 := by rw [e155, List.length_set]; exact hn137
  have hP : va_P G.1 pCl [(h0, .inr (9, fs154)), ((a 0), .inl (G.2.1 0, 5000, .inl f151))] H := by rw [e155]; exact hP
  have hD : va_D A [(h0, .inr (9, fs154)), ((a 0), .inl (G.2.1 0, 5000, .inl f151))] := by rw [e155]; exact hD
  refine lv_iinc (v := 8) (lv' := [(6, .int 8), (7, .int x2), (0, .ref h0), (1, .int x1), (2, .int x2), (3, .int x3), (4, .int x4), (5, .int x5)]) hx hb dX12_feed_114 hl (k := 1) rfl (by decide) (by decide) rfl (fun ls hl => ?_)
  refine lv_goto (tgt := 23) hx hb dX12_feed_117 (by decide) ?_
  refine lv_iload hx hb dX12_feed_23 (lv_at hl 0 rfl) ?_
  refine lv_bipush (v := 20) hx hb dX12_feed_25 (by decide) ?_
  refine lv_icmp_ge (tgt := 120) hx hb dX12_feed_27 (by decide) (fun c157 => absurd c157 (by decide)) (fun c157 => ?_)
  refine lv_iload hx hb dX12_feed_30 (lv_at hl 0 rfl) ?_
  refine lv_iconst (v := 4) hx hb dX12_feed_32 (by decide) ?_
  refine lv_icmp_ge (tgt := 40) hx hb dX12_feed_33 (by decide) (fun c158 => ?_) (fun c158 => absurd c158 (by decide))
  refine lv_iload hx hb dX12_feed_40 (lv_at hl 0 rfl) ?_
  refine lv_bipush (v := 8) hx hb dX12_feed_42 (by decide) ?_
  refine lv_icmp_ge (tgt := 51) hx hb dX12_feed_44 (by decide) (fun c159 => ?_) (fun c159 => absurd c159 (by decide))
  refine lv_iload hx hb dX12_feed_51 (lv_at hl 0 rfl) ?_
  refine lv_bipush (v := 12) hx hb dX12_feed_53 (by decide) ?_
  refine lv_icmp_ge (tgt := 62) hx hb dX12_feed_55 (by decide) (fun c160 => absurd c160 (by decide)) (fun c160 => ?_)
  refine lv_iload_n hx hb dX12_feed_58 rfl (lv_at hl 5 rfl) ?_
  refine lv_goto (tgt := 76) hx hb dX12_feed_59 (by decide) ?_
  refine lv_istore (lv' := [(7, .int x3), (6, .int 8), (0, .ref h0), (1, .int x1), (2, .int x2), (3, .int x3), (4, .int x4), (5, .int x5)]) hx hb dX12_feed_76 hl (by decide) rfl (fun ls hl => ?_)
  refine lv_aload_n hx hb dX12_feed_78 rfl (lv_at hl 2 rfl) ?_
  refine va_get (D := G.1) (ci := 9) (v := .ref (a 0)) (C := RX12) (T := TX12) (N := 134) hx hb hq pin_wsX120 hown hE.1.1 hP 0 rfl rfl 1 (by decide) (by rw [tFX12_1]; exact hq _ pw_178) (fun _ h9 => h9) (by rw [e155, List.getElem?_set_ne (by decide), e136, List.getElem?_set_ne (by decide), e117, List.getElem?_set_ne (by decide), e98, List.getElem?_set_ne (by decide), e79, List.getElem?_set_ne (by decide), e61, List.getElem?_set_ne (by decide), e43, List.getElem?_set_ne (by decide), e25, List.getElem?_set_ne (by decide), e2, List.getElem?_set_ne (by decide), ef]; rfl) dX12_feed_79 ?_
  refine lv_aload_n hx hb dX12_feed_82 rfl (lv_at hl 2 rfl) ?_
  refine va_get (D := G.1) (ci := 9) (v := .int 8) (C := RX12) (T := TX12) (N := 134) hx hb hq pin_wsX120 hown hE.1.1 hP 0 rfl rfl 2 (by decide) (by rw [tFX12_2]; exact hq _ pw_260) (fun _ h9 => h9) (by rw [e155]; exact List.getElem?_set_self (by rw [hn137]; decide)) dX12_feed_83 ?_
  refine lv_iload hx hb dX12_feed_86 (lv_at hl 0 rfl) ?_
  refine lv_bipush (v := 24) hx hb dX12_feed_88 (by decide) ?_
  refine lv_bipush (v := 8) hx hb dX12_feed_90 (by decide) ?_
  refine lv_iload hx hb dX12_feed_92 (lv_at hl 1 rfl) ?_
  refine lv_iconst (v := 4) hx hb dX12_feed_94 (by decide) ?_
  refine lv_irem hx hb dX12_feed_95 (by decide) ?_
  refine lv_topi (fun x161 e162 => ?_)
  obtain rfl : x161 = 0 := e162.trans (by decide)
  refine lv_imul hx hb dX12_feed_96 ?_
  refine lv_topi (fun x163 e164 => ?_)
  obtain rfl : x163 = 0 := e164.trans (by decide)
  refine lv_isub hx hb dX12_feed_97 ?_
  refine lv_topi (fun x165 e166 => ?_)
  obtain rfl : x165 = 24 := e166.trans (by decide)
  refine lv_ishr hx hb dX12_feed_98 ?_
  refine lv_topi (fun x167 e168 => ?_)
  refine lv_sipush (v := 255) hx hb dX12_feed_99 (by decide) ?_
  refine lv_iand hx hb dX12_feed_102 ?_
  refine lv_topi (fun x169 e170 => ?_)
  refine va_iast hx hb hE.1.1 hP hD hS 1 0 rfl rfl (by unfold vp_in; decide) dX12_feed_103 (fun H locs hP hD hS => ?_)
  have hP : va_P G.1 pCl [(h0, .inr (9, fs154)), ((a 0), .inl (G.2.1 0, 5000, .inl (upd f151 (Int32.toNatClampNeg 8) x169)))] H := hP
  have hD : va_D A [(h0, .inr (9, fs154)), ((a 0), .inl (G.2.1 0, 5000, .inl (upd f151 (Int32.toNatClampNeg 8) x169)))] := hD
  generalize (upd f151 (Int32.toNatClampNeg 8) x169) = f171 at hP hD
  refine lv_aload_n hx hb dX12_feed_104 rfl (lv_at hl 2 rfl) ?_
  refine lv_dup hx hb dX12_feed_105 rfl ?_
  refine va_get (D := G.1) (ci := 9) (v := .int 8) (C := RX12) (T := TX12) (N := 134) hx hb hq pin_wsX120 hown hE.1.1 hP 0 rfl rfl 2 (by decide) (by rw [tFX12_2]; exact hq _ pw_260) (fun _ h9 => h9) (by rw [e155]; exact List.getElem?_set_self (by rw [hn137]; decide)) dX12_feed_106 ?_
  refine lv_iconst (v := 1) hx hb dX12_feed_109 (by decide) ?_
  refine lv_iadd hx hb dX12_feed_110 ?_
  refine lv_topi (fun x172 e173 => ?_)
  obtain rfl : x172 = 9 := e173.trans (by decide)
  refine va_put (D := G.1) (ci := 9) (v := .int 9) (ty := .int) (C := RX12) (T := TX12) (N := 134) hx hb hq pin_wsX120 tyX12 tyX12_ok nmX12 hown hE.1.1 hP hD hS 0 rfl rfl 2 (by decide) (by rw [tFX12_2]; exact hq _ pw_260) (fun _ h9 => h9) (by rw [tFX12_2]) (by rw [tFX12_2]; decide +kernel) rfl rfl (by rw [hn156]; decide) dX12_feed_111 (fun H locs hP hD hS => ?_)
  obtain ⟨fs174, e175⟩ : ∃ z : List Value, z = fs154.set 2 (.int 9) := ⟨_, rfl⟩
  have hn176 : fs174.length = 134 := by rw [e175, List.length_set]; exact hn156
  have hP : va_P G.1 pCl [(h0, .inr (9, fs174)), ((a 0), .inl (G.2.1 0, 5000, .inl f171))] H := by rw [e175]; exact hP
  have hD : va_D A [(h0, .inr (9, fs174)), ((a 0), .inl (G.2.1 0, 5000, .inl f171))] := by rw [e175]; exact hD
  refine lv_iinc (v := 9) (lv' := [(6, .int 9), (7, .int x3), (0, .ref h0), (1, .int x1), (2, .int x2), (3, .int x3), (4, .int x4), (5, .int x5)]) hx hb dX12_feed_114 hl (k := 1) rfl (by decide) (by decide) rfl (fun ls hl => ?_)
  refine lv_goto (tgt := 23) hx hb dX12_feed_117 (by decide) ?_
  refine lv_iload hx hb dX12_feed_23 (lv_at hl 0 rfl) ?_
  refine lv_bipush (v := 20) hx hb dX12_feed_25 (by decide) ?_
  refine lv_icmp_ge (tgt := 120) hx hb dX12_feed_27 (by decide) (fun c177 => absurd c177 (by decide)) (fun c177 => ?_)
  refine lv_iload hx hb dX12_feed_30 (lv_at hl 0 rfl) ?_
  refine lv_iconst (v := 4) hx hb dX12_feed_32 (by decide) ?_
  refine lv_icmp_ge (tgt := 40) hx hb dX12_feed_33 (by decide) (fun c178 => ?_) (fun c178 => absurd c178 (by decide))
  refine lv_iload hx hb dX12_feed_40 (lv_at hl 0 rfl) ?_
  refine lv_bipush (v := 8) hx hb dX12_feed_42 (by decide) ?_
  refine lv_icmp_ge (tgt := 51) hx hb dX12_feed_44 (by decide) (fun c179 => ?_) (fun c179 => absurd c179 (by decide))
  refine lv_iload hx hb dX12_feed_51 (lv_at hl 0 rfl) ?_
  refine lv_bipush (v := 12) hx hb dX12_feed_53 (by decide) ?_
  refine lv_icmp_ge (tgt := 62) hx hb dX12_feed_55 (by decide) (fun c180 => absurd c180 (by decide)) (fun c180 => ?_)
  refine lv_iload_n hx hb dX12_feed_58 rfl (lv_at hl 5 rfl) ?_
  refine lv_goto (tgt := 76) hx hb dX12_feed_59 (by decide) ?_
  refine lv_istore (lv' := [(7, .int x3), (6, .int 9), (0, .ref h0), (1, .int x1), (2, .int x2), (3, .int x3), (4, .int x4), (5, .int x5)]) hx hb dX12_feed_76 hl (by decide) rfl (fun ls hl => ?_)
  refine lv_aload_n hx hb dX12_feed_78 rfl (lv_at hl 2 rfl) ?_
  refine va_get (D := G.1) (ci := 9) (v := .ref (a 0)) (C := RX12) (T := TX12) (N := 134) hx hb hq pin_wsX120 hown hE.1.1 hP 0 rfl rfl 1 (by decide) (by rw [tFX12_1]; exact hq _ pw_178) (fun _ h9 => h9) (by rw [e175, List.getElem?_set_ne (by decide), e155, List.getElem?_set_ne (by decide), e136, List.getElem?_set_ne (by decide), e117, List.getElem?_set_ne (by decide), e98, List.getElem?_set_ne (by decide), e79, List.getElem?_set_ne (by decide), e61, List.getElem?_set_ne (by decide), e43, List.getElem?_set_ne (by decide), e25, List.getElem?_set_ne (by decide), e2, List.getElem?_set_ne (by decide), ef]; rfl) dX12_feed_79 ?_
  refine lv_aload_n hx hb dX12_feed_82 rfl (lv_at hl 2 rfl) ?_
  refine va_get (D := G.1) (ci := 9) (v := .int 9) (C := RX12) (T := TX12) (N := 134) hx hb hq pin_wsX120 hown hE.1.1 hP 0 rfl rfl 2 (by decide) (by rw [tFX12_2]; exact hq _ pw_260) (fun _ h9 => h9) (by rw [e175]; exact List.getElem?_set_self (by rw [hn156]; decide)) dX12_feed_83 ?_
  refine lv_iload hx hb dX12_feed_86 (lv_at hl 0 rfl) ?_
  refine lv_bipush (v := 24) hx hb dX12_feed_88 (by decide) ?_
  refine lv_bipush (v := 8) hx hb dX12_feed_90 (by decide) ?_
  refine lv_iload hx hb dX12_feed_92 (lv_at hl 1 rfl) ?_
  refine lv_iconst (v := 4) hx hb dX12_feed_94 (by decide) ?_
  refine lv_irem hx hb dX12_feed_95 (by decide) ?_
  refine lv_topi (fun x181 e182 => ?_)
  obtain rfl : x181 = 1 := e182.trans (by decide)
  refine lv_imul hx hb dX12_feed_96 ?_
  refine lv_topi (fun x183 e184 => ?_)
  obtain rfl : x183 = 8 := e184.trans (by decide)
  refine lv_isub hx hb dX12_feed_97 ?_
  refine lv_topi (fun x185 e186 => ?_)
  obtain rfl : x185 = 16 := e186.trans (by decide)
  refine lv_ishr hx hb dX12_feed_98 ?_
  refine lv_topi (fun x187 e188 => ?_)
  refine lv_sipush (v := 255) hx hb dX12_feed_99 (by decide) ?_
  refine lv_iand hx hb dX12_feed_102 ?_
  refine lv_topi (fun x189 e190 => ?_)
  refine va_iast hx hb hE.1.1 hP hD hS 1 0 rfl rfl (by unfold vp_in; decide) dX12_feed_103 (fun H locs hP hD hS => ?_)
  have hP : va_P G.1 pCl [(h0, .inr (9, fs174)), ((a 0), .inl (G.2.1 0, 5000, .inl (upd f171 (Int32.toNatClampNeg 9) x189)))] H := hP
  have hD : va_D A [(h0, .inr (9, fs174)), ((a 0), .inl (G.2.1 0, 5000, .inl (upd f171 (Int32.toNatClampNeg 9) x189)))] := hD
  generalize (upd f171 (Int32.toNatClampNeg 9) x189) = f191 at hP hD
  refine lv_aload_n hx hb dX12_feed_104 rfl (lv_at hl 2 rfl) ?_
  refine lv_dup hx hb dX12_feed_105 rfl ?_
  refine va_get (D := G.1) (ci := 9) (v := .int 9) (C := RX12) (T := TX12) (N := 134) hx hb hq pin_wsX120 hown hE.1.1 hP 0 rfl rfl 2 (by decide) (by rw [tFX12_2]; exact hq _ pw_260) (fun _ h9 => h9) (by rw [e175]; exact List.getElem?_set_self (by rw [hn156]; decide)) dX12_feed_106 ?_
  refine lv_iconst (v := 1) hx hb dX12_feed_109 (by decide) ?_
  refine lv_iadd hx hb dX12_feed_110 ?_
  refine lv_topi (fun x192 e193 => ?_)
  obtain rfl : x192 = 10 := e193.trans (by decide)
  refine va_put (D := G.1) (ci := 9) (v := .int 10) (ty := .int) (C := RX12) (T := TX12) (N := 134) hx hb hq pin_wsX120 tyX12 tyX12_ok nmX12 hown hE.1.1 hP hD hS 0 rfl rfl 2 (by decide) (by rw [tFX12_2]; exact hq _ pw_260) (fun _ h9 => h9) (by rw [tFX12_2]) (by rw [tFX12_2]; decide +kernel) rfl rfl (by rw [hn176]; decide) dX12_feed_111 (fun H locs hP hD hS => ?_)
  obtain ⟨fs194, e195⟩ : ∃ z : List Value, z = fs174.set 2 (.int 10) := ⟨_, rfl⟩
  have hn196 : fs194.length = 134 := by rw [e195, List.length_set]; exact hn176
  have hP : va_P G.1 pCl [(h0, .inr (9, fs194)), ((a 0), .inl (G.2.1 0, 5000, .inl f191))] H := by rw [e195]; exact hP
  have hD : va_D A [(h0, .inr (9, fs194)), ((a 0), .inl (G.2.1 0, 5000, .inl f191))] := by rw [e195]; exact hD
  refine lv_iinc (v := 10) (lv' := [(6, .int 10), (7, .int x3), (0, .ref h0), (1, .int x1), (2, .int x2), (3, .int x3), (4, .int x4), (5, .int x5)]) hx hb dX12_feed_114 hl (k := 1) rfl (by decide) (by decide) rfl (fun ls hl => ?_)
  refine lv_goto (tgt := 23) hx hb dX12_feed_117 (by decide) ?_
  refine lv_iload hx hb dX12_feed_23 (lv_at hl 0 rfl) ?_
  refine lv_bipush (v := 20) hx hb dX12_feed_25 (by decide) ?_
  refine lv_icmp_ge (tgt := 120) hx hb dX12_feed_27 (by decide) (fun c197 => absurd c197 (by decide)) (fun c197 => ?_)
  refine lv_iload hx hb dX12_feed_30 (lv_at hl 0 rfl) ?_
  refine lv_iconst (v := 4) hx hb dX12_feed_32 (by decide) ?_
  refine lv_icmp_ge (tgt := 40) hx hb dX12_feed_33 (by decide) (fun c198 => ?_) (fun c198 => absurd c198 (by decide))
  refine lv_iload hx hb dX12_feed_40 (lv_at hl 0 rfl) ?_
  refine lv_bipush (v := 8) hx hb dX12_feed_42 (by decide) ?_
  refine lv_icmp_ge (tgt := 51) hx hb dX12_feed_44 (by decide) (fun c199 => ?_) (fun c199 => absurd c199 (by decide))
  refine lv_iload hx hb dX12_feed_51 (lv_at hl 0 rfl) ?_
  refine lv_bipush (v := 12) hx hb dX12_feed_53 (by decide) ?_
  refine lv_icmp_ge (tgt := 62) hx hb dX12_feed_55 (by decide) (fun c200 => absurd c200 (by decide)) (fun c200 => ?_)
  refine lv_iload_n hx hb dX12_feed_58 rfl (lv_at hl 5 rfl) ?_
  refine lv_goto (tgt := 76) hx hb dX12_feed_59 (by decide) ?_
  refine lv_istore (lv' := [(7, .int x3), (6, .int 10), (0, .ref h0), (1, .int x1), (2, .int x2), (3, .int x3), (4, .int x4), (5, .int x5)]) hx hb dX12_feed_76 hl (by decide) rfl (fun ls hl => ?_)
  refine lv_aload_n hx hb dX12_feed_78 rfl (lv_at hl 2 rfl) ?_
  refine va_get (D := G.1) (ci := 9) (v := .ref (a 0)) (C := RX12) (T := TX12) (N := 134) hx hb hq pin_wsX120 hown hE.1.1 hP 0 rfl rfl 1 (by decide) (by rw [tFX12_1]; exact hq _ pw_178) (fun _ h9 => h9) (by rw [e195, List.getElem?_set_ne (by decide), e175, List.getElem?_set_ne (by decide), e155, List.getElem?_set_ne (by decide), e136, List.getElem?_set_ne (by decide), e117, List.getElem?_set_ne (by decide), e98, List.getElem?_set_ne (by decide), e79, List.getElem?_set_ne (by decide), e61, List.getElem?_set_ne (by decide), e43, List.getElem?_set_ne (by decide), e25, List.getElem?_set_ne (by decide), e2, List.getElem?_set_ne (by decide), ef]; rfl) dX12_feed_79 ?_
  refine lv_aload_n hx hb dX12_feed_82 rfl (lv_at hl 2 rfl) ?_
  refine va_get (D := G.1) (ci := 9) (v := .int 10) (C := RX12) (T := TX12) (N := 134) hx hb hq pin_wsX120 hown hE.1.1 hP 0 rfl rfl 2 (by decide) (by rw [tFX12_2]; exact hq _ pw_260) (fun _ h9 => h9) (by rw [e195]; exact List.getElem?_set_self (by rw [hn176]; decide)) dX12_feed_83 ?_
  refine lv_iload hx hb dX12_feed_86 (lv_at hl 0 rfl) ?_
  refine lv_bipush (v := 24) hx hb dX12_feed_88 (by decide) ?_
  refine lv_bipush (v := 8) hx hb dX12_feed_90 (by decide) ?_
  refine lv_iload hx hb dX12_feed_92 (lv_at hl 1 rfl) ?_
  refine lv_iconst (v := 4) hx hb dX12_feed_94 (by decide) ?_
  refine lv_irem hx hb dX12_feed_95 (by decide) ?_
  refine lv_topi (fun x201 e202 => ?_)
  obtain rfl : x201 = 2 := e202.trans (by decide)
  refine lv_imul hx hb dX12_feed_96 ?_
  refine lv_topi (fun x203 e204 => ?_)
  obtain rfl : x203 = 16 := e204.trans (by decide)
  refine lv_isub hx hb dX12_feed_97 ?_
  refine lv_topi (fun x205 e206 => ?_)
  obtain rfl : x205 = 8 := e206.trans (by decide)
  refine lv_ishr hx hb dX12_feed_98 ?_
  refine lv_topi (fun x207 e208 => ?_)
  refine lv_sipush (v := 255) hx hb dX12_feed_99 (by decide) ?_
  refine lv_iand hx hb dX12_feed_102 ?_
  refine lv_topi (fun x209 e210 => ?_)
  refine va_iast hx hb hE.1.1 hP hD hS 1 0 rfl rfl (by unfold vp_in; decide) dX12_feed_103 (fun H locs hP hD hS => ?_)
  have hP : va_P G.1 pCl [(h0, .inr (9, fs194)), ((a 0), .inl (G.2.1 0, 5000, .inl (upd f191 (Int32.toNatClampNeg 10) x209)))] H := hP
  have hD : va_D A [(h0, .inr (9, fs194)), ((a 0), .inl (G.2.1 0, 5000, .inl (upd f191 (Int32.toNatClampNeg 10) x209)))] := hD
  generalize (upd f191 (Int32.toNatClampNeg 10) x209) = f211 at hP hD
  refine lv_aload_n hx hb dX12_feed_104 rfl (lv_at hl 2 rfl) ?_
  refine lv_dup hx hb dX12_feed_105 rfl ?_
  refine va_get (D := G.1) (ci := 9) (v := .int 10) (C := RX12) (T := TX12) (N := 134) hx hb hq pin_wsX120 hown hE.1.1 hP 0 rfl rfl 2 (by decide) (by rw [tFX12_2]; exact hq _ pw_260) (fun _ h9 => h9) (by rw [e195]; exact List.getElem?_set_self (by rw [hn176]; decide)) dX12_feed_106 ?_
  refine lv_iconst (v := 1) hx hb dX12_feed_109 (by decide) ?_
  refine lv_iadd hx hb dX12_feed_110 ?_
  refine lv_topi (fun x212 e213 => ?_)
  obtain rfl : x212 = 11 := e213.trans (by decide)
  refine va_put (D := G.1) (ci := 9) (v := .int 11) (ty := .int) (C := RX12) (T := TX12) (N := 134) hx hb hq pin_wsX120 tyX12 tyX12_ok nmX12 hown hE.1.1 hP hD hS 0 rfl rfl 2 (by decide) (by rw [tFX12_2]; exact hq _ pw_260) (fun _ h9 => h9) (by rw [tFX12_2]) (by rw [tFX12_2]; decide +kernel) rfl rfl (by rw [hn196]; decide) dX12_feed_111 (fun H locs hP hD hS => ?_)
  obtain ⟨fs214, e215⟩ : ∃ z : List Value, z = fs194.set 2 (.int 11) := ⟨_, rfl⟩
  have hn216 : fs214.length = 134 := by rw [e215, List.length_set]; exact hn196
  have hP : va_P G.1 pCl [(h0, .inr (9, fs214)), ((a 0), .inl (G.2.1 0, 5000, .inl f211))] H := by rw [e215]; exact hP
  have hD : va_D A [(h0, .inr (9, fs214)), ((a 0), .inl (G.2.1 0, 5000, .inl f211))] := by rw [e215]; exact hD
  refine lv_iinc (v := 11) (lv' := [(6, .int 11), (7, .int x3), (0, .ref h0), (1, .int x1), (2, .int x2), (3, .int x3), (4, .int x4), (5, .int x5)]) hx hb dX12_feed_114 hl (k := 1) rfl (by decide) (by decide) rfl (fun ls hl => ?_)
  refine lv_goto (tgt := 23) hx hb dX12_feed_117 (by decide) ?_
  refine lv_iload hx hb dX12_feed_23 (lv_at hl 0 rfl) ?_
  refine lv_bipush (v := 20) hx hb dX12_feed_25 (by decide) ?_
  refine lv_icmp_ge (tgt := 120) hx hb dX12_feed_27 (by decide) (fun c217 => absurd c217 (by decide)) (fun c217 => ?_)
  refine lv_iload hx hb dX12_feed_30 (lv_at hl 0 rfl) ?_
  refine lv_iconst (v := 4) hx hb dX12_feed_32 (by decide) ?_
  refine lv_icmp_ge (tgt := 40) hx hb dX12_feed_33 (by decide) (fun c218 => ?_) (fun c218 => absurd c218 (by decide))
  refine lv_iload hx hb dX12_feed_40 (lv_at hl 0 rfl) ?_
  refine lv_bipush (v := 8) hx hb dX12_feed_42 (by decide) ?_
  refine lv_icmp_ge (tgt := 51) hx hb dX12_feed_44 (by decide) (fun c219 => ?_) (fun c219 => absurd c219 (by decide))
  refine lv_iload hx hb dX12_feed_51 (lv_at hl 0 rfl) ?_
  refine lv_bipush (v := 12) hx hb dX12_feed_53 (by decide) ?_
  refine lv_icmp_ge (tgt := 62) hx hb dX12_feed_55 (by decide) (fun c220 => absurd c220 (by decide)) (fun c220 => ?_)
  refine lv_iload_n hx hb dX12_feed_58 rfl (lv_at hl 5 rfl) ?_
  refine lv_goto (tgt := 76) hx hb dX12_feed_59 (by decide) ?_
  refine lv_istore (lv' := [(7, .int x3), (6, .int 11), (0, .ref h0), (1, .int x1), (2, .int x2), (3, .int x3), (4, .int x4), (5, .int x5)]) hx hb dX12_feed_76 hl (by decide) rfl (fun ls hl => ?_)
  refine lv_aload_n hx hb dX12_feed_78 rfl (lv_at hl 2 rfl) ?_
  refine va_get (D := G.1) (ci := 9) (v := .ref (a 0)) (C := RX12) (T := TX12) (N := 134) hx hb hq pin_wsX120 hown hE.1.1 hP 0 rfl rfl 1 (by decide) (by rw [tFX12_1]; exact hq _ pw_178) (fun _ h9 => h9) (by rw [e215, List.getElem?_set_ne (by decide), e195, List.getElem?_set_ne (by decide), e175, List.getElem?_set_ne (by decide), e155, List.getElem?_set_ne (by decide), e136, List.getElem?_set_ne (by decide), e117, List.getElem?_set_ne (by decide), e98, List.getElem?_set_ne (by decide), e79, List.getElem?_set_ne (by decide), e61, List.getElem?_set_ne (by decide), e43, List.getElem?_set_ne (by decide), e25, List.getElem?_set_ne (by decide), e2, List.getElem?_set_ne (by decide), ef]; rfl) dX12_feed_79 ?_
  refine lv_aload_n hx hb dX12_feed_82 rfl (lv_at hl 2 rfl) ?_
  refine va_get (D := G.1) (ci := 9) (v := .int 11) (C := RX12) (T := TX12) (N := 134) hx hb hq pin_wsX120 hown hE.1.1 hP 0 rfl rfl 2 (by decide) (by rw [tFX12_2]; exact hq _ pw_260) (fun _ h9 => h9) (by rw [e215]; exact List.getElem?_set_self (by rw [hn196]; decide)) dX12_feed_83 ?_
  refine lv_iload hx hb dX12_feed_86 (lv_at hl 0 rfl) ?_
  refine lv_bipush (v := 24) hx hb dX12_feed_88 (by decide) ?_
  refine lv_bipush (v := 8) hx hb dX12_feed_90 (by decide) ?_
  refine lv_iload hx hb dX12_feed_92 (lv_at hl 1 rfl) ?_
  refine lv_iconst (v := 4) hx hb dX12_feed_94 (by decide) ?_
  refine lv_irem hx hb dX12_feed_95 (by decide) ?_
  refine lv_topi (fun x221 e222 => ?_)
  obtain rfl : x221 = 3 := e222.trans (by decide)
  refine lv_imul hx hb dX12_feed_96 ?_
  refine lv_topi (fun x223 e224 => ?_)
  obtain rfl : x223 = 24 := e224.trans (by decide)
  refine lv_isub hx hb dX12_feed_97 ?_
  refine lv_topi (fun x225 e226 => ?_)
  obtain rfl : x225 = 0 := e226.trans (by decide)
  refine lv_ishr hx hb dX12_feed_98 ?_
  refine lv_topi (fun x227 e228 => ?_)
  refine lv_sipush (v := 255) hx hb dX12_feed_99 (by decide) ?_
  refine lv_iand hx hb dX12_feed_102 ?_
  refine lv_topi (fun x229 e230 => ?_)
  refine va_iast hx hb hE.1.1 hP hD hS 1 0 rfl rfl (by unfold vp_in; decide) dX12_feed_103 (fun H locs hP hD hS => ?_)
  have hP : va_P G.1 pCl [(h0, .inr (9, fs214)), ((a 0), .inl (G.2.1 0, 5000, .inl (upd f211 (Int32.toNatClampNeg 11) x229)))] H := hP
  have hD : va_D A [(h0, .inr (9, fs214)), ((a 0), .inl (G.2.1 0, 5000, .inl (upd f211 (Int32.toNatClampNeg 11) x229)))] := hD
  generalize (upd f211 (Int32.toNatClampNeg 11) x229) = f231 at hP hD
  refine lv_aload_n hx hb dX12_feed_104 rfl (lv_at hl 2 rfl) ?_
  refine lv_dup hx hb dX12_feed_105 rfl ?_
  refine va_get (D := G.1) (ci := 9) (v := .int 11) (C := RX12) (T := TX12) (N := 134) hx hb hq pin_wsX120 hown hE.1.1 hP 0 rfl rfl 2 (by decide) (by rw [tFX12_2]; exact hq _ pw_260) (fun _ h9 => h9) (by rw [e215]; exact List.getElem?_set_self (by rw [hn196]; decide)) dX12_feed_106 ?_
  refine lv_iconst (v := 1) hx hb dX12_feed_109 (by decide) ?_
  refine lv_iadd hx hb dX12_feed_110 ?_
  refine lv_topi (fun x232 e233 => ?_)
  obtain rfl : x232 = 12 := e233.trans (by decide)
  refine va_put (D := G.1) (ci := 9) (v := .int 12) (ty := .int) (C := RX12) (T := TX12) (N := 134) hx hb hq pin_wsX120 tyX12 tyX12_ok nmX12 hown hE.1.1 hP hD hS 0 rfl rfl 2 (by decide) (by rw [tFX12_2]; exact hq _ pw_260) (fun _ h9 => h9) (by rw [tFX12_2]) (by rw [tFX12_2]; decide +kernel) rfl rfl (by rw [hn216]; decide) dX12_feed_111 (fun H locs hP hD hS => ?_)
  obtain ⟨fs234, e235⟩ : ∃ z : List Value, z = fs214.set 2 (.int 12) := ⟨_, rfl⟩
  have hn236 : fs234.length = 134 := by rw [e235, List.length_set]; exact hn216
  have hP : va_P G.1 pCl [(h0, .inr (9, fs234)), ((a 0), .inl (G.2.1 0, 5000, .inl f231))] H := by rw [e235]; exact hP
  have hD : va_D A [(h0, .inr (9, fs234)), ((a 0), .inl (G.2.1 0, 5000, .inl f231))] := by rw [e235]; exact hD
  refine lv_iinc (v := 12) (lv' := [(6, .int 12), (7, .int x3), (0, .ref h0), (1, .int x1), (2, .int x2), (3, .int x3), (4, .int x4), (5, .int x5)]) hx hb dX12_feed_114 hl (k := 1) rfl (by decide) (by decide) rfl (fun ls hl => ?_)
  refine lv_goto (tgt := 23) hx hb dX12_feed_117 (by decide) ?_
  refine lv_iload hx hb dX12_feed_23 (lv_at hl 0 rfl) ?_
  refine lv_bipush (v := 20) hx hb dX12_feed_25 (by decide) ?_
  refine lv_icmp_ge (tgt := 120) hx hb dX12_feed_27 (by decide) (fun c237 => absurd c237 (by decide)) (fun c237 => ?_)
  refine lv_iload hx hb dX12_feed_30 (lv_at hl 0 rfl) ?_
  refine lv_iconst (v := 4) hx hb dX12_feed_32 (by decide) ?_
  refine lv_icmp_ge (tgt := 40) hx hb dX12_feed_33 (by decide) (fun c238 => ?_) (fun c238 => absurd c238 (by decide))
  refine lv_iload hx hb dX12_feed_40 (lv_at hl 0 rfl) ?_
  refine lv_bipush (v := 8) hx hb dX12_feed_42 (by decide) ?_
  refine lv_icmp_ge (tgt := 51) hx hb dX12_feed_44 (by decide) (fun c239 => ?_) (fun c239 => absurd c239 (by decide))
  refine lv_iload hx hb dX12_feed_51 (lv_at hl 0 rfl) ?_
  refine lv_bipush (v := 12) hx hb dX12_feed_53 (by decide) ?_
  refine lv_icmp_ge (tgt := 62) hx hb dX12_feed_55 (by decide) (fun c240 => ?_) (fun c240 => absurd c240 (by decide))
  refine lv_iload hx hb dX12_feed_62 (lv_at hl 0 rfl) ?_
  refine lv_bipush (v := 16) hx hb dX12_feed_64 (by decide) ?_
  refine lv_icmp_ge (tgt := 74) hx hb dX12_feed_66 (by decide) (fun c241 => absurd c241 (by decide)) (fun c241 => ?_)
  refine lv_iload hx hb dX12_feed_69 (lv_at hl 6 rfl) ?_
  refine lv_goto (tgt := 76) hx hb dX12_feed_71 (by decide) ?_
  refine lv_istore (lv' := [(7, .int x4), (6, .int 12), (0, .ref h0), (1, .int x1), (2, .int x2), (3, .int x3), (4, .int x4), (5, .int x5)]) hx hb dX12_feed_76 hl (by decide) rfl (fun ls hl => ?_)
  refine lv_aload_n hx hb dX12_feed_78 rfl (lv_at hl 2 rfl) ?_
  refine va_get (D := G.1) (ci := 9) (v := .ref (a 0)) (C := RX12) (T := TX12) (N := 134) hx hb hq pin_wsX120 hown hE.1.1 hP 0 rfl rfl 1 (by decide) (by rw [tFX12_1]; exact hq _ pw_178) (fun _ h9 => h9) (by rw [e235, List.getElem?_set_ne (by decide), e215, List.getElem?_set_ne (by decide), e195, List.getElem?_set_ne (by decide), e175, List.getElem?_set_ne (by decide), e155, List.getElem?_set_ne (by decide), e136, List.getElem?_set_ne (by decide), e117, List.getElem?_set_ne (by decide), e98, List.getElem?_set_ne (by decide), e79, List.getElem?_set_ne (by decide), e61, List.getElem?_set_ne (by decide), e43, List.getElem?_set_ne (by decide), e25, List.getElem?_set_ne (by decide), e2, List.getElem?_set_ne (by decide), ef]; rfl) dX12_feed_79 ?_
  refine lv_aload_n hx hb dX12_feed_82 rfl (lv_at hl 2 rfl) ?_
  refine va_get (D := G.1) (ci := 9) (v := .int 12) (C := RX12) (T := TX12) (N := 134) hx hb hq pin_wsX120 hown hE.1.1 hP 0 rfl rfl 2 (by decide) (by rw [tFX12_2]; exact hq _ pw_260) (fun _ h9 => h9) (by rw [e235]; exact List.getElem?_set_self (by rw [hn216]; decide)) dX12_feed_83 ?_
  refine lv_iload hx hb dX12_feed_86 (lv_at hl 0 rfl) ?_
  refine lv_bipush (v := 24) hx hb dX12_feed_88 (by decide) ?_
  refine lv_bipush (v := 8) hx hb dX12_feed_90 (by decide) ?_
  refine lv_iload hx hb dX12_feed_92 (lv_at hl 1 rfl) ?_
  refine lv_iconst (v := 4) hx hb dX12_feed_94 (by decide) ?_
  refine lv_irem hx hb dX12_feed_95 (by decide) ?_
  refine lv_topi (fun x242 e243 => ?_)
  obtain rfl : x242 = 0 := e243.trans (by decide)
  refine lv_imul hx hb dX12_feed_96 ?_
  refine lv_topi (fun x244 e245 => ?_)
  obtain rfl : x244 = 0 := e245.trans (by decide)
  refine lv_isub hx hb dX12_feed_97 ?_
  refine lv_topi (fun x246 e247 => ?_)
  obtain rfl : x246 = 24 := e247.trans (by decide)
  refine lv_ishr hx hb dX12_feed_98 ?_
  refine lv_topi (fun x248 e249 => ?_)
  refine lv_sipush (v := 255) hx hb dX12_feed_99 (by decide) ?_
  refine lv_iand hx hb dX12_feed_102 ?_
  refine lv_topi (fun x250 e251 => ?_)
  refine va_iast hx hb hE.1.1 hP hD hS 1 0 rfl rfl (by unfold vp_in; decide) dX12_feed_103 (fun H locs hP hD hS => ?_)
  have hP : va_P G.1 pCl [(h0, .inr (9, fs234)), ((a 0), .inl (G.2.1 0, 5000, .inl (upd f231 (Int32.toNatClampNeg 12) x250)))] H := hP
  have hD : va_D A [(h0, .inr (9, fs234)), ((a 0), .inl (G.2.1 0, 5000, .inl (upd f231 (Int32.toNatClampNeg 12) x250)))] := hD
  generalize (upd f231 (Int32.toNatClampNeg 12) x250) = f252 at hP hD
  refine lv_aload_n hx hb dX12_feed_104 rfl (lv_at hl 2 rfl) ?_
  refine lv_dup hx hb dX12_feed_105 rfl ?_
  refine va_get (D := G.1) (ci := 9) (v := .int 12) (C := RX12) (T := TX12) (N := 134) hx hb hq pin_wsX120 hown hE.1.1 hP 0 rfl rfl 2 (by decide) (by rw [tFX12_2]; exact hq _ pw_260) (fun _ h9 => h9) (by rw [e235]; exact List.getElem?_set_self (by rw [hn216]; decide)) dX12_feed_106 ?_
  refine lv_iconst (v := 1) hx hb dX12_feed_109 (by decide) ?_
  refine lv_iadd hx hb dX12_feed_110 ?_
  refine lv_topi (fun x253 e254 => ?_)
  obtain rfl : x253 = 13 := e254.trans (by decide)
  refine va_put (D := G.1) (ci := 9) (v := .int 13) (ty := .int) (C := RX12) (T := TX12) (N := 134) hx hb hq pin_wsX120 tyX12 tyX12_ok nmX12 hown hE.1.1 hP hD hS 0 rfl rfl 2 (by decide) (by rw [tFX12_2]; exact hq _ pw_260) (fun _ h9 => h9) (by rw [tFX12_2]) (by rw [tFX12_2]; decide +kernel) rfl rfl (by rw [hn236]; decide) dX12_feed_111 (fun H locs hP hD hS => ?_)
  obtain ⟨fs255, e256⟩ : ∃ z : List Value, z = fs234.set 2 (.int 13) := ⟨_, rfl⟩
  have hn257 : fs255.length = 134 := by rw [e256, List.length_set]; exact hn236
  have hP : va_P G.1 pCl [(h0, .inr (9, fs255)), ((a 0), .inl (G.2.1 0, 5000, .inl f252))] H := by rw [e256]; exact hP
  have hD : va_D A [(h0, .inr (9, fs255)), ((a 0), .inl (G.2.1 0, 5000, .inl f252))] := by rw [e256]; exact hD
  refine lv_iinc (v := 13) (lv' := [(6, .int 13), (7, .int x4), (0, .ref h0), (1, .int x1), (2, .int x2), (3, .int x3), (4, .int x4), (5, .int x5)]) hx hb dX12_feed_114 hl (k := 1) rfl (by decide) (by decide) rfl (fun ls hl => ?_)
  refine lv_goto (tgt := 23) hx hb dX12_feed_117 (by decide) ?_
  refine lv_iload hx hb dX12_feed_23 (lv_at hl 0 rfl) ?_
  refine lv_bipush (v := 20) hx hb dX12_feed_25 (by decide) ?_
  refine lv_icmp_ge (tgt := 120) hx hb dX12_feed_27 (by decide) (fun c258 => absurd c258 (by decide)) (fun c258 => ?_)
  refine lv_iload hx hb dX12_feed_30 (lv_at hl 0 rfl) ?_
  refine lv_iconst (v := 4) hx hb dX12_feed_32 (by decide) ?_
  refine lv_icmp_ge (tgt := 40) hx hb dX12_feed_33 (by decide) (fun c259 => ?_) (fun c259 => absurd c259 (by decide))
  refine lv_iload hx hb dX12_feed_40 (lv_at hl 0 rfl) ?_
  refine lv_bipush (v := 8) hx hb dX12_feed_42 (by decide) ?_
  refine lv_icmp_ge (tgt := 51) hx hb dX12_feed_44 (by decide) (fun c260 => ?_) (fun c260 => absurd c260 (by decide))
  refine lv_iload hx hb dX12_feed_51 (lv_at hl 0 rfl) ?_
  refine lv_bipush (v := 12) hx hb dX12_feed_53 (by decide) ?_
  refine lv_icmp_ge (tgt := 62) hx hb dX12_feed_55 (by decide) (fun c261 => ?_) (fun c261 => absurd c261 (by decide))
  refine lv_iload hx hb dX12_feed_62 (lv_at hl 0 rfl) ?_
  refine lv_bipush (v := 16) hx hb dX12_feed_64 (by decide) ?_
  refine lv_icmp_ge (tgt := 74) hx hb dX12_feed_66 (by decide) (fun c262 => absurd c262 (by decide)) (fun c262 => ?_)
  refine lv_iload hx hb dX12_feed_69 (lv_at hl 6 rfl) ?_
  refine lv_goto (tgt := 76) hx hb dX12_feed_71 (by decide) ?_
  refine lv_istore (lv' := [(7, .int x4), (6, .int 13), (0, .ref h0), (1, .int x1), (2, .int x2), (3, .int x3), (4, .int x4), (5, .int x5)]) hx hb dX12_feed_76 hl (by decide) rfl (fun ls hl => ?_)
  refine lv_aload_n hx hb dX12_feed_78 rfl (lv_at hl 2 rfl) ?_
  refine va_get (D := G.1) (ci := 9) (v := .ref (a 0)) (C := RX12) (T := TX12) (N := 134) hx hb hq pin_wsX120 hown hE.1.1 hP 0 rfl rfl 1 (by decide) (by rw [tFX12_1]; exact hq _ pw_178) (fun _ h9 => h9) (by rw [e256, List.getElem?_set_ne (by decide), e235, List.getElem?_set_ne (by decide), e215, List.getElem?_set_ne (by decide), e195, List.getElem?_set_ne (by decide), e175, List.getElem?_set_ne (by decide), e155, List.getElem?_set_ne (by decide), e136, List.getElem?_set_ne (by decide), e117, List.getElem?_set_ne (by decide), e98, List.getElem?_set_ne (by decide), e79, List.getElem?_set_ne (by decide), e61, List.getElem?_set_ne (by decide), e43, List.getElem?_set_ne (by decide), e25, List.getElem?_set_ne (by decide), e2, List.getElem?_set_ne (by decide), ef]; rfl) dX12_feed_79 ?_
  refine lv_aload_n hx hb dX12_feed_82 rfl (lv_at hl 2 rfl) ?_
  refine va_get (D := G.1) (ci := 9) (v := .int 13) (C := RX12) (T := TX12) (N := 134) hx hb hq pin_wsX120 hown hE.1.1 hP 0 rfl rfl 2 (by decide) (by rw [tFX12_2]; exact hq _ pw_260) (fun _ h9 => h9) (by rw [e256]; exact List.getElem?_set_self (by rw [hn236]; decide)) dX12_feed_83 ?_
  refine lv_iload hx hb dX12_feed_86 (lv_at hl 0 rfl) ?_
  refine lv_bipush (v := 24) hx hb dX12_feed_88 (by decide) ?_
  refine lv_bipush (v := 8) hx hb dX12_feed_90 (by decide) ?_
  refine lv_iload hx hb dX12_feed_92 (lv_at hl 1 rfl) ?_
  refine lv_iconst (v := 4) hx hb dX12_feed_94 (by decide) ?_
  refine lv_irem hx hb dX12_feed_95 (by decide) ?_
  refine lv_topi (fun x263 e264 => ?_)
  obtain rfl : x263 = 1 := e264.trans (by decide)
  refine lv_imul hx hb dX12_feed_96 ?_
  refine lv_topi (fun x265 e266 => ?_)
  obtain rfl : x265 = 8 := e266.trans (by decide)
  refine lv_isub hx hb dX12_feed_97 ?_
  refine lv_topi (fun x267 e268 => ?_)
  obtain rfl : x267 = 16 := e268.trans (by decide)
  refine lv_ishr hx hb dX12_feed_98 ?_
  refine lv_topi (fun x269 e270 => ?_)
  refine lv_sipush (v := 255) hx hb dX12_feed_99 (by decide) ?_
  refine lv_iand hx hb dX12_feed_102 ?_
  refine lv_topi (fun x271 e272 => ?_)
  refine va_iast hx hb hE.1.1 hP hD hS 1 0 rfl rfl (by unfold vp_in; decide) dX12_feed_103 (fun H locs hP hD hS => ?_)
  have hP : va_P G.1 pCl [(h0, .inr (9, fs255)), ((a 0), .inl (G.2.1 0, 5000, .inl (upd f252 (Int32.toNatClampNeg 13) x271)))] H := hP
  have hD : va_D A [(h0, .inr (9, fs255)), ((a 0), .inl (G.2.1 0, 5000, .inl (upd f252 (Int32.toNatClampNeg 13) x271)))] := hD
  generalize (upd f252 (Int32.toNatClampNeg 13) x271) = f273 at hP hD
  refine lv_aload_n hx hb dX12_feed_104 rfl (lv_at hl 2 rfl) ?_
  refine lv_dup hx hb dX12_feed_105 rfl ?_
  refine va_get (D := G.1) (ci := 9) (v := .int 13) (C := RX12) (T := TX12) (N := 134) hx hb hq pin_wsX120 hown hE.1.1 hP 0 rfl rfl 2 (by decide) (by rw [tFX12_2]; exact hq _ pw_260) (fun _ h9 => h9) (by rw [e256]; exact List.getElem?_set_self (by rw [hn236]; decide)) dX12_feed_106 ?_
  refine lv_iconst (v := 1) hx hb dX12_feed_109 (by decide) ?_
  refine lv_iadd hx hb dX12_feed_110 ?_
  refine lv_topi (fun x274 e275 => ?_)
  obtain rfl : x274 = 14 := e275.trans (by decide)
  refine va_put (D := G.1) (ci := 9) (v := .int 14) (ty := .int) (C := RX12) (T := TX12) (N := 134) hx hb hq pin_wsX120 tyX12 tyX12_ok nmX12 hown hE.1.1 hP hD hS 0 rfl rfl 2 (by decide) (by rw [tFX12_2]; exact hq _ pw_260) (fun _ h9 => h9) (by rw [tFX12_2]) (by rw [tFX12_2]; decide +kernel) rfl rfl (by rw [hn257]; decide) dX12_feed_111 (fun H locs hP hD hS => ?_)
  obtain ⟨fs276, e277⟩ : ∃ z : List Value, z = fs255.set 2 (.int 14) := ⟨_, rfl⟩
  have hn278 : fs276.length = 134 := by rw [e277, List.length_set]; exact hn257
  have hP : va_P G.1 pCl [(h0, .inr (9, fs276)), ((a 0), .inl (G.2.1 0, 5000, .inl f273))] H := by rw [e277]; exact hP
  have hD : va_D A [(h0, .inr (9, fs276)), ((a 0), .inl (G.2.1 0, 5000, .inl f273))] := by rw [e277]; exact hD
  refine lv_iinc (v := 14) (lv' := [(6, .int 14), (7, .int x4), (0, .ref h0), (1, .int x1), (2, .int x2), (3, .int x3), (4, .int x4), (5, .int x5)]) hx hb dX12_feed_114 hl (k := 1) rfl (by decide) (by decide) rfl (fun ls hl => ?_)
  refine lv_goto (tgt := 23) hx hb dX12_feed_117 (by decide) ?_
  refine lv_iload hx hb dX12_feed_23 (lv_at hl 0 rfl) ?_
  refine lv_bipush (v := 20) hx hb dX12_feed_25 (by decide) ?_
  refine lv_icmp_ge (tgt := 120) hx hb dX12_feed_27 (by decide) (fun c279 => absurd c279 (by decide)) (fun c279 => ?_)
  refine lv_iload hx hb dX12_feed_30 (lv_at hl 0 rfl) ?_
  refine lv_iconst (v := 4) hx hb dX12_feed_32 (by decide) ?_
  refine lv_icmp_ge (tgt := 40) hx hb dX12_feed_33 (by decide) (fun c280 => ?_) (fun c280 => absurd c280 (by decide))
  refine lv_iload hx hb dX12_feed_40 (lv_at hl 0 rfl) ?_
  refine lv_bipush (v := 8) hx hb dX12_feed_42 (by decide) ?_
  refine lv_icmp_ge (tgt := 51) hx hb dX12_feed_44 (by decide) (fun c281 => ?_) (fun c281 => absurd c281 (by decide))
  refine lv_iload hx hb dX12_feed_51 (lv_at hl 0 rfl) ?_
  refine lv_bipush (v := 12) hx hb dX12_feed_53 (by decide) ?_
  refine lv_icmp_ge (tgt := 62) hx hb dX12_feed_55 (by decide) (fun c282 => ?_) (fun c282 => absurd c282 (by decide))
  refine lv_iload hx hb dX12_feed_62 (lv_at hl 0 rfl) ?_
  refine lv_bipush (v := 16) hx hb dX12_feed_64 (by decide) ?_
  refine lv_icmp_ge (tgt := 74) hx hb dX12_feed_66 (by decide) (fun c283 => absurd c283 (by decide)) (fun c283 => ?_)
  refine lv_iload hx hb dX12_feed_69 (lv_at hl 6 rfl) ?_
  refine lv_goto (tgt := 76) hx hb dX12_feed_71 (by decide) ?_
  refine lv_istore (lv' := [(7, .int x4), (6, .int 14), (0, .ref h0), (1, .int x1), (2, .int x2), (3, .int x3), (4, .int x4), (5, .int x5)]) hx hb dX12_feed_76 hl (by decide) rfl (fun ls hl => ?_)
  refine lv_aload_n hx hb dX12_feed_78 rfl (lv_at hl 2 rfl) ?_
  refine va_get (D := G.1) (ci := 9) (v := .ref (a 0)) (C := RX12) (T := TX12) (N := 134) hx hb hq pin_wsX120 hown hE.1.1 hP 0 rfl rfl 1 (by decide) (by rw [tFX12_1]; exact hq _ pw_178) (fun _ h9 => h9) (by rw [e277, List.getElem?_set_ne (by decide), e256, List.getElem?_set_ne (by decide), e235, List.getElem?_set_ne (by decide), e215, List.getElem?_set_ne (by decide), e195, List.getElem?_set_ne (by decide), e175, List.getElem?_set_ne (by decide), e155, List.getElem?_set_ne (by decide), e136, List.getElem?_set_ne (by decide), e117, List.getElem?_set_ne (by decide), e98, List.getElem?_set_ne (by decide), e79, List.getElem?_set_ne (by decide), e61, List.getElem?_set_ne (by decide), e43, List.getElem?_set_ne (by decide), e25, List.getElem?_set_ne (by decide), e2, List.getElem?_set_ne (by decide), ef]; rfl) dX12_feed_79 ?_
  refine lv_aload_n hx hb dX12_feed_82 rfl (lv_at hl 2 rfl) ?_
  refine va_get (D := G.1) (ci := 9) (v := .int 14) (C := RX12) (T := TX12) (N := 134) hx hb hq pin_wsX120 hown hE.1.1 hP 0 rfl rfl 2 (by decide) (by rw [tFX12_2]; exact hq _ pw_260) (fun _ h9 => h9) (by rw [e277]; exact List.getElem?_set_self (by rw [hn257]; decide)) dX12_feed_83 ?_
  refine lv_iload hx hb dX12_feed_86 (lv_at hl 0 rfl) ?_
  refine lv_bipush (v := 24) hx hb dX12_feed_88 (by decide) ?_
  refine lv_bipush (v := 8) hx hb dX12_feed_90 (by decide) ?_
  refine lv_iload hx hb dX12_feed_92 (lv_at hl 1 rfl) ?_
  refine lv_iconst (v := 4) hx hb dX12_feed_94 (by decide) ?_
  refine lv_irem hx hb dX12_feed_95 (by decide) ?_
  refine lv_topi (fun x284 e285 => ?_)
  obtain rfl : x284 = 2 := e285.trans (by decide)
  refine lv_imul hx hb dX12_feed_96 ?_
  refine lv_topi (fun x286 e287 => ?_)
  obtain rfl : x286 = 16 := e287.trans (by decide)
  refine lv_isub hx hb dX12_feed_97 ?_
  refine lv_topi (fun x288 e289 => ?_)
  obtain rfl : x288 = 8 := e289.trans (by decide)
  refine lv_ishr hx hb dX12_feed_98 ?_
  refine lv_topi (fun x290 e291 => ?_)
  refine lv_sipush (v := 255) hx hb dX12_feed_99 (by decide) ?_
  refine lv_iand hx hb dX12_feed_102 ?_
  refine lv_topi (fun x292 e293 => ?_)
  refine va_iast hx hb hE.1.1 hP hD hS 1 0 rfl rfl (by unfold vp_in; decide) dX12_feed_103 (fun H locs hP hD hS => ?_)
  have hP : va_P G.1 pCl [(h0, .inr (9, fs276)), ((a 0), .inl (G.2.1 0, 5000, .inl (upd f273 (Int32.toNatClampNeg 14) x292)))] H := hP
  have hD : va_D A [(h0, .inr (9, fs276)), ((a 0), .inl (G.2.1 0, 5000, .inl (upd f273 (Int32.toNatClampNeg 14) x292)))] := hD
  generalize (upd f273 (Int32.toNatClampNeg 14) x292) = f294 at hP hD
  refine lv_aload_n hx hb dX12_feed_104 rfl (lv_at hl 2 rfl) ?_
  refine lv_dup hx hb dX12_feed_105 rfl ?_
  refine va_get (D := G.1) (ci := 9) (v := .int 14) (C := RX12) (T := TX12) (N := 134) hx hb hq pin_wsX120 hown hE.1.1 hP 0 rfl rfl 2 (by decide) (by rw [tFX12_2]; exact hq _ pw_260) (fun _ h9 => h9) (by rw [e277]; exact List.getElem?_set_self (by rw [hn257]; decide)) dX12_feed_106 ?_
  refine lv_iconst (v := 1) hx hb dX12_feed_109 (by decide) ?_
  refine lv_iadd hx hb dX12_feed_110 ?_
  refine lv_topi (fun x295 e296 => ?_)
  obtain rfl : x295 = 15 := e296.trans (by decide)
  refine va_put (D := G.1) (ci := 9) (v := .int 15) (ty := .int) (C := RX12) (T := TX12) (N := 134) hx hb hq pin_wsX120 tyX12 tyX12_ok nmX12 hown hE.1.1 hP hD hS 0 rfl rfl 2 (by decide) (by rw [tFX12_2]; exact hq _ pw_260) (fun _ h9 => h9) (by rw [tFX12_2]) (by rw [tFX12_2]; decide +kernel) rfl rfl (by rw [hn278]; decide) dX12_feed_111 (fun H locs hP hD hS => ?_)
  obtain ⟨fs297, e298⟩ : ∃ z : List Value, z = fs276.set 2 (.int 15) := ⟨_, rfl⟩
  have hn299 : fs297.length = 134 := by rw [e298, List.length_set]; exact hn278
  have hP : va_P G.1 pCl [(h0, .inr (9, fs297)), ((a 0), .inl (G.2.1 0, 5000, .inl f294))] H := by rw [e298]; exact hP
  have hD : va_D A [(h0, .inr (9, fs297)), ((a 0), .inl (G.2.1 0, 5000, .inl f294))] := by rw [e298]; exact hD
  refine lv_iinc (v := 15) (lv' := [(6, .int 15), (7, .int x4), (0, .ref h0), (1, .int x1), (2, .int x2), (3, .int x3), (4, .int x4), (5, .int x5)]) hx hb dX12_feed_114 hl (k := 1) rfl (by decide) (by decide) rfl (fun ls hl => ?_)
  refine lv_goto (tgt := 23) hx hb dX12_feed_117 (by decide) ?_
  refine lv_iload hx hb dX12_feed_23 (lv_at hl 0 rfl) ?_
  refine lv_bipush (v := 20) hx hb dX12_feed_25 (by decide) ?_
  refine lv_icmp_ge (tgt := 120) hx hb dX12_feed_27 (by decide) (fun c300 => absurd c300 (by decide)) (fun c300 => ?_)
  refine lv_iload hx hb dX12_feed_30 (lv_at hl 0 rfl) ?_
  refine lv_iconst (v := 4) hx hb dX12_feed_32 (by decide) ?_
  refine lv_icmp_ge (tgt := 40) hx hb dX12_feed_33 (by decide) (fun c301 => ?_) (fun c301 => absurd c301 (by decide))
  refine lv_iload hx hb dX12_feed_40 (lv_at hl 0 rfl) ?_
  refine lv_bipush (v := 8) hx hb dX12_feed_42 (by decide) ?_
  refine lv_icmp_ge (tgt := 51) hx hb dX12_feed_44 (by decide) (fun c302 => ?_) (fun c302 => absurd c302 (by decide))
  refine lv_iload hx hb dX12_feed_51 (lv_at hl 0 rfl) ?_
  refine lv_bipush (v := 12) hx hb dX12_feed_53 (by decide) ?_
  refine lv_icmp_ge (tgt := 62) hx hb dX12_feed_55 (by decide) (fun c303 => ?_) (fun c303 => absurd c303 (by decide))
  refine lv_iload hx hb dX12_feed_62 (lv_at hl 0 rfl) ?_
  refine lv_bipush (v := 16) hx hb dX12_feed_64 (by decide) ?_
  refine lv_icmp_ge (tgt := 74) hx hb dX12_feed_66 (by decide) (fun c304 => absurd c304 (by decide)) (fun c304 => ?_)
  refine lv_iload hx hb dX12_feed_69 (lv_at hl 6 rfl) ?_
  refine lv_goto (tgt := 76) hx hb dX12_feed_71 (by decide) ?_
  refine lv_istore (lv' := [(7, .int x4), (6, .int 15), (0, .ref h0), (1, .int x1), (2, .int x2), (3, .int x3), (4, .int x4), (5, .int x5)]) hx hb dX12_feed_76 hl (by decide) rfl (fun ls hl => ?_)
  refine lv_aload_n hx hb dX12_feed_78 rfl (lv_at hl 2 rfl) ?_
  refine va_get (D := G.1) (ci := 9) (v := .ref (a 0)) (C := RX12) (T := TX12) (N := 134) hx hb hq pin_wsX120 hown hE.1.1 hP 0 rfl rfl 1 (by decide) (by rw [tFX12_1]; exact hq _ pw_178) (fun _ h9 => h9) (by rw [e298, List.getElem?_set_ne (by decide), e277, List.getElem?_set_ne (by decide), e256, List.getElem?_set_ne (by decide), e235, List.getElem?_set_ne (by decide), e215, List.getElem?_set_ne (by decide), e195, List.getElem?_set_ne (by decide), e175, List.getElem?_set_ne (by decide), e155, List.getElem?_set_ne (by decide), e136, List.getElem?_set_ne (by decide), e117, List.getElem?_set_ne (by decide), e98, List.getElem?_set_ne (by decide), e79, List.getElem?_set_ne (by decide), e61, List.getElem?_set_ne (by decide), e43, List.getElem?_set_ne (by decide), e25, List.getElem?_set_ne (by decide), e2, List.getElem?_set_ne (by decide), ef]; rfl) dX12_feed_79 ?_
  refine lv_aload_n hx hb dX12_feed_82 rfl (lv_at hl 2 rfl) ?_
  refine va_get (D := G.1) (ci := 9) (v := .int 15) (C := RX12) (T := TX12) (N := 134) hx hb hq pin_wsX120 hown hE.1.1 hP 0 rfl rfl 2 (by decide) (by rw [tFX12_2]; exact hq _ pw_260) (fun _ h9 => h9) (by rw [e298]; exact List.getElem?_set_self (by rw [hn278]; decide)) dX12_feed_83 ?_
  refine lv_iload hx hb dX12_feed_86 (lv_at hl 0 rfl) ?_
  refine lv_bipush (v := 24) hx hb dX12_feed_88 (by decide) ?_
  refine lv_bipush (v := 8) hx hb dX12_feed_90 (by decide) ?_
  refine lv_iload hx hb dX12_feed_92 (lv_at hl 1 rfl) ?_
  refine lv_iconst (v := 4) hx hb dX12_feed_94 (by decide) ?_
  refine lv_irem hx hb dX12_feed_95 (by decide) ?_
  refine lv_topi (fun x305 e306 => ?_)
  obtain rfl : x305 = 3 := e306.trans (by decide)
  refine lv_imul hx hb dX12_feed_96 ?_
  refine lv_topi (fun x307 e308 => ?_)
  obtain rfl : x307 = 24 := e308.trans (by decide)
  refine lv_isub hx hb dX12_feed_97 ?_
  refine lv_topi (fun x309 e310 => ?_)
  obtain rfl : x309 = 0 := e310.trans (by decide)
  refine lv_ishr hx hb dX12_feed_98 ?_
  refine lv_topi (fun x311 e312 => ?_)
  refine lv_sipush (v := 255) hx hb dX12_feed_99 (by decide) ?_
  refine lv_iand hx hb dX12_feed_102 ?_
  refine lv_topi (fun x313 e314 => ?_)
  refine va_iast hx hb hE.1.1 hP hD hS 1 0 rfl rfl (by unfold vp_in; decide) dX12_feed_103 (fun H locs hP hD hS => ?_)
  have hP : va_P G.1 pCl [(h0, .inr (9, fs297)), ((a 0), .inl (G.2.1 0, 5000, .inl (upd f294 (Int32.toNatClampNeg 15) x313)))] H := hP
  have hD : va_D A [(h0, .inr (9, fs297)), ((a 0), .inl (G.2.1 0, 5000, .inl (upd f294 (Int32.toNatClampNeg 15) x313)))] := hD
  generalize (upd f294 (Int32.toNatClampNeg 15) x313) = f315 at hP hD
  refine lv_aload_n hx hb dX12_feed_104 rfl (lv_at hl 2 rfl) ?_
  refine lv_dup hx hb dX12_feed_105 rfl ?_
  refine va_get (D := G.1) (ci := 9) (v := .int 15) (C := RX12) (T := TX12) (N := 134) hx hb hq pin_wsX120 hown hE.1.1 hP 0 rfl rfl 2 (by decide) (by rw [tFX12_2]; exact hq _ pw_260) (fun _ h9 => h9) (by rw [e298]; exact List.getElem?_set_self (by rw [hn278]; decide)) dX12_feed_106 ?_
  refine lv_iconst (v := 1) hx hb dX12_feed_109 (by decide) ?_
  refine lv_iadd hx hb dX12_feed_110 ?_
  refine lv_topi (fun x316 e317 => ?_)
  obtain rfl : x316 = 16 := e317.trans (by decide)
  refine va_put (D := G.1) (ci := 9) (v := .int 16) (ty := .int) (C := RX12) (T := TX12) (N := 134) hx hb hq pin_wsX120 tyX12 tyX12_ok nmX12 hown hE.1.1 hP hD hS 0 rfl rfl 2 (by decide) (by rw [tFX12_2]; exact hq _ pw_260) (fun _ h9 => h9) (by rw [tFX12_2]) (by rw [tFX12_2]; decide +kernel) rfl rfl (by rw [hn299]; decide) dX12_feed_111 (fun H locs hP hD hS => ?_)
  obtain ⟨fs318, e319⟩ : ∃ z : List Value, z = fs297.set 2 (.int 16) := ⟨_, rfl⟩
  have hn320 : fs318.length = 134 := by rw [e319, List.length_set]; exact hn299
  have hP : va_P G.1 pCl [(h0, .inr (9, fs318)), ((a 0), .inl (G.2.1 0, 5000, .inl f315))] H := by rw [e319]; exact hP
  have hD : va_D A [(h0, .inr (9, fs318)), ((a 0), .inl (G.2.1 0, 5000, .inl f315))] := by rw [e319]; exact hD
  refine lv_iinc (v := 16) (lv' := [(6, .int 16), (7, .int x4), (0, .ref h0), (1, .int x1), (2, .int x2), (3, .int x3), (4, .int x4), (5, .int x5)]) hx hb dX12_feed_114 hl (k := 1) rfl (by decide) (by decide) rfl (fun ls hl => ?_)
  refine lv_goto (tgt := 23) hx hb dX12_feed_117 (by decide) ?_
  refine lv_iload hx hb dX12_feed_23 (lv_at hl 0 rfl) ?_
  refine lv_bipush (v := 20) hx hb dX12_feed_25 (by decide) ?_
  refine lv_icmp_ge (tgt := 120) hx hb dX12_feed_27 (by decide) (fun c321 => absurd c321 (by decide)) (fun c321 => ?_)
  refine lv_iload hx hb dX12_feed_30 (lv_at hl 0 rfl) ?_
  refine lv_iconst (v := 4) hx hb dX12_feed_32 (by decide) ?_
  refine lv_icmp_ge (tgt := 40) hx hb dX12_feed_33 (by decide) (fun c322 => ?_) (fun c322 => absurd c322 (by decide))
  refine lv_iload hx hb dX12_feed_40 (lv_at hl 0 rfl) ?_
  refine lv_bipush (v := 8) hx hb dX12_feed_42 (by decide) ?_
  refine lv_icmp_ge (tgt := 51) hx hb dX12_feed_44 (by decide) (fun c323 => ?_) (fun c323 => absurd c323 (by decide))
  refine lv_iload hx hb dX12_feed_51 (lv_at hl 0 rfl) ?_
  refine lv_bipush (v := 12) hx hb dX12_feed_53 (by decide) ?_
  refine lv_icmp_ge (tgt := 62) hx hb dX12_feed_55 (by decide) (fun c324 => ?_) (fun c324 => absurd c324 (by decide))
  refine lv_iload hx hb dX12_feed_62 (lv_at hl 0 rfl) ?_
  refine lv_bipush (v := 16) hx hb dX12_feed_64 (by decide) ?_
  refine lv_icmp_ge (tgt := 74) hx hb dX12_feed_66 (by decide) (fun c325 => ?_) (fun c325 => absurd c325 (by decide))
  refine lv_iload hx hb dX12_feed_74 (lv_at hl 7 rfl) ?_
  refine lv_istore (lv' := [(7, .int x5), (6, .int 16), (0, .ref h0), (1, .int x1), (2, .int x2), (3, .int x3), (4, .int x4), (5, .int x5)]) hx hb dX12_feed_76 hl (by decide) rfl (fun ls hl => ?_)
  refine lv_aload_n hx hb dX12_feed_78 rfl (lv_at hl 2 rfl) ?_
  refine va_get (D := G.1) (ci := 9) (v := .ref (a 0)) (C := RX12) (T := TX12) (N := 134) hx hb hq pin_wsX120 hown hE.1.1 hP 0 rfl rfl 1 (by decide) (by rw [tFX12_1]; exact hq _ pw_178) (fun _ h9 => h9) (by rw [e319, List.getElem?_set_ne (by decide), e298, List.getElem?_set_ne (by decide), e277, List.getElem?_set_ne (by decide), e256, List.getElem?_set_ne (by decide), e235, List.getElem?_set_ne (by decide), e215, List.getElem?_set_ne (by decide), e195, List.getElem?_set_ne (by decide), e175, List.getElem?_set_ne (by decide), e155, List.getElem?_set_ne (by decide), e136, List.getElem?_set_ne (by decide), e117, List.getElem?_set_ne (by decide), e98, List.getElem?_set_ne (by decide), e79, List.getElem?_set_ne (by decide), e61, List.getElem?_set_ne (by decide), e43, List.getElem?_set_ne (by decide), e25, List.getElem?_set_ne (by decide), e2, List.getElem?_set_ne (by decide), ef]; rfl) dX12_feed_79 ?_
  refine lv_aload_n hx hb dX12_feed_82 rfl (lv_at hl 2 rfl) ?_
  refine va_get (D := G.1) (ci := 9) (v := .int 16) (C := RX12) (T := TX12) (N := 134) hx hb hq pin_wsX120 hown hE.1.1 hP 0 rfl rfl 2 (by decide) (by rw [tFX12_2]; exact hq _ pw_260) (fun _ h9 => h9) (by rw [e319]; exact List.getElem?_set_self (by rw [hn299]; decide)) dX12_feed_83 ?_
  refine lv_iload hx hb dX12_feed_86 (lv_at hl 0 rfl) ?_
  refine lv_bipush (v := 24) hx hb dX12_feed_88 (by decide) ?_
  refine lv_bipush (v := 8) hx hb dX12_feed_90 (by decide) ?_
  refine lv_iload hx hb dX12_feed_92 (lv_at hl 1 rfl) ?_
  refine lv_iconst (v := 4) hx hb dX12_feed_94 (by decide) ?_
  refine lv_irem hx hb dX12_feed_95 (by decide) ?_
  refine lv_topi (fun x326 e327 => ?_)
  obtain rfl : x326 = 0 := e327.trans (by decide)
  refine lv_imul hx hb dX12_feed_96 ?_
  refine lv_topi (fun x328 e329 => ?_)
  obtain rfl : x328 = 0 := e329.trans (by decide)
  refine lv_isub hx hb dX12_feed_97 ?_
  refine lv_topi (fun x330 e331 => ?_)
  obtain rfl : x330 = 24 := e331.trans (by decide)
  refine lv_ishr hx hb dX12_feed_98 ?_
  refine lv_topi (fun x332 e333 => ?_)
  refine lv_sipush (v := 255) hx hb dX12_feed_99 (by decide) ?_
  refine lv_iand hx hb dX12_feed_102 ?_
  refine lv_topi (fun x334 e335 => ?_)
  refine va_iast hx hb hE.1.1 hP hD hS 1 0 rfl rfl (by unfold vp_in; decide) dX12_feed_103 (fun H locs hP hD hS => ?_)
  have hP : va_P G.1 pCl [(h0, .inr (9, fs318)), ((a 0), .inl (G.2.1 0, 5000, .inl (upd f315 (Int32.toNatClampNeg 16) x334)))] H := hP
  have hD : va_D A [(h0, .inr (9, fs318)), ((a 0), .inl (G.2.1 0, 5000, .inl (upd f315 (Int32.toNatClampNeg 16) x334)))] := hD
  generalize (upd f315 (Int32.toNatClampNeg 16) x334) = f336 at hP hD
  refine lv_aload_n hx hb dX12_feed_104 rfl (lv_at hl 2 rfl) ?_
  refine lv_dup hx hb dX12_feed_105 rfl ?_
  refine va_get (D := G.1) (ci := 9) (v := .int 16) (C := RX12) (T := TX12) (N := 134) hx hb hq pin_wsX120 hown hE.1.1 hP 0 rfl rfl 2 (by decide) (by rw [tFX12_2]; exact hq _ pw_260) (fun _ h9 => h9) (by rw [e319]; exact List.getElem?_set_self (by rw [hn299]; decide)) dX12_feed_106 ?_
  refine lv_iconst (v := 1) hx hb dX12_feed_109 (by decide) ?_
  refine lv_iadd hx hb dX12_feed_110 ?_
  refine lv_topi (fun x337 e338 => ?_)
  obtain rfl : x337 = 17 := e338.trans (by decide)
  refine va_put (D := G.1) (ci := 9) (v := .int 17) (ty := .int) (C := RX12) (T := TX12) (N := 134) hx hb hq pin_wsX120 tyX12 tyX12_ok nmX12 hown hE.1.1 hP hD hS 0 rfl rfl 2 (by decide) (by rw [tFX12_2]; exact hq _ pw_260) (fun _ h9 => h9) (by rw [tFX12_2]) (by rw [tFX12_2]; decide +kernel) rfl rfl (by rw [hn320]; decide) dX12_feed_111 (fun H locs hP hD hS => ?_)
  obtain ⟨fs339, e340⟩ : ∃ z : List Value, z = fs318.set 2 (.int 17) := ⟨_, rfl⟩
  have hn341 : fs339.length = 134 := by rw [e340, List.length_set]; exact hn320
  have hP : va_P G.1 pCl [(h0, .inr (9, fs339)), ((a 0), .inl (G.2.1 0, 5000, .inl f336))] H := by rw [e340]; exact hP
  have hD : va_D A [(h0, .inr (9, fs339)), ((a 0), .inl (G.2.1 0, 5000, .inl f336))] := by rw [e340]; exact hD
  refine lv_iinc (v := 17) (lv' := [(6, .int 17), (7, .int x5), (0, .ref h0), (1, .int x1), (2, .int x2), (3, .int x3), (4, .int x4), (5, .int x5)]) hx hb dX12_feed_114 hl (k := 1) rfl (by decide) (by decide) rfl (fun ls hl => ?_)
  refine lv_goto (tgt := 23) hx hb dX12_feed_117 (by decide) ?_
  refine lv_iload hx hb dX12_feed_23 (lv_at hl 0 rfl) ?_
  refine lv_bipush (v := 20) hx hb dX12_feed_25 (by decide) ?_
  refine lv_icmp_ge (tgt := 120) hx hb dX12_feed_27 (by decide) (fun c342 => absurd c342 (by decide)) (fun c342 => ?_)
  refine lv_iload hx hb dX12_feed_30 (lv_at hl 0 rfl) ?_
  refine lv_iconst (v := 4) hx hb dX12_feed_32 (by decide) ?_
  refine lv_icmp_ge (tgt := 40) hx hb dX12_feed_33 (by decide) (fun c343 => ?_) (fun c343 => absurd c343 (by decide))
  refine lv_iload hx hb dX12_feed_40 (lv_at hl 0 rfl) ?_
  refine lv_bipush (v := 8) hx hb dX12_feed_42 (by decide) ?_
  refine lv_icmp_ge (tgt := 51) hx hb dX12_feed_44 (by decide) (fun c344 => ?_) (fun c344 => absurd c344 (by decide))
  refine lv_iload hx hb dX12_feed_51 (lv_at hl 0 rfl) ?_
  refine lv_bipush (v := 12) hx hb dX12_feed_53 (by decide) ?_
  refine lv_icmp_ge (tgt := 62) hx hb dX12_feed_55 (by decide) (fun c345 => ?_) (fun c345 => absurd c345 (by decide))
  refine lv_iload hx hb dX12_feed_62 (lv_at hl 0 rfl) ?_
  refine lv_bipush (v := 16) hx hb dX12_feed_64 (by decide) ?_
  refine lv_icmp_ge (tgt := 74) hx hb dX12_feed_66 (by decide) (fun c346 => ?_) (fun c346 => absurd c346 (by decide))
  refine lv_iload hx hb dX12_feed_74 (lv_at hl 7 rfl) ?_
  refine lv_istore (lv' := [(7, .int x5), (6, .int 17), (0, .ref h0), (1, .int x1), (2, .int x2), (3, .int x3), (4, .int x4), (5, .int x5)]) hx hb dX12_feed_76 hl (by decide) rfl (fun ls hl => ?_)
  refine lv_aload_n hx hb dX12_feed_78 rfl (lv_at hl 2 rfl) ?_
  refine va_get (D := G.1) (ci := 9) (v := .ref (a 0)) (C := RX12) (T := TX12) (N := 134) hx hb hq pin_wsX120 hown hE.1.1 hP 0 rfl rfl 1 (by decide) (by rw [tFX12_1]; exact hq _ pw_178) (fun _ h9 => h9) (by rw [e340, List.getElem?_set_ne (by decide), e319, List.getElem?_set_ne (by decide), e298, List.getElem?_set_ne (by decide), e277, List.getElem?_set_ne (by decide), e256, List.getElem?_set_ne (by decide), e235, List.getElem?_set_ne (by decide), e215, List.getElem?_set_ne (by decide), e195, List.getElem?_set_ne (by decide), e175, List.getElem?_set_ne (by decide), e155, List.getElem?_set_ne (by decide), e136, List.getElem?_set_ne (by decide), e117, List.getElem?_set_ne (by decide), e98, List.getElem?_set_ne (by decide), e79, List.getElem?_set_ne (by decide), e61, List.getElem?_set_ne (by decide), e43, List.getElem?_set_ne (by decide), e25, List.getElem?_set_ne (by decide), e2, List.getElem?_set_ne (by decide), ef]; rfl) dX12_feed_79 ?_
  refine lv_aload_n hx hb dX12_feed_82 rfl (lv_at hl 2 rfl) ?_
  refine va_get (D := G.1) (ci := 9) (v := .int 17) (C := RX12) (T := TX12) (N := 134) hx hb hq pin_wsX120 hown hE.1.1 hP 0 rfl rfl 2 (by decide) (by rw [tFX12_2]; exact hq _ pw_260) (fun _ h9 => h9) (by rw [e340]; exact List.getElem?_set_self (by rw [hn320]; decide)) dX12_feed_83 ?_
  refine lv_iload hx hb dX12_feed_86 (lv_at hl 0 rfl) ?_
  refine lv_bipush (v := 24) hx hb dX12_feed_88 (by decide) ?_
  refine lv_bipush (v := 8) hx hb dX12_feed_90 (by decide) ?_
  refine lv_iload hx hb dX12_feed_92 (lv_at hl 1 rfl) ?_
  refine lv_iconst (v := 4) hx hb dX12_feed_94 (by decide) ?_
  refine lv_irem hx hb dX12_feed_95 (by decide) ?_
  refine lv_topi (fun x347 e348 => ?_)
  obtain rfl : x347 = 1 := e348.trans (by decide)
  refine lv_imul hx hb dX12_feed_96 ?_
  refine lv_topi (fun x349 e350 => ?_)
  obtain rfl : x349 = 8 := e350.trans (by decide)
  refine lv_isub hx hb dX12_feed_97 ?_
  refine lv_topi (fun x351 e352 => ?_)
  obtain rfl : x351 = 16 := e352.trans (by decide)
  refine lv_ishr hx hb dX12_feed_98 ?_
  refine lv_topi (fun x353 e354 => ?_)
  refine lv_sipush (v := 255) hx hb dX12_feed_99 (by decide) ?_
  refine lv_iand hx hb dX12_feed_102 ?_
  refine lv_topi (fun x355 e356 => ?_)
  refine va_iast hx hb hE.1.1 hP hD hS 1 0 rfl rfl (by unfold vp_in; decide) dX12_feed_103 (fun H locs hP hD hS => ?_)
  have hP : va_P G.1 pCl [(h0, .inr (9, fs339)), ((a 0), .inl (G.2.1 0, 5000, .inl (upd f336 (Int32.toNatClampNeg 17) x355)))] H := hP
  have hD : va_D A [(h0, .inr (9, fs339)), ((a 0), .inl (G.2.1 0, 5000, .inl (upd f336 (Int32.toNatClampNeg 17) x355)))] := hD
  generalize (upd f336 (Int32.toNatClampNeg 17) x355) = f357 at hP hD
  refine lv_aload_n hx hb dX12_feed_104 rfl (lv_at hl 2 rfl) ?_
  refine lv_dup hx hb dX12_feed_105 rfl ?_
  refine va_get (D := G.1) (ci := 9) (v := .int 17) (C := RX12) (T := TX12) (N := 134) hx hb hq pin_wsX120 hown hE.1.1 hP 0 rfl rfl 2 (by decide) (by rw [tFX12_2]; exact hq _ pw_260) (fun _ h9 => h9) (by rw [e340]; exact List.getElem?_set_self (by rw [hn320]; decide)) dX12_feed_106 ?_
  refine lv_iconst (v := 1) hx hb dX12_feed_109 (by decide) ?_
  refine lv_iadd hx hb dX12_feed_110 ?_
  refine lv_topi (fun x358 e359 => ?_)
  obtain rfl : x358 = 18 := e359.trans (by decide)
  refine va_put (D := G.1) (ci := 9) (v := .int 18) (ty := .int) (C := RX12) (T := TX12) (N := 134) hx hb hq pin_wsX120 tyX12 tyX12_ok nmX12 hown hE.1.1 hP hD hS 0 rfl rfl 2 (by decide) (by rw [tFX12_2]; exact hq _ pw_260) (fun _ h9 => h9) (by rw [tFX12_2]) (by rw [tFX12_2]; decide +kernel) rfl rfl (by rw [hn341]; decide) dX12_feed_111 (fun H locs hP hD hS => ?_)
  obtain ⟨fs360, e361⟩ : ∃ z : List Value, z = fs339.set 2 (.int 18) := ⟨_, rfl⟩
  have hn362 : fs360.length = 134 := by rw [e361, List.length_set]; exact hn341
  have hP : va_P G.1 pCl [(h0, .inr (9, fs360)), ((a 0), .inl (G.2.1 0, 5000, .inl f357))] H := by rw [e361]; exact hP
  have hD : va_D A [(h0, .inr (9, fs360)), ((a 0), .inl (G.2.1 0, 5000, .inl f357))] := by rw [e361]; exact hD
  refine lv_iinc (v := 18) (lv' := [(6, .int 18), (7, .int x5), (0, .ref h0), (1, .int x1), (2, .int x2), (3, .int x3), (4, .int x4), (5, .int x5)]) hx hb dX12_feed_114 hl (k := 1) rfl (by decide) (by decide) rfl (fun ls hl => ?_)
  refine lv_goto (tgt := 23) hx hb dX12_feed_117 (by decide) ?_
  refine lv_iload hx hb dX12_feed_23 (lv_at hl 0 rfl) ?_
  refine lv_bipush (v := 20) hx hb dX12_feed_25 (by decide) ?_
  refine lv_icmp_ge (tgt := 120) hx hb dX12_feed_27 (by decide) (fun c363 => absurd c363 (by decide)) (fun c363 => ?_)
  refine lv_iload hx hb dX12_feed_30 (lv_at hl 0 rfl) ?_
  refine lv_iconst (v := 4) hx hb dX12_feed_32 (by decide) ?_
  refine lv_icmp_ge (tgt := 40) hx hb dX12_feed_33 (by decide) (fun c364 => ?_) (fun c364 => absurd c364 (by decide))
  refine lv_iload hx hb dX12_feed_40 (lv_at hl 0 rfl) ?_
  refine lv_bipush (v := 8) hx hb dX12_feed_42 (by decide) ?_
  refine lv_icmp_ge (tgt := 51) hx hb dX12_feed_44 (by decide) (fun c365 => ?_) (fun c365 => absurd c365 (by decide))
  refine lv_iload hx hb dX12_feed_51 (lv_at hl 0 rfl) ?_
  refine lv_bipush (v := 12) hx hb dX12_feed_53 (by decide) ?_
  refine lv_icmp_ge (tgt := 62) hx hb dX12_feed_55 (by decide) (fun c366 => ?_) (fun c366 => absurd c366 (by decide))
  refine lv_iload hx hb dX12_feed_62 (lv_at hl 0 rfl) ?_
  refine lv_bipush (v := 16) hx hb dX12_feed_64 (by decide) ?_
  refine lv_icmp_ge (tgt := 74) hx hb dX12_feed_66 (by decide) (fun c367 => ?_) (fun c367 => absurd c367 (by decide))
  refine lv_iload hx hb dX12_feed_74 (lv_at hl 7 rfl) ?_
  refine lv_istore (lv' := [(7, .int x5), (6, .int 18), (0, .ref h0), (1, .int x1), (2, .int x2), (3, .int x3), (4, .int x4), (5, .int x5)]) hx hb dX12_feed_76 hl (by decide) rfl (fun ls hl => ?_)
  refine lv_aload_n hx hb dX12_feed_78 rfl (lv_at hl 2 rfl) ?_
  refine va_get (D := G.1) (ci := 9) (v := .ref (a 0)) (C := RX12) (T := TX12) (N := 134) hx hb hq pin_wsX120 hown hE.1.1 hP 0 rfl rfl 1 (by decide) (by rw [tFX12_1]; exact hq _ pw_178) (fun _ h9 => h9) (by rw [e361, List.getElem?_set_ne (by decide), e340, List.getElem?_set_ne (by decide), e319, List.getElem?_set_ne (by decide), e298, List.getElem?_set_ne (by decide), e277, List.getElem?_set_ne (by decide), e256, List.getElem?_set_ne (by decide), e235, List.getElem?_set_ne (by decide), e215, List.getElem?_set_ne (by decide), e195, List.getElem?_set_ne (by decide), e175, List.getElem?_set_ne (by decide), e155, List.getElem?_set_ne (by decide), e136, List.getElem?_set_ne (by decide), e117, List.getElem?_set_ne (by decide), e98, List.getElem?_set_ne (by decide), e79, List.getElem?_set_ne (by decide), e61, List.getElem?_set_ne (by decide), e43, List.getElem?_set_ne (by decide), e25, List.getElem?_set_ne (by decide), e2, List.getElem?_set_ne (by decide), ef]; rfl) dX12_feed_79 ?_
  refine lv_aload_n hx hb dX12_feed_82 rfl (lv_at hl 2 rfl) ?_
  refine va_get (D := G.1) (ci := 9) (v := .int 18) (C := RX12) (T := TX12) (N := 134) hx hb hq pin_wsX120 hown hE.1.1 hP 0 rfl rfl 2 (by decide) (by rw [tFX12_2]; exact hq _ pw_260) (fun _ h9 => h9) (by rw [e361]; exact List.getElem?_set_self (by rw [hn341]; decide)) dX12_feed_83 ?_
  refine lv_iload hx hb dX12_feed_86 (lv_at hl 0 rfl) ?_
  refine lv_bipush (v := 24) hx hb dX12_feed_88 (by decide) ?_
  refine lv_bipush (v := 8) hx hb dX12_feed_90 (by decide) ?_
  refine lv_iload hx hb dX12_feed_92 (lv_at hl 1 rfl) ?_
  refine lv_iconst (v := 4) hx hb dX12_feed_94 (by decide) ?_
  refine lv_irem hx hb dX12_feed_95 (by decide) ?_
  refine lv_topi (fun x368 e369 => ?_)
  obtain rfl : x368 = 2 := e369.trans (by decide)
  refine lv_imul hx hb dX12_feed_96 ?_
  refine lv_topi (fun x370 e371 => ?_)
  obtain rfl : x370 = 16 := e371.trans (by decide)
  refine lv_isub hx hb dX12_feed_97 ?_
  refine lv_topi (fun x372 e373 => ?_)
  obtain rfl : x372 = 8 := e373.trans (by decide)
  refine lv_ishr hx hb dX12_feed_98 ?_
  refine lv_topi (fun x374 e375 => ?_)
  refine lv_sipush (v := 255) hx hb dX12_feed_99 (by decide) ?_
  refine lv_iand hx hb dX12_feed_102 ?_
  refine lv_topi (fun x376 e377 => ?_)
  refine va_iast hx hb hE.1.1 hP hD hS 1 0 rfl rfl (by unfold vp_in; decide) dX12_feed_103 (fun H locs hP hD hS => ?_)
  have hP : va_P G.1 pCl [(h0, .inr (9, fs360)), ((a 0), .inl (G.2.1 0, 5000, .inl (upd f357 (Int32.toNatClampNeg 18) x376)))] H := hP
  have hD : va_D A [(h0, .inr (9, fs360)), ((a 0), .inl (G.2.1 0, 5000, .inl (upd f357 (Int32.toNatClampNeg 18) x376)))] := hD
  generalize (upd f357 (Int32.toNatClampNeg 18) x376) = f378 at hP hD
  refine lv_aload_n hx hb dX12_feed_104 rfl (lv_at hl 2 rfl) ?_
  refine lv_dup hx hb dX12_feed_105 rfl ?_
  refine va_get (D := G.1) (ci := 9) (v := .int 18) (C := RX12) (T := TX12) (N := 134) hx hb hq pin_wsX120 hown hE.1.1 hP 0 rfl rfl 2 (by decide) (by rw [tFX12_2]; exact hq _ pw_260) (fun _ h9 => h9) (by rw [e361]; exact List.getElem?_set_self (by rw [hn341]; decide)) dX12_feed_106 ?_
  refine lv_iconst (v := 1) hx hb dX12_feed_109 (by decide) ?_
  refine lv_iadd hx hb dX12_feed_110 ?_
  refine lv_topi (fun x379 e380 => ?_)
  obtain rfl : x379 = 19 := e380.trans (by decide)
  refine va_put (D := G.1) (ci := 9) (v := .int 19) (ty := .int) (C := RX12) (T := TX12) (N := 134) hx hb hq pin_wsX120 tyX12 tyX12_ok nmX12 hown hE.1.1 hP hD hS 0 rfl rfl 2 (by decide) (by rw [tFX12_2]; exact hq _ pw_260) (fun _ h9 => h9) (by rw [tFX12_2]) (by rw [tFX12_2]; decide +kernel) rfl rfl (by rw [hn362]; decide) dX12_feed_111 (fun H locs hP hD hS => ?_)
  obtain ⟨fs381, e382⟩ : ∃ z : List Value, z = fs360.set 2 (.int 19) := ⟨_, rfl⟩
  have hn383 : fs381.length = 134 := by rw [e382, List.length_set]; exact hn362
  have hP : va_P G.1 pCl [(h0, .inr (9, fs381)), ((a 0), .inl (G.2.1 0, 5000, .inl f378))] H := by rw [e382]; exact hP
  have hD : va_D A [(h0, .inr (9, fs381)), ((a 0), .inl (G.2.1 0, 5000, .inl f378))] := by rw [e382]; exact hD
  refine lv_iinc (v := 19) (lv' := [(6, .int 19), (7, .int x5), (0, .ref h0), (1, .int x1), (2, .int x2), (3, .int x3), (4, .int x4), (5, .int x5)]) hx hb dX12_feed_114 hl (k := 1) rfl (by decide) (by decide) rfl (fun ls hl => ?_)
  refine lv_goto (tgt := 23) hx hb dX12_feed_117 (by decide) ?_
  refine lv_iload hx hb dX12_feed_23 (lv_at hl 0 rfl) ?_
  refine lv_bipush (v := 20) hx hb dX12_feed_25 (by decide) ?_
  refine lv_icmp_ge (tgt := 120) hx hb dX12_feed_27 (by decide) (fun c384 => absurd c384 (by decide)) (fun c384 => ?_)
  refine lv_iload hx hb dX12_feed_30 (lv_at hl 0 rfl) ?_
  refine lv_iconst (v := 4) hx hb dX12_feed_32 (by decide) ?_
  refine lv_icmp_ge (tgt := 40) hx hb dX12_feed_33 (by decide) (fun c385 => ?_) (fun c385 => absurd c385 (by decide))
  refine lv_iload hx hb dX12_feed_40 (lv_at hl 0 rfl) ?_
  refine lv_bipush (v := 8) hx hb dX12_feed_42 (by decide) ?_
  refine lv_icmp_ge (tgt := 51) hx hb dX12_feed_44 (by decide) (fun c386 => ?_) (fun c386 => absurd c386 (by decide))
  refine lv_iload hx hb dX12_feed_51 (lv_at hl 0 rfl) ?_
  refine lv_bipush (v := 12) hx hb dX12_feed_53 (by decide) ?_
  refine lv_icmp_ge (tgt := 62) hx hb dX12_feed_55 (by decide) (fun c387 => ?_) (fun c387 => absurd c387 (by decide))
  refine lv_iload hx hb dX12_feed_62 (lv_at hl 0 rfl) ?_
  refine lv_bipush (v := 16) hx hb dX12_feed_64 (by decide) ?_
  refine lv_icmp_ge (tgt := 74) hx hb dX12_feed_66 (by decide) (fun c388 => ?_) (fun c388 => absurd c388 (by decide))
  refine lv_iload hx hb dX12_feed_74 (lv_at hl 7 rfl) ?_
  refine lv_istore (lv' := [(7, .int x5), (6, .int 19), (0, .ref h0), (1, .int x1), (2, .int x2), (3, .int x3), (4, .int x4), (5, .int x5)]) hx hb dX12_feed_76 hl (by decide) rfl (fun ls hl => ?_)
  refine lv_aload_n hx hb dX12_feed_78 rfl (lv_at hl 2 rfl) ?_
  refine va_get (D := G.1) (ci := 9) (v := .ref (a 0)) (C := RX12) (T := TX12) (N := 134) hx hb hq pin_wsX120 hown hE.1.1 hP 0 rfl rfl 1 (by decide) (by rw [tFX12_1]; exact hq _ pw_178) (fun _ h9 => h9) (by rw [e382, List.getElem?_set_ne (by decide), e361, List.getElem?_set_ne (by decide), e340, List.getElem?_set_ne (by decide), e319, List.getElem?_set_ne (by decide), e298, List.getElem?_set_ne (by decide), e277, List.getElem?_set_ne (by decide), e256, List.getElem?_set_ne (by decide), e235, List.getElem?_set_ne (by decide), e215, List.getElem?_set_ne (by decide), e195, List.getElem?_set_ne (by decide), e175, List.getElem?_set_ne (by decide), e155, List.getElem?_set_ne (by decide), e136, List.getElem?_set_ne (by decide), e117, List.getElem?_set_ne (by decide), e98, List.getElem?_set_ne (by decide), e79, List.getElem?_set_ne (by decide), e61, List.getElem?_set_ne (by decide), e43, List.getElem?_set_ne (by decide), e25, List.getElem?_set_ne (by decide), e2, List.getElem?_set_ne (by decide), ef]; rfl) dX12_feed_79 ?_
  refine lv_aload_n hx hb dX12_feed_82 rfl (lv_at hl 2 rfl) ?_
  refine va_get (D := G.1) (ci := 9) (v := .int 19) (C := RX12) (T := TX12) (N := 134) hx hb hq pin_wsX120 hown hE.1.1 hP 0 rfl rfl 2 (by decide) (by rw [tFX12_2]; exact hq _ pw_260) (fun _ h9 => h9) (by rw [e382]; exact List.getElem?_set_self (by rw [hn362]; decide)) dX12_feed_83 ?_
  refine lv_iload hx hb dX12_feed_86 (lv_at hl 0 rfl) ?_
  refine lv_bipush (v := 24) hx hb dX12_feed_88 (by decide) ?_
  refine lv_bipush (v := 8) hx hb dX12_feed_90 (by decide) ?_
  refine lv_iload hx hb dX12_feed_92 (lv_at hl 1 rfl) ?_
  refine lv_iconst (v := 4) hx hb dX12_feed_94 (by decide) ?_
  refine lv_irem hx hb dX12_feed_95 (by decide) ?_
  refine lv_topi (fun x389 e390 => ?_)
  obtain rfl : x389 = 3 := e390.trans (by decide)
  refine lv_imul hx hb dX12_feed_96 ?_
  refine lv_topi (fun x391 e392 => ?_)
  obtain rfl : x391 = 24 := e392.trans (by decide)
  refine lv_isub hx hb dX12_feed_97 ?_
  refine lv_topi (fun x393 e394 => ?_)
  obtain rfl : x393 = 0 := e394.trans (by decide)
  refine lv_ishr hx hb dX12_feed_98 ?_
  refine lv_topi (fun x395 e396 => ?_)
  refine lv_sipush (v := 255) hx hb dX12_feed_99 (by decide) ?_
  refine lv_iand hx hb dX12_feed_102 ?_
  refine lv_topi (fun x397 e398 => ?_)
  refine va_iast hx hb hE.1.1 hP hD hS 1 0 rfl rfl (by unfold vp_in; decide) dX12_feed_103 (fun H locs hP hD hS => ?_)
  have hP : va_P G.1 pCl [(h0, .inr (9, fs381)), ((a 0), .inl (G.2.1 0, 5000, .inl (upd f378 (Int32.toNatClampNeg 19) x397)))] H := hP
  have hD : va_D A [(h0, .inr (9, fs381)), ((a 0), .inl (G.2.1 0, 5000, .inl (upd f378 (Int32.toNatClampNeg 19) x397)))] := hD
  generalize (upd f378 (Int32.toNatClampNeg 19) x397) = f399 at hP hD
  refine lv_aload_n hx hb dX12_feed_104 rfl (lv_at hl 2 rfl) ?_
  refine lv_dup hx hb dX12_feed_105 rfl ?_
  refine va_get (D := G.1) (ci := 9) (v := .int 19) (C := RX12) (T := TX12) (N := 134) hx hb hq pin_wsX120 hown hE.1.1 hP 0 rfl rfl 2 (by decide) (by rw [tFX12_2]; exact hq _ pw_260) (fun _ h9 => h9) (by rw [e382]; exact List.getElem?_set_self (by rw [hn362]; decide)) dX12_feed_106 ?_
  refine lv_iconst (v := 1) hx hb dX12_feed_109 (by decide) ?_
  refine lv_iadd hx hb dX12_feed_110 ?_
  refine lv_topi (fun x400 e401 => ?_)
  obtain rfl : x400 = 20 := e401.trans (by decide)
  refine va_put (D := G.1) (ci := 9) (v := .int 20) (ty := .int) (C := RX12) (T := TX12) (N := 134) hx hb hq pin_wsX120 tyX12 tyX12_ok nmX12 hown hE.1.1 hP hD hS 0 rfl rfl 2 (by decide) (by rw [tFX12_2]; exact hq _ pw_260) (fun _ h9 => h9) (by rw [tFX12_2]) (by rw [tFX12_2]; decide +kernel) rfl rfl (by rw [hn383]; decide) dX12_feed_111 (fun H locs hP hD hS => ?_)
  obtain ⟨fs402, e403⟩ : ∃ z : List Value, z = fs381.set 2 (.int 20) := ⟨_, rfl⟩
  have hn404 : fs402.length = 134 := by rw [e403, List.length_set]; exact hn383
  have hP : va_P G.1 pCl [(h0, .inr (9, fs402)), ((a 0), .inl (G.2.1 0, 5000, .inl f399))] H := by rw [e403]; exact hP
  have hD : va_D A [(h0, .inr (9, fs402)), ((a 0), .inl (G.2.1 0, 5000, .inl f399))] := by rw [e403]; exact hD
  refine lv_iinc (v := 20) (lv' := [(6, .int 20), (7, .int x5), (0, .ref h0), (1, .int x1), (2, .int x2), (3, .int x3), (4, .int x4), (5, .int x5)]) hx hb dX12_feed_114 hl (k := 1) rfl (by decide) (by decide) rfl (fun ls hl => ?_)
  refine lv_goto (tgt := 23) hx hb dX12_feed_117 (by decide) ?_
  refine lv_iload hx hb dX12_feed_23 (lv_at hl 0 rfl) ?_
  refine lv_bipush (v := 20) hx hb dX12_feed_25 (by decide) ?_
  refine lv_icmp_ge (tgt := 120) hx hb dX12_feed_27 (by decide) (fun c405 => ?_) (fun c405 => absurd c405 (by decide))
  refine lv_aload_n hx hb dX12_feed_120 rfl (lv_at hl 2 rfl) ?_
  refine va_get (D := G.1) (ci := 9) (v := .int 20) (C := RX12) (T := TX12) (N := 134) hx hb hq pin_wsX120 hown hE.1.1 hP 0 rfl rfl 2 (by decide) (by rw [tFX12_2]; exact hq _ pw_260) (fun _ h9 => h9) (by rw [e403]; exact List.getElem?_set_self (by rw [hn383]; decide)) dX12_feed_121 ?_
  refine W.widen (k := 0) (n := 0) (Nat.le_of_ble_eq_true rfl) (Nat.le_of_ble_eq_true rfl) ?_
  exact W.iret (v := 20) hx hb hr (fun t ht hW => ⟨⟨_, ((fun _ => 0), (fun _ => fun _ => 0), (fun _ => fun _ => 0)), rfl, rfl, by rw [ht]; exact hP.sub [] rfl, hD.sub [] (by decide) rfl⟩, hS.F ht⟩) hS.2.2 dX12_feed_124
theorem dX12_type_0 : decode cX12_type 0 = .ok (.aload_n 0, 1) := by decide +kernel
theorem dX12_type_1 : decode cX12_type 1 = .ok (.iconst 0, 1) := by decide +kernel
theorem dX12_type_2 : decode cX12_type 2 = .ok (.putfield 252, 3) := by decide +kernel
theorem dX12_type_5 : decode cX12_type 5 = .ok (.aload_n 0, 1) := by decide +kernel
theorem dX12_type_6 : decode cX12_type 6 = .ok (.getfield 649, 3) := by decide +kernel
theorem dX12_type_9 : decode cX12_type 9 = .ok (.ifCond .eq 17, 3) := by decide +kernel
theorem dX12_type_26 : decode cX12_type 26 = .ok (.iconst (-1), 1) := by decide +kernel
theorem dX12_type_27 : decode cX12_type 27 = .ok (.ireturn, 1) := by decide +kernel
set_option maxHeartbeats 1000000 in
set_option maxRecDepth 100000 in
/-- type of the reference: NONE -/
theorem m_type (l : Launch) (G : pT) (h0 : Nat) (a : Nat → Nat) (x : Int32) (y : Int32) : PM l G pX0 yX12_type cX12_type 7 (some .int) ({ frames := 2, cells := 0, slots := 0, locals := 60 }) [.ref h0, .int x, .int y] [(h0, .inr (9, (mF a)))] (fun (v : Option Value) (u : (Nat → Nat) × (Nat → Nat → Int32) × (Nat → Nat → Int64)) => v = some (.int (-1))) (fun u => []) := by
  intro sz
  refine Met.ofW (cc := cX12_type) (maxL := 7) (ret := (some .int)) (by decide) rfl ?_
  intro p e s m args below meth c s₁ B hml hv
  obtain ⟨rfl, hsz, hP, hD0, hE, hX⟩ := hv
  have hx := B.exec
  have hb := B.bytes
  have hr := B.returns
  have hts := atoms_spec (ws := Cond.code yX12_type cX12_type 7 (some .int) :: pw) B.pre
  have hq : ∀ w ∈ pw, w.before _ s = true := fun w h => hts w (List.mem_cons_of_mem _ h)
  have hown : s.vm.findClass RX12 = some m.cls := findClass_of_methodNamed B.named
  have hlocks := B.notSynchronized
  subst hsz
  have hD := hD0.self (sz := s.heap.size)
  have hA : ∀ q : Nat, s.heap.size ≤ q → va_A [(h0, .inr (9, (mF a)))] s.heap.size q := fun q h => Or.inr h
  have hP : va_P G.1 pCl [(h0, .inr (9, (mF a)))] s.heap := hP
  generalize va_A [(h0, .inr (9, (mF a)))] s.heap.size = A at hD hE hA ⊢
  have hS : va_S A s.heap s.heap [] := va_S.rf
  have hl := lv_entry ([.ref h0, .int x, .int y]) (n := 7) (Nat.le_of_ble_eq_true rfl)
  rw [lg_entry_eq]
  generalize (lg_sl ([.ref h0, .int x, .int y]) ++ List.replicate (7 - (lg_sl ([.ref h0, .int x, .int y])).length) Slot.unset).toArray = ls at hl ⊢
  have hl : lv_has ls 7 [(0, .ref h0), (1, .int x), (2, .int y)] := hl
  obtain ⟨fs, ef⟩ : ∃ z : List Value, z = (mF a) := ⟨_, rfl⟩
  have hn : fs.length = 134 := by rw [ef]; rfl
  have hP : va_P G.1 pCl [(h0, .inr (9, fs))] s.heap := by rw [ef]; exact hP
  have hD : va_D A [(h0, .inr (9, fs))] := by rw [ef]; exact hD
  refine lv_aload_n hx hb dX12_type_0 rfl (lv_at hl 0 rfl) ?_
  refine lv_iconst (v := 0) hx hb dX12_type_1 (by decide) ?_
  refine va_put (D := G.1) (ci := 9) (v := .int 0) (ty := .int) (C := RX12) (T := TX12) (N := 134) hx hb hq pin_wsX120 tyX12 tyX12_ok nmX12 hown hE.1.1 hP hD hS 0 rfl rfl 0 (by decide) (by rw [tFX12_0]; exact hq _ pw_259) (fun _ h9 => h9) (by rw [tFX12_0]) (by rw [tFX12_0]; decide +kernel) rfl rfl (by rw [hn]; decide) dX12_type_2 (fun H locs hP hD hS => ?_)
  obtain ⟨fs1, e2⟩ : ∃ z : List Value, z = fs.set 0 (.int 0) := ⟨_, rfl⟩
  have hn3 : fs1.length = 134 := by rw [e2, List.length_set]; exact hn
  have hP : va_P G.1 pCl [(h0, .inr (9, fs1))] H := by rw [e2]; exact hP
  have hD : va_D A [(h0, .inr (9, fs1))] := by rw [e2]; exact hD
  refine lv_aload_n hx hb dX12_type_5 rfl (lv_at hl 0 rfl) ?_
  refine va_get (D := G.1) (ci := 9) (v := .int 0) (C := RX12) (T := TX12) (N := 134) hx hb hq pin_wsX120 hown hE.1.1 hP 0 rfl rfl 82 (by decide) (by rw [tFX12_82]; exact hq _ pw_284) (fun _ h9 => h9) (by rw [e2, List.getElem?_set_ne (by decide), ef]; rfl) dX12_type_6 ?_
  refine lv_if_eq (tgt := 26) hx hb dX12_type_9 (by decide) (fun c4 => ?_) (fun c4 => absurd c4 (by decide))
  refine lv_iconst (v := (-1)) hx hb dX12_type_26 (by decide) ?_
  refine W.widen (k := 0) (n := 0) (Nat.le_of_ble_eq_true rfl) (Nat.le_of_ble_eq_true rfl) ?_
  exact W.iret (v := (-1)) hx hb hr (fun t ht hW => ⟨⟨_, ((fun _ => 0), (fun _ => fun _ => 0), (fun _ => fun _ => 0)), rfl, rfl, by rw [ht]; exact hP.sub [] rfl, hD.sub [] (by decide) rfl⟩, hS.F ht⟩) hS.2.2 dX12_type_27
theorem dX12_above_0 : decode cX12_above 0 = .ok (.aload_n 0, 1) := by decide +kernel
theorem dX12_above_1 : decode cX12_above 1 = .ok (.iconst 0, 1) := by decide +kernel
theorem dX12_above_2 : decode cX12_above 2 = .ok (.putfield 252, 3) := by decide +kernel
theorem dX12_above_5 : decode cX12_above 5 = .ok (.aload_n 0, 1) := by decide +kernel
theorem dX12_above_6 : decode cX12_above 6 = .ok (.getfield 649, 3) := by decide +kernel
theorem dX12_above_9 : decode cX12_above 9 = .ok (.ifCond .eq 31, 3) := by decide +kernel
theorem dX12_above_40 : decode cX12_above 40 = .ok (.iconst (-1), 1) := by decide +kernel
theorem dX12_above_41 : decode cX12_above 41 = .ok (.goto 22, 3) := by decide +kernel
theorem dX12_above_63 : decode cX12_above 63 = .ok (.ireturn, 1) := by decide +kernel
set_option maxHeartbeats 1000000 in
set_option maxRecDepth 100000 in
/-- above of the reference: NONE -/
theorem m_above (l : Launch) (G : pT) (h0 : Nat) (a : Nat → Nat) (x : Int32) (y : Int32) : PM l G pX0 yX12_above cX12_above 3 (some .int) ({ frames := 2, cells := 0, slots := 0, locals := 60 }) [.ref h0, .int x, .int y] [(h0, .inr (9, (mF a)))] (fun (v : Option Value) (u : (Nat → Nat) × (Nat → Nat → Int32) × (Nat → Nat → Int64)) => v = some (.int (-1))) (fun u => []) := by
  intro sz
  refine Met.ofW (cc := cX12_above) (maxL := 3) (ret := (some .int)) (by decide) rfl ?_
  intro p e s m args below meth c s₁ B hml hv
  obtain ⟨rfl, hsz, hP, hD0, hE, hX⟩ := hv
  have hx := B.exec
  have hb := B.bytes
  have hr := B.returns
  have hts := atoms_spec (ws := Cond.code yX12_above cX12_above 3 (some .int) :: pw) B.pre
  have hq : ∀ w ∈ pw, w.before _ s = true := fun w h => hts w (List.mem_cons_of_mem _ h)
  have hown : s.vm.findClass RX12 = some m.cls := findClass_of_methodNamed B.named
  have hlocks := B.notSynchronized
  subst hsz
  have hD := hD0.self (sz := s.heap.size)
  have hA : ∀ q : Nat, s.heap.size ≤ q → va_A [(h0, .inr (9, (mF a)))] s.heap.size q := fun q h => Or.inr h
  have hP : va_P G.1 pCl [(h0, .inr (9, (mF a)))] s.heap := hP
  generalize va_A [(h0, .inr (9, (mF a)))] s.heap.size = A at hD hE hA ⊢
  have hS : va_S A s.heap s.heap [] := va_S.rf
  have hl := lv_entry ([.ref h0, .int x, .int y]) (n := 3) (Nat.le_of_ble_eq_true rfl)
  rw [lg_entry_eq]
  generalize (lg_sl ([.ref h0, .int x, .int y]) ++ List.replicate (3 - (lg_sl ([.ref h0, .int x, .int y])).length) Slot.unset).toArray = ls at hl ⊢
  have hl : lv_has ls 3 [(0, .ref h0), (1, .int x), (2, .int y)] := hl
  obtain ⟨fs, ef⟩ : ∃ z : List Value, z = (mF a) := ⟨_, rfl⟩
  have hn : fs.length = 134 := by rw [ef]; rfl
  have hP : va_P G.1 pCl [(h0, .inr (9, fs))] s.heap := by rw [ef]; exact hP
  have hD : va_D A [(h0, .inr (9, fs))] := by rw [ef]; exact hD
  refine lv_aload_n hx hb dX12_above_0 rfl (lv_at hl 0 rfl) ?_
  refine lv_iconst (v := 0) hx hb dX12_above_1 (by decide) ?_
  refine va_put (D := G.1) (ci := 9) (v := .int 0) (ty := .int) (C := RX12) (T := TX12) (N := 134) hx hb hq pin_wsX120 tyX12 tyX12_ok nmX12 hown hE.1.1 hP hD hS 0 rfl rfl 0 (by decide) (by rw [tFX12_0]; exact hq _ pw_259) (fun _ h9 => h9) (by rw [tFX12_0]) (by rw [tFX12_0]; decide +kernel) rfl rfl (by rw [hn]; decide) dX12_above_2 (fun H locs hP hD hS => ?_)
  obtain ⟨fs1, e2⟩ : ∃ z : List Value, z = fs.set 0 (.int 0) := ⟨_, rfl⟩
  have hn3 : fs1.length = 134 := by rw [e2, List.length_set]; exact hn
  have hP : va_P G.1 pCl [(h0, .inr (9, fs1))] H := by rw [e2]; exact hP
  have hD : va_D A [(h0, .inr (9, fs1))] := by rw [e2]; exact hD
  refine lv_aload_n hx hb dX12_above_5 rfl (lv_at hl 0 rfl) ?_
  refine va_get (D := G.1) (ci := 9) (v := .int 0) (C := RX12) (T := TX12) (N := 134) hx hb hq pin_wsX120 hown hE.1.1 hP 0 rfl rfl 82 (by decide) (by rw [tFX12_82]; exact hq _ pw_284) (fun _ h9 => h9) (by rw [e2, List.getElem?_set_ne (by decide), ef]; rfl) dX12_above_6 ?_
  refine lv_if_eq (tgt := 40) hx hb dX12_above_9 (by decide) (fun c4 => ?_) (fun c4 => absurd c4 (by decide))
  refine lv_iconst (v := (-1)) hx hb dX12_above_40 (by decide) ?_
  refine lv_goto (tgt := 63) hx hb dX12_above_41 (by decide) ?_
  refine W.widen (k := 0) (n := 0) (Nat.le_of_ble_eq_true rfl) (Nat.le_of_ble_eq_true rfl) ?_
  exact W.iret (v := (-1)) hx hb hr (fun t ht hW => ⟨⟨_, ((fun _ => 0), (fun _ => fun _ => 0), (fun _ => fun _ => 0)), rfl, rfl, by rw [ht]; exact hP.sub [] rfl, hD.sub [] (by decide) rfl⟩, hS.F ht⟩) hS.2.2 dX12_above_63
theorem dX12_letter_0 : decode cX12_letter 0 = .ok (.aload_n 0, 1) := by decide +kernel
theorem dX12_letter_1 : decode cX12_letter 1 = .ok (.iconst 0, 1) := by decide +kernel
theorem dX12_letter_2 : decode cX12_letter 2 = .ok (.putfield 252, 3) := by decide +kernel
theorem dX12_letter_5 : decode cX12_letter 5 = .ok (.aload_n 0, 1) := by decide +kernel
theorem dX12_letter_6 : decode cX12_letter 6 = .ok (.getfield 649, 3) := by decide +kernel
theorem dX12_letter_9 : decode cX12_letter 9 = .ok (.ifCond .eq 36, 3) := by decide +kernel
theorem dX12_letter_45 : decode cX12_letter 45 = .ok (.iconst (-1), 1) := by decide +kernel
theorem dX12_letter_46 : decode cX12_letter 46 = .ok (.ireturn, 1) := by decide +kernel
set_option maxHeartbeats 1000000 in
set_option maxRecDepth 100000 in
/-- letter of the reference: NONE -/
theorem m_letter (l : Launch) (G : pT) (h0 : Nat) (a : Nat → Nat) (x : Int32) (y : Int32) : PM l G pX0 yX12_letter cX12_letter 3 (some .int) ({ frames := 2, cells := 0, slots := 0, locals := 60 }) [.ref h0, .int x, .int y] [(h0, .inr (9, (mF a)))] (fun (v : Option Value) (u : (Nat → Nat) × (Nat → Nat → Int32) × (Nat → Nat → Int64)) => v = some (.int (-1))) (fun u => []) := by
  intro sz
  refine Met.ofW (cc := cX12_letter) (maxL := 3) (ret := (some .int)) (by decide) rfl ?_
  intro p e s m args below meth c s₁ B hml hv
  obtain ⟨rfl, hsz, hP, hD0, hE, hX⟩ := hv
  have hx := B.exec
  have hb := B.bytes
  have hr := B.returns
  have hts := atoms_spec (ws := Cond.code yX12_letter cX12_letter 3 (some .int) :: pw) B.pre
  have hq : ∀ w ∈ pw, w.before _ s = true := fun w h => hts w (List.mem_cons_of_mem _ h)
  have hown : s.vm.findClass RX12 = some m.cls := findClass_of_methodNamed B.named
  have hlocks := B.notSynchronized
  subst hsz
  have hD := hD0.self (sz := s.heap.size)
  have hA : ∀ q : Nat, s.heap.size ≤ q → va_A [(h0, .inr (9, (mF a)))] s.heap.size q := fun q h => Or.inr h
  have hP : va_P G.1 pCl [(h0, .inr (9, (mF a)))] s.heap := hP
  generalize va_A [(h0, .inr (9, (mF a)))] s.heap.size = A at hD hE hA ⊢
  have hS : va_S A s.heap s.heap [] := va_S.rf
  have hl := lv_entry ([.ref h0, .int x, .int y]) (n := 3) (Nat.le_of_ble_eq_true rfl)
  rw [lg_entry_eq]
  generalize (lg_sl ([.ref h0, .int x, .int y]) ++ List.replicate (3 - (lg_sl ([.ref h0, .int x, .int y])).length) Slot.unset).toArray = ls at hl ⊢
  have hl : lv_has ls 3 [(0, .ref h0), (1, .int x), (2, .int y)] := hl
  obtain ⟨fs, ef⟩ : ∃ z : List Value, z = (mF a) := ⟨_, rfl⟩
  have hn : fs.length = 134 := by rw [ef]; rfl
  have hP : va_P G.1 pCl [(h0, .inr (9, fs))] s.heap := by rw [ef]; exact hP
  have hD : va_D A [(h0, .inr (9, fs))] := by rw [ef]; exact hD
  refine lv_aload_n hx hb dX12_letter_0 rfl (lv_at hl 0 rfl) ?_
  refine lv_iconst (v := 0) hx hb dX12_letter_1 (by decide) ?_
  refine va_put (D := G.1) (ci := 9) (v := .int 0) (ty := .int) (C := RX12) (T := TX12) (N := 134) hx hb hq pin_wsX120 tyX12 tyX12_ok nmX12 hown hE.1.1 hP hD hS 0 rfl rfl 0 (by decide) (by rw [tFX12_0]; exact hq _ pw_259) (fun _ h9 => h9) (by rw [tFX12_0]) (by rw [tFX12_0]; decide +kernel) rfl rfl (by rw [hn]; decide) dX12_letter_2 (fun H locs hP hD hS => ?_)
  obtain ⟨fs1, e2⟩ : ∃ z : List Value, z = fs.set 0 (.int 0) := ⟨_, rfl⟩
  have hn3 : fs1.length = 134 := by rw [e2, List.length_set]; exact hn
  have hP : va_P G.1 pCl [(h0, .inr (9, fs1))] H := by rw [e2]; exact hP
  have hD : va_D A [(h0, .inr (9, fs1))] := by rw [e2]; exact hD
  refine lv_aload_n hx hb dX12_letter_5 rfl (lv_at hl 0 rfl) ?_
  refine va_get (D := G.1) (ci := 9) (v := .int 0) (C := RX12) (T := TX12) (N := 134) hx hb hq pin_wsX120 hown hE.1.1 hP 0 rfl rfl 82 (by decide) (by rw [tFX12_82]; exact hq _ pw_284) (fun _ h9 => h9) (by rw [e2, List.getElem?_set_ne (by decide), ef]; rfl) dX12_letter_6 ?_
  refine lv_if_eq (tgt := 45) hx hb dX12_letter_9 (by decide) (fun c4 => ?_) (fun c4 => absurd c4 (by decide))
  refine lv_iconst (v := (-1)) hx hb dX12_letter_45 (by decide) ?_
  refine W.widen (k := 0) (n := 0) (Nat.le_of_ble_eq_true rfl) (Nat.le_of_ble_eq_true rfl) ?_
  exact W.iret (v := (-1)) hx hb hr (fun t ht hW => ⟨⟨_, ((fun _ => 0), (fun _ => fun _ => 0), (fun _ => fun _ => 0)), rfl, rfl, by rw [ht]; exact hP.sub [] rfl, hD.sub [] (by decide) rfl⟩, hS.F ht⟩) hS.2.2 dX12_letter_46
theorem dX12_called_0 : decode cX12_called 0 = .ok (.aload_n 0, 1) := by decide +kernel
theorem dX12_called_1 : decode cX12_called 1 = .ok (.iconst 0, 1) := by decide +kernel
theorem dX12_called_2 : decode cX12_called 2 = .ok (.putfield 252, 3) := by decide +kernel
theorem dX12_called_5 : decode cX12_called 5 = .ok (.aload_n 0, 1) := by decide +kernel
theorem dX12_called_6 : decode cX12_called 6 = .ok (.getfield 649, 3) := by decide +kernel
theorem dX12_called_9 : decode cX12_called 9 = .ok (.ifCond .eq 58, 3) := by decide +kernel
theorem dX12_called_67 : decode cX12_called 67 = .ok (.iconst (-1), 1) := by decide +kernel
theorem dX12_called_68 : decode cX12_called 68 = .ok (.ireturn, 1) := by decide +kernel
set_option maxHeartbeats 1000000 in
set_option maxRecDepth 100000 in
/-- called of the reference: NONE -/
theorem m_called (l : Launch) (G : pT) (h0 : Nat) (a : Nat → Nat) (x : Int32) (y : Int32) : PM l G pX0 yX12_called cX12_called 5 (some .int) ({ frames := 2, cells := 0, slots := 0, locals := 60 }) [.ref h0, .int x, .int y] [(h0, .inr (9, (mF a)))] (fun (v : Option Value) (u : (Nat → Nat) × (Nat → Nat → Int32) × (Nat → Nat → Int64)) => v = some (.int (-1))) (fun u => []) := by
  intro sz
  refine Met.ofW (cc := cX12_called) (maxL := 5) (ret := (some .int)) (by decide) rfl ?_
  intro p e s m args below meth c s₁ B hml hv
  obtain ⟨rfl, hsz, hP, hD0, hE, hX⟩ := hv
  have hx := B.exec
  have hb := B.bytes
  have hr := B.returns
  have hts := atoms_spec (ws := Cond.code yX12_called cX12_called 5 (some .int) :: pw) B.pre
  have hq : ∀ w ∈ pw, w.before _ s = true := fun w h => hts w (List.mem_cons_of_mem _ h)
  have hown : s.vm.findClass RX12 = some m.cls := findClass_of_methodNamed B.named
  have hlocks := B.notSynchronized
  subst hsz
  have hD := hD0.self (sz := s.heap.size)
  have hA : ∀ q : Nat, s.heap.size ≤ q → va_A [(h0, .inr (9, (mF a)))] s.heap.size q := fun q h => Or.inr h
  have hP : va_P G.1 pCl [(h0, .inr (9, (mF a)))] s.heap := hP
  generalize va_A [(h0, .inr (9, (mF a)))] s.heap.size = A at hD hE hA ⊢
  have hS : va_S A s.heap s.heap [] := va_S.rf
  have hl := lv_entry ([.ref h0, .int x, .int y]) (n := 5) (Nat.le_of_ble_eq_true rfl)
  rw [lg_entry_eq]
  generalize (lg_sl ([.ref h0, .int x, .int y]) ++ List.replicate (5 - (lg_sl ([.ref h0, .int x, .int y])).length) Slot.unset).toArray = ls at hl ⊢
  have hl : lv_has ls 5 [(0, .ref h0), (1, .int x), (2, .int y)] := hl
  obtain ⟨fs, ef⟩ : ∃ z : List Value, z = (mF a) := ⟨_, rfl⟩
  have hn : fs.length = 134 := by rw [ef]; rfl
  have hP : va_P G.1 pCl [(h0, .inr (9, fs))] s.heap := by rw [ef]; exact hP
  have hD : va_D A [(h0, .inr (9, fs))] := by rw [ef]; exact hD
  refine lv_aload_n hx hb dX12_called_0 rfl (lv_at hl 0 rfl) ?_
  refine lv_iconst (v := 0) hx hb dX12_called_1 (by decide) ?_
  refine va_put (D := G.1) (ci := 9) (v := .int 0) (ty := .int) (C := RX12) (T := TX12) (N := 134) hx hb hq pin_wsX120 tyX12 tyX12_ok nmX12 hown hE.1.1 hP hD hS 0 rfl rfl 0 (by decide) (by rw [tFX12_0]; exact hq _ pw_259) (fun _ h9 => h9) (by rw [tFX12_0]) (by rw [tFX12_0]; decide +kernel) rfl rfl (by rw [hn]; decide) dX12_called_2 (fun H locs hP hD hS => ?_)
  obtain ⟨fs1, e2⟩ : ∃ z : List Value, z = fs.set 0 (.int 0) := ⟨_, rfl⟩
  have hn3 : fs1.length = 134 := by rw [e2, List.length_set]; exact hn
  have hP : va_P G.1 pCl [(h0, .inr (9, fs1))] H := by rw [e2]; exact hP
  have hD : va_D A [(h0, .inr (9, fs1))] := by rw [e2]; exact hD
  refine lv_aload_n hx hb dX12_called_5 rfl (lv_at hl 0 rfl) ?_
  refine va_get (D := G.1) (ci := 9) (v := .int 0) (C := RX12) (T := TX12) (N := 134) hx hb hq pin_wsX120 hown hE.1.1 hP 0 rfl rfl 82 (by decide) (by rw [tFX12_82]; exact hq _ pw_284) (fun _ h9 => h9) (by rw [e2, List.getElem?_set_ne (by decide), ef]; rfl) dX12_called_6 ?_
  refine lv_if_eq (tgt := 67) hx hb dX12_called_9 (by decide) (fun c4 => ?_) (fun c4 => absurd c4 (by decide))
  refine lv_iconst (v := (-1)) hx hb dX12_called_67 (by decide) ?_
  refine W.widen (k := 0) (n := 0) (Nat.le_of_ble_eq_true rfl) (Nat.le_of_ble_eq_true rfl) ?_
  exact W.iret (v := (-1)) hx hb hr (fun t ht hW => ⟨⟨_, ((fun _ => 0), (fun _ => fun _ => 0), (fun _ => fun _ => 0)), rfl, rfl, by rw [ht]; exact hP.sub [] rfl, hD.sub [] (by decide) rfl⟩, hS.F ht⟩) hS.2.2 dX12_called_68
theorem dX12_input_0 : decode cX12_input 0 = .ok (.aload_n 0, 1) := by decide +kernel
theorem dX12_input_1 : decode cX12_input 1 = .ok (.iconst 0, 1) := by decide +kernel
theorem dX12_input_2 : decode cX12_input 2 = .ok (.putfield 252, 3) := by decide +kernel
theorem dX12_input_5 : decode cX12_input 5 = .ok (.aload_n 0, 1) := by decide +kernel
theorem dX12_input_6 : decode cX12_input 6 = .ok (.getfield 689, 3) := by decide +kernel
theorem dX12_input_9 : decode cX12_input 9 = .ok (.sipush 200, 3) := by decide +kernel
theorem dX12_input_12 : decode cX12_input 12 = .ok (.if_icmp .ne 5, 3) := by decide +kernel
theorem dX12_input_17 : decode cX12_input 17 = .ok (.aload_n 0, 1) := by decide +kernel
theorem dX12_input_18 : decode cX12_input 18 = .ok (.getfield 162, 3) := by decide +kernel
theorem dX12_input_21 : decode cX12_input 21 = .ok (.aload_n 0, 1) := by decide +kernel
theorem dX12_input_22 : decode cX12_input 22 = .ok (.getfield 689, 3) := by decide +kernel
theorem dX12_input_25 : decode cX12_input 25 = .ok (.iload_n 1, 1) := by decide +kernel
theorem dX12_input_26 : decode cX12_input 26 = .ok (.iastore, 1) := by decide +kernel
theorem dX12_input_27 : decode cX12_input 27 = .ok (.aload_n 0, 1) := by decide +kernel
theorem dX12_input_28 : decode cX12_input 28 = .ok (.dup, 1) := by decide +kernel
theorem dX12_input_29 : decode cX12_input 29 = .ok (.getfield 689, 3) := by decide +kernel
theorem dX12_input_32 : decode cX12_input 32 = .ok (.iconst 1, 1) := by decide +kernel
theorem dX12_input_33 : decode cX12_input 33 = .ok (.iadd, 1) := by decide +kernel
theorem dX12_input_34 : decode cX12_input 34 = .ok (.putfield 689, 3) := by decide +kernel
theorem dX12_input_37 : decode cX12_input 37 = .ok (.aload_n 0, 1) := by decide +kernel
theorem dX12_input_38 : decode cX12_input 38 = .ok (.getfield 689, 3) := by decide +kernel
theorem dX12_input_41 : decode cX12_input 41 = .ok (.ireturn, 1) := by decide +kernel
set_option maxHeartbeats 1000000 in
set_option maxRecDepth 100000 in
/-- input of the reference: 1 -/
theorem m_input (l : Launch) (G : pT) (h0 : Nat) (a : Nat → Nat) (x : Int32) : PM l G pX0 yX12_input cX12_input 2 (some .int) ({ frames := 2, cells := 0, slots := 0, locals := 60 }) [.ref h0, .int x] [(h0, .inr (9, (mF a))), ((a 50), .inl (G.2.1 0, 200, .inl (fun _ => 0)))] (fun (v : Option Value) (u : (Nat → Nat) × (Nat → Nat → Int32) × (Nat → Nat → Int64)) => v = some (.int 1)) (fun u => []) := by
  intro sz
  refine Met.ofW (cc := cX12_input) (maxL := 2) (ret := (some .int)) (by decide) rfl ?_
  intro p e s m args below meth c s₁ B hml hv
  obtain ⟨rfl, hsz, hP, hD0, hE, hX⟩ := hv
  have hx := B.exec
  have hb := B.bytes
  have hr := B.returns
  have hts := atoms_spec (ws := Cond.code yX12_input cX12_input 2 (some .int) :: pw) B.pre
  have hq : ∀ w ∈ pw, w.before _ s = true := fun w h => hts w (List.mem_cons_of_mem _ h)
  have hown : s.vm.findClass RX12 = some m.cls := findClass_of_methodNamed B.named
  have hlocks := B.notSynchronized
  subst hsz
  have hD := hD0.self (sz := s.heap.size)
  have hA : ∀ q : Nat, s.heap.size ≤ q → va_A [(h0, .inr (9, (mF a))), ((a 50), .inl (G.2.1 0, 200, .inl (fun _ => 0)))] s.heap.size q := fun q h => Or.inr h
  have hP : va_P G.1 pCl [(h0, .inr (9, (mF a))), ((a 50), .inl (G.2.1 0, 200, .inl (fun _ => 0)))] s.heap := hP
  generalize va_A [(h0, .inr (9, (mF a))), ((a 50), .inl (G.2.1 0, 200, .inl (fun _ => 0)))] s.heap.size = A at hD hE hA ⊢
  have hS : va_S A s.heap s.heap [] := va_S.rf
  have hl := lv_entry ([.ref h0, .int x]) (n := 2) (Nat.le_of_ble_eq_true rfl)
  rw [lg_entry_eq]
  generalize (lg_sl ([.ref h0, .int x]) ++ List.replicate (2 - (lg_sl ([.ref h0, .int x])).length) Slot.unset).toArray = ls at hl ⊢
  have hl : lv_has ls 2 [(0, .ref h0), (1, .int x)] := hl
  obtain ⟨fs, ef⟩ : ∃ z : List Value, z = (mF a) := ⟨_, rfl⟩
  have hn : fs.length = 134 := by rw [ef]; rfl
  have hP : va_P G.1 pCl [(h0, .inr (9, fs)), ((a 50), .inl (G.2.1 0, 200, .inl (fun _ => 0)))] s.heap := by rw [ef]; exact hP
  have hD : va_D A [(h0, .inr (9, fs)), ((a 50), .inl (G.2.1 0, 200, .inl (fun _ => 0)))] := by rw [ef]; exact hD
  refine lv_aload_n hx hb dX12_input_0 rfl (lv_at hl 0 rfl) ?_
  refine lv_iconst (v := 0) hx hb dX12_input_1 (by decide) ?_
  refine va_put (D := G.1) (ci := 9) (v := .int 0) (ty := .int) (C := RX12) (T := TX12) (N := 134) hx hb hq pin_wsX120 tyX12 tyX12_ok nmX12 hown hE.1.1 hP hD hS 0 rfl rfl 0 (by decide) (by rw [tFX12_0]; exact hq _ pw_259) (fun _ h9 => h9) (by rw [tFX12_0]) (by rw [tFX12_0]; decide +kernel) rfl rfl (by rw [hn]; decide) dX12_input_2 (fun H locs hP hD hS => ?_)
  obtain ⟨fs1, e2⟩ : ∃ z : List Value, z = fs.set 0 (.int 0) := ⟨_, rfl⟩
  have hn3 : fs1.length = 134 := by rw [e2, List.length_set]; exact hn
  have hP : va_P G.1 pCl [(h0, .inr (9, fs1)), ((a 50), .inl (G.2.1 0, 200, .inl (fun _ => 0)))] H := by rw [e2]; exact hP
  have hD : va_D A [(h0, .inr (9, fs1)), ((a 50), .inl (G.2.1 0, 200, .inl (fun _ => 0)))] := by rw [e2]; exact hD
  refine lv_aload_n hx hb dX12_input_5 rfl (lv_at hl 0 rfl) ?_
  refine va_get (D := G.1) (ci := 9) (v := .int 0) (C := RX12) (T := TX12) (N := 134) hx hb hq pin_wsX120 hown hE.1.1 hP 0 rfl rfl 85 (by decide) (by rw [tFX12_85]; exact hq _ pw_298) (fun _ h9 => h9) (by rw [e2, List.getElem?_set_ne (by decide), ef]; rfl) dX12_input_6 ?_
  refine lv_sipush (v := 200) hx hb dX12_input_9 (by decide) ?_
  refine lv_icmp_ne (tgt := 17) hx hb dX12_input_12 (by decide) (fun c4 => ?_) (fun c4 => absurd c4 (by decide))
  refine lv_aload_n hx hb dX12_input_17 rfl (lv_at hl 0 rfl) ?_
  refine va_get (D := G.1) (ci := 9) (v := .ref (a 50)) (C := RX12) (T := TX12) (N := 134) hx hb hq pin_wsX120 hown hE.1.1 hP 0 rfl rfl 84 (by decide) (by rw [tFX12_84]; exact hq _ pw_228) (fun _ h9 => h9) (by rw [e2, List.getElem?_set_ne (by decide), ef]; rfl) dX12_input_18 ?_
  refine lv_aload_n hx hb dX12_input_21 rfl (lv_at hl 0 rfl) ?_
  refine va_get (D := G.1) (ci := 9) (v := .int 0) (C := RX12) (T := TX12) (N := 134) hx hb hq pin_wsX120 hown hE.1.1 hP 0 rfl rfl 85 (by decide) (by rw [tFX12_85]; exact hq _ pw_298) (fun _ h9 => h9) (by rw [e2, List.getElem?_set_ne (by decide), ef]; rfl) dX12_input_22 ?_
  refine lv_iload_n hx hb dX12_input_25 rfl (lv_at hl 1 rfl) ?_
  refine va_iast hx hb hE.1.1 hP hD hS 1 0 rfl rfl (by unfold vp_in; decide) dX12_input_26 (fun H locs hP hD hS => ?_)
  have hP : va_P G.1 pCl [(h0, .inr (9, fs1)), ((a 50), .inl (G.2.1 0, 200, .inl (upd (fun _ => 0) (Int32.toNatClampNeg 0) x)))] H := hP
  have hD : va_D A [(h0, .inr (9, fs1)), ((a 50), .inl (G.2.1 0, 200, .inl (upd (fun _ => 0) (Int32.toNatClampNeg 0) x)))] := hD
  generalize (upd (fun _ => 0) (Int32.toNatClampNeg 0) x) = f5 at hP hD
  refine lv_aload_n hx hb dX12_input_27 rfl (lv_at hl 0 rfl) ?_
  refine lv_dup hx hb dX12_input_28 rfl ?_
  refine va_get (D := G.1) (ci := 9) (v := .int 0) (C := RX12) (T := TX12) (N := 134) hx hb hq pin_wsX120 hown hE.1.1 hP 0 rfl rfl 85 (by decide) (by rw [tFX12_85]; exact hq _ pw_298) (fun _ h9 => h9) (by rw [e2, List.getElem?_set_ne (by decide), ef]; rfl) dX12_input_29 ?_
  refine lv_iconst (v := 1) hx hb dX12_input_32 (by decide) ?_
  refine lv_iadd hx hb dX12_input_33 ?_
  refine lv_topi (fun x6 e7 => ?_)
  obtain rfl : x6 = 1 := e7.trans (by decide)
  refine va_put (D := G.1) (ci := 9) (v := .int 1) (ty := .int) (C := RX12) (T := TX12) (N := 134) hx hb hq pin_wsX120 tyX12 tyX12_ok nmX12 hown hE.1.1 hP hD hS 0 rfl rfl 85 (by decide) (by rw [tFX12_85]; exact hq _ pw_298) (fun _ h9 => h9) (by rw [tFX12_85]) (by rw [tFX12_85]; decide +kernel) rfl rfl (by rw [hn3]; decide) dX12_input_34 (fun H locs hP hD hS => ?_)
  obtain ⟨fs8, e9⟩ : ∃ z : List Value, z = fs1.set 85 (.int 1) := ⟨_, rfl⟩
  have hn10 : fs8.length = 134 := by rw [e9, List.length_set]; exact hn3
  have hP : va_P G.1 pCl [(h0, .inr (9, fs8)), ((a 50), .inl (G.2.1 0, 200, .inl f5))] H := by rw [e9]; exact hP
  have hD : va_D A [(h0, .inr (9, fs8)), ((a 50), .inl (G.2.1 0, 200, .inl f5))] := by rw [e9]; exact hD
  refine lv_aload_n hx hb dX12_input_37 rfl (lv_at hl 0 rfl) ?_
  refine va_get (D := G.1) (ci := 9) (v := .int 1) (C := RX12) (T := TX12) (N := 134) hx hb hq pin_wsX120 hown hE.1.1 hP 0 rfl rfl 85 (by decide) (by rw [tFX12_85]; exact hq _ pw_298) (fun _ h9 => h9) (by rw [e9]; exact List.getElem?_set_self (by rw [hn3]; decide)) dX12_input_38 ?_
  refine W.widen (k := 0) (n := 0) (Nat.le_of_ble_eq_true rfl) (Nat.le_of_ble_eq_true rfl) ?_
  exact W.iret (v := 1) hx hb hr (fun t ht hW => ⟨⟨_, ((fun _ => 0), (fun _ => fun _ => 0), (fun _ => fun _ => 0)), rfl, rfl, by rw [ht]; exact hP.sub [] rfl, hD.sub [] (by decide) rfl⟩, hS.F ht⟩) hS.2.2 dX12_input_41
theorem dX12_forget_0 : decode cX12_forget 0 = .ok (.aload_n 0, 1) := by decide +kernel
theorem dX12_forget_1 : decode cX12_forget 1 = .ok (.iconst 0, 1) := by decide +kernel
theorem dX12_forget_2 : decode cX12_forget 2 = .ok (.putfield 252, 3) := by decide +kernel
theorem dX12_forget_5 : decode cX12_forget 5 = .ok (.aload_n 0, 1) := by decide +kernel
theorem dX12_forget_6 : decode cX12_forget 6 = .ok (.iconst 0, 1) := by decide +kernel
theorem dX12_forget_7 : decode cX12_forget 7 = .ok (.putfield 689, 3) := by decide +kernel
theorem dX12_forget_10 : decode cX12_forget 10 = .ok (.return_, 1) := by decide +kernel
set_option maxHeartbeats 1000000 in
set_option maxRecDepth 100000 in
/-- forget of the reference -/
theorem m_forget (l : Launch) (G : pT) (h0 : Nat) (a : Nat → Nat) : PM l G pX0 yX12_forget cX12_forget 1 none ({ frames := 2, cells := 0, slots := 0, locals := 60 }) [.ref h0] [(h0, .inr (9, (mF a)))] (fun (v : Option Value) (u : (Nat → Nat) × (Nat → Nat → Int32) × (Nat → Nat → Int64)) => v = none) (fun u => []) := by
  intro sz
  refine Met.ofW (cc := cX12_forget) (maxL := 1) (ret := none) (by decide) rfl ?_
  intro p e s m args below meth c s₁ B hml hv
  obtain ⟨rfl, hsz, hP, hD0, hE, hX⟩ := hv
  have hx := B.exec
  have hb := B.bytes
  have hr := B.returns
  have hts := atoms_spec (ws := Cond.code yX12_forget cX12_forget 1 none :: pw) B.pre
  have hq : ∀ w ∈ pw, w.before _ s = true := fun w h => hts w (List.mem_cons_of_mem _ h)
  have hown : s.vm.findClass RX12 = some m.cls := findClass_of_methodNamed B.named
  have hlocks := B.notSynchronized
  subst hsz
  have hD := hD0.self (sz := s.heap.size)
  have hA : ∀ q : Nat, s.heap.size ≤ q → va_A [(h0, .inr (9, (mF a)))] s.heap.size q := fun q h => Or.inr h
  have hP : va_P G.1 pCl [(h0, .inr (9, (mF a)))] s.heap := hP
  generalize va_A [(h0, .inr (9, (mF a)))] s.heap.size = A at hD hE hA ⊢
  have hS : va_S A s.heap s.heap [] := va_S.rf
  have hl := lv_entry ([.ref h0]) (n := 1) (Nat.le_of_ble_eq_true rfl)
  rw [lg_entry_eq]
  generalize (lg_sl ([.ref h0]) ++ List.replicate (1 - (lg_sl ([.ref h0])).length) Slot.unset).toArray = ls at hl ⊢
  have hl : lv_has ls 1 [(0, .ref h0)] := hl
  obtain ⟨fs, ef⟩ : ∃ z : List Value, z = (mF a) := ⟨_, rfl⟩
  have hn : fs.length = 134 := by rw [ef]; rfl
  have hP : va_P G.1 pCl [(h0, .inr (9, fs))] s.heap := by rw [ef]; exact hP
  have hD : va_D A [(h0, .inr (9, fs))] := by rw [ef]; exact hD
  refine lv_aload_n hx hb dX12_forget_0 rfl (lv_at hl 0 rfl) ?_
  refine lv_iconst (v := 0) hx hb dX12_forget_1 (by decide) ?_
  refine va_put (D := G.1) (ci := 9) (v := .int 0) (ty := .int) (C := RX12) (T := TX12) (N := 134) hx hb hq pin_wsX120 tyX12 tyX12_ok nmX12 hown hE.1.1 hP hD hS 0 rfl rfl 0 (by decide) (by rw [tFX12_0]; exact hq _ pw_259) (fun _ h9 => h9) (by rw [tFX12_0]) (by rw [tFX12_0]; decide +kernel) rfl rfl (by rw [hn]; decide) dX12_forget_2 (fun H locs hP hD hS => ?_)
  obtain ⟨fs1, e2⟩ : ∃ z : List Value, z = fs.set 0 (.int 0) := ⟨_, rfl⟩
  have hn3 : fs1.length = 134 := by rw [e2, List.length_set]; exact hn
  have hP : va_P G.1 pCl [(h0, .inr (9, fs1))] H := by rw [e2]; exact hP
  have hD : va_D A [(h0, .inr (9, fs1))] := by rw [e2]; exact hD
  refine lv_aload_n hx hb dX12_forget_5 rfl (lv_at hl 0 rfl) ?_
  refine lv_iconst (v := 0) hx hb dX12_forget_6 (by decide) ?_
  refine va_put (D := G.1) (ci := 9) (v := .int 0) (ty := .int) (C := RX12) (T := TX12) (N := 134) hx hb hq pin_wsX120 tyX12 tyX12_ok nmX12 hown hE.1.1 hP hD hS 0 rfl rfl 85 (by decide) (by rw [tFX12_85]; exact hq _ pw_298) (fun _ h9 => h9) (by rw [tFX12_85]) (by rw [tFX12_85]; decide +kernel) rfl rfl (by rw [hn3]; decide) dX12_forget_7 (fun H locs hP hD hS => ?_)
  obtain ⟨fs4, e5⟩ : ∃ z : List Value, z = fs1.set 85 (.int 0) := ⟨_, rfl⟩
  have hn6 : fs4.length = 134 := by rw [e5, List.length_set]; exact hn3
  have hP : va_P G.1 pCl [(h0, .inr (9, fs4))] H := by rw [e5]; exact hP
  have hD : va_D A [(h0, .inr (9, fs4))] := by rw [e5]; exact hD
  refine W.widen (k := 0) (n := 0) (Nat.le_of_ble_eq_true rfl) (Nat.le_of_ble_eq_true rfl) ?_
  exact W.vret hx hb hr (fun t ht hW => ⟨⟨_, ((fun _ => 0), (fun _ => fun _ => 0), (fun _ => fun _ => 0)), rfl, rfl, by rw [ht]; exact hP.sub [] rfl, hD.sub [] (by decide) rfl⟩, hS.F ht⟩) hS.2.2 dX12_forget_10
theorem dX12_result_0 : decode cX12_result 0 = .ok (.aload_n 0, 1) := by decide +kernel
theorem dX12_result_1 : decode cX12_result 1 = .ok (.iconst 0, 1) := by decide +kernel
theorem dX12_result_2 : decode cX12_result 2 = .ok (.putfield 252, 3) := by decide +kernel
theorem dX12_result_5 : decode cX12_result 5 = .ok (.aload_n 0, 1) := by decide +kernel
theorem dX12_result_6 : decode cX12_result 6 = .ok (.getfield 233, 3) := by decide +kernel
theorem dX12_result_9 : decode cX12_result 9 = .ok (.ifCond .ne 10, 3) := by decide +kernel
theorem dX12_result_19 : decode cX12_result 19 = .ok (.iconst 0, 1) := by decide +kernel
theorem dX12_result_20 : decode cX12_result 20 = .ok (.ireturn, 1) := by decide +kernel
set_option maxHeartbeats 1000000 in
set_option maxRecDepth 100000 in
/-- result of the reference: 0 -/
theorem m_result (l : Launch) (G : pT) (h0 : Nat) (a : Nat → Nat) : PM l G pX0 yX12_result cX12_result 1 (some .int) ({ frames := 2, cells := 0, slots := 0, locals := 60 }) [.ref h0] [(h0, .inr (9, (mF a)))] (fun (v : Option Value) (u : (Nat → Nat) × (Nat → Nat → Int32) × (Nat → Nat → Int64)) => v = some (.int 0)) (fun u => []) := by
  intro sz
  refine Met.ofW (cc := cX12_result) (maxL := 1) (ret := (some .int)) (by decide) rfl ?_
  intro p e s m args below meth c s₁ B hml hv
  obtain ⟨rfl, hsz, hP, hD0, hE, hX⟩ := hv
  have hx := B.exec
  have hb := B.bytes
  have hr := B.returns
  have hts := atoms_spec (ws := Cond.code yX12_result cX12_result 1 (some .int) :: pw) B.pre
  have hq : ∀ w ∈ pw, w.before _ s = true := fun w h => hts w (List.mem_cons_of_mem _ h)
  have hown : s.vm.findClass RX12 = some m.cls := findClass_of_methodNamed B.named
  have hlocks := B.notSynchronized
  subst hsz
  have hD := hD0.self (sz := s.heap.size)
  have hA : ∀ q : Nat, s.heap.size ≤ q → va_A [(h0, .inr (9, (mF a)))] s.heap.size q := fun q h => Or.inr h
  have hP : va_P G.1 pCl [(h0, .inr (9, (mF a)))] s.heap := hP
  generalize va_A [(h0, .inr (9, (mF a)))] s.heap.size = A at hD hE hA ⊢
  have hS : va_S A s.heap s.heap [] := va_S.rf
  have hl := lv_entry ([.ref h0]) (n := 1) (Nat.le_of_ble_eq_true rfl)
  rw [lg_entry_eq]
  generalize (lg_sl ([.ref h0]) ++ List.replicate (1 - (lg_sl ([.ref h0])).length) Slot.unset).toArray = ls at hl ⊢
  have hl : lv_has ls 1 [(0, .ref h0)] := hl
  obtain ⟨fs, ef⟩ : ∃ z : List Value, z = (mF a) := ⟨_, rfl⟩
  have hn : fs.length = 134 := by rw [ef]; rfl
  have hP : va_P G.1 pCl [(h0, .inr (9, fs))] s.heap := by rw [ef]; exact hP
  have hD : va_D A [(h0, .inr (9, fs))] := by rw [ef]; exact hD
  refine lv_aload_n hx hb dX12_result_0 rfl (lv_at hl 0 rfl) ?_
  refine lv_iconst (v := 0) hx hb dX12_result_1 (by decide) ?_
  refine va_put (D := G.1) (ci := 9) (v := .int 0) (ty := .int) (C := RX12) (T := TX12) (N := 134) hx hb hq pin_wsX120 tyX12 tyX12_ok nmX12 hown hE.1.1 hP hD hS 0 rfl rfl 0 (by decide) (by rw [tFX12_0]; exact hq _ pw_259) (fun _ h9 => h9) (by rw [tFX12_0]) (by rw [tFX12_0]; decide +kernel) rfl rfl (by rw [hn]; decide) dX12_result_2 (fun H locs hP hD hS => ?_)
  obtain ⟨fs1, e2⟩ : ∃ z : List Value, z = fs.set 0 (.int 0) := ⟨_, rfl⟩
  have hn3 : fs1.length = 134 := by rw [e2, List.length_set]; exact hn
  have hP : va_P G.1 pCl [(h0, .inr (9, fs1))] H := by rw [e2]; exact hP
  have hD : va_D A [(h0, .inr (9, fs1))] := by rw [e2]; exact hD
  refine lv_aload_n hx hb dX12_result_5 rfl (lv_at hl 0 rfl) ?_
  refine va_get (D := G.1) (ci := 9) (v := .int (-1)) (C := RX12) (T := TX12) (N := 134) hx hb hq pin_wsX120 hown hE.1.1 hP 0 rfl rfl 116 (by decide) (by rw [tFX12_116]; exact hq _ pw_253) (fun _ h9 => h9) (by rw [e2, List.getElem?_set_ne (by decide), ef]; rfl) dX12_result_6 ?_
  refine lv_if_ne (tgt := 19) hx hb dX12_result_9 (by decide) (fun c4 => ?_) (fun c4 => absurd c4 (by decide))
  refine lv_iconst (v := 0) hx hb dX12_result_19 (by decide) ?_
  refine W.widen (k := 0) (n := 0) (Nat.le_of_ble_eq_true rfl) (Nat.le_of_ble_eq_true rfl) ?_
  exact W.iret (v := 0) hx hb hr (fun t ht hW => ⟨⟨_, ((fun _ => 0), (fun _ => fun _ => 0), (fun _ => fun _ => 0)), rfl, rfl, by rw [ht]; exact hP.sub [] rfl, hD.sub [] (by decide) rfl⟩, hS.F ht⟩) hS.2.2 dX12_result_20
theorem dX12_refusals_0 : decode cX12_refusals 0 = .ok (.aload_n 0, 1) := by decide +kernel
theorem dX12_refusals_1 : decode cX12_refusals 1 = .ok (.iconst 0, 1) := by decide +kernel
theorem dX12_refusals_2 : decode cX12_refusals 2 = .ok (.putfield 252, 3) := by decide +kernel
theorem dX12_refusals_5 : decode cX12_refusals 5 = .ok (.iconst 0, 1) := by decide +kernel
theorem dX12_refusals_6 : decode cX12_refusals 6 = .ok (.ireturn, 1) := by decide +kernel
set_option maxHeartbeats 1000000 in
set_option maxRecDepth 100000 in
/-- refusals of the reference: 0 -/
theorem m_refusals (l : Launch) (G : pT) (h0 : Nat) (a : Nat → Nat) : PM l G pX0 yX12_refusals cX12_refusals 1 (some .int) ({ frames := 2, cells := 0, slots := 0, locals := 60 }) [.ref h0] [(h0, .inr (9, (mF a)))] (fun (v : Option Value) (u : (Nat → Nat) × (Nat → Nat → Int32) × (Nat → Nat → Int64)) => v = some (.int 0)) (fun u => []) := by
  intro sz
  refine Met.ofW (cc := cX12_refusals) (maxL := 1) (ret := (some .int)) (by decide) rfl ?_
  intro p e s m args below meth c s₁ B hml hv
  obtain ⟨rfl, hsz, hP, hD0, hE, hX⟩ := hv
  have hx := B.exec
  have hb := B.bytes
  have hr := B.returns
  have hts := atoms_spec (ws := Cond.code yX12_refusals cX12_refusals 1 (some .int) :: pw) B.pre
  have hq : ∀ w ∈ pw, w.before _ s = true := fun w h => hts w (List.mem_cons_of_mem _ h)
  have hown : s.vm.findClass RX12 = some m.cls := findClass_of_methodNamed B.named
  have hlocks := B.notSynchronized
  subst hsz
  have hD := hD0.self (sz := s.heap.size)
  have hA : ∀ q : Nat, s.heap.size ≤ q → va_A [(h0, .inr (9, (mF a)))] s.heap.size q := fun q h => Or.inr h
  have hP : va_P G.1 pCl [(h0, .inr (9, (mF a)))] s.heap := hP
  generalize va_A [(h0, .inr (9, (mF a)))] s.heap.size = A at hD hE hA ⊢
  have hS : va_S A s.heap s.heap [] := va_S.rf
  have hl := lv_entry ([.ref h0]) (n := 1) (Nat.le_of_ble_eq_true rfl)
  rw [lg_entry_eq]
  generalize (lg_sl ([.ref h0]) ++ List.replicate (1 - (lg_sl ([.ref h0])).length) Slot.unset).toArray = ls at hl ⊢
  have hl : lv_has ls 1 [(0, .ref h0)] := hl
  obtain ⟨fs, ef⟩ : ∃ z : List Value, z = (mF a) := ⟨_, rfl⟩
  have hn : fs.length = 134 := by rw [ef]; rfl
  have hP : va_P G.1 pCl [(h0, .inr (9, fs))] s.heap := by rw [ef]; exact hP
  have hD : va_D A [(h0, .inr (9, fs))] := by rw [ef]; exact hD
  refine lv_aload_n hx hb dX12_refusals_0 rfl (lv_at hl 0 rfl) ?_
  refine lv_iconst (v := 0) hx hb dX12_refusals_1 (by decide) ?_
  refine va_put (D := G.1) (ci := 9) (v := .int 0) (ty := .int) (C := RX12) (T := TX12) (N := 134) hx hb hq pin_wsX120 tyX12 tyX12_ok nmX12 hown hE.1.1 hP hD hS 0 rfl rfl 0 (by decide) (by rw [tFX12_0]; exact hq _ pw_259) (fun _ h9 => h9) (by rw [tFX12_0]) (by rw [tFX12_0]; decide +kernel) rfl rfl (by rw [hn]; decide) dX12_refusals_2 (fun H locs hP hD hS => ?_)
  obtain ⟨fs1, e2⟩ : ∃ z : List Value, z = fs.set 0 (.int 0) := ⟨_, rfl⟩
  have hn3 : fs1.length = 134 := by rw [e2, List.length_set]; exact hn
  have hP : va_P G.1 pCl [(h0, .inr (9, fs1))] H := by rw [e2]; exact hP
  have hD : va_D A [(h0, .inr (9, fs1))] := by rw [e2]; exact hD
  refine lv_iconst (v := 0) hx hb dX12_refusals_5 (by decide) ?_
  refine W.widen (k := 0) (n := 0) (Nat.le_of_ble_eq_true rfl) (Nat.le_of_ble_eq_true rfl) ?_
  exact W.iret (v := 0) hx hb hr (fun t ht hW => ⟨⟨_, ((fun _ => 0), (fun _ => fun _ => 0), (fun _ => fun _ => 0)), rfl, rfl, by rw [ht]; exact hP.sub [] rfl, hD.sub [] (by decide) rfl⟩, hS.F ht⟩) hS.2.2 dX12_refusals_6
theorem dX12_thrown__0 : decode cX12_thrown_ 0 = .ok (.aload_n 0, 1) := by decide +kernel
theorem dX12_thrown__1 : decode cX12_thrown_ 1 = .ok (.iconst 0, 1) := by decide +kernel
theorem dX12_thrown__2 : decode cX12_thrown_ 2 = .ok (.putfield 252, 3) := by decide +kernel
theorem dX12_thrown__5 : decode cX12_thrown_ 5 = .ok (.aload_n 0, 1) := by decide +kernel
theorem dX12_thrown__6 : decode cX12_thrown_ 6 = .ok (.getfield 233, 3) := by decide +kernel
theorem dX12_thrown__9 : decode cX12_thrown_ 9 = .ok (.iconst 1, 1) := by decide +kernel
theorem dX12_thrown__10 : decode cX12_thrown_ 10 = .ok (.if_icmp .eq 5, 3) := by decide +kernel
theorem dX12_thrown__13 : decode cX12_thrown_ 13 = .ok (.iconst (-1), 1) := by decide +kernel
theorem dX12_thrown__14 : decode cX12_thrown_ 14 = .ok (.ireturn, 1) := by decide +kernel
set_option maxHeartbeats 1000000 in
set_option maxRecDepth 100000 in
/-- thrown of the reference: NONE -/
theorem m_thrown (l : Launch) (G : pT) (h0 : Nat) (a : Nat → Nat) (x : Int32) : PM l G pX0 yX12_thrown_ cX12_thrown_ 6 (some .int) ({ frames := 2, cells := 0, slots := 0, locals := 60 }) [.ref h0, .int x] [(h0, .inr (9, (mF a)))] (fun (v : Option Value) (u : (Nat → Nat) × (Nat → Nat → Int32) × (Nat → Nat → Int64)) => v = some (.int (-1))) (fun u => []) := by
  intro sz
  refine Met.ofW (cc := cX12_thrown_) (maxL := 6) (ret := (some .int)) (by decide) rfl ?_
  intro p e s m args below meth c s₁ B hml hv
  obtain ⟨rfl, hsz, hP, hD0, hE, hX⟩ := hv
  have hx := B.exec
  have hb := B.bytes
  have hr := B.returns
  have hts := atoms_spec (ws := Cond.code yX12_thrown_ cX12_thrown_ 6 (some .int) :: pw) B.pre
  have hq : ∀ w ∈ pw, w.before _ s = true := fun w h => hts w (List.mem_cons_of_mem _ h)
  have hown : s.vm.findClass RX12 = some m.cls := findClass_of_methodNamed B.named
  have hlocks := B.notSynchronized
  subst hsz
  have hD := hD0.self (sz := s.heap.size)
  have hA : ∀ q : Nat, s.heap.size ≤ q → va_A [(h0, .inr (9, (mF a)))] s.heap.size q := fun q h => Or.inr h
  have hP : va_P G.1 pCl [(h0, .inr (9, (mF a)))] s.heap := hP
  generalize va_A [(h0, .inr (9, (mF a)))] s.heap.size = A at hD hE hA ⊢
  have hS : va_S A s.heap s.heap [] := va_S.rf
  have hl := lv_entry ([.ref h0, .int x]) (n := 6) (Nat.le_of_ble_eq_true rfl)
  rw [lg_entry_eq]
  generalize (lg_sl ([.ref h0, .int x]) ++ List.replicate (6 - (lg_sl ([.ref h0, .int x])).length) Slot.unset).toArray = ls at hl ⊢
  have hl : lv_has ls 6 [(0, .ref h0), (1, .int x)] := hl
  obtain ⟨fs, ef⟩ : ∃ z : List Value, z = (mF a) := ⟨_, rfl⟩
  have hn : fs.length = 134 := by rw [ef]; rfl
  have hP : va_P G.1 pCl [(h0, .inr (9, fs))] s.heap := by rw [ef]; exact hP
  have hD : va_D A [(h0, .inr (9, fs))] := by rw [ef]; exact hD
  refine lv_aload_n hx hb dX12_thrown__0 rfl (lv_at hl 0 rfl) ?_
  refine lv_iconst (v := 0) hx hb dX12_thrown__1 (by decide) ?_
  refine va_put (D := G.1) (ci := 9) (v := .int 0) (ty := .int) (C := RX12) (T := TX12) (N := 134) hx hb hq pin_wsX120 tyX12 tyX12_ok nmX12 hown hE.1.1 hP hD hS 0 rfl rfl 0 (by decide) (by rw [tFX12_0]; exact hq _ pw_259) (fun _ h9 => h9) (by rw [tFX12_0]) (by rw [tFX12_0]; decide +kernel) rfl rfl (by rw [hn]; decide) dX12_thrown__2 (fun H locs hP hD hS => ?_)
  obtain ⟨fs1, e2⟩ : ∃ z : List Value, z = fs.set 0 (.int 0) := ⟨_, rfl⟩
  have hn3 : fs1.length = 134 := by rw [e2, List.length_set]; exact hn
  have hP : va_P G.1 pCl [(h0, .inr (9, fs1))] H := by rw [e2]; exact hP
  have hD : va_D A [(h0, .inr (9, fs1))] := by rw [e2]; exact hD
  refine lv_aload_n hx hb dX12_thrown__5 rfl (lv_at hl 0 rfl) ?_
  refine va_get (D := G.1) (ci := 9) (v := .int (-1)) (C := RX12) (T := TX12) (N := 134) hx hb hq pin_wsX120 hown hE.1.1 hP 0 rfl rfl 116 (by decide) (by rw [tFX12_116]; exact hq _ pw_253) (fun _ h9 => h9) (by rw [e2, List.getElem?_set_ne (by decide), ef]; rfl) dX12_thrown__6 ?_
  refine lv_iconst (v := 1) hx hb dX12_thrown__9 (by decide) ?_
  refine lv_icmp_eq (tgt := 15) hx hb dX12_thrown__10 (by decide) (fun c4 => absurd c4 (by decide)) (fun c4 => ?_)
  refine lv_iconst (v := (-1)) hx hb dX12_thrown__13 (by decide) ?_
  refine W.widen (k := 0) (n := 0) (Nat.le_of_ble_eq_true rfl) (Nat.le_of_ble_eq_true rfl) ?_
  exact W.iret (v := (-1)) hx hb hr (fun t ht hW => ⟨⟨_, ((fun _ => 0), (fun _ => fun _ => 0), (fun _ => fun _ => 0)), rfl, rfl, by rw [ht]; exact hP.sub [] rfl, hD.sub [] (by decide) rfl⟩, hS.F ht⟩) hS.2.2 dX12_thrown__14
theorem dX12_back_0 : decode cX12_back 0 = .ok (.aload_n 0, 1) := by decide +kernel
theorem dX12_back_1 : decode cX12_back 1 = .ok (.iconst 0, 1) := by decide +kernel
theorem dX12_back_2 : decode cX12_back 2 = .ok (.putfield 252, 3) := by decide +kernel
theorem dX12_back_5 : decode cX12_back 5 = .ok (.iload_n 1, 1) := by decide +kernel
theorem dX12_back_6 : decode cX12_back 6 = .ok (.ifCond .lt 11, 3) := by decide +kernel
theorem dX12_back_17 : decode cX12_back 17 = .ok (.iconst (-1), 1) := by decide +kernel
theorem dX12_back_18 : decode cX12_back 18 = .ok (.ireturn, 1) := by decide +kernel
theorem dX12_back_9 : decode cX12_back 9 = .ok (.iload_n 1, 1) := by decide +kernel
theorem dX12_back_10 : decode cX12_back 10 = .ok (.aload_n 0, 1) := by decide +kernel
theorem dX12_back_11 : decode cX12_back 11 = .ok (.getfield 255, 3) := by decide +kernel
theorem dX12_back_14 : decode cX12_back 14 = .ok (.if_icmp .le 5, 3) := by decide +kernel
theorem dX12_back_19 : decode cX12_back 19 = .ok (.aload_n 0, 1) := by decide +kernel
theorem dX12_back_20 : decode cX12_back 20 = .ok (.dup, 1) := by decide +kernel
theorem dX12_back_21 : decode cX12_back 21 = .ok (.getfield 255, 3) := by decide +kernel
theorem dX12_back_24 : decode cX12_back 24 = .ok (.iload_n 1, 1) := by decide +kernel
theorem dX12_back_25 : decode cX12_back 25 = .ok (.isub, 1) := by decide +kernel
theorem dX12_back_26 : decode cX12_back 26 = .ok (.putfield 255, 3) := by decide +kernel
theorem dX12_back_29 : decode cX12_back 29 = .ok (.aload_n 0, 1) := by decide +kernel
theorem dX12_back_30 : decode cX12_back 30 = .ok (.getfield 255, 3) := by decide +kernel
theorem dX12_back_33 : decode cX12_back 33 = .ok (.ireturn, 1) := by decide +kernel
set_option maxHeartbeats 1000000 in
set_option maxRecDepth 100000 in
/-- back of the reference -/
theorem m_back (l : Launch) (G : pT) (h0 : Nat) (a : Nat → Nat) (x : Int32) : PM l G pX0 yX12_back cX12_back 2 (some .int) ({ frames := 2, cells := 0, slots := 0, locals := 60 }) [.ref h0, .int x] [(h0, .inr (9, (mF a)))] (fun (v : Option Value) (u : Unit) => v = some (.int (if x = 0 then 0 else (-1)))) (fun u => []) := by
  intro sz
  refine Met.ofW (cc := cX12_back) (maxL := 2) (ret := (some .int)) (by decide) rfl ?_
  intro p e s m args below meth c s₁ B hml hv
  obtain ⟨rfl, hsz, hP, hD0, hE, hX⟩ := hv
  have hx := B.exec
  have hb := B.bytes
  have hr := B.returns
  have hts := atoms_spec (ws := Cond.code yX12_back cX12_back 2 (some .int) :: pw) B.pre
  have hq : ∀ w ∈ pw, w.before _ s = true := fun w h => hts w (List.mem_cons_of_mem _ h)
  have hown : s.vm.findClass RX12 = some m.cls := findClass_of_methodNamed B.named
  have hlocks := B.notSynchronized
  subst hsz
  have hD := hD0.self (sz := s.heap.size)
  have hA : ∀ q : Nat, s.heap.size ≤ q → va_A [(h0, .inr (9, (mF a)))] s.heap.size q := fun q h => Or.inr h
  have hP : va_P G.1 pCl [(h0, .inr (9, (mF a)))] s.heap := hP
  generalize va_A [(h0, .inr (9, (mF a)))] s.heap.size = A at hD hE hA ⊢
  have hS : va_S A s.heap s.heap [] := va_S.rf
  have hl := lv_entry ([.ref h0, .int x]) (n := 2) (Nat.le_of_ble_eq_true rfl)
  rw [lg_entry_eq]
  generalize (lg_sl ([.ref h0, .int x]) ++ List.replicate (2 - (lg_sl ([.ref h0, .int x])).length) Slot.unset).toArray = ls at hl ⊢
  have hl : lv_has ls 2 [(0, .ref h0), (1, .int x)] := hl
  obtain ⟨fs, ef⟩ : ∃ z : List Value, z = (mF a) := ⟨_, rfl⟩
  have hn : fs.length = 134 := by rw [ef]; rfl
  have hP : va_P G.1 pCl [(h0, .inr (9, fs))] s.heap := by rw [ef]; exact hP
  have hD : va_D A [(h0, .inr (9, fs))] := by rw [ef]; exact hD
  refine lv_aload_n hx hb dX12_back_0 rfl (lv_at hl 0 rfl) ?_
  refine lv_iconst (v := 0) hx hb dX12_back_1 (by decide) ?_
  refine va_put (D := G.1) (ci := 9) (v := .int 0) (ty := .int) (C := RX12) (T := TX12) (N := 134) hx hb hq pin_wsX120 tyX12 tyX12_ok nmX12 hown hE.1.1 hP hD hS 0 rfl rfl 0 (by decide) (by rw [tFX12_0]; exact hq _ pw_259) (fun _ h9 => h9) (by rw [tFX12_0]) (by rw [tFX12_0]; decide +kernel) rfl rfl (by rw [hn]; decide) dX12_back_2 (fun H locs hP hD hS => ?_)
  obtain ⟨fs1, e2⟩ : ∃ z : List Value, z = fs.set 0 (.int 0) := ⟨_, rfl⟩
  have hn3 : fs1.length = 134 := by rw [e2, List.length_set]; exact hn
  have hP : va_P G.1 pCl [(h0, .inr (9, fs1))] H := by rw [e2]; exact hP
  have hD : va_D A [(h0, .inr (9, fs1))] := by rw [e2]; exact hD
  refine lv_iload_n hx hb dX12_back_5 rfl (lv_at hl 1 rfl) ?_
  refine lv_if_lt (tgt := 17) hx hb dX12_back_6 (by decide) (fun c4 => ?_) (fun c4 => ?_)
  · refine lv_iconst (v := (-1)) hx hb dX12_back_17 (by decide) ?_
    refine W.widen (k := 0) (n := 0) (Nat.le_of_ble_eq_true rfl) (Nat.le_of_ble_eq_true rfl) ?_
    exact W.iret (v := (-1)) hx hb hr (fun t ht hW => ⟨⟨_, (), rfl, (by rw [if_neg (fun h => absurd c4 (by rw [h]; decide))]), by rw [ht]; exact hP.sub [] rfl, hD.sub [] (by decide) rfl⟩, hS.F ht⟩) hS.2.2 dX12_back_18
  · refine lv_iload_n hx hb dX12_back_9 rfl (lv_at hl 1 rfl) ?_
    refine lv_aload_n hx hb dX12_back_10 rfl (lv_at hl 0 rfl) ?_
    refine va_get (D := G.1) (ci := 9) (v := .int 0) (C := RX12) (T := TX12) (N := 134) hx hb hq pin_wsX120 hown hE.1.1 hP 0 rfl rfl 2 (by decide) (by rw [tFX12_2]; exact hq _ pw_260) (fun _ h9 => h9) (by rw [e2, List.getElem?_set_ne (by decide), ef]; rfl) dX12_back_11 ?_
    refine lv_icmp_le (tgt := 19) hx hb dX12_back_14 (by decide) (fun c5 => ?_) (fun c5 => ?_)
    · refine lv_aload_n hx hb dX12_back_19 rfl (lv_at hl 0 rfl) ?_
      refine lv_dup hx hb dX12_back_20 rfl ?_
      refine va_get (D := G.1) (ci := 9) (v := .int 0) (C := RX12) (T := TX12) (N := 134) hx hb hq pin_wsX120 hown hE.1.1 hP 0 rfl rfl 2 (by decide) (by rw [tFX12_2]; exact hq _ pw_260) (fun _ h9 => h9) (by rw [e2, List.getElem?_set_ne (by decide), ef]; rfl) dX12_back_21 ?_
      refine lv_iload_n hx hb dX12_back_24 rfl (lv_at hl 1 rfl) ?_
      refine lv_isub hx hb dX12_back_25 ?_
      refine lv_topi (fun x6 e7 => ?_)
      refine va_put (D := G.1) (ci := 9) (v := .int x6) (ty := .int) (C := RX12) (T := TX12) (N := 134) hx hb hq pin_wsX120 tyX12 tyX12_ok nmX12 hown hE.1.1 hP hD hS 0 rfl rfl 2 (by decide) (by rw [tFX12_2]; exact hq _ pw_260) (fun _ h9 => h9) (by rw [tFX12_2]) (by rw [tFX12_2]; decide +kernel) rfl rfl (by rw [hn3]; decide) dX12_back_26 (fun H locs hP hD hS => ?_)
      obtain ⟨fs8, e9⟩ : ∃ z : List Value, z = fs1.set 2 (.int x6) := ⟨_, rfl⟩
      have hn10 : fs8.length = 134 := by rw [e9, List.length_set]; exact hn3
      have hP : va_P G.1 pCl [(h0, .inr (9, fs8))] H := by rw [e9]; exact hP
      have hD : va_D A [(h0, .inr (9, fs8))] := by rw [e9]; exact hD
      refine lv_aload_n hx hb dX12_back_29 rfl (lv_at hl 0 rfl) ?_
      refine va_get (D := G.1) (ci := 9) (v := .int x6) (C := RX12) (T := TX12) (N := 134) hx hb hq pin_wsX120 hown hE.1.1 hP 0 rfl rfl 2 (by decide) (by rw [tFX12_2]; exact hq _ pw_260) (fun _ h9 => h9) (by rw [e9]; exact List.getElem?_set_self (by rw [hn3]; decide)) dX12_back_30 ?_
      refine W.widen (k := 0) (n := 0) (Nat.le_of_ble_eq_true rfl) (Nat.le_of_ble_eq_true rfl) ?_
      exact W.iret (v := x6) hx hb hr (fun t ht hW => ⟨⟨_, (), rfl, (by have h : x = 0 := Int32.le_antisymm c5 (Int32.not_lt.mp c4); rw [if_pos h, e7, h]; rfl), by rw [ht]; exact hP.sub [] rfl, hD.sub [] (by decide) rfl⟩, hS.F ht⟩) hS.2.2 dX12_back_33
    · refine lv_iconst (v := (-1)) hx hb dX12_back_17 (by decide) ?_
      refine W.widen (k := 0) (n := 0) (Nat.le_of_ble_eq_true rfl) (Nat.le_of_ble_eq_true rfl) ?_
      exact W.iret (v := (-1)) hx hb hr (fun t ht hW => ⟨⟨_, (), rfl, (by rw [if_neg (fun h => c5 (by rw [h]; decide))]), by rw [ht]; exact hP.sub [] rfl, hD.sub [] (by decide) rfl⟩, hS.F ht⟩) hS.2.2 dX12_back_18
theorem dX12_in_0 : decode cX12_in 0 = .ok (.iload_n 0, 1) := by decide +kernel
theorem dX12_in_1 : decode cX12_in 1 = .ok (.iload_n 1, 1) := by decide +kernel
theorem dX12_in_2 : decode cX12_in 2 = .ok (.if_icmp .lt 12, 3) := by decide +kernel
theorem dX12_in_14 : decode cX12_in 14 = .ok (.iconst 0, 1) := by decide +kernel
theorem dX12_in_15 : decode cX12_in 15 = .ok (.ireturn, 1) := by decide +kernel
theorem dX12_in_5 : decode cX12_in 5 = .ok (.iload_n 0, 1) := by decide +kernel
theorem dX12_in_6 : decode cX12_in 6 = .ok (.iload_n 2, 1) := by decide +kernel
theorem dX12_in_7 : decode cX12_in 7 = .ok (.if_icmp .gt 7, 3) := by decide +kernel
set_option maxHeartbeats 1000000 in
set_option maxRecDepth 100000 in
/-- in(x, 0, -1): no -/
theorem m_in0 (l : Launch) (G : pT) (x : Int32) : PM l G pX0 yX12_in cX12_in 3 (some .boolean) ({ frames := 2, cells := 0, slots := 0, locals := 60 }) [.int x, .int 0, .int (-1)] [] (fun (v : Option Value) (u : Unit) => v = some (.int 0)) (fun u => []) := by
  intro sz
  refine Met.ofW (cc := cX12_in) (maxL := 3) (ret := (some .boolean)) (by decide) rfl ?_
  intro p e s m args below meth c s₁ B hml hv
  obtain ⟨rfl, hsz, hP, hD0, hE, hX⟩ := hv
  have hx := B.exec
  have hb := B.bytes
  have hr := B.returns
  have hts := atoms_spec (ws := Cond.code yX12_in cX12_in 3 (some .boolean) :: pw) B.pre
  have hq : ∀ w ∈ pw, w.before _ s = true := fun w h => hts w (List.mem_cons_of_mem _ h)
  have hown : s.vm.findClass RX12 = some m.cls := findClass_of_methodNamed B.named
  have hlocks := B.notSynchronized
  subst hsz
  have hD := hD0.self (sz := s.heap.size)
  have hA : ∀ q : Nat, s.heap.size ≤ q → va_A [] s.heap.size q := fun q h => Or.inr h
  have hP : va_P G.1 pCl [] s.heap := hP
  generalize va_A [] s.heap.size = A at hD hE hA ⊢
  have hS : va_S A s.heap s.heap [] := va_S.rf
  have hl := lv_entry ([.int x, .int 0, .int (-1)]) (n := 3) (Nat.le_of_ble_eq_true rfl)
  rw [lg_entry_eq]
  generalize (lg_sl ([.int x, .int 0, .int (-1)]) ++ List.replicate (3 - (lg_sl ([.int x, .int 0, .int (-1)])).length) Slot.unset).toArray = ls at hl ⊢
  have hl : lv_has ls 3 [(0, .int x), (1, .int 0), (2, .int (-1))] := hl
  refine lv_iload_n hx hb dX12_in_0 rfl (lv_at hl 0 rfl) ?_
  refine lv_iload_n hx hb dX12_in_1 rfl (lv_at hl 1 rfl) ?_
  refine lv_icmp_lt (tgt := 14) hx hb dX12_in_2 (by decide) (fun c1 => ?_) (fun c1 => ?_)
  · refine lv_iconst (v := 0) hx hb dX12_in_14 (by decide) ?_
    refine W.widen (k := 0) (n := 0) (Nat.le_of_ble_eq_true rfl) (Nat.le_of_ble_eq_true rfl) ?_
    exact W.zret (v := 0) hx hb hr rfl (fun t ht hW => ⟨⟨_, (), rfl, rfl, by rw [ht]; exact hP.sub [] rfl, hD.sub [] (by decide) rfl⟩, hS.F ht⟩) hS.2.2 dX12_in_15
  · refine lv_iload_n hx hb dX12_in_5 rfl (lv_at hl 0 rfl) ?_
    refine lv_iload_n hx hb dX12_in_6 rfl (lv_at hl 2 rfl) ?_
    refine lv_icmp_gt (tgt := 14) hx hb dX12_in_7 (by decide) (fun c2 => ?_) (fun c2 => absurd (m1_lt c1) c2)
    refine lv_iconst (v := 0) hx hb dX12_in_14 (by decide) ?_
    refine W.widen (k := 0) (n := 0) (Nat.le_of_ble_eq_true rfl) (Nat.le_of_ble_eq_true rfl) ?_
    exact W.zret (v := 0) hx hb hr rfl (fun t ht hW => ⟨⟨_, (), rfl, rfl, by rw [ht]; exact hP.sub [] rfl, hD.sub [] (by decide) rfl⟩, hS.F ht⟩) hS.2.2 dX12_in_15
theorem dX12_output_0 : decode cX12_output 0 = .ok (.aload_n 0, 1) := by decide +kernel
theorem dX12_output_1 : decode cX12_output 1 = .ok (.iconst 0, 1) := by decide +kernel
theorem dX12_output_2 : decode cX12_output 2 = .ok (.putfield 252, 3) := by decide +kernel
theorem dX12_output_5 : decode cX12_output 5 = .ok (.iload_n 1, 1) := by decide +kernel
theorem dX12_output_6 : decode cX12_output 6 = .ok (.iconst 0, 1) := by decide +kernel
theorem dX12_output_7 : decode cX12_output 7 = .ok (.aload_n 0, 1) := by decide +kernel
theorem dX12_output_8 : decode cX12_output 8 = .ok (.getfield 656, 3) := by decide +kernel
theorem dX12_output_11 : decode cX12_output 11 = .ok (.iconst 1, 1) := by decide +kernel
theorem dX12_output_12 : decode cX12_output 12 = .ok (.isub, 1) := by decide +kernel
theorem dX12_output_13 : decode cX12_output 13 = .ok (.invokestatic 261, 3) := by decide +kernel
theorem dX12_output_16 : decode cX12_output 16 = .ok (.ifCond .eq 12, 3) := by decide +kernel
theorem dX12_output_28 : decode cX12_output 28 = .ok (.iconst 0, 1) := by decide +kernel
theorem dX12_output_29 : decode cX12_output 29 = .ok (.ireturn, 1) := by decide +kernel
theorem hS_X12_in : yX12_in.cls ≠ "java/lang/invoke/MethodHandle" ∧ yX12_in.cls ≠ "java/lang/invoke/VarHandle" ∧ (parseMethodDescriptor yX12_in.desc).map (fun d => d.parameters.length) = some 3 := by decide +kernel
set_option maxHeartbeats 1000000 in
set_option maxRecDepth 100000 in
/-- output of the reference: 0 -/
theorem m_output (l : Launch) (G : pT) (h0 : Nat) (a : Nat → Nat) (x : Int32) : PM l G pX0 yX12_output cX12_output 2 (some .int) ({ frames := 3, cells := 0, slots := 0, locals := 82 }) [.ref h0, .int x] [(h0, .inr (9, (mF a)))] (fun (v : Option Value) (u : Unit) => v = some (.int 0)) (fun u => []) := by
  intro sz
  refine Met.ofW (cc := cX12_output) (maxL := 2) (ret := (some .int)) (by decide) rfl ?_
  intro p e s m args below meth c s₁ B hml hv
  obtain ⟨rfl, hsz, hP, hD0, hE, hX⟩ := hv
  have hx := B.exec
  have hb := B.bytes
  have hr := B.returns
  have hts := atoms_spec (ws := Cond.code yX12_output cX12_output 2 (some .int) :: pw) B.pre
  have hq : ∀ w ∈ pw, w.before _ s = true := fun w h => hts w (List.mem_cons_of_mem _ h)
  have hown : s.vm.findClass RX12 = some m.cls := findClass_of_methodNamed B.named
  have hlocks := B.notSynchronized
  subst hsz
  have hD := hD0.self (sz := s.heap.size)
  have hA : ∀ q : Nat, s.heap.size ≤ q → va_A [(h0, .inr (9, (mF a)))] s.heap.size q := fun q h => Or.inr h
  have hP : va_P G.1 pCl [(h0, .inr (9, (mF a)))] s.heap := hP
  generalize va_A [(h0, .inr (9, (mF a)))] s.heap.size = A at hD hE hA ⊢
  have hS : va_S A s.heap s.heap [] := va_S.rf
  have hl := lv_entry ([.ref h0, .int x]) (n := 2) (Nat.le_of_ble_eq_true rfl)
  rw [lg_entry_eq]
  generalize (lg_sl ([.ref h0, .int x]) ++ List.replicate (2 - (lg_sl ([.ref h0, .int x])).length) Slot.unset).toArray = ls at hl ⊢
  have hl : lv_has ls 2 [(0, .ref h0), (1, .int x)] := hl
  obtain ⟨fs, ef⟩ : ∃ z : List Value, z = (mF a) := ⟨_, rfl⟩
  have hn : fs.length = 134 := by rw [ef]; rfl
  have hP : va_P G.1 pCl [(h0, .inr (9, fs))] s.heap := by rw [ef]; exact hP
  have hD : va_D A [(h0, .inr (9, fs))] := by rw [ef]; exact hD
  refine lv_aload_n hx hb dX12_output_0 rfl (lv_at hl 0 rfl) ?_
  refine lv_iconst (v := 0) hx hb dX12_output_1 (by decide) ?_
  refine va_put (D := G.1) (ci := 9) (v := .int 0) (ty := .int) (C := RX12) (T := TX12) (N := 134) hx hb hq pin_wsX120 tyX12 tyX12_ok nmX12 hown hE.1.1 hP hD hS 0 rfl rfl 0 (by decide) (by rw [tFX12_0]; exact hq _ pw_259) (fun _ h9 => h9) (by rw [tFX12_0]) (by rw [tFX12_0]; decide +kernel) rfl rfl (by rw [hn]; decide) dX12_output_2 (fun H locs hP hD hS => ?_)
  obtain ⟨fs1, e2⟩ : ∃ z : List Value, z = fs.set 0 (.int 0) := ⟨_, rfl⟩
  have hn3 : fs1.length = 134 := by rw [e2, List.length_set]; exact hn
  have hP : va_P G.1 pCl [(h0, .inr (9, fs1))] H := by rw [e2]; exact hP
  have hD : va_D A [(h0, .inr (9, fs1))] := by rw [e2]; exact hD
  refine lv_iload_n hx hb dX12_output_5 rfl (lv_at hl 1 rfl) ?_
  refine lv_iconst (v := 0) hx hb dX12_output_6 (by decide) ?_
  refine lv_aload_n hx hb dX12_output_7 rfl (lv_at hl 0 rfl) ?_
  refine va_get (D := G.1) (ci := 9) (v := .int 0) (C := RX12) (T := TX12) (N := 134) hx hb hq pin_wsX120 hown hE.1.1 hP 0 rfl rfl 87 (by decide) (by rw [tFX12_87]; exact hq _ pw_286) (fun _ h9 => h9) (by rw [e2, List.getElem?_set_ne (by decide), ef]; rfl) dX12_output_8 ?_
  refine lv_iconst (v := 1) hx hb dX12_output_11 (by decide) ?_
  refine lv_isub hx hb dX12_output_12 ?_
  refine lv_topi (fun x4 e5 => ?_)
  obtain rfl : x4 = (-1) := e5.trans (by decide)
  refine pc_S (G := G) (As := [.int x, .int 0, .int (-1)]) (rest := []) (wr := [(h0, .inr (9, fs1))]) hx hb hml hown hq hE hX pX0_al hP hD hS hA hl.1 (m_in0 l G x) (gS pw_297 pw_522 pw_517 pw_521) hS_X12_in [] [0] rfl rfl (by decide) (by decide) (by decide) rfl (Nat.le_of_ble_eq_true rfl) dX12_output_13 ⟨Nat.le_of_ble_eq_true rfl, Nat.le_of_ble_eq_true rfl⟩ ⟨Nat.le_of_ble_eq_true rfl, Nat.le_of_ble_eq_true rfl⟩ (fun v8 u6 H locs hw7 hP hD hS => ?_)
  obtain rfl : v8 = some (.int 0) := hw7
  have hP : va_P G.1 pCl [(h0, .inr (9, fs1))] H := hP
  have hD : va_D A [(h0, .inr (9, fs1))] := hD
  refine W.widen (k := 0) (n := 0) (Nat.le_of_ble_eq_true rfl) (Nat.le_of_ble_eq_true rfl) ?_
  refine W.eq (g2 := F0 m 16 ls [.int 0]) rfl ?_
  refine lv_if_eq (tgt := 28) hx hb dX12_output_16 (by decide) (fun c9 => ?_) (fun c9 => absurd c9 (by decide))
  refine lv_iconst (v := 0) hx hb dX12_output_28 (by decide) ?_
  refine W.widen (k := 0) (n := 0) (Nat.le_of_ble_eq_true rfl) (Nat.le_of_ble_eq_true rfl) ?_
  exact W.iret (v := 0) hx hb hr (fun t ht hW => ⟨⟨_, (), rfl, rfl, by rw [ht]; exact hP.sub [] rfl, hD.sub [] (by decide) rfl⟩, hS.F ht⟩) hS.2.2 dX12_output_29
theorem dX12_count_0 : decode cX12_count 0 = .ok (.aload_n 0, 1) := by decide +kernel
theorem dX12_count_1 : decode cX12_count 1 = .ok (.iconst 0, 1) := by decide +kernel
theorem dX12_count_2 : decode cX12_count 2 = .ok (.putfield 252, 3) := by decide +kernel
theorem dX12_count_5 : decode cX12_count 5 = .ok (.iload_n 1, 1) := by decide +kernel
theorem dX12_count_6 : decode cX12_count 6 = .ok (.iconst 2, 1) := by decide +kernel
theorem dX12_count_7 : decode cX12_count 7 = .ok (.if_icmp .lt 9, 3) := by decide +kernel
theorem dX12_count_16 : decode cX12_count 16 = .ok (.iload_n 1, 1) := by decide +kernel
theorem dX12_count_17 : decode cX12_count 17 = .ok (.ifCond .ne 10, 3) := by decide +kernel
theorem dX12_count_27 : decode cX12_count 27 = .ok (.iload_n 1, 1) := by decide +kernel
theorem dX12_count_28 : decode cX12_count 28 = .ok (.iconst 1, 1) := by decide +kernel
theorem dX12_count_29 : decode cX12_count 29 = .ok (.if_icmp .ne 10, 3) := by decide +kernel
theorem dX12_count_39 : decode cX12_count 39 = .ok (.iconst (-1), 1) := by decide +kernel
theorem dX12_count_40 : decode cX12_count 40 = .ok (.ireturn, 1) := by decide +kernel
theorem dX12_count_32 : decode cX12_count 32 = .ok (.aload_n 0, 1) := by decide +kernel
theorem dX12_count_33 : decode cX12_count 33 = .ok (.getfield 689, 3) := by decide +kernel
theorem dX12_count_36 : decode cX12_count 36 = .ok (.goto 4, 3) := by decide +kernel
theorem dX12_count_20 : decode cX12_count 20 = .ok (.aload_n 0, 1) := by decide +kernel
theorem dX12_count_21 : decode cX12_count 21 = .ok (.getfield 255, 3) := by decide +kernel
theorem dX12_count_24 : decode cX12_count 24 = .ok (.goto 16, 3) := by decide +kernel
theorem dX12_count_10 : decode cX12_count 10 = .ok (.iload_n 1, 1) := by decide +kernel
theorem dX12_count_11 : decode cX12_count 11 = .ok (.bipush 11, 2) := by decide +kernel
theorem dX12_count_13 : decode cX12_count 13 = .ok (.if_icmp .le 28, 3) := by decide +kernel
theorem dX12_count_41 : decode cX12_count 41 = .ok (.iload_n 1, 1) := by decide +kernel
theorem dX12_count_42 : decode cX12_count 42 = .ok (.iconst 5, 1) := by decide +kernel
theorem dX12_count_43 : decode cX12_count 43 = .ok (.if_icmp .ge 43, 3) := by decide +kernel
theorem dX12_count_86 : decode cX12_count 86 = .ok (.aload_n 0, 1) := by decide +kernel
theorem dX12_count_87 : decode cX12_count 87 = .ok (.getfield 653, 3) := by decide +kernel
theorem dX12_count_90 : decode cX12_count 90 = .ok (.ifCond .ne 5, 3) := by decide +kernel
theorem dX12_count_93 : decode cX12_count 93 = .ok (.iconst 0, 1) := by decide +kernel
theorem dX12_count_94 : decode cX12_count 94 = .ok (.ireturn, 1) := by decide +kernel
theorem dX12_count_46 : decode cX12_count 46 = .ok (.aload_n 0, 1) := by decide +kernel
theorem dX12_count_47 : decode cX12_count 47 = .ok (.getfield 649, 3) := by decide +kernel
theorem dX12_count_50 : decode cX12_count 50 = .ok (.ifCond .ne 7, 3) := by decide +kernel
theorem dX12_count_53 : decode cX12_count 53 = .ok (.iconst 0, 1) := by decide +kernel
theorem dX12_count_54 : decode cX12_count 54 = .ok (.goto 31, 3) := by decide +kernel
theorem dX12_count_85 : decode cX12_count 85 = .ok (.ireturn, 1) := by decide +kernel
set_option maxHeartbeats 1000000 in
set_option maxRecDepth 100000 in
/-- count of the reference -/
theorem m_count (l : Launch) (G : pT) (h0 : Nat) (a : Nat → Nat) (x : Int32) : PM l G pX0 yX12_count cX12_count 2 (some .int) ({ frames := 2, cells := 0, slots := 0, locals := 60 }) [.ref h0, .int x] [(h0, .inr (9, (mF a)))] (fun (v : Option Value) (u : Unit) => v = some (.int (cnt x))) (fun u => []) := by
  intro sz
  refine Met.ofW (cc := cX12_count) (maxL := 2) (ret := (some .int)) (by decide) rfl ?_
  intro p e s m args below meth c s₁ B hml hv
  obtain ⟨rfl, hsz, hP, hD0, hE, hX⟩ := hv
  have hx := B.exec
  have hb := B.bytes
  have hr := B.returns
  have hts := atoms_spec (ws := Cond.code yX12_count cX12_count 2 (some .int) :: pw) B.pre
  have hq : ∀ w ∈ pw, w.before _ s = true := fun w h => hts w (List.mem_cons_of_mem _ h)
  have hown : s.vm.findClass RX12 = some m.cls := findClass_of_methodNamed B.named
  have hlocks := B.notSynchronized
  subst hsz
  have hD := hD0.self (sz := s.heap.size)
  have hA : ∀ q : Nat, s.heap.size ≤ q → va_A [(h0, .inr (9, (mF a)))] s.heap.size q := fun q h => Or.inr h
  have hP : va_P G.1 pCl [(h0, .inr (9, (mF a)))] s.heap := hP
  generalize va_A [(h0, .inr (9, (mF a)))] s.heap.size = A at hD hE hA ⊢
  have hS : va_S A s.heap s.heap [] := va_S.rf
  have hl := lv_entry ([.ref h0, .int x]) (n := 2) (Nat.le_of_ble_eq_true rfl)
  rw [lg_entry_eq]
  generalize (lg_sl ([.ref h0, .int x]) ++ List.replicate (2 - (lg_sl ([.ref h0, .int x])).length) Slot.unset).toArray = ls at hl ⊢
  have hl : lv_has ls 2 [(0, .ref h0), (1, .int x)] := hl
  obtain ⟨fs, ef⟩ : ∃ z : List Value, z = (mF a) := ⟨_, rfl⟩
  have hn : fs.length = 134 := by rw [ef]; rfl
  have hP : va_P G.1 pCl [(h0, .inr (9, fs))] s.heap := by rw [ef]; exact hP
  have hD : va_D A [(h0, .inr (9, fs))] := by rw [ef]; exact hD
  refine lv_aload_n hx hb dX12_count_0 rfl (lv_at hl 0 rfl) ?_
  refine lv_iconst (v := 0) hx hb dX12_count_1 (by decide) ?_
  refine va_put (D := G.1) (ci := 9) (v := .int 0) (ty := .int) (C := RX12) (T := TX12) (N := 134) hx hb hq pin_wsX120 tyX12 tyX12_ok nmX12 hown hE.1.1 hP hD hS 0 rfl rfl 0 (by decide) (by rw [tFX12_0]; exact hq _ pw_259) (fun _ h9 => h9) (by rw [tFX12_0]) (by rw [tFX12_0]; decide +kernel) rfl rfl (by rw [hn]; decide) dX12_count_2 (fun H locs hP hD hS => ?_)
  obtain ⟨fs1, e2⟩ : ∃ z : List Value, z = fs.set 0 (.int 0) := ⟨_, rfl⟩
  have hn3 : fs1.length = 134 := by rw [e2, List.length_set]; exact hn
  have hP : va_P G.1 pCl [(h0, .inr (9, fs1))] H := by rw [e2]; exact hP
  have hD : va_D A [(h0, .inr (9, fs1))] := by rw [e2]; exact hD
  refine lv_iload_n hx hb dX12_count_5 rfl (lv_at hl 1 rfl) ?_
  refine lv_iconst (v := 2) hx hb dX12_count_6 (by decide) ?_
  refine lv_icmp_lt (tgt := 16) hx hb dX12_count_7 (by decide) (fun c4 => ?_) (fun c4 => ?_)
  · refine lv_iload_n hx hb dX12_count_16 rfl (lv_at hl 1 rfl) ?_
    refine lv_if_ne (tgt := 27) hx hb dX12_count_17 (by decide) (fun c5 => ?_) (fun c5 => ?_)
    · refine lv_iload_n hx hb dX12_count_27 rfl (lv_at hl 1 rfl) ?_
      refine lv_iconst (v := 1) hx hb dX12_count_28 (by decide) ?_
      refine lv_icmp_ne (tgt := 39) hx hb dX12_count_29 (by decide) (fun c6 => ?_) (fun c6 => ?_)
      · refine lv_iconst (v := (-1)) hx hb dX12_count_39 (by decide) ?_
        refine W.widen (k := 0) (n := 0) (Nat.le_of_ble_eq_true rfl) (Nat.le_of_ble_eq_true rfl) ?_
        exact W.iret (v := (-1)) hx hb hr (fun t ht hW => ⟨⟨_, (), rfl, (by rw [cnt_lo c4 c5 c6]), by rw [ht]; exact hP.sub [] rfl, hD.sub [] (by decide) rfl⟩, hS.F ht⟩) hS.2.2 dX12_count_40
      · refine lv_aload_n hx hb dX12_count_32 rfl (lv_at hl 0 rfl) ?_
        refine va_get (D := G.1) (ci := 9) (v := .int 0) (C := RX12) (T := TX12) (N := 134) hx hb hq pin_wsX120 hown hE.1.1 hP 0 rfl rfl 85 (by decide) (by rw [tFX12_85]; exact hq _ pw_298) (fun _ h9 => h9) (by rw [e2, List.getElem?_set_ne (by decide), ef]; rfl) dX12_count_33 ?_
        refine lv_goto (tgt := 40) hx hb dX12_count_36 (by decide) ?_
        refine W.widen (k := 0) (n := 0) (Nat.le_of_ble_eq_true rfl) (Nat.le_of_ble_eq_true rfl) ?_
        exact W.iret (v := 0) hx hb hr (fun t ht hW => ⟨⟨_, (), rfl, (by rw [c6]; rfl), by rw [ht]; exact hP.sub [] rfl, hD.sub [] (by decide) rfl⟩, hS.F ht⟩) hS.2.2 dX12_count_40
    · refine lv_aload_n hx hb dX12_count_20 rfl (lv_at hl 0 rfl) ?_
      refine va_get (D := G.1) (ci := 9) (v := .int 0) (C := RX12) (T := TX12) (N := 134) hx hb hq pin_wsX120 hown hE.1.1 hP 0 rfl rfl 2 (by decide) (by rw [tFX12_2]; exact hq _ pw_260) (fun _ h9 => h9) (by rw [e2, List.getElem?_set_ne (by decide), ef]; rfl) dX12_count_21 ?_
      refine lv_goto (tgt := 40) hx hb dX12_count_24 (by decide) ?_
      refine W.widen (k := 0) (n := 0) (Nat.le_of_ble_eq_true rfl) (Nat.le_of_ble_eq_true rfl) ?_
      exact W.iret (v := 0) hx hb hr (fun t ht hW => ⟨⟨_, (), rfl, (by rw [c5]; rfl), by rw [ht]; exact hP.sub [] rfl, hD.sub [] (by decide) rfl⟩, hS.F ht⟩) hS.2.2 dX12_count_40
  · refine lv_iload_n hx hb dX12_count_10 rfl (lv_at hl 1 rfl) ?_
    refine lv_bipush (v := 11) hx hb dX12_count_11 (by decide) ?_
    refine lv_icmp_le (tgt := 41) hx hb dX12_count_13 (by decide) (fun c7 => ?_) (fun c7 => ?_)
    · refine lv_iload_n hx hb dX12_count_41 rfl (lv_at hl 1 rfl) ?_
      refine lv_iconst (v := 5) hx hb dX12_count_42 (by decide) ?_
      refine lv_icmp_ge (tgt := 86) hx hb dX12_count_43 (by decide) (fun c8 => ?_) (fun c8 => ?_)
      · refine lv_aload_n hx hb dX12_count_86 rfl (lv_at hl 0 rfl) ?_
        refine va_get (D := G.1) (ci := 9) (v := .int 0) (C := RX12) (T := TX12) (N := 134) hx hb hq pin_wsX120 hown hE.1.1 hP 0 rfl rfl 83 (by decide) (by rw [tFX12_83]; exact hq _ pw_285) (fun _ h9 => h9) (by rw [e2, List.getElem?_set_ne (by decide), ef]; rfl) dX12_count_87 ?_
        refine lv_if_ne (tgt := 95) hx hb dX12_count_90 (by decide) (fun c9 => absurd c9 (by decide)) (fun c9 => ?_)
        refine lv_iconst (v := 0) hx hb dX12_count_93 (by decide) ?_
        refine W.widen (k := 0) (n := 0) (Nat.le_of_ble_eq_true rfl) (Nat.le_of_ble_eq_true rfl) ?_
        exact W.iret (v := 0) hx hb hr (fun t ht hW => ⟨⟨_, (), rfl, (by rw [cnt_mid c4 c7]), by rw [ht]; exact hP.sub [] rfl, hD.sub [] (by decide) rfl⟩, hS.F ht⟩) hS.2.2 dX12_count_94
      · refine lv_aload_n hx hb dX12_count_46 rfl (lv_at hl 0 rfl) ?_
        refine va_get (D := G.1) (ci := 9) (v := .int 0) (C := RX12) (T := TX12) (N := 134) hx hb hq pin_wsX120 hown hE.1.1 hP 0 rfl rfl 82 (by decide) (by rw [tFX12_82]; exact hq _ pw_284) (fun _ h9 => h9) (by rw [e2, List.getElem?_set_ne (by decide), ef]; rfl) dX12_count_47 ?_
        refine lv_if_ne (tgt := 57) hx hb dX12_count_50 (by decide) (fun c10 => absurd c10 (by decide)) (fun c10 => ?_)
        refine lv_iconst (v := 0) hx hb dX12_count_53 (by decide) ?_
        refine lv_goto (tgt := 85) hx hb dX12_count_54 (by decide) ?_
        refine W.widen (k := 0) (n := 0) (Nat.le_of_ble_eq_true rfl) (Nat.le_of_ble_eq_true rfl) ?_
        exact W.iret (v := 0) hx hb hr (fun t ht hW => ⟨⟨_, (), rfl, (by rw [cnt_mid c4 c7]), by rw [ht]; exact hP.sub [] rfl, hD.sub [] (by decide) rfl⟩, hS.F ht⟩) hS.2.2 dX12_count_85
    · refine lv_iload_n hx hb dX12_count_16 rfl (lv_at hl 1 rfl) ?_
      refine lv_if_ne (tgt := 27) hx hb dX12_count_17 (by decide) (fun c11 => ?_) (fun c11 => ?_)
      · refine lv_iload_n hx hb dX12_count_27 rfl (lv_at hl 1 rfl) ?_
        refine lv_iconst (v := 1) hx hb dX12_count_28 (by decide) ?_
        refine lv_icmp_ne (tgt := 39) hx hb dX12_count_29 (by decide) (fun c12 => ?_) (fun c12 => ?_)
        · refine lv_iconst (v := (-1)) hx hb dX12_count_39 (by decide) ?_
          refine W.widen (k := 0) (n := 0) (Nat.le_of_ble_eq_true rfl) (Nat.le_of_ble_eq_true rfl) ?_
          exact W.iret (v := (-1)) hx hb hr (fun t ht hW => ⟨⟨_, (), rfl, (by rw [cnt_hi c7]), by rw [ht]; exact hP.sub [] rfl, hD.sub [] (by decide) rfl⟩, hS.F ht⟩) hS.2.2 dX12_count_40
        · refine lv_aload_n hx hb dX12_count_32 rfl (lv_at hl 0 rfl) ?_
          refine va_get (D := G.1) (ci := 9) (v := .int 0) (C := RX12) (T := TX12) (N := 134) hx hb hq pin_wsX120 hown hE.1.1 hP 0 rfl rfl 85 (by decide) (by rw [tFX12_85]; exact hq _ pw_298) (fun _ h9 => h9) (by rw [e2, List.getElem?_set_ne (by decide), ef]; rfl) dX12_count_33 ?_
          refine lv_goto (tgt := 40) hx hb dX12_count_36 (by decide) ?_
          refine W.widen (k := 0) (n := 0) (Nat.le_of_ble_eq_true rfl) (Nat.le_of_ble_eq_true rfl) ?_
          exact W.iret (v := 0) hx hb hr (fun t ht hW => ⟨⟨_, (), rfl, (absurd (by rw [c12]; decide) c7), by rw [ht]; exact hP.sub [] rfl, hD.sub [] (by decide) rfl⟩, hS.F ht⟩) hS.2.2 dX12_count_40
      · refine lv_aload_n hx hb dX12_count_20 rfl (lv_at hl 0 rfl) ?_
        refine va_get (D := G.1) (ci := 9) (v := .int 0) (C := RX12) (T := TX12) (N := 134) hx hb hq pin_wsX120 hown hE.1.1 hP 0 rfl rfl 2 (by decide) (by rw [tFX12_2]; exact hq _ pw_260) (fun _ h9 => h9) (by rw [e2, List.getElem?_set_ne (by decide), ef]; rfl) dX12_count_21 ?_
        refine lv_goto (tgt := 40) hx hb dX12_count_24 (by decide) ?_
        refine W.widen (k := 0) (n := 0) (Nat.le_of_ble_eq_true rfl) (Nat.le_of_ble_eq_true rfl) ?_
        exact W.iret (v := 0) hx hb hr (fun t ht hW => ⟨⟨_, (), rfl, (absurd (by rw [c11]; decide) c7), by rw [ht]; exact hP.sub [] rfl, hD.sub [] (by decide) rfl⟩, hS.F ht⟩) hS.2.2 dX12_count_40
theorem dX12_in_10 : decode cX12_in 10 = .ok (.iconst 1, 1) := by decide +kernel
theorem dX12_in_11 : decode cX12_in 11 = .ok (.goto 4, 3) := by decide +kernel
set_option maxHeartbeats 1000000 in
set_option maxRecDepth 100000 in
/-- in(x, low, high) -/
theorem m_in (l : Launch) (G : pT) (x : Int32) (lo : Int32) (hi : Int32) : PM l G pX0 yX12_in cX12_in 3 (some .boolean) ({ frames := 2, cells := 0, slots := 0, locals := 60 }) [.int x, .int lo, .int hi] [] (fun (v : Option Value) (u : Unit) => v = some (.int (isin x lo hi))) (fun u => []) := by
  intro sz
  refine Met.ofW (cc := cX12_in) (maxL := 3) (ret := (some .boolean)) (by decide) rfl ?_
  intro p e s m args below meth c s₁ B hml hv
  obtain ⟨rfl, hsz, hP, hD0, hE, hX⟩ := hv
  have hx := B.exec
  have hb := B.bytes
  have hr := B.returns
  have hts := atoms_spec (ws := Cond.code yX12_in cX12_in 3 (some .boolean) :: pw) B.pre
  have hq : ∀ w ∈ pw, w.before _ s = true := fun w h => hts w (List.mem_cons_of_mem _ h)
  have hown : s.vm.findClass RX12 = some m.cls := findClass_of_methodNamed B.named
  have hlocks := B.notSynchronized
  subst hsz
  have hD := hD0.self (sz := s.heap.size)
  have hA : ∀ q : Nat, s.heap.size ≤ q → va_A [] s.heap.size q := fun q h => Or.inr h
  have hP : va_P G.1 pCl [] s.heap := hP
  generalize va_A [] s.heap.size = A at hD hE hA ⊢
  have hS : va_S A s.heap s.heap [] := va_S.rf
  have hl := lv_entry ([.int x, .int lo, .int hi]) (n := 3) (Nat.le_of_ble_eq_true rfl)
  rw [lg_entry_eq]
  generalize (lg_sl ([.int x, .int lo, .int hi]) ++ List.replicate (3 - (lg_sl ([.int x, .int lo, .int hi])).length) Slot.unset).toArray = ls at hl ⊢
  have hl : lv_has ls 3 [(0, .int x), (1, .int lo), (2, .int hi)] := hl
  refine lv_iload_n hx hb dX12_in_0 rfl (lv_at hl 0 rfl) ?_
  refine lv_iload_n hx hb dX12_in_1 rfl (lv_at hl 1 rfl) ?_
  refine lv_icmp_lt (tgt := 14) hx hb dX12_in_2 (by decide) (fun c1 => ?_) (fun c1 => ?_)
  · refine lv_iconst (v := 0) hx hb dX12_in_14 (by decide) ?_
    refine W.widen (k := 0) (n := 0) (Nat.le_of_ble_eq_true rfl) (Nat.le_of_ble_eq_true rfl) ?_
    exact W.zret (v := 0) hx hb hr rfl (fun t ht hW => ⟨⟨_, (), rfl, (by unfold isin; rw [if_pos (Or.inl c1)]), by rw [ht]; exact hP.sub [] rfl, hD.sub [] (by decide) rfl⟩, hS.F ht⟩) hS.2.2 dX12_in_15
  · refine lv_iload_n hx hb dX12_in_5 rfl (lv_at hl 0 rfl) ?_
    refine lv_iload_n hx hb dX12_in_6 rfl (lv_at hl 2 rfl) ?_
    refine lv_icmp_gt (tgt := 14) hx hb dX12_in_7 (by decide) (fun c2 => ?_) (fun c2 => ?_)
    · refine lv_iconst (v := 0) hx hb dX12_in_14 (by decide) ?_
      refine W.widen (k := 0) (n := 0) (Nat.le_of_ble_eq_true rfl) (Nat.le_of_ble_eq_true rfl) ?_
      exact W.zret (v := 0) hx hb hr rfl (fun t ht hW => ⟨⟨_, (), rfl, (by unfold isin; rw [if_pos (Or.inr c2)]), by rw [ht]; exact hP.sub [] rfl, hD.sub [] (by decide) rfl⟩, hS.F ht⟩) hS.2.2 dX12_in_15
    · refine lv_iconst (v := 1) hx hb dX12_in_10 (by decide) ?_
      refine lv_goto (tgt := 15) hx hb dX12_in_11 (by decide) ?_
      refine W.widen (k := 0) (n := 0) (Nat.le_of_ble_eq_true rfl) (Nat.le_of_ble_eq_true rfl) ?_
      exact W.zret (v := 1) hx hb hr rfl (fun t ht hW => ⟨⟨_, (), rfl, (by unfold isin; rw [if_neg (fun q => q.elim c1 c2)]), by rw [ht]; exact hP.sub [] rfl, hD.sub [] (by decide) rfl⟩, hS.F ht⟩) hS.2.2 dX12_in_15
