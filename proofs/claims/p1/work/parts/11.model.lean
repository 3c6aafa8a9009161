theorem m1_lt {x : Int32} (h : ¬ x < 0) : (-1) < x := by
  rw [Int32.lt_iff_toInt_lt] at h ⊢
  have a : (0 : Int32).toInt = 0 := by decide
  have b : ((-1) : Int32).toInt = -1 := by decide
  omega
theorem cnt_mid {x : Int32} (h1 : ¬ x < 2) (h2 : x ≤ 11) : cnt x = 0 := by
  unfold cnt
  rw [if_neg]
  intro q
  rcases q with q | q
  · exact h1 (Int32.lt_trans q (by decide))
  · exact absurd h2 (Int32.not_le.mpr q)
theorem cnt_hi {x : Int32} (h : ¬ x ≤ 11) : cnt x = (-1) := by unfold cnt; rw [if_pos (Or.inr (Int32.not_le.mp h))]
theorem cnt_lo {x : Int32} (h1 : x < 2) (h2 : ¬ x = 0) (h3 : ¬ x = 1) : cnt x = (-1) := by
  unfold cnt
  have a := i_ne (n := 0) (by decide) h2
  have b := i_ne (n := 1) (by decide) h3
  have c : (0 : Int32).toInt = 0 := by decide
  have d : (2 : Int32).toInt = 2 := by decide
  rw [if_pos]
  left
  rw [Int32.lt_iff_toInt_lt] at h1 ⊢
  omega
/-- 'low <= x <= high' as the reference asks it -/
def isin (x lo hi : Int32) : Int32 := if x < lo ∨ hi < x then 0 else 1
theorem dX12_feed_0 : decode cX12_feed 0 = .ok (.aload_n 0, 1) := by decide +kernel
theorem dX12_feed_1 : decode cX12_feed 1 = .ok (.iconst 0, 1) := by decide +kernel
theorem dX12_feed_2 : decode cX12_feed 2 = .ok (.putfield 252, 3) := by decide +kernel
theorem dX12_feed_5 : decode cX12_feed 5 = .ok (.aload_n 0, 1) := by decide +kernel
theorem dX12_feed_6 : decode cX12_feed 6 = .ok (.getfield 255, 3) := by decide +kernel
theorem dX12_feed_9 : decode cX12_feed 9 = .ok (.bipush 20, 2) := by decide +kernel
theorem dX12_feed_11 : decode cX12_feed 11 = .ok (.iadd, 1) := by decide +kernel
theorem dX12_feed_12 : decode cX12_feed 12 = .ok (.sipush 5000, 3) := by decide +kernel
theorem dX12_feed_15 : decode cX12_feed 15 = .ok (.if_icmp .le 5, 3) := by decide +kernel
theorem dX12_feed_20 : decode cX12_feed 20 = .ok (.iconst 0, 1) := by decide +kernel
theorem dX12_feed_21 : decode cX12_feed 21 = .ok (.istore 6, 2) := by decide +kernel
theorem dX12_feed_23 : decode cX12_feed 23 = .ok (.iload 6, 2) := by decide +kernel
theorem dX12_feed_25 : decode cX12_feed 25 = .ok (.bipush 20, 2) := by decide +kernel
theorem dX12_feed_27 : decode cX12_feed 27 = .ok (.if_icmp .ge 93, 3) := by decide +kernel
theorem dX12_feed_30 : decode cX12_feed 30 = .ok (.iload 6, 2) := by decide +kernel
theorem dX12_feed_32 : decode cX12_feed 32 = .ok (.iconst 4, 1) := by decide +kernel
theorem dX12_feed_33 : decode cX12_feed 33 = .ok (.if_icmp .ge 7, 3) := by decide +kernel
theorem dX12_feed_36 : decode cX12_feed 36 = .ok (.iload_n 1, 1) := by decide +kernel
theorem dX12_feed_37 : decode cX12_feed 37 = .ok (.goto 39, 3) := by decide +kernel
theorem dX12_feed_76 : decode cX12_feed 76 = .ok (.istore 7, 2) := by decide +kernel
theorem dX12_feed_78 : decode cX12_feed 78 = .ok (.aload_n 0, 1) := by decide +kernel
theorem dX12_feed_79 : decode cX12_feed 79 = .ok (.getfield 7, 3) := by decide +kernel
theorem dX12_feed_82 : decode cX12_feed 82 = .ok (.aload_n 0, 1) := by decide +kernel
theorem dX12_feed_83 : decode cX12_feed 83 = .ok (.getfield 255, 3) := by decide +kernel
theorem dX12_feed_86 : decode cX12_feed 86 = .ok (.iload 7, 2) := by decide +kernel
theorem dX12_feed_88 : decode cX12_feed 88 = .ok (.bipush 24, 2) := by decide +kernel
theorem dX12_feed_90 : decode cX12_feed 90 = .ok (.bipush 8, 2) := by decide +kernel
theorem dX12_feed_92 : decode cX12_feed 92 = .ok (.iload 6, 2) := by decide +kernel
theorem dX12_feed_94 : decode cX12_feed 94 = .ok (.iconst 4, 1) := by decide +kernel
theorem dX12_feed_95 : decode cX12_feed 95 = .ok (.irem, 1) := by decide +kernel
theorem dX12_feed_96 : decode cX12_feed 96 = .ok (.imul, 1) := by decide +kernel
theorem dX12_feed_97 : decode cX12_feed 97 = .ok (.isub, 1) := by decide +kernel
theorem dX12_feed_98 : decode cX12_feed 98 = .ok (.ishr, 1) := by decide +kernel
theorem dX12_feed_99 : decode cX12_feed 99 = .ok (.sipush 255, 3) := by decide +kernel
theorem dX12_feed_102 : decode cX12_feed 102 = .ok (.iand, 1) := by decide +kernel
theorem dX12_feed_103 : decode cX12_feed 103 = .ok (.iastore, 1) := by decide +kernel
theorem dX12_feed_104 : decode cX12_feed 104 = .ok (.aload_n 0, 1) := by decide +kernel
theorem dX12_feed_105 : decode cX12_feed 105 = .ok (.dup, 1) := by decide +kernel
theorem dX12_feed_106 : decode cX12_feed 106 = .ok (.getfield 255, 3) := by decide +kernel
theorem dX12_feed_109 : decode cX12_feed 109 = .ok (.iconst 1, 1) := by decide +kernel
theorem dX12_feed_110 : decode cX12_feed 110 = .ok (.iadd, 1) := by decide +kernel
theorem dX12_feed_111 : decode cX12_feed 111 = .ok (.putfield 255, 3) := by decide +kernel
theorem dX12_feed_114 : decode cX12_feed 114 = .ok (.iinc 6 1, 3) := by decide +kernel
theorem dX12_feed_117 : decode cX12_feed 117 = .ok (.goto (-94), 3) := by decide +kernel
theorem dX12_feed_40 : decode cX12_feed 40 = .ok (.iload 6, 2) := by decide +kernel
theorem dX12_feed_42 : decode cX12_feed 42 = .ok (.bipush 8, 2) := by decide +kernel
theorem dX12_feed_44 : decode cX12_feed 44 = .ok (.if_icmp .ge 7, 3) := by decide +kernel
theorem dX12_feed_47 : decode cX12_feed 47 = .ok (.iload_n 2, 1) := by decide +kernel
theorem dX12_feed_48 : decode cX12_feed 48 = .ok (.goto 28, 3) := by decide +kernel
theorem dX12_feed_51 : decode cX12_feed 51 = .ok (.iload 6, 2) := by decide +kernel
theorem dX12_feed_53 : decode cX12_feed 53 = .ok (.bipush 12, 2) := by decide +kernel
theorem dX12_feed_55 : decode cX12_feed 55 = .ok (.if_icmp .ge 7, 3) := by decide +kernel
theorem dX12_feed_58 : decode cX12_feed 58 = .ok (.iload_n 3, 1) := by decide +kernel
theorem dX12_feed_59 : decode cX12_feed 59 = .ok (.goto 17, 3) := by decide +kernel
theorem dX12_feed_62 : decode cX12_feed 62 = .ok (.iload 6, 2) := by decide +kernel
theorem dX12_feed_64 : decode cX12_feed 64 = .ok (.bipush 16, 2) := by decide +kernel
theorem dX12_feed_66 : decode cX12_feed 66 = .ok (.if_icmp .ge 8, 3) := by decide +kernel
theorem dX12_feed_69 : decode cX12_feed 69 = .ok (.iload 4, 2) := by decide +kernel
theorem dX12_feed_71 : decode cX12_feed 71 = .ok (.goto 5, 3) := by decide +kernel
theorem dX12_feed_74 : decode cX12_feed 74 = .ok (.iload 5, 2) := by decide +kernel
theorem dX12_feed_120 : decode cX12_feed 120 = .ok (.aload_n 0, 1) := by decide +kernel
theorem dX12_feed_121 : decode cX12_feed 121 = .ok (.getfield 255, 3) := by decide +kernel
theorem dX12_feed_124 : decode cX12_feed 124 = .ok (.ireturn, 1) := by decide +kernel
set_option maxHeartbeats 1000000 in
set_option maxRecDepth 100000 in
/-- feed of the reference: 20 -/
theorem m_feed (l : Launch) (G : pT) (h0 : Nat) (a : Nat → Nat) (x1 : Int32) (x2 : Int32) (x3 : Int32) (x4 : Int32) (x5 : Int32) : PM l G pX0 yX12_feed cX12_feed 8 (some .int) ({ frames := 2, cells := 0, slots := 0, locals := 60 }) [.ref h0, .int x1, .int x2, .int x3, .int x4, .int x5] [(h0, .inr (9, (mF a))), ((a 0), .inl (G.2.1 0, 5000, .inl (fun _ => 0)))] (fun (v : Option Value) (u : (Nat → Nat) × (Nat → Nat → Int32) × (Nat → Nat → Int64)) => v = some (.int 20)) (fun u => []) := by
  intro sz
  refine Met.ofW (cc := cX12_feed) (maxL := 8) (ret := (some .int)) (by decide) rfl ?_
  intro p e s m args below meth c s₁ B hml hv
  obtain ⟨rfl, hsz, hP, hD0, hE, hX⟩ := hv
  have hx := B.exec
  have hb := B.bytes
  have hr := B.returns
  have hts := atoms_spec (ws := Cond.code yX12_feed cX12_feed 8 (some .int) :: pw) B.pre
  have hq : ∀ w ∈ pw, w.before _ s = true := fun w h => hts w (List.mem_cons_of_mem _ h)
  have hown : s.vm.findClass RX12 = some m.cls := findClass_of_methodNamed B.named
  have hlocks := B.notSynchronized
  subst hsz
  have hD := hD0.self (sz := s.heap.size)
  have hA : ∀ q : Nat, s.heap.size ≤ q → va_A [(h0, .inr (9, (mF a))), ((a 0), .inl (G.2.1 0, 5000, .inl (fun _ => 0)))] s.heap.size q := fun q h => Or.inr h
  have hP : va_P G.1 pCl [(h0, .inr (9, (mF a))), ((a 0), .inl (G.2.1 0, 5000, .inl (fun _ => 0)))] s.heap := hP
  generalize va_A [(h0, .inr (9, (mF a))), ((a 0), .inl (G.2.1 0, 5000, .inl (fun _ => 0)))] s.heap.size = A at hD hE hA ⊢
  have hS : va_S A s.heap s.heap [] := va_S.rf
  have hl := lv_entry ([.ref h0, .int x1, .int x2, .int x3, .int x4, .int x5]) (n := 8) (Nat.le_of_ble_eq_true rfl)
  rw [lg_entry_eq]
  generalize (lg_sl ([.ref h0, .int x1, .int x2, .int x3, .int x4, .int x5]) ++ List.replicate (8 - (lg_sl ([.ref h0, .int x1, .int x2, .int x3, .int x4, .int x5])).length) Slot.unset).toArray = ls at hl ⊢
  have hl : lv_has ls 8 [(0, .ref h0), (1, .int x1), (2, .int x2), (3, .int x3), (4, .int x4), (5, .int x5)] := hl
  obtain ⟨fs, ef⟩ : ∃ z : List Value, z = (mF a) := ⟨_, rfl⟩
  have hn : fs.length = 134 := by rw [ef]; rfl
  have hP : va_P G.1 pCl [(h0, .inr (9, fs)), ((a 0), .inl (G.2.1 0, 5000, .inl (fun _ => 0)))] s.heap := by rw [ef]; exact hP
  have hD : va_D A [(h0, .inr (9, fs)), ((a 0), .inl (G.2.1 0, 5000, .inl (fun _ => 0)))] := by rw [ef]; exact hD
  refine lv_aload_n hx hb dX12_feed_0 rfl (lv_at hl 0 rfl) ?_
  refine lv_iconst (v := 0) hx hb dX12_feed_1 (by decide) ?_
  refine va_put (D := G.1) (ci := 9) (v := .int 0) (ty := .int) (C := RX12) (T := TX12) (N := 134) hx hb hq pin_wsX120 tyX12 tyX12_ok nmX12 hown hE.1.1 hP hD hS 0 rfl rfl 0 (by decide) (by rw [tFX12_0]; exact hq _ pw_259) (fun _ h9 => h9) (by rw [tFX12_0]) (by rw [tFX12_0]; decide +kernel) rfl rfl (by rw [hn]; decide) dX12_feed_2 (fun H locs hP hD hS => ?_)
  obtain ⟨fs1, e2⟩ : ∃ z : List Value, z = fs.set 0 (.int 0) := ⟨_, rfl⟩
  have hn3 : fs1.length = 134 := by rw [e2, List.length_set]; exact hn
  have hP : va_P G.1 pCl [(h0, .inr (9, fs1)), ((a 0), .inl (G.2.1 0, 5000, .inl (fun _ => 0)))] H := by rw [e2]; exact hP
  have hD : va_D A [(h0, .inr (9, fs1)), ((a 0), .inl (G.2.1 0, 5000, .inl (fun _ => 0)))] := by rw [e2]; exact hD
  refine lv_aload_n hx hb dX12_feed_5 rfl (lv_at hl 0 rfl) ?_
  refine va_get (D := G.1) (ci := 9) (v := .int 0) (C := RX12) (T := TX12) (N := 134) hx hb hq pin_wsX120 hown hE.1.1 hP 0 rfl rfl 2 (by decide) (by rw [tFX12_2]; exact hq _ pw_260) (fun _ h9 => h9) (by rw [e2, List.getElem?_set_ne (by decide), ef]; rfl) dX12_feed_6 ?_
  refine lv_bipush (v := 20) hx hb dX12_feed_9 (by decide) ?_
  refine lv_iadd hx hb dX12_feed_11 ?_
  refine lv_topi (fun x4 e5 => ?_)
  obtain rfl : x4 = 20 := e5.trans (by decide)
  refine lv_sipush (v := 5000) hx hb dX12_feed_12 (by decide) ?_
  refine lv_icmp_le (tgt := 20) hx hb dX12_feed_15 (by decide) (fun c6 => ?_) (fun c6 => absurd c6 (by decide))
  refine lv_iconst (v := 0) hx hb dX12_feed_20 (by decide) ?_
  refine lv_istore (lv' := [(6, .int 0), (0, .ref h0), (1, .int x1), (2, .int x2), (3, .int x3), (4, .int x4), (5, .int x5)]) hx hb dX12_feed_21 hl (by decide) rfl (fun ls hl => ?_)
  refine lv_iload hx hb dX12_feed_23 (lv_at hl 0 rfl) ?_
  refine lv_bipush (v := 20) hx hb dX12_feed_25 (by decide) ?_
  refine lv_icmp_ge (tgt := 120) hx hb dX12_feed_27 (by decide) (fun c7 => absurd c7 (by decide)) (fun c7 => ?_)
  refine lv_iload hx hb dX12_feed_30 (lv_at hl 0 rfl) ?_
  refine lv_iconst (v := 4) hx hb dX12_feed_32 (by decide) ?_
  refine lv_icmp_ge (tgt := 40) hx hb dX12_feed_33 (by decide) (fun c8 => absurd c8 (by decide)) (fun c8 => ?_)
  refine lv_iload_n hx hb dX12_feed_36 rfl (lv_at hl 2 rfl) ?_
  refine lv_goto (tgt := 76) hx hb dX12_feed_37 (by decide) ?_
  refine lv_istore (lv' := [(7, .int x1), (6, .int 0), (0, .ref h0), (1, .int x1), (2, .int x2), (3, .int x3), (4, .int x4), (5, .int x5)]) hx hb dX12_feed_76 hl (by decide) rfl (fun ls hl => ?_)
  refine lv_aload_n hx hb dX12_feed_78 rfl (lv_at hl 2 rfl) ?_
  refine va_get (D := G.1) (ci := 9) (v := .ref (a 0)) (C := RX12) (T := TX12) (N := 134) hx hb hq pin_wsX120 hown hE.1.1 hP 0 rfl rfl 1 (by decide) (by rw [tFX12_1]; exact hq _ pw_178) (fun _ h9 => h9) (by rw [e2, List.getElem?_set_ne (by decide), ef]; rfl) dX12_feed_79 ?_
  refine lv_aload_n hx hb dX12_feed_82 rfl (lv_at hl 2 rfl) ?_
  refine va_get (D := G.1) (ci := 9) (v := .int 0) (C := RX12) (T := TX12) (N := 134) hx hb hq pin_wsX120 hown hE.1.1 hP 0 rfl rfl 2 (by decide) (by rw [tFX12_2]; exact hq _ pw_260) (fun _ h9 => h9) (by rw [e2, List.getElem?_set_ne (by decide), ef]; rfl) dX12_feed_83 ?_
  refine lv_iload hx hb dX12_feed_86 (lv_at hl 0 rfl) ?_
  refine lv_bipush (v := 24) hx hb dX12_feed_88 (by decide) ?_
  refine lv_bipush (v := 8) hx hb dX12_feed_90 (by decide) ?_
  refine lv_iload hx hb dX12_feed_92 (lv_at hl 1 rfl) ?_
  refine lv_iconst (v := 4) hx hb dX12_feed_94 (by decide) ?_
  refine lv_irem hx hb dX12_feed_95 (by decide) ?_
  refine lv_topi (fun x9 e10 => ?_)
  obtain rfl : x9 = 0 := e10.trans (by decide)
  refine lv_imul hx hb dX12_feed_96 ?_
  refine lv_topi (fun x11 e12 => ?_)
  obtain rfl : x11 = 0 := e12.trans (by decide)
  refine lv_isub hx hb dX12_feed_97 ?_
  refine lv_topi (fun x13 e14 => ?_)
  obtain rfl : x13 = 24 := e14.trans (by decide)
  refine lv_ishr hx hb dX12_feed_98 ?_
  refine lv_topi (fun x15 e16 => ?_)
  refine lv_sipush (v := 255) hx hb dX12_feed_99 (by decide) ?_
  refine lv_iand hx hb dX12_feed_102 ?_
  refine lv_topi (fun x17 e18 => ?_)
  refine va_iast hx hb hE.1.1 hP hD hS 1 0 rfl rfl (by unfold vp_in; decide) dX12_feed_103 (fun H locs hP hD hS => ?_)
  have hP : va_P G.1 pCl [(h0, .inr (9, fs1)), ((a 0), .inl (G.2.1 0, 5000, .inl (upd (fun _ => 0) (Int32.toNatClampNeg 0) x17)))] H := hP
  have hD : va_D A [(h0, .inr (9, fs1)), ((a 0), .inl (G.2.1 0, 5000, .inl (upd (fun _ => 0) (Int32.toNatClampNeg 0) x17)))] := hD
  generalize (upd (fun _ => 0) (Int32.toNatClampNeg 0) x17) = f19 at hP hD
  refine lv_aload_n hx hb dX12_feed_104 rfl (lv_at hl 2 rfl) ?_
  refine lv_dup hx hb dX12_feed_105 rfl ?_
  refine va_get (D := G.1) (ci := 9) (v := .int 0) (C := RX12) (T := TX12) (N := 134) hx hb hq pin_wsX120 hown hE.1.1 hP 0 rfl rfl 2 (by decide) (by rw [tFX12_2]; exact hq _ pw_260) (fun _ h9 => h9) (by rw [e2, List.getElem?_set_ne (by decide), ef]; rfl) dX12_feed_106 ?_
  refine lv_iconst (v := 1) hx hb dX12_feed_109 (by decide) ?_
  refine lv_iadd hx hb dX12_feed_110 ?_
  refine lv_topi (fun x20 e21 => ?_)
  obtain rfl : x20 = 1 := e21.trans (by decide)
  refine va_put (D := G.1) (ci := 9) (v := .int 1) (ty := .int) (C := RX12) (T := TX12) (N := 134) hx hb hq pin_wsX120 tyX12 tyX12_ok nmX12 hown hE.1.1 hP hD hS 0 rfl rfl 2 (by decide) (by rw [tFX12_2]; exact hq _ pw_260) (fun _ h9 => h9) (by rw [tFX12_2]) (by rw [tFX12_2]; decide +kernel) rfl rfl (by rw [hn3]; decide) dX12_feed_111 (fun H locs hP hD hS => ?_)
  obtain ⟨fs22, e23⟩ : ∃ z : List Value, z = fs1.set 2 (.int 1) := ⟨_, rfl⟩
  have hn24 : fs22.length = 134 := by rw [e23, List.length_set]; exact hn3
  have hP : va_P G.1 pCl [(h0, .inr (9, fs22)), ((a 0), .inl (G.2.1 0, 5000, .inl f19))] H := by rw [e23]; exact hP
  have hD : va_D A [(h0, .inr (9, fs22)), ((a 0), .inl (G.2.1 0, 5000, .inl f19))] := by rw [e23]; exact hD
  refine lv_iinc (v := 1) (lv' := [(6, .int 1), (7, .int x1), (0, .ref h0), (1, .int x1), (2, .int x2), (3, .int x3), (4, .int x4), (5, .int x5)]) hx hb dX12_feed_114 hl (k := 1) rfl (by decide) (by decide) rfl (fun ls hl => ?_)
  refine lv_goto (tgt := 23) hx hb dX12_feed_117 (by decide) ?_
  refine lv_iload hx hb dX12_feed_23 (lv_at hl 0 rfl) ?_
  refine lv_bipush (v := 20) hx hb dX12_feed_25 (by decide) ?_
  refine lv_icmp_ge (tgt := 120) hx hb dX12_feed_27 (by decide) (fun c25 => absurd c25 (by decide)) (fun c25 => ?_)
  refine lv_iload hx hb dX12_feed_30 (lv_at hl 0 rfl) ?_
  refine lv_iconst (v := 4) hx hb dX12_feed_32 (by decide) ?_
  refine lv_icmp_ge (tgt := 40) hx hb dX12_feed_33 (by decide) (fun c26 => absurd c26 (by decide)) (fun c26 => ?_)
  refine lv_iload_n hx hb dX12_feed_36 rfl (lv_at hl 3 rfl) ?_
  refine lv_goto (tgt := 76) hx hb dX12_feed_37 (by decide) ?_
  refine lv_istore (lv' := [(7, .int x1), (6, .int 1), (0, .ref h0), (1, .int x1), (2, .int x2), (3, .int x3), (4, .int x4), (5, .int x5)]) hx hb dX12_feed_76 hl (by decide) rfl (fun ls hl => ?_)
  refine lv_aload_n hx hb dX12_feed_78 rfl (lv_at hl 2 rfl) ?_
  refine va_get (D := G.1) (ci := 9) (v := .ref (a 0)) (C := RX12) (T := TX12) (N := 134) hx hb hq pin_wsX120 hown hE.1.1 hP 0 rfl rfl 1 (by decide) (by rw [tFX12_1]; exact hq _ pw_178) (fun _ h9 => h9) (by rw [e23, List.getElem?_set_ne (by decide), e2, List.getElem?_set_ne (by decide), ef]; rfl) dX12_feed_79 ?_
  refine lv_aload_n hx hb dX12_feed_82 rfl (lv_at hl 2 rfl) ?_
  refine va_get (D := G.1) (ci := 9) (v := .int 1) (C := RX12) (T := TX12) (N := 134) hx hb hq pin_wsX120 hown hE.1.1 hP 0 rfl rfl 2 (by decide) (by rw [tFX12_2]; exact hq _ pw_260) (fun _ h9 => h9) (by rw [e23]; exact List.getElem?_set_self (by rw [hn3]; decide)) dX12_feed_83 ?_
  refine lv_iload hx hb dX12_feed_86 (lv_at hl 0 rfl) ?_
  refine lv_bipush (v := 24) hx hb dX12_feed_88 (by decide) ?_
  refine lv_bipush (v := 8) hx hb dX12_feed_90 (by decide) ?_
  refine lv_iload hx hb dX12_feed_92 (lv_at hl 1 rfl) ?_
  refine lv_iconst (v := 4) hx hb dX12_feed_94 (by decide) ?_
  refine lv_irem hx hb dX12_feed_95 (by decide) ?_
  refine lv_topi (fun x27 e28 => ?_)
  obtain rfl : x27 = 1 := e28.trans (by decide)
  refine lv_imul hx hb dX12_feed_96 ?_
  refine lv_topi (fun x29 e30 => ?_)
  obtain rfl : x29 = 8 := e30.trans (by decide)
  refine lv_isub hx hb dX12_feed_97 ?_
  refine lv_topi (fun x31 e32 => ?_)
  obtain rfl : x31 = 16 := e32.trans (by decide)
  refine lv_ishr hx hb dX12_feed_98 ?_
  refine lv_topi (fun x33 e34 => ?_)
  refine lv_sipush (v := 255) hx hb dX12_feed_99 (by decide) ?_
  refine lv_iand hx hb dX12_feed_102 ?_
  refine lv_topi (fun x35 e36 => ?_)
  refine va_iast hx hb hE.1.1 hP hD hS 1 0 rfl rfl (by unfold vp_in; decide) dX12_feed_103 (fun H locs hP hD hS => ?_)
  have hP : va_P G.1 pCl [(h0, .inr (9, fs22)), ((a 0), .inl (G.2.1 0, 5000, .inl (upd f19 (Int32.toNatClampNeg 1) x35)))] H := hP
  have hD : va_D A [(h0, .inr (9, fs22)), ((a 0), .inl (G.2.1 0, 5000, .inl (upd f19 (Int32.toNatClampNeg 1) x35)))] := hD
  generalize (upd f19 (Int32.toNatClampNeg 1) x35) = f37 at hP hD
  refine lv_aload_n hx hb dX12_feed_104 rfl (lv_at hl 2 rfl) ?_
  refine lv_dup hx hb dX12_feed_105 rfl ?_
  refine va_get (D := G.1) (ci := 9) (v := .int 1) (C := RX12) (T := TX12) (N := 134) hx hb hq pin_wsX120 hown hE.1.1 hP 0 rfl rfl 2 (by decide) (by rw [tFX12_2]; exact hq _ pw_260) (fun _ h9 => h9) (by rw [e23]; exact List.getElem?_set_self (by rw [hn3]; decide)) dX12_feed_106 ?_
  refine lv_iconst (v := 1) hx hb dX12_feed_109 (by decide) ?_
  refine lv_iadd hx hb dX12_feed_110 ?_
  refine lv_topi (fun x38 e39 => ?_)
  obtain rfl : x38 = 2 := e39.trans (by decide)
  refine va_put (D := G.1) (ci := 9) (v := .int 2) (ty := .int) (C := RX12) (T := TX12) (N := 134) hx hb hq pin_wsX120 tyX12 tyX12_ok nmX12 hown hE.1.1 hP hD hS 0 rfl rfl 2 (by decide) (by rw [tFX12_2]; exact hq _ pw_260) (fun _ h9 => h9) (by rw [tFX12_2]) (by rw [tFX12_2]; decide +kernel) rfl rfl (by rw [hn24]; decide) dX12_feed_111 (fun H locs hP hD hS => ?_)
  obtain ⟨fs40, e41⟩ : ∃ z : List Value, z = fs22.set 2 (.int 2) := ⟨_, rfl⟩
  have hn42 : fs40.length = 134 := by rw [e41, List.length_set]; exact hn24
  have hP : va_P G.1 pCl [(h0, .inr (9, fs40)), ((a 0), .inl (G.2.1 0, 5000, .inl f37))] H := by rw [e41]; exact hP
  have hD : va_D A [(h0, .inr (9, fs40)), ((a 0), .inl (G.2.1 0, 5000, .inl f37))] := by rw [e41]; exact hD
  refine lv_iinc (v := 2) (lv' := [(6, .int 2), (7, .int x1), (0, .ref h0), (1, .int x1), (2, .int x2), (3, .int x3), (4, .int x4), (5, .int x5)]) hx hb dX12_feed_114 hl (k := 1) rfl (by decide) (by decide) rfl (fun ls hl => ?_)
  refine lv_goto (tgt := 23) hx hb dX12_feed_117 (by decide) ?_
  refine lv_iload hx hb dX12_feed_23 (lv_at hl 0 rfl) ?_
  refine lv_bipush (v := 20) hx hb dX12_feed_25 (by decide) ?_
  refine lv_icmp_ge (tgt := 120) hx hb dX12_feed_27 (by decide) (fun c43 => absurd c43 (by decide)) (fun c43 => ?_)
  refine lv_iload hx hb dX12_feed_30 (lv_at hl 0 rfl) ?_
  refine lv_iconst (v := 4) hx hb dX12_feed_32 (by decide) ?_
  refine lv_icmp_ge (tgt := 40) hx hb dX12_feed_33 (by decide) (fun c44 => absurd c44 (by decide)) (fun c44 => ?_)
  refine lv_iload_n hx hb dX12_feed_36 rfl (lv_at hl 3 rfl) ?_
  refine lv_goto (tgt := 76) hx hb dX12_feed_37 (by decide) ?_
  refine lv_istore (lv' := [(7, .int x1), (6, .int 2), (0, .ref h0), (1, .int x1), (2, .int x2), (3, .int x3), (4, .int x4), (5, .int x5)]) hx hb dX12_feed_76 hl (by decide) rfl (fun ls hl => ?_)
  refine lv_aload_n hx hb dX12_feed_78 rfl (lv_at hl 2 rfl) ?_
  refine va_get (D := G.1) (ci := 9) (v := .ref (a 0)) (C := RX12) (T := TX12) (N := 134) hx hb hq pin_wsX120 hown hE.1.1 hP 0 rfl rfl 1 (by decide) (by rw [tFX12_1]; exact hq _ pw_178) (fun _ h9 => h9) (by rw [e41, List.getElem?_set_ne (by decide), e23, List.getElem?_set_ne (by decide), e2, List.getElem?_set_ne (by decide), ef]; rfl) dX12_feed_79 ?_
  refine lv_aload_n hx hb dX12_feed_82 rfl (lv_at hl 2 rfl) ?_
  refine va_get (D := G.1) (ci := 9) (v := .int 2) (C := RX12) (T := TX12) (N := 134) hx hb hq pin_wsX120 hown hE.1.1 hP 0 rfl rfl 2 (by decide) (by rw [tFX12_2]; exact hq _ pw_260) (fun _ h9 => h9) (by rw [e41]; exact List.getElem?_set_self (by rw [hn24]; decide)) dX12_feed_83 ?_
  refine lv_iload hx hb dX12_feed_86 (lv_at hl 0 rfl) ?_
  refine lv_bipush (v := 24) hx hb dX12_feed_88 (by decide) ?_
  refine lv_bipush (v := 8) hx hb dX12_feed_90 (by decide) ?_
  refine lv_iload hx hb dX12_feed_92 (lv_at hl 1 rfl) ?_
  refine lv_iconst (v := 4) hx hb dX12_feed_94 (by decide) ?_
  refine lv_irem hx hb dX12_feed_95 (by decide) ?_
  refine lv_topi (fun x45 e46 => ?_)
  obtain rfl : x45 = 2 := e46.trans (by decide)
  refine lv_imul hx hb dX12_feed_96 ?_
  refine lv_topi (fun x47 e48 => ?_)
  obtain rfl : x47 = 16 := e48.trans (by decide)
  refine lv_isub hx hb dX12_feed_97 ?_
  refine lv_topi (fun x49 e50 => ?_)
  obtain rfl : x49 = 8 := e50.trans (by decide)
  refine lv_ishr hx hb dX12_feed_98 ?_
  refine lv_topi (fun x51 e52 => ?_)
  refine lv_sipush (v := 255) hx hb dX12_feed_99 (by decide) ?_
  refine lv_iand hx hb dX12_feed_102 ?_
  refine lv_topi (fun x53 e54 => ?_)
  refine va_iast hx hb hE.1.1 hP hD hS 1 0 rfl rfl (by unfold vp_in; decide) dX12_feed_103 (fun H locs hP hD hS => ?_)
  have hP : va_P G.1 pCl [(h0, .inr (9, fs40)), ((a 0), .inl (G.2.1 0, 5000, .inl (upd f37 (Int32.toNatClampNeg 2) x53)))] H := hP
  have hD : va_D A [(h0, .inr (9, fs40)), ((a 0), .inl (G.2.1 0, 5000, .inl (upd f37 (Int32.toNatClampNeg 2) x53)))] := hD
  generalize (upd f37 (Int32.toNatClampNeg 2) x53) = f55 at hP hD
  refine lv_aload_n hx hb dX12_feed_104 rfl (lv_at hl 2 rfl) ?_
  refine lv_dup hx hb dX12_feed_105 rfl ?_
  refine va_get (D := G.1) (ci := 9) (v := .int 2) (C := RX12) (T := TX12) (N := 134) hx hb hq pin_wsX120 hown hE.1.1 hP 0 rfl rfl 2 (by decide) (by rw [tFX12_2]; exact hq _ pw_260) (fun _ h9 => h9) (by rw [e41]; exact List.getElem?_set_self (by rw [hn24]; decide)) dX12_feed_106 ?_
  refine lv_iconst (v := 1) hx hb dX12_feed_109 (by decide) ?_
  refine lv_iadd hx hb dX12_feed_110 ?_
  refine lv_topi (fun x56 e57 => ?_)
  obtain rfl : x56 = 3 := e57.trans (by decide)
  refine va_put (D := G.1) (ci := 9) (v := .int 3) (ty := .int) (C := RX12) (T := TX12) (N := 134) hx hb hq pin_wsX120 tyX12 tyX12_ok nmX12 hown hE.1.1 hP hD hS 0 rfl rfl 2 (by decide) (by rw [tFX12_2]; exact hq _ pw_260) (fun _ h9 => h9) (by rw [tFX12_2]) (by rw [tFX12_2]; decide +kernel) rfl rfl (by rw [hn42]; decide) dX12_feed_111 (fun H locs hP hD hS => ?_)
  obtain ⟨fs58, e59⟩ : ∃ z : List Value, z = fs40.set 2 (.int 3) := ⟨_, rfl⟩
  have hn60 : fs58.length = 134 := by rw [e59, List.length_set]; exact hn42
  have hP : va_P G.1 pCl [(h0, .inr (9, fs58)), ((a 0), .inl (G.2.1 0, 5000, .inl f55))] H := by rw [e59]; exact hP
  have hD : va_D A [(h0, .inr (9, fs58)), ((a 0), .inl (G.2.1 0, 5000, .inl f55))] := by rw [e59]; exact hD
  refine lv_iinc (v := 3) (lv' := [(6, .int 3), (7, .int x1), (0, .ref h0), (1, .int x1), (2, .int x2), (3, .int x3), (4, .int x4), (5, .int x5)]) hx hb dX12_feed_114 hl (k := 1) rfl (by decide) (by decide) rfl (fun ls hl => ?_)
  refine lv_goto (tgt := 23) hx hb dX12_feed_117 (by decide) ?_
  refine lv_iload hx hb dX12_feed_23 (lv_at hl 0 rfl) ?_
  refine lv_bipush (v := 20) hx hb dX12_feed_25 (by decide) ?_
  refine lv_icmp_ge (tgt := 120) hx hb dX12_feed_27 (by decide) (fun c61 => absurd c61 (by decide)) (fun c61 => ?_)
  refine lv_iload hx hb dX12_feed_30 (lv_at hl 0 rfl) ?_
  refine lv_iconst (v := 4) hx hb dX12_feed_32 (by decide) ?_
  refine lv_icmp_ge (tgt := 40) hx hb dX12_feed_33 (by decide) (fun c62 => absurd c62 (by decide)) (fun c62 => ?_)
  refine lv_iload_n hx hb dX12_feed_36 rfl (lv_at hl 3 rfl) ?_
  refine lv_goto (tgt := 76) hx hb dX12_feed_37 (by decide) ?_
  refine lv_istore (lv' := [(7, .int x1), (6, .int 3), (0, .ref h0), (1, .int x1), (2, .int x2), (3, .int x3), (4, .int x4), (5, .int x5)]) hx hb dX12_feed_76 hl (by decide) rfl (fun ls hl => ?_)
  refine lv_aload_n hx hb dX12_feed_78 rfl (lv_at hl 2 rfl) ?_
  refine va_get (D := G.1) (ci := 9) (v := .ref (a 0)) (C := RX12) (T := TX12) (N := 134) hx hb hq pin_wsX120 hown hE.1.1 hP 0 rfl rfl 1 (by decide) (by rw [tFX12_1]; exact hq _ pw_178) (fun _ h9 => h9) (by rw [e59, List.getElem?_set_ne (by decide), e41, List.getElem?_set_ne (by decide), e23, List.getElem?_set_ne (by decide), e2, List.getElem?_set_ne (by decide), ef]; rfl) dX12_feed_79 ?_
  refine lv_aload_n hx hb dX12_feed_82 rfl (lv_at hl 2 rfl) ?_
  refine va_get (D := G.1) (ci := 9) (v := .int 3) (C := RX12) (T := TX12) (N := 134) hx hb hq pin_wsX120 hown hE.1.1 hP 0 rfl rfl 2 (by decide) (by rw [tFX12_2]; exact hq _ pw_260) (fun _ h9 => h9) (by rw [e59]; exact List.getElem?_set_self (by rw [hn42]; decide)) dX12_feed_83 ?_
  refine lv_iload hx hb dX12_feed_86 (lv_at hl 0 rfl) ?_
  refine lv_bipush (v := 24) hx hb dX12_feed_88 (by decide) ?_
  refine lv_bipush (v := 8) hx hb dX12_feed_90 (by decide) ?_
  refine lv_iload hx hb dX12_feed_92 (lv_at hl 1 rfl) ?_
  refine lv_iconst (v := 4) hx hb dX12_feed_94 (by decide) ?_
  refine lv_irem hx hb dX12_feed_95 (by decide) ?_
  refine lv_topi (fun x63 e64 => ?_)
  obtain rfl : x63 = 3 := e64.trans (by decide)
  refine lv_imul hx hb dX12_feed_96 ?_
  refine lv_topi (fun x65 e66 => ?_)
  obtain rfl : x65 = 24 := e66.trans (by decide)
  refine lv_isub hx hb dX12_feed_97 ?_
  refine lv_topi (fun x67 e68 => ?_)
  obtain rfl : x67 = 0 := e68.trans (by decide)
  refine lv_ishr hx hb dX12_feed_98 ?_
  refine lv_topi (fun x69 e70 => ?_)
  refine lv_sipush (v := 255) hx hb dX12_feed_99 (by decide) ?_
  refine lv_iand hx hb dX12_feed_102 ?_
  refine lv_topi (fun x71 e72 => ?_)
  refine va_iast hx hb hE.1.1 hP hD hS 1 0 rfl rfl (by unfold vp_in; decide) dX12_feed_103 (fun H locs hP hD hS => ?_)
  have hP : va_P G.1 pCl [(h0, .inr (9, fs58)), ((a 0), .inl (G.2.1 0, 5000, .inl (upd f55 (Int32.toNatClampNeg 3) x71)))] H := hP
  have hD : va_D A [(h0, .inr (9, fs58)), ((a 0), .inl (G.2.1 0, 5000, .inl (upd f55 (Int32.toNatClampNeg 3) x71)))] := hD
  generalize (upd f55 (Int32.toNatClampNeg 3) x71) = f73 at hP hD
  refine lv_aload_n hx hb dX12_feed_104 rfl (lv_at hl 2 rfl) ?_
  refine lv_dup hx hb dX12_feed_105 rfl ?_
  refine va_get (D := G.1) (ci := 9) (v := .int 3) (C := RX12) (T := TX12) (N := 134) hx hb hq pin_wsX120 hown hE.1.1 hP 0 rfl rfl 2 (by decide) (by rw [tFX12_2]; exact hq _ pw_260) (fun _ h9 => h9) (by rw [e59]; exact List.getElem?_set_self (by rw [hn42]; decide)) dX12_feed_106 ?_
  refine lv_iconst (v := 1) hx hb dX12_feed_109 (by decide) ?_
  refine lv_iadd hx hb dX12_feed_110 ?_
  refine lv_topi (fun x74 e75 => ?_)
  obtain rfl : x74 = 4 := e75.trans (by decide)
  refine va_put (D := G.1) (ci := 9) (v := .int 4) (ty := .int) (C := RX12) (T := TX12) (N := 134) hx hb hq pin_wsX120 tyX12 tyX12_ok nmX12 hown hE.1.1 hP hD hS 0 rfl rfl 2 (by decide) (by rw [tFX12_2]; exact hq _ pw_260) (fun _ h9 => h9) (by rw [tFX12_2]) (by rw [tFX12_2]; decide +kernel) rfl rfl (by rw [hn60]; decide) dX12_feed_111 (fun H locs hP hD hS => ?_)
  obtain ⟨fs76, e77⟩ : ∃ z : List Value, z = fs58.set 2 (.int 4) := ⟨_, rfl⟩
  have hn78 : fs76.length = 134 := by rw [e77, List.length_set]; exact hn60
  have hP : va_P G.1 pCl [(h0, .inr (9, fs76)), ((a 0), .inl (G.2.1 0, 5000, .inl f73))] H := by rw [e77]; exact hP
  have hD : va_D A [(h0, .inr (9, fs76)), ((a 0), .inl (G.2.1 0, 5000, .inl f73))] := by rw [e77]; exact hD
  refine lv_iinc (v := 4) (lv' := [(6, .int 4), (7, .int x1), (0, .ref h0), (1, .int x1), (2, .int x2), (3, .int x3), (4, .int x4), (5, .int x5)]) hx hb dX12_feed_114 hl (k := 1) rfl (by decide) (by decide) rfl (fun ls hl => ?_)
  refine lv_goto (tgt := 23) hx hb dX12_feed_117 (by decide) ?_
  refine lv_iload hx hb dX12_feed_23 (lv_at hl 0 rfl) ?_
  refine lv_bipush (v := 20) hx hb dX12_feed_25 (by decide) ?_
  refine lv_icmp_ge (tgt := 120) hx hb dX12_feed_27 (by decide) (fun c79 => absurd c79 (by decide)) (fun c79 => ?_)
  refine lv_iload hx hb dX12_feed_30 (lv_at hl 0 rfl) ?_
  refine lv_iconst (v := 4) hx hb dX12_feed_32 (by decide) ?_
  refine lv_icmp_ge (tgt := 40) hx hb dX12_feed_33 (by decide) (fun c80 => ?_) (fun c80 => absurd c80 (by decide))
  refine lv_iload hx hb dX12_feed_40 (lv_at hl 0 rfl) ?_
  refine lv_bipush (v := 8) hx hb dX12_feed_42 (by decide) ?_
  refine lv_icmp_ge (tgt := 51) hx hb dX12_feed_44 (by decide) (fun c81 => absurd c81 (by decide)) (fun c81 => ?_)
  refine lv_iload_n hx hb dX12_feed_47 rfl (lv_at hl 4 rfl) ?_
  refine lv_goto (tgt := 76) hx hb dX12_feed_48 (by decide) ?_
  refine lv_istore (lv' := [(7, .int x2), (6, .int 4), (0, .ref h0), (1, .int x1), (2, .int x2), (3, .int x3), (4, .int x4), (5, .int x5)]) hx hb dX12_feed_76 hl (by decide) rfl (fun ls hl => ?_)
  refine lv_aload_n hx hb dX12_feed_78 rfl (lv_at hl 2 rfl) ?_
  refine va_get (D := G.1) (ci := 9) (v := .ref (a 0)) (C := RX12) (T := TX12) (N := 134) hx hb hq pin_wsX120 hown hE.1.1 hP 0 rfl rfl 1 (by decide) (by rw [tFX12_1]; exact hq _ pw_178) (fun _ h9 => h9) (by rw [e77, List.getElem?_set_ne (by decide), e59, List.getElem?_set_ne (by decide), e41, List.getElem?_set_ne (by decide), e23, List.getElem?_set_ne (by decide), e2, List.getElem?_set_ne (by decide), ef]; rfl) dX12_feed_79 ?_
  refine lv_aload_n hx hb dX12_feed_82 rfl (lv_at hl 2 rfl) ?_
  refine va_get (D := G.1) (ci := 9) (v := .int 4) (C := RX12) (T := TX12) (N := 134) hx hb hq pin_wsX120 hown hE.1.1 hP 0 rfl rfl 2 (by decide) (by rw [tFX12_2]; exact hq _ pw_260) (fun _ h9 => h9) (by rw [e77]; exact List.getElem?_set_self (by rw [hn60]; decide)) dX12_feed_83 ?_
  refine lv_iload hx hb dX12_feed_86 (lv_at hl 0 rfl) ?_
  refine lv_bipush (v := 24) hx hb dX12_feed_88 (by decide) ?_
  refine lv_bipush (v := 8) hx hb dX12_feed_90 (by decide) ?_
  refine lv_iload hx hb dX12_feed_92 (lv_at hl 1 rfl) ?_
  refine lv_iconst (v := 4) hx hb dX12_feed_94 (by decide) ?_
  refine lv_irem hx hb dX12_feed_95 (by decide) ?_
  refine lv_topi (fun x82 e83 => ?_)
  obtain rfl : x82 = 0 := e83.trans (by decide)
  refine lv_imul hx hb dX12_feed_96 ?_
  refine lv_topi (fun x84 e85 => ?_)
  obtain rfl : x84 = 0 := e85.trans (by decide)
  refine lv_isub hx hb dX12_feed_97 ?_
  refine lv_topi (fun x86 e87 => ?_)
  obtain rfl : x86 = 24 := e87.trans (by decide)
  refine lv_ishr hx hb dX12_feed_98 ?_
  refine lv_topi (fun x88 e89 => ?_)
  refine lv_sipush (v := 255) hx hb dX12_feed_99 (by decide) ?_
  refine lv_iand hx hb dX12_feed_102 ?_
  refine lv_topi (fun x90 e91 => ?_)
  refine va_iast hx hb hE.1.1 hP hD hS 1 0 rfl rfl (by unfold vp_in; decide) dX12_feed_103 (fun H locs hP hD hS => ?_)
  have hP : va_P G.1 pCl [(h0, .inr (9, fs76)), ((a 0), .inl (G.2.1 0, 5000, .inl (upd f73 (Int32.toNatClampNeg 4) x90)))] H := hP
  have hD : va_D A [(h0, .inr (9, fs76)), ((a 0), .inl (G.2.1 0, 5000, .inl (upd f73 (Int32.toNatClampNeg 4) x90)))] := hD
  generalize (upd f73 (Int32.toNatClampNeg 4) x90) = f92 at hP hD
  refine lv_aload_n hx hb dX12_feed_104 rfl (lv_at hl 2 rfl) ?_
  refine lv_dup hx hb dX12_feed_105 rfl ?_
  refine va_get (D := G.1) (ci := 9) (v := .int 4) (C := RX12) (T := TX12) (N := 134) hx hb hq pin_wsX120 hown hE.1.1 hP 0 rfl rfl 2 (by decide) (by rw [tFX12_2]; exact hq _ pw_260) (fun _ h9 => h9) (by rw [e77]; exact List.getElem?_set_self (by rw [hn60]; decide)) dX12_feed_106 ?_
  refine lv_iconst (v := 1) hx hb dX12_feed_109 (by decide) ?_
  refine lv_iadd hx hb dX12_feed_110 ?_
  refine lv_topi (fun x93 e94 => ?_)
  obtain rfl : x93 = 5 := e94.trans (by decide)
  refine va_put (D := G.1) (ci := 9) (v := .int 5) (ty := .int) (C := RX12) (T := TX12) (N := 134) hx hb hq pin_wsX120 tyX12 tyX12_ok nmX12 hown hE.1.1 hP hD hS 0 rfl rfl 2 (by decide) (by rw [tFX12_2]; exact hq _ pw_260) (fun _ h9 => h9) (by rw [tFX12_2]) (by rw [tFX12_2]; decide +kernel) rfl rfl (by rw [hn78]; decide) dX12_feed_111 (fun H locs hP hD hS => ?_)
  obtain ⟨fs95, e96⟩ : ∃ z : List Value, z = fs76.set 2 (.int 5) := ⟨_, rfl⟩
  have hn97 : fs95.length = 134 := by rw [e96, List.length_set]; exact hn78
  have hP : va_P G.1 pCl [(h0, .inr (9, fs95)), ((a 0), .inl (G.2.1 0, 5000, .inl f92))] H := by rw [e96]; exact hP
  have hD : va_D A [(h0, .inr (9, fs95)), ((a 0), .inl (G.2.1 0, 5000, .inl f92))] := by rw [e96]; exact hD
  refine lv_iinc (v := 5) (lv' := [(6, .int 5), (7, .int x2), (0, .ref h0), (1, .int x1), (2, .int x2), (3, .int x3), (4, .int x4), (5, .int x5)]) hx hb dX12_feed_114 hl (k := 1) rfl (by decide) (by decide) rfl (fun ls hl => ?_)
  refine lv_goto (tgt := 23) hx hb dX12_feed_117 (by decide) ?_
  refine lv_iload hx hb dX12_feed_23 (lv_at hl 0 rfl) ?_
  refine lv_bipush (v := 20) hx hb dX12_feed_25 (by decide) ?_
  refine lv_icmp_ge (tgt := 120) hx hb dX12_feed_27 (by decide) (fun c98 => absurd c98 (by decide)) (fun c98 => ?_)
  refine lv_iload hx hb dX12_feed_30 (lv_at hl 0 rfl) ?_
  refine lv_iconst (v := 4) hx hb dX12_feed_32 (by decide) ?_
  refine lv_icmp_ge (tgt := 40) hx hb dX12_feed_33 (by decide) (fun c99 => ?_) (fun c99 => absurd c99 (by decide))
  refine lv_iload hx hb dX12_feed_40 (lv_at hl 0 rfl) ?_
  refine lv_bipush (v := 8) hx hb dX12_feed_42 (by decide) ?_
  refine lv_icmp_ge (tgt := 51) hx hb dX12_feed_44 (by decide) (fun c100 => absurd c100 (by decide)) (fun c100 => ?_)
  refine lv_iload_n hx hb dX12_feed_47 rfl (lv_at hl 4 rfl) ?_
  refine lv_goto (tgt := 76) hx hb dX12_feed_48 (by decide) ?_
  refine lv_istore (lv' := [(7, .int x2), (6, .int 5), (0, .ref h0), (1, .int x1), (2, .int x2), (3, .int x3), (4, .int x4), (5, .int x5)]) hx hb dX12_feed_76 hl (by decide) rfl (fun ls hl => ?_)
  refine lv_aload_n hx hb dX12_feed_78 rfl (lv_at hl 2 rfl) ?_
  refine va_get (D := G.1) (ci := 9) (v := .ref (a 0)) (C := RX12) (T := TX12) (N := 134) hx hb hq pin_wsX120 hown hE.1.1 hP 0 rfl rfl 1 (by decide) (by rw [tFX12_1]; exact hq _ pw_178) (fun _ h9 => h9) (by rw [e96, List.getElem?_set_ne (by decide), e77, List.getElem?_set_ne (by decide), e59, List.getElem?_set_ne (by decide), e41, List.getElem?_set_ne (by decide), e23, List.getElem?_set_ne (by decide), e2, List.getElem?_set_ne (by decide), ef]; rfl) dX12_feed_79 ?_
  refine lv_aload_n hx hb dX12_feed_82 rfl (lv_at hl 2 rfl) ?_
  refine va_get (D := G.1) (ci := 9) (v := .int 5) (C := RX12) (T := TX12) (N := 134) hx hb hq pin_wsX120 hown hE.1.1 hP 0 rfl rfl 2 (by decide) (by rw [tFX12_2]; exact hq _ pw_260) (fun _ h9 => h9) (by rw [e96]; exact List.getElem?_set_self (by rw [hn78]; decide)) dX12_feed_83 ?_
  refine lv_iload hx hb dX12_feed_86 (lv_at hl 0 rfl) ?_
  refine lv_bipush (v := 24) hx hb dX12_feed_88 (by decide) ?_
  refine lv_bipush (v := 8) hx hb dX12_feed_90 (by decide) ?_
  refine lv_iload hx hb dX12_feed_92 (lv_at hl 1 rfl) ?_
  refine lv_iconst (v := 4) hx hb dX12_feed_94 (by decide) ?_
  refine lv_irem hx hb dX12_feed_95 (by decide) ?_
  refine lv_topi (fun x101 e102 => ?_)
  obtain rfl : x101 = 1 := e102.trans (by decide)
  refine lv_imul hx hb dX12_feed_96 ?_
  refine lv_topi (fun x103 e104 => ?_)
  obtain rfl : x103 = 8 := e104.trans (by decide)
  refine lv_isub hx hb dX12_feed_97 ?_
  refine lv_topi (fun x105 e106 => ?_)
  obtain rfl : x105 = 16 := e106.trans (by decide)
  refine lv_ishr hx hb dX12_feed_98 ?_
  refine lv_topi (fun x107 e108 => ?_)
  refine lv_sipush (v := 255) hx hb dX12_feed_99 (by decide) ?_
  refine lv_iand hx hb dX12_feed_102 ?_
  refine lv_topi (fun x109 e110 => ?_)
  refine va_iast hx hb hE.1.1 hP hD hS 1 0 rfl rfl (by unfold vp_in; decide) dX12_feed_103 (fun H locs hP hD hS => ?_)
  have hP : va_P G.1 pCl [(h0, .inr (9, fs95)), ((a 0), .inl (G.2.1 0, 5000, .inl (upd f92 (Int32.toNatClampNeg 5) x109)))] H := hP
  have hD : va_D A [(h0, .inr (9, fs95)), ((a 0), .inl (G.2.1 0, 5000, .inl (upd f92 (Int32.toNatClampNeg 5) x109)))] := hD
  generalize (upd f92 (Int32.toNatClampNeg 5) x109) = f111 at hP hD
  refine lv_aload_n hx hb dX12_feed_104 rfl (lv_at hl 2 rfl) ?_
  refine lv_dup hx hb dX12_feed_105 rfl ?_
  refine va_get (D := G.1) (ci := 9) (v := .int 5) (C := RX12) (T := TX12) (N := 134) hx hb hq pin_wsX120 hown hE.1.1 hP 0 rfl rfl 2 (by decide) (by rw [tFX12_2]; exact hq _ pw_260) (fun _ h9 => h9) (by rw [e96]; exact List.getElem?_set_self (by rw [hn78]; decide)) dX12_feed_106 ?_
  refine lv_iconst (v := 1) hx hb dX12_feed_109 (by decide) ?_
  refine lv_iadd hx hb dX12_feed_110 ?_
  refine lv_topi (fun x112 e113 => ?_)
  obtain rfl : x112 = 6 := e113.trans (by decide)
  refine va_put (D := G.1) (ci := 9) (v := .int 6) (ty := .int) (C := RX12) (T := TX12) (N := 134) hx hb hq pin_wsX120 tyX12 tyX12_ok nmX12 hown hE.1.1 hP hD hS 0 rfl rfl 2 (by decide) (by rw [tFX12_2]; exact hq _ pw_260) (fun _ h9 => h9) (by rw [tFX12_2]) (by rw [tFX12_2]; decide +kernel) rfl rfl (by rw [hn97]; decide) dX12_feed_111 (fun H locs hP hD hS => ?_)
  obtain ⟨fs114, e115⟩ : ∃ z : List Value, z = fs95.set 2 (.int 6) := ⟨_, rfl⟩
  have hn116 : fs114.length = 134 := by rw [e115, List.length_set]; exact hn97
  have hP : va_P G.1 pCl [(h0, .inr (9, fs114)), ((a 0), .inl (G.2.1 0, 5000, .inl f111))] H := by rw [e115]; exact hP
  have hD : va_D A [(h0, .inr (9, fs114)), ((a 0), .inl (G.2.1 0, 5000, .inl f111))] := by rw [e115]; exact hD
  refine lv_iinc (v := 6) (lv' := [(6, .int 6), (7, .int x2), (0, .ref h0), (1, .int x1), (2, .int x2), (3, .int x3), (4, .int x4), (5, .int x5)]) hx hb dX12_feed_114 hl (k := 1) rfl (by decide) (by decide) rfl (fun ls hl => ?_)
  refine lv_goto (tgt := 23) hx hb dX12_feed_117 (by decide) ?_
  refine lv_iload hx hb dX12_feed_23 (lv_at hl 0 rfl) ?_
  refine lv_bipush (v := 20) hx hb dX12_feed_25 (by decide) ?_
  refine lv_icmp_ge (tgt := 120) hx hb dX12_feed_27 (by decide) (fun c117 => absurd c117 (by decide)) (fun c117 => ?_)
  refine lv_iload hx hb dX12_feed_30 (lv_at hl 0 rfl) ?_
  refine lv_iconst (v := 4) hx hb dX12_feed_32 (by decide) ?_
  refine lv_icmp_ge (tgt := 40) hx hb dX12_feed_33 (by decide) (fun c118 => ?_) (fun c118 => absurd c118 (by decide))
  refine lv_iload hx hb dX12_feed_40 (lv_at hl 0 rfl) ?_
  refine lv_bipush (v := 8) hx hb dX12_feed_42 (by decide) ?_
  refine lv_icmp_ge (tgt := 51) hx hb dX12_feed_44 (by decide) (fun c119 => absurd c119 (by decide)) (fun c119 => ?_)
  refine lv_iload_n hx hb dX12_feed_47 rfl (lv_at hl 4 rfl) ?_
  refine lv_goto (tgt := 76) hx hb dX12_feed_48 (by decide) ?_
  refine lv_istore (lv' := [(7, .int x2), (6, .int 6), (0, .ref h0), (1, .int x1), (2, .int x2), (3, .int x3), (4, .int x4), (5, .int x5)]) hx hb dX12_feed_76 hl (by decide) rfl (fun ls hl => ?_)
  refine lv_aload_n hx hb dX12_feed_78 rfl (lv_at hl 2 rfl) ?_
  refine va_get (D := G.1) (ci := 9) (v := .ref (a 0)) (C := RX12) (T := TX12) (N := 134) hx hb hq pin_wsX120 hown hE.1.1 hP 0 rfl rfl 1 (by decide) (by rw [tFX12_1]; exact hq _ pw_178) (fun _ h9 => h9) (by rw [e115, List.getElem?_set_ne (by decide), e96, List.getElem?_set_ne (by decide), e77, List.getElem?_set_ne (by decide), e59, List.getElem?_set_ne (by decide), e41, List.getElem?_set_ne (by decide), e23, List.getElem?_set_ne (by decide), e2, List.getElem?_set_ne (by decide), ef]; rfl) dX12_feed_79 ?_
  refine lv_aload_n hx hb dX12_feed_82 rfl (lv_at hl 2 rfl) ?_
  refine va_get (D := G.1) (ci := 9) (v := .int 6) (C := RX12) (T := TX12) (N := 134) hx hb hq pin_wsX120 hown hE.1.1 hP 0 rfl rfl 2 (by decide) (by rw [tFX12_2]; exact hq _ pw_260) (fun _ h9 => h9) (by rw [e115]; exact List.getElem?_set_self (by rw [hn97]; decide)) dX12_feed_83 ?_
  refine lv_iload hx hb dX12_feed_86 (lv_at hl 0 rfl) ?_
  refine lv_bipush (v := 24) hx hb dX12_feed_88 (by decide) ?_
  refine lv_bipush (v := 8) hx hb dX12_feed_90 (by decide) ?_
  refine lv_iload hx hb dX12_feed_92 (lv_at hl 1 rfl) ?_
  refine lv_iconst (v := 4) hx hb dX12_feed_94 (by decide) ?_
  refine lv_irem hx hb dX12_feed_95 (by decide) ?_
  refine lv_topi (fun x120 e121 => ?_)
  obtain rfl : x120 = 2 := e121.trans (by decide)
  refine lv_imul hx hb dX12_feed_96 ?_
  refine lv_topi (fun x122 e123 => ?_)
  obtain rfl : x122 = 16 := e123.trans (by decide)
  refine lv_isub hx hb dX12_feed_97 ?_
  refine lv_topi (fun x124 e125 => ?_)
  obtain rfl : x124 = 8 := e125.trans (by decide)
  refine lv_ishr hx hb dX12_feed_98 ?_
  refine lv_topi (fun x126 e127 => ?_)
  refine lv_sipush (v := 255) hx hb dX12_feed_99 (by decide) ?_
  refine lv_iand hx hb dX12_feed_102 ?_
  refine lv_topi (fun x128 e129 => ?_)
  refine va_iast hx hb hE.1.1 hP hD hS 1 0 rfl rfl (by unfold vp_in; decide) dX12_feed_103 (fun H locs hP hD hS => ?_)
  have hP : va_P G.1 pCl [(h0, .inr (9, fs114)), ((a 0), .inl (G.2.1 0, 5000, .inl (upd f111 (Int32.toNatClampNeg 6) x128)))] H := hP
  have hD : va_D A [(h0, .inr (9, fs114)), ((a 0), .inl (G.2.1 0, 5000, .inl (upd f111 (Int32.toNatClampNeg 6) x128)))] := hD
  generalize (upd f111 (Int32.toNatClampNeg 6) x128) = f130 at hP hD
  refine lv_aload_n hx hb dX12_feed_104 rfl (lv_at hl 2 rfl) ?_
  refine lv_dup hx hb dX12_feed_105 rfl ?_
  refine va_get (D := G.1) (ci := 9) (v := .int 6) (C := RX12) (T := TX12) (N := 134) hx hb hq pin_wsX120 hown hE.1.1 hP 0 rfl rfl 2 (by decide) (by rw [tFX12_2]; exact hq _ pw_260) (fun _ h9 => h9) (by rw [e115]; exact List.getElem?_set_self (by rw [hn97]; decide)) dX12_feed_106 ?_
  refine lv_iconst (v := 1) hx hb dX12_feed_109 (by decide) ?_
  refine lv_iadd hx hb dX12_feed_110 ?_
  refine lv_topi (fun x131 e132 => ?_)
  obtain rfl : x131 = 7 := e132.trans (by decide)
  refine va_put (D := G.1) (ci := 9) (v := .int 7) (ty := .int) (C := RX12) (T := TX12) (N := 134) hx hb hq pin_wsX120 tyX12 tyX12_ok nmX12 hown hE.1.1 hP hD hS 0 rfl rfl 2 (by decide) (by rw [tFX12_2]; exact hq _ pw_260) (fun _ h9 => h9) (by rw [tFX12_2]) (by rw [tFX12_2]; decide +kernel) rfl rfl (by rw [hn116]; decide) dX12_feed_111 (fun H locs hP hD hS => ?_)
  obtain ⟨fs133, e134⟩ : ∃ z : List Value, z = fs114.set 2 (.int 7) := ⟨_, rfl⟩
  have hn135 : fs133.length = 134 := by rw [e134, List.length_set]; exact hn116
  have hP : va_P G.1 pCl [(h0, .inr (9, fs133)), ((a 0), .inl (G.2.1 0, 5000, .inl f130))] H := by rw [e134]; exact hP
  have hD : va_D A [(h0, .inr (9, fs133)), ((a 0), .inl (G.2.1 0, 5000, .inl f130))] := by rw [e134]; exact hD
  refine lv_iinc (v := 7) (lv' := [(6, .int 7), (7, .int x2), (0, .ref h0), (1, .int x1), (2, .int x2), (3, .int x3), (4, .int x4), (5, .int x5)]) hx hb dX12_feed_114 hl (k := 1) rfl (by decide) (by decide) rfl (fun ls hl => ?_)
  refine lv_goto (tgt := 23) hx hb dX12_feed_117 (by decide) ?_
  refine lv_iload hx hb dX12_feed_23 (lv_at hl 0 rfl) ?_
  refine lv_bipush (v := 20) hx hb dX12_feed_25 (by decide) ?_
  refine lv_icmp_ge (tgt := 120) hx hb dX12_feed_27 (by decide) (fun c136 => absurd c136 (by decide)) (fun c136 => ?_)
  refine lv_iload hx hb dX12_feed_30 (lv_at hl 0 rfl) ?_
  refine lv_iconst (v := 4) hx hb dX12_feed_32 (by decide) ?_
  refine lv_icmp_ge (tgt := 40) hx hb dX12_feed_33 (by decide) (fun c137 => ?_) (fun c137 => absurd c137 (by decide))
  refine lv_iload hx hb dX12_feed_40 (lv_at hl 0 rfl) ?_
  refine lv_bipush (v := 8) hx hb dX12_feed_42 (by decide) ?_
  refine lv_icmp_ge (tgt := 51) hx hb dX12_feed_44 (by decide) (fun c138 => absurd c138 (by decide)) (fun c138 => ?_)
  refine lv_iload_n hx hb dX12_feed_47 rfl (lv_at hl 4 rfl) ?_
  refine lv_goto (tgt := 76) hx hb dX12_feed_48 (by decide) ?_
  refine lv_istore (lv' := [(7, .int x2), (6, .int 7), (0, .ref h0), (1, .int x1), (2, .int x2), (3, .int x3), (4, .int x4), (5, .int x5)]) hx hb dX12_feed_76 hl (by decide) rfl (fun ls hl => ?_)
  refine lv_aload_n hx hb dX12_feed_78 rfl (lv_at hl 2 rfl) ?_
  refine va_get (D := G.1) (ci := 9) (v := .ref (a 0)) (C := RX12) (T := TX12) (N := 134) hx hb hq pin_wsX120 hown hE.1.1 hP 0 rfl rfl 1 (by decide) (by rw [tFX12_1]; exact hq _ pw_178) (fun _ h9 => h9) (by rw [e134, List.getElem?_set_ne (by decide), e115, List.getElem?_set_ne (by decide), e96, List.getElem?_set_ne (by decide), e77, List.getElem?_set_ne (by decide), e59, List.getElem?_set_ne (by decide), e41, List.getElem?_set_ne (by decide), e23, List.getElem?_set_ne (by decide), e2, List.getElem?_set_ne (by decide), ef]; rfl) dX12_feed_79 ?_
  refine lv_aload_n hx hb dX12_feed_82 rfl (lv_at hl 2 rfl) ?_
  refine va_get (D := G.1) (ci := 9) (v := .int 7) (C := RX12) (T := TX12) (N := 134) hx hb hq pin_wsX120 hown hE.1.1 hP 0 rfl rfl 2 (by decide) (by rw [tFX12_2]; exact hq _ pw_260) (fun _ h9 => h9) (by rw [e134]; exact List.getElem?_set_self (by rw [hn116]; decide)) dX12_feed_83 ?_
  refine lv_iload hx hb dX12_feed_86 (lv_at hl 0 rfl) ?_
  refine lv_bipush (v := 24) hx hb dX12_feed_88 (by decide) ?_
  refine lv_bipush (v := 8) hx hb dX12_feed_90 (by decide) ?_
  refine lv_iload hx hb dX12_feed_92 (lv_at hl 1 rfl) ?_
  refine lv_iconst (v := 4) hx hb dX12_feed_94 (by decide) ?_
  refine lv_irem hx hb dX12_feed_95 (by decide) ?_
  refine lv_topi (fun x139 e140 => ?_)
  obtain rfl : x139 = 3 := e140.trans (by decide)
  refine lv_imul hx hb dX12_feed_96 ?_
  refine lv_topi (fun x141 e142 => ?_)
  obtain rfl : x141 = 24 := e142.trans (by decide)
  refine lv_isub hx hb dX12_feed_97 ?_
  refine lv_topi (fun x143 e144 => ?_)
  obtain rfl : x143 = 0 := e144.trans (by decide)
  refine lv_ishr hx hb dX12_feed_98 ?_
  refine lv_topi (fun x145 e146 => ?_)
  refine lv_sipush (v := 255) hx hb dX12_feed_99 (by decide) ?_
  refine lv_iand hx hb dX12_feed_102 ?_
  refine lv_topi (fun x147 e148 => ?_)
  refine va_iast hx hb hE.1.1 hP hD hS 1 0 rfl rfl (by unfold vp_in; decide) dX12_feed_103 (fun H locs hP hD hS => ?_)
  have hP : va_P G.1 pCl [(h0, .inr (9, fs133)), ((a 0), .inl (G.2.1 0, 5000, .inl (upd f130 (Int32.toNatClampNeg 7) x147)))] H := hP
  have hD : va_D A [(h0, .inr (9, fs133)), ((a 0), .inl (G.2.1 0, 5000, .inl (upd f130 (Int32.toNatClampNeg 7) x147)))] := hD
  generalize (upd f130 (Int32.toNatClampNeg 7) x147) = f149 at hP hD
  refine lv_aload_n hx hb dX12_feed_104 rfl (lv_at hl 2 rfl) ?_
  refine lv_dup hx hb dX12_feed_105 rfl ?_
  refine va_get (D := G.1) (ci := 9) (v := .int 7) (C := RX12) (T := TX12) (N := 134) hx hb hq pin_wsX120 hown hE.1.1 hP 0 rfl rfl 2 (by decide) (by rw [tFX12_2]; exact hq _ pw_260) (fun _ h9 => h9) (by rw [e134]; exact List.getElem?_set_self (by rw [hn116]; decide)) dX12_feed_106 ?_
  refine lv_iconst (v := 1) hx hb dX12_feed_109 (by decide) ?_
  refine lv_iadd hx hb dX12_feed_110 ?_
  refine lv_topi (fun x150 e151 => ?_)
  obtain rfl : x150 = 8 := e151.trans (by decide)
  refine va_put (D := G.1) (ci := 9) (v := .int 8) (ty := .int) (C := RX12) (T := TX12) (N := 134) hx hb hq pin_wsX120 tyX12 tyX12_ok nmX12 hown hE.1.1 hP hD hS 0 rfl rfl 2 (by decide) (by rw [tFX12_2]; exact hq _ pw_260) (fun _ h9 => h9) (by rw [tFX12_2]) (by rw [tFX12_2]; decide +kernel) rfl rfl (by rw [hn135]; decide) dX12_feed_111 (fun H locs hP hD hS => ?_)
  obtain ⟨fs152, e153⟩ : ∃ z : List Value, z = fs133.set 2 (.int 8) := ⟨_, rfl⟩
  have hn154 : fs152.length = 134 := by rw [e153, List.length_set]; exact hn135
  have hP : va_P G.1 pCl [(h0, .inr (9, fs152)), ((a 0), .inl (G.2.1 0, 5000, .inl f149))] H := by rw [e153]; exact hP
  have hD : va_D A [(h0, .inr (9, fs152)), ((a 0), .inl (G.2.1 0, 5000, .inl f149))] := by rw [e153]; exact hD
  refine lv_iinc (v := 8) (lv' := [(6, .int 8), (7, .int x2), (0, .ref h0), (1, .int x1), (2, .int x2), (3, .int x3), (4, .int x4), (5, .int x5)]) hx hb dX12_feed_114 hl (k := 1) rfl (by decide) (by decide) rfl (fun ls hl => ?_)
  refine lv_goto (tgt := 23) hx hb dX12_feed_117 (by decide) ?_
  refine lv_iload hx hb dX12_feed_23 (lv_at hl 0 rfl) ?_
  refine lv_bipush (v := 20) hx hb dX12_feed_25 (by decide) ?_
  refine lv_icmp_ge (tgt := 120) hx hb dX12_feed_27 (by decide) (fun c155 => absurd c155 (by decide)) (fun c155 => ?_)
  refine lv_iload hx hb dX12_feed_30 (lv_at hl 0 rfl) ?_
  refine lv_iconst (v := 4) hx hb dX12_feed_32 (by decide) ?_
  refine lv_icmp_ge (tgt := 40) hx hb dX12_feed_33 (by decide) (fun c156 => ?_) (fun c156 => absurd c156 (by decide))
  refine lv_iload hx hb dX12_feed_40 (lv_at hl 0 rfl) ?_
  refine lv_bipush (v := 8) hx hb dX12_feed_42 (by decide) ?_
  refine lv_icmp_ge (tgt := 51) hx hb dX12_feed_44 (by decide) (fun c157 => ?_) (fun c157 => absurd c157 (by decide))
  refine lv_iload hx hb dX12_feed_51 (lv_at hl 0 rfl) ?_
  refine lv_bipush (v := 12) hx hb dX12_feed_53 (by decide) ?_
  refine lv_icmp_ge (tgt := 62) hx hb dX12_feed_55 (by decide) (fun c158 => absurd c158 (by decide)) (fun c158 => ?_)
  refine lv_iload_n hx hb dX12_feed_58 rfl (lv_at hl 5 rfl) ?_
  refine lv_goto (tgt := 76) hx hb dX12_feed_59 (by decide) ?_
  refine lv_istore (lv' := [(7, .int x3), (6, .int 8), (0, .ref h0), (1, .int x1), (2, .int x2), (3, .int x3), (4, .int x4), (5, .int x5)]) hx hb dX12_feed_76 hl (by decide) rfl (fun ls hl => ?_)
  refine lv_aload_n hx hb dX12_feed_78 rfl (lv_at hl 2 rfl) ?_
  refine va_get (D := G.1) (ci := 9) (v := .ref (a 0)) (C := RX12) (T := TX12) (N := 134) hx hb hq pin_wsX120 hown hE.1.1 hP 0 rfl rfl 1 (by decide) (by rw [tFX12_1]; exact hq _ pw_178) (fun _ h9 => h9) (by rw [e153, List.getElem?_set_ne (by decide), e134, List.getElem?_set_ne (by decide), e115, List.getElem?_set_ne (by decide), e96, List.getElem?_set_ne (by decide), e77, List.getElem?_set_ne (by decide), e59, List.getElem?_set_ne (by decide), e41, List.getElem?_set_ne (by decide), e23, List.getElem?_set_ne (by decide), e2, List.getElem?_set_ne (by decide), ef]; rfl) dX12_feed_79 ?_
  refine lv_aload_n hx hb dX12_feed_82 rfl (lv_at hl 2 rfl) ?_
  refine va_get (D := G.1) (ci := 9) (v := .int 8) (C := RX12) (T := TX12) (N := 134) hx hb hq pin_wsX120 hown hE.1.1 hP 0 rfl rfl 2 (by decide) (by rw [tFX12_2]; exact hq _ pw_260) (fun _ h9 => h9) (by rw [e153]; exact List.getElem?_set_self (by rw [hn135]; decide)) dX12_feed_83 ?_
  refine lv_iload hx hb dX12_feed_86 (lv_at hl 0 rfl) ?_
  refine lv_bipush (v := 24) hx hb dX12_feed_88 (by decide) ?_
  refine lv_bipush (v := 8) hx hb dX12_feed_90 (by decide) ?_
  refine lv_iload hx hb dX12_feed_92 (lv_at hl 1 rfl) ?_
  refine lv_iconst (v := 4) hx hb dX12_feed_94 (by decide) ?_
  refine lv_irem hx hb dX12_feed_95 (by decide) ?_
  refine lv_topi (fun x159 e160 => ?_)
  obtain rfl : x159 = 0 := e160.trans (by decide)
  refine lv_imul hx hb dX12_feed_96 ?_
  refine lv_topi (fun x161 e162 => ?_)
  obtain rfl : x161 = 0 := e162.trans (by decide)
  refine lv_isub hx hb dX12_feed_97 ?_
  refine lv_topi (fun x163 e164 => ?_)
  obtain rfl : x163 = 24 := e164.trans (by decide)
  refine lv_ishr hx hb dX12_feed_98 ?_
  refine lv_topi (fun x165 e166 => ?_)
  refine lv_sipush (v := 255) hx hb dX12_feed_99 (by decide) ?_
  refine lv_iand hx hb dX12_feed_102 ?_
  refine lv_topi (fun x167 e168 => ?_)
  refine va_iast hx hb hE.1.1 hP hD hS 1 0 rfl rfl (by unfold vp_in; decide) dX12_feed_103 (fun H locs hP hD hS => ?_)
  have hP : va_P G.1 pCl [(h0, .inr (9, fs152)), ((a 0), .inl (G.2.1 0, 5000, .inl (upd f149 (Int32.toNatClampNeg 8) x167)))] H := hP
  have hD : va_D A [(h0, .inr (9, fs152)), ((a 0), .inl (G.2.1 0, 5000, .inl (upd f149 (Int32.toNatClampNeg 8) x167)))] := hD
  generalize (upd f149 (Int32.toNatClampNeg 8) x167) = f169 at hP hD
  refine lv_aload_n hx hb dX12_feed_104 rfl (lv_at hl 2 rfl) ?_
  refine lv_dup hx hb dX12_feed_105 rfl ?_
  refine va_get (D := G.1) (ci := 9) (v := .int 8) (C := RX12) (T := TX12) (N := 134) hx hb hq pin_wsX120 hown hE.1.1 hP 0 rfl rfl 2 (by decide) (by rw [tFX12_2]; exact hq _ pw_260) (fun _ h9 => h9) (by rw [e153]; exact List.getElem?_set_self (by rw [hn135]; decide)) dX12_feed_106 ?_
  refine lv_iconst (v := 1) hx hb dX12_feed_109 (by decide) ?_
  refine lv_iadd hx hb dX12_feed_110 ?_
  refine lv_topi (fun x170 e171 => ?_)
  obtain rfl : x170 = 9 := e171.trans (by decide)
  refine va_put (D := G.1) (ci := 9) (v := .int 9) (ty := .int) (C := RX12) (T := TX12) (N := 134) hx hb hq pin_wsX120 tyX12 tyX12_ok nmX12 hown hE.1.1 hP hD hS 0 rfl rfl 2 (by decide) (by rw [tFX12_2]; exact hq _ pw_260) (fun _ h9 => h9) (by rw [tFX12_2]) (by rw [tFX12_2]; decide +kernel) rfl rfl (by rw [hn154]; decide) dX12_feed_111 (fun H locs hP hD hS => ?_)
  obtain ⟨fs172, e173⟩ : ∃ z : List Value, z = fs152.set 2 (.int 9) := ⟨_, rfl⟩
  have hn174 : fs172.length = 134 := by rw [e173, List.length_set]; exact hn154
  have hP : va_P G.1 pCl [(h0, .inr (9, fs172)), ((a 0), .inl (G.2.1 0, 5000, .inl f169))] H := by rw [e173]; exact hP
  have hD : va_D A [(h0, .inr (9, fs172)), ((a 0), .inl (G.2.1 0, 5000, .inl f169))] := by rw [e173]; exact hD
  refine lv_iinc (v := 9) (lv' := [(6, .int 9), (7, .int x3), (0, .ref h0), (1, .int x1), (2, .int x2), (3, .int x3), (4, .int x4), (5, .int x5)]) hx hb dX12_feed_114 hl (k := 1) rfl (by decide) (by decide) rfl (fun ls hl => ?_)
  refine lv_goto (tgt := 23) hx hb dX12_feed_117 (by decide) ?_
  refine lv_iload hx hb dX12_feed_23 (lv_at hl 0 rfl) ?_
  refine lv_bipush (v := 20) hx hb dX12_feed_25 (by decide) ?_
  refine lv_icmp_ge (tgt := 120) hx hb dX12_feed_27 (by decide) (fun c175 => absurd c175 (by decide)) (fun c175 => ?_)
  refine lv_iload hx hb dX12_feed_30 (lv_at hl 0 rfl) ?_
  refine lv_iconst (v := 4) hx hb dX12_feed_32 (by decide) ?_
  refine lv_icmp_ge (tgt := 40) hx hb dX12_feed_33 (by decide) (fun c176 => ?_) (fun c176 => absurd c176 (by decide))
  refine lv_iload hx hb dX12_feed_40 (lv_at hl 0 rfl) ?_
  refine lv_bipush (v := 8) hx hb dX12_feed_42 (by decide) ?_
  refine lv_icmp_ge (tgt := 51) hx hb dX12_feed_44 (by decide) (fun c177 => ?_) (fun c177 => absurd c177 (by decide))
  refine lv_iload hx hb dX12_feed_51 (lv_at hl 0 rfl) ?_
  refine lv_bipush (v := 12) hx hb dX12_feed_53 (by decide) ?_
  refine lv_icmp_ge (tgt := 62) hx hb dX12_feed_55 (by decide) (fun c178 => absurd c178 (by decide)) (fun c178 => ?_)
  refine lv_iload_n hx hb dX12_feed_58 rfl (lv_at hl 5 rfl) ?_
  refine lv_goto (tgt := 76) hx hb dX12_feed_59 (by decide) ?_
  refine lv_istore (lv' := [(7, .int x3), (6, .int 9), (0, .ref h0), (1, .int x1), (2, .int x2), (3, .int x3), (4, .int x4), (5, .int x5)]) hx hb dX12_feed_76 hl (by decide) rfl (fun ls hl => ?_)
  refine lv_aload_n hx hb dX12_feed_78 rfl (lv_at hl 2 rfl) ?_
  refine va_get (D := G.1) (ci := 9) (v := .ref (a 0)) (C := RX12) (T := TX12) (N := 134) hx hb hq pin_wsX120 hown hE.1.1 hP 0 rfl rfl 1 (by decide) (by rw [tFX12_1]; exact hq _ pw_178) (fun _ h9 => h9) (by rw [e173, List.getElem?_set_ne (by decide), e153, List.getElem?_set_ne (by decide), e134, List.getElem?_set_ne (by decide), e115, List.getElem?_set_ne (by decide), e96, List.getElem?_set_ne (by decide), e77, List.getElem?_set_ne (by decide), e59, List.getElem?_set_ne (by decide), e41, List.getElem?_set_ne (by decide), e23, List.getElem?_set_ne (by decide), e2, List.getElem?_set_ne (by decide), ef]; rfl) dX12_feed_79 ?_
  refine lv_aload_n hx hb dX12_feed_82 rfl (lv_at hl 2 rfl) ?_
  refine va_get (D := G.1) (ci := 9) (v := .int 9) (C := RX12) (T := TX12) (N := 134) hx hb hq pin_wsX120 hown hE.1.1 hP 0 rfl rfl 2 (by decide) (by rw [tFX12_2]; exact hq _ pw_260) (fun _ h9 => h9) (by rw [e173]; exact List.getElem?_set_self (by rw [hn154]; decide)) dX12_feed_83 ?_
  refine lv_iload hx hb dX12_feed_86 (lv_at hl 0 rfl) ?_
  refine lv_bipush (v := 24) hx hb dX12_feed_88 (by decide) ?_
  refine lv_bipush (v := 8) hx hb dX12_feed_90 (by decide) ?_
  refine lv_iload hx hb dX12_feed_92 (lv_at hl 1 rfl) ?_
  refine lv_iconst (v := 4) hx hb dX12_feed_94 (by decide) ?_
  refine lv_irem hx hb dX12_feed_95 (by decide) ?_
  refine lv_topi (fun x179 e180 => ?_)
  obtain rfl : x179 = 1 := e180.trans (by decide)
  refine lv_imul hx hb dX12_feed_96 ?_
  refine lv_topi (fun x181 e182 => ?_)
  obtain rfl : x181 = 8 := e182.trans (by decide)
  refine lv_isub hx hb dX12_feed_97 ?_
  refine lv_topi (fun x183 e184 => ?_)
  obtain rfl : x183 = 16 := e184.trans (by decide)
  refine lv_ishr hx hb dX12_feed_98 ?_
  refine lv_topi (fun x185 e186 => ?_)
  refine lv_sipush (v := 255) hx hb dX12_feed_99 (by decide) ?_
  refine lv_iand hx hb dX12_feed_102 ?_
  refine lv_topi (fun x187 e188 => ?_)
  refine va_iast hx hb hE.1.1 hP hD hS 1 0 rfl rfl (by unfold vp_in; decide) dX12_feed_103 (fun H locs hP hD hS => ?_)
  have hP : va_P G.1 pCl [(h0, .inr (9, fs172)), ((a 0), .inl (G.2.1 0, 5000, .inl (upd f169 (Int32.toNatClampNeg 9) x187)))] H := hP
  have hD : va_D A [(h0, .inr (9, fs172)), ((a 0), .inl (G.2.1 0, 5000, .inl (upd f169 (Int32.toNatClampNeg 9) x187)))] := hD
  generalize (upd f169 (Int32.toNatClampNeg 9) x187) = f189 at hP hD
  refine lv_aload_n hx hb dX12_feed_104 rfl (lv_at hl 2 rfl) ?_
  refine lv_dup hx hb dX12_feed_105 rfl ?_
  refine va_get (D := G.1) (ci := 9) (v := .int 9) (C := RX12) (T := TX12) (N := 134) hx hb hq pin_wsX120 hown hE.1.1 hP 0 rfl rfl 2 (by decide) (by rw [tFX12_2]; exact hq _ pw_260) (fun _ h9 => h9) (by rw [e173]; exact List.getElem?_set_self (by rw [hn154]; decide)) dX12_feed_106 ?_
  refine lv_iconst (v := 1) hx hb dX12_feed_109 (by decide) ?_
  refine lv_iadd hx hb dX12_feed_110 ?_
  refine lv_topi (fun x190 e191 => ?_)
  obtain rfl : x190 = 10 := e191.trans (by decide)
  refine va_put (D := G.1) (ci := 9) (v := .int 10) (ty := .int) (C := RX12) (T := TX12) (N := 134) hx hb hq pin_wsX120 tyX12 tyX12_ok nmX12 hown hE.1.1 hP hD hS 0 rfl rfl 2 (by decide) (by rw [tFX12_2]; exact hq _ pw_260) (fun _ h9 => h9) (by rw [tFX12_2]) (by rw [tFX12_2]; decide +kernel) rfl rfl (by rw [hn174]; decide) dX12_feed_111 (fun H locs hP hD hS => ?_)
  obtain ⟨fs192, e193⟩ : ∃ z : List Value, z = fs172.set 2 (.int 10) := ⟨_, rfl⟩
  have hn194 : fs192.length = 134 := by rw [e193, List.length_set]; exact hn174
  have hP : va_P G.1 pCl [(h0, .inr (9, fs192)), ((a 0), .inl (G.2.1 0, 5000, .inl f189))] H := by rw [e193]; exact hP
  have hD : va_D A [(h0, .inr (9, fs192)), ((a 0), .inl (G.2.1 0, 5000, .inl f189))] := by rw [e193]; exact hD
  refine lv_iinc (v := 10) (lv' := [(6, .int 10), (7, .int x3), (0, .ref h0), (1, .int x1), (2, .int x2), (3, .int x3), (4, .int x4), (5, .int x5)]) hx hb dX12_feed_114 hl (k := 1) rfl (by decide) (by decide) rfl (fun ls hl => ?_)
  refine lv_goto (tgt := 23) hx hb dX12_feed_117 (by decide) ?_
  refine lv_iload hx hb dX12_feed_23 (lv_at hl 0 rfl) ?_
  refine lv_bipush (v := 20) hx hb dX12_feed_25 (by decide) ?_
  refine lv_icmp_ge (tgt := 120) hx hb dX12_feed_27 (by decide) (fun c195 => absurd c195 (by decide)) (fun c195 => ?_)
  refine lv_iload hx hb dX12_feed_30 (lv_at hl 0 rfl) ?_
  refine lv_iconst (v := 4) hx hb dX12_feed_32 (by decide) ?_
  refine lv_icmp_ge (tgt := 40) hx hb dX12_feed_33 (by decide) (fun c196 => ?_) (fun c196 => absurd c196 (by decide))
  refine lv_iload hx hb dX12_feed_40 (lv_at hl 0 rfl) ?_
  refine lv_bipush (v := 8) hx hb dX12_feed_42 (by decide) ?_
  refine lv_icmp_ge (tgt := 51) hx hb dX12_feed_44 (by decide) (fun c197 => ?_) (fun c197 => absurd c197 (by decide))
  refine lv_iload hx hb dX12_feed_51 (lv_at hl 0 rfl) ?_
  refine lv_bipush (v := 12) hx hb dX12_feed_53 (by decide) ?_
  refine lv_icmp_ge (tgt := 62) hx hb dX12_feed_55 (by decide) (fun c198 => absurd c198 (by decide)) (fun c198 => ?_)
  refine lv_iload_n hx hb dX12_feed_58 rfl (lv_at hl 5 rfl) ?_
  refine lv_goto (tgt := 76) hx hb dX12_feed_59 (by decide) ?_
  refine lv_istore (lv' := [(7, .int x3), (6, .int 10), (0, .ref h0), (1, .int x1), (2, .int x2), (3, .int x3), (4, .int x4), (5, .int x5)]) hx hb dX12_feed_76 hl (by decide) rfl (fun ls hl => ?_)
  refine lv_aload_n hx hb dX12_feed_78 rfl (lv_at hl 2 rfl) ?_
  refine va_get (D := G.1) (ci := 9) (v := .ref (a 0)) (C := RX12) (T := TX12) (N := 134) hx hb hq pin_wsX120 hown hE.1.1 hP 0 rfl rfl 1 (by decide) (by rw [tFX12_1]; exact hq _ pw_178) (fun _ h9 => h9) (by rw [e193, List.getElem?_set_ne (by decide), e173, List.getElem?_set_ne (by decide), e153, List.getElem?_set_ne (by decide), e134, List.getElem?_set_ne (by decide), e115, List.getElem?_set_ne (by decide), e96, List.getElem?_set_ne (by decide), e77, List.getElem?_set_ne (by decide), e59, List.getElem?_set_ne (by decide), e41, List.getElem?_set_ne (by decide), e23, List.getElem?_set_ne (by decide), e2, List.getElem?_set_ne (by decide), ef]; rfl) dX12_feed_79 ?_
  refine lv_aload_n hx hb dX12_feed_82 rfl (lv_at hl 2 rfl) ?_
  refine va_get (D := G.1) (ci := 9) (v := .int 10) (C := RX12) (T := TX12) (N := 134) hx hb hq pin_wsX120 hown hE.1.1 hP 0 rfl rfl 2 (by decide) (by rw [tFX12_2]; exact hq _ pw_260) (fun _ h9 => h9) (by rw [e193]; exact List.getElem?_set_self (by rw [hn174]; decide)) dX12_feed_83 ?_
  refine lv_iload hx hb dX12_feed_86 (lv_at hl 0 rfl) ?_
  refine lv_bipush (v := 24) hx hb dX12_feed_88 (by decide) ?_
  refine lv_bipush (v := 8) hx hb dX12_feed_90 (by decide) ?_
  refine lv_iload hx hb dX12_feed_92 (lv_at hl 1 rfl) ?_
  refine lv_iconst (v := 4) hx hb dX12_feed_94 (by decide) ?_
  refine lv_irem hx hb dX12_feed_95 (by decide) ?_
  refine lv_topi (fun x199 e200 => ?_)
  obtain rfl : x199 = 2 := e200.trans (by decide)
  refine lv_imul hx hb dX12_feed_96 ?_
  refine lv_topi (fun x201 e202 => ?_)
  obtain rfl : x201 = 16 := e202.trans (by decide)
  refine lv_isub hx hb dX12_feed_97 ?_
  refine lv_topi (fun x203 e204 => ?_)
  obtain rfl : x203 = 8 := e204.trans (by decide)
  refine lv_ishr hx hb dX12_feed_98 ?_
  refine lv_topi (fun x205 e206 => ?_)
  refine lv_sipush (v := 255) hx hb dX12_feed_99 (by decide) ?_
  refine lv_iand hx hb dX12_feed_102 ?_
  refine lv_topi (fun x207 e208 => ?_)
  refine va_iast hx hb hE.1.1 hP hD hS 1 0 rfl rfl (by unfold vp_in; decide) dX12_feed_103 (fun H locs hP hD hS => ?_)
  have hP : va_P G.1 pCl [(h0, .inr (9, fs192)), ((a 0), .inl (G.2.1 0, 5000, .inl (upd f189 (Int32.toNatClampNeg 10) x207)))] H := hP
  have hD : va_D A [(h0, .inr (9, fs192)), ((a 0), .inl (G.2.1 0, 5000, .inl (upd f189 (Int32.toNatClampNeg 10) x207)))] := hD
  generalize (upd f189 (Int32.toNatClampNeg 10) x207) = f209 at hP hD
  refine lv_aload_n hx hb dX12_feed_104 rfl (lv_at hl 2 rfl) ?_
  refine lv_dup hx hb dX12_feed_105 rfl ?_
  refine va_get (D := G.1) (ci := 9) (v := .int 10) (C := RX12) (T := TX12) (N := 134) hx hb hq pin_wsX120 hown hE.1.1 hP 0 rfl rfl 2 (by decide) (by rw [tFX12_2]; exact hq _ pw_260) (fun _ h9 => h9) (by rw [e193]; exact List.getElem?_set_self (by rw [hn174]; decide)) dX12_feed_106 ?_
  refine lv_iconst (v := 1) hx hb dX12_feed_109 (by decide) ?_
  refine lv_iadd hx hb dX12_feed_110 ?_
  refine lv_topi (fun x210 e211 => ?_)
  obtain rfl : x210 = 11 := e211.trans (by decide)
  refine va_put (D := G.1) (ci := 9) (v := .int 11) (ty := .int) (C := RX12) (T := TX12) (N := 134) hx hb hq pin_wsX120 tyX12 tyX12_ok nmX12 hown hE.1.1 hP hD hS 0 rfl rfl 2 (by decide) (by rw [tFX12_2]; exact hq _ pw_260) (fun _ h9 => h9) (by rw [tFX12_2]) (by rw [tFX12_2]; decide +kernel) rfl rfl (by rw [hn194]; decide) dX12_feed_111 (fun H locs hP hD hS => ?_)
  obtain ⟨fs212, e213⟩ : ∃ z : List Value, z = fs192.set 2 (.int 11) := ⟨_, rfl⟩
  have hn214 : fs212.length = 134 := by rw [e213, List.length_set]; exact hn194
  have hP : va_P G.1 pCl [(h0, .inr (9, fs212)), ((a 0), .inl (G.2.1 0, 5000, .inl f209))] H := by rw [e213]; exact hP
  have hD : va_D A [(h0, .inr (9, fs212)), ((a 0), .inl (G.2.1 0, 5000, .inl f209))] := by rw [e213]; exact hD
  refine lv_iinc (v := 11) (lv' := [(6, .int 11), (7, .int x3), (0, .ref h0), (1, .int x1), (2, .int x2), (3, .int x3), (4, .int x4), (5, .int x5)]) hx hb dX12_feed_114 hl (k := 1) rfl (by decide) (by decide) rfl (fun ls hl => ?_)
  refine lv_goto (tgt := 23) hx hb dX12_feed_117 (by decide) ?_
  refine lv_iload hx hb dX12_feed_23 (lv_at hl 0 rfl) ?_
  refine lv_bipush (v := 20) hx hb dX12_feed_25 (by decide) ?_
  refine lv_icmp_ge (tgt := 120) hx hb dX12_feed_27 (by decide) (fun c215 => absurd c215 (by decide)) (fun c215 => ?_)
  refine lv_iload hx hb dX12_feed_30 (lv_at hl 0 rfl) ?_
  refine lv_iconst (v := 4) hx hb dX12_feed_32 (by decide) ?_
  refine lv_icmp_ge (tgt := 40) hx hb dX12_feed_33 (by decide) (fun c216 => ?_) (fun c216 => absurd c216 (by decide))
  refine lv_iload hx hb dX12_feed_40 (lv_at hl 0 rfl) ?_
  refine lv_bipush (v := 8) hx hb dX12_feed_42 (by decide) ?_
  refine lv_icmp_ge (tgt := 51) hx hb dX12_feed_44 (by decide) (fun c217 => ?_) (fun c217 => absurd c217 (by decide))
  refine lv_iload hx hb dX12_feed_51 (lv_at hl 0 rfl) ?_
  refine lv_bipush (v := 12) hx hb dX12_feed_53 (by decide) ?_
  refine lv_icmp_ge (tgt := 62) hx hb dX12_feed_55 (by decide) (fun c218 => absurd c218 (by decide)) (fun c218 => ?_)
  refine lv_iload_n hx hb dX12_feed_58 rfl (lv_at hl 5 rfl) ?_
  refine lv_goto (tgt := 76) hx hb dX12_feed_59 (by decide) ?_
  refine lv_istore (lv' := [(7, .int x3), (6, .int 11), (0, .ref h0), (1, .int x1), (2, .int x2), (3, .int x3), (4, .int x4), (5, .int x5)]) hx hb dX12_feed_76 hl (by decide) rfl (fun ls hl => ?_)
  refine lv_aload_n hx hb dX12_feed_78 rfl (lv_at hl 2 rfl) ?_
  refine va_get (D := G.1) (ci := 9) (v := .ref (a 0)) (C := RX12) (T := TX12) (N := 134) hx hb hq pin_wsX120 hown hE.1.1 hP 0 rfl rfl 1 (by decide) (by rw [tFX12_1]; exact hq _ pw_178) (fun _ h9 => h9) (by rw [e213, List.getElem?_set_ne (by decide), e193, List.getElem?_set_ne (by decide), e173, List.getElem?_set_ne (by decide), e153, List.getElem?_set_ne (by decide), e134, List.getElem?_set_ne (by decide), e115, List.getElem?_set_ne (by decide), e96, List.getElem?_set_ne (by decide), e77, List.getElem?_set_ne (by decide), e59, List.getElem?_set_ne (by decide), e41, List.getElem?_set_ne (by decide), e23, List.getElem?_set_ne (by decide), e2, List.getElem?_set_ne (by decide), ef]; rfl) dX12_feed_79 ?_
  refine lv_aload_n hx hb dX12_feed_82 rfl (lv_at hl 2 rfl) ?_
  refine va_get (D := G.1) (ci := 9) (v := .int 11) (C := RX12) (T := TX12) (N := 134) hx hb hq pin_wsX120 hown hE.1.1 hP 0 rfl rfl 2 (by decide) (by rw [tFX12_2]; exact hq _ pw_260) (fun _ h9 => h9) (by rw [e213]; exact List.getElem?_set_self (by rw [hn194]; decide)) dX12_feed_83 ?_
  refine lv_iload hx hb dX12_feed_86 (lv_at hl 0 rfl) ?_
  refine lv_bipush (v := 24) hx hb dX12_feed_88 (by decide) ?_
  refine lv_bipush (v := 8) hx hb dX12_feed_90 (by decide) ?_
  refine lv_iload hx hb dX12_feed_92 (lv_at hl 1 rfl) ?_
  refine lv_iconst (v := 4) hx hb dX12_feed_94 (by decide) ?_
  refine lv_irem hx hb dX12_feed_95 (by decide) ?_
  refine lv_topi (fun x219 e220 => ?_)
  obtain rfl : x219 = 3 := e220.trans (by decide)
  refine lv_imul hx hb dX12_feed_96 ?_
  refine lv_topi (fun x221 e222 => ?_)
  obtain rfl : x221 = 24 := e222.trans (by decide)
  refine lv_isub hx hb dX12_feed_97 ?_
  refine lv_topi (fun x223 e224 => ?_)
  obtain rfl : x223 = 0 := e224.trans (by decide)
  refine lv_ishr hx hb dX12_feed_98 ?_
  refine lv_topi (fun x225 e226 => ?_)
  refine lv_sipush (v := 255) hx hb dX12_feed_99 (by decide) ?_
  refine lv_iand hx hb dX12_feed_102 ?_
  refine lv_topi (fun x227 e228 => ?_)
  refine va_iast hx hb hE.1.1 hP hD hS 1 0 rfl rfl (by unfold vp_in; decide) dX12_feed_103 (fun H locs hP hD hS => ?_)
  have hP : va_P G.1 pCl [(h0, .inr (9, fs212)), ((a 0), .inl (G.2.1 0, 5000, .inl (upd f209 (Int32.toNatClampNeg 11) x227)))] H := hP
  have hD : va_D A [(h0, .inr (9, fs212)), ((a 0), .inl (G.2.1 0, 5000, .inl (upd f209 (Int32.toNatClampNeg 11) x227)))] := hD
  generalize (upd f209 (Int32.toNatClampNeg 11) x227) = f229 at hP hD
  refine lv_aload_n hx hb dX12_feed_104 rfl (lv_at hl 2 rfl) ?_
  refine lv_dup hx hb dX12_feed_105 rfl ?_
  refine va_get (D := G.1) (ci := 9) (v := .int 11) (C := RX12) (T := TX12) (N := 134) hx hb hq pin_wsX120 hown hE.1.1 hP 0 rfl rfl 2 (by decide) (by rw [tFX12_2]; exact hq _ pw_260) (fun _ h9 => h9) (by rw [e213]; exact List.getElem?_set_self (by rw [hn194]; decide)) dX12_feed_106 ?_
  refine lv_iconst (v := 1) hx hb dX12_feed_109 (by decide) ?_
  refine lv_iadd hx hb dX12_feed_110 ?_
  refine lv_topi (fun x230 e231 => ?_)
  obtain rfl : x230 = 12 := e231.trans (by decide)
  refine va_put (D := G.1) (ci := 9) (v := .int 12) (ty := .int) (C := RX12) (T := TX12) (N := 134) hx hb hq pin_wsX120 tyX12 tyX12_ok nmX12 hown hE.1.1 hP hD hS 0 rfl rfl 2 (by decide) (by rw [tFX12_2]; exact hq _ pw_260) (fun _ h9 => h9) (by rw [tFX12_2]) (by rw [tFX12_2]; decide +kernel) rfl rfl (by rw [hn214]; decide) dX12_feed_111 (fun H locs hP hD hS => ?_)
  obtain ⟨fs232, e233⟩ : ∃ z : List Value, z = fs212.set 2 (.int 12) := ⟨_, rfl⟩
  have hn234 : fs232.length = 134 := by rw [e233, List.length_set]; exact hn214
  have hP : va_P G.1 pCl [(h0, .inr (9, fs232)), ((a 0), .inl (G.2.1 0, 5000, .inl f229))] H := by rw [e233]; exact hP
  have hD : va_D A [(h0, .inr (9, fs232)), ((a 0), .inl (G.2.1 0, 5000, .inl f229))] := by rw [e233]; exact hD
  refine lv_iinc (v := 12) (lv' := [(6, .int 12), (7, .int x3), (0, .ref h0), (1, .int x1), (2, .int x2), (3, .int x3), (4, .int x4), (5, .int x5)]) hx hb dX12_feed_114 hl (k := 1) rfl (by decide) (by decide) rfl (fun ls hl => ?_)
  refine lv_goto (tgt := 23) hx hb dX12_feed_117 (by decide) ?_
  refine lv_iload hx hb dX12_feed_23 (lv_at hl 0 rfl) ?_
  refine lv_bipush (v := 20) hx hb dX12_feed_25 (by decide) ?_
  refine lv_icmp_ge (tgt := 120) hx hb dX12_feed_27 (by decide) (fun c235 => absurd c235 (by decide)) (fun c235 => ?_)
  refine lv_iload hx hb dX12_feed_30 (lv_at hl 0 rfl) ?_
  refine lv_iconst (v := 4) hx hb dX12_feed_32 (by decide) ?_
  refine lv_icmp_ge (tgt := 40) hx hb dX12_feed_33 (by decide) (fun c236 => ?_) (fun c236 => absurd c236 (by decide))
  refine lv_iload hx hb dX12_feed_40 (lv_at hl 0 rfl) ?_
  refine lv_bipush (v := 8) hx hb dX12_feed_42 (by decide) ?_
  refine lv_icmp_ge (tgt := 51) hx hb dX12_feed_44 (by decide) (fun c237 => ?_) (fun c237 => absurd c237 (by decide))
  refine lv_iload hx hb dX12_feed_51 (lv_at hl 0 rfl) ?_
  refine lv_bipush (v := 12) hx hb dX12_feed_53 (by decide) ?_
  refine lv_icmp_ge (tgt := 62) hx hb dX12_feed_55 (by decide) (fun c238 => ?_) (fun c238 => absurd c238 (by decide))
  refine lv_iload hx hb dX12_feed_62 (lv_at hl 0 rfl) ?_
  refine lv_bipush (v := 16) hx hb dX12_feed_64 (by decide) ?_
  refine lv_icmp_ge (tgt := 74) hx hb dX12_feed_66 (by decide) (fun c239 => absurd c239 (by decide)) (fun c239 => ?_)
  refine lv_iload hx hb dX12_feed_69 (lv_at hl 6 rfl) ?_
  refine lv_goto (tgt := 76) hx hb dX12_feed_71 (by decide) ?_
  refine lv_istore (lv' := [(7, .int x4), (6, .int 12), (0, .ref h0), (1, .int x1), (2, .int x2), (3, .int x3), (4, .int x4), (5, .int x5)]) hx hb dX12_feed_76 hl (by decide) rfl (fun ls hl => ?_)
  refine lv_aload_n hx hb dX12_feed_78 rfl (lv_at hl 2 rfl) ?_
  refine va_get (D := G.1) (ci := 9) (v := .ref (a 0)) (C := RX12) (T := TX12) (N := 134) hx hb hq pin_wsX120 hown hE.1.1 hP 0 rfl rfl 1 (by decide) (by rw [tFX12_1]; exact hq _ pw_178) (fun _ h9 => h9) (by rw [e233, List.getElem?_set_ne (by decide), e213, List.getElem?_set_ne (by decide), e193, List.getElem?_set_ne (by decide), e173, List.getElem?_set_ne (by decide), e153, List.getElem?_set_ne (by decide), e134, List.getElem?_set_ne (by decide), e115, List.getElem?_set_ne (by decide), e96, List.getElem?_set_ne (by decide), e77, List.getElem?_set_ne (by decide), e59, List.getElem?_set_ne (by decide), e41, List.getElem?_set_ne (by decide), e23, List.getElem?_set_ne (by decide), e2, List.getElem?_set_ne (by decide), ef]; rfl) dX12_feed_79 ?_
  refine lv_aload_n hx hb dX12_feed_82 rfl (lv_at hl 2 rfl) ?_
  refine va_get (D := G.1) (ci := 9) (v := .int 12) (C := RX12) (T := TX12) (N := 134) hx hb hq pin_wsX120 hown hE.1.1 hP 0 rfl rfl 2 (by decide) (by rw [tFX12_2]; exact hq _ pw_260) (fun _ h9 => h9) (by rw [e233]; exact List.getElem?_set_self (by rw [hn214]; decide)) dX12_feed_83 ?_
  refine lv_iload hx hb dX12_feed_86 (lv_at hl 0 rfl) ?_
  refine lv_bipush (v := 24) hx hb dX12_feed_88 (by decide) ?_
  refine lv_bipush (v := 8) hx hb dX12_feed_90 (by decide) ?_
  refine lv_iload hx hb dX12_feed_92 (lv_at hl 1 rfl) ?_
  refine lv_iconst (v := 4) hx hb dX12_feed_94 (by decide) ?_
  refine lv_irem hx hb dX12_feed_95 (by decide) ?_
  refine lv_topi (fun x240 e241 => ?_)
  obtain rfl : x240 = 0 := e241.trans (by decide)
  refine lv_imul hx hb dX12_feed_96 ?_
  refine lv_topi (fun x242 e243 => ?_)
  obtain rfl : x242 = 0 := e243.trans (by decide)
  refine lv_isub hx hb dX12_feed_97 ?_
  refine lv_topi (fun x244 e245 => ?_)
  obtain rfl : x244 = 24 := e245.trans (by decide)
  refine lv_ishr hx hb dX12_feed_98 ?_
  refine lv_topi (fun x246 e247 => ?_)
  refine lv_sipush (v := 255) hx hb dX12_feed_99 (by decide) ?_
  refine lv_iand hx hb dX12_feed_102 ?_
  refine lv_topi (fun x248 e249 => ?_)
  refine va_iast hx hb hE.1.1 hP hD hS 1 0 rfl rfl (by unfold vp_in; decide) dX12_feed_103 (fun H locs hP hD hS => ?_)
  have hP : va_P G.1 pCl [(h0, .inr (9, fs232)), ((a 0), .inl (G.2.1 0, 5000, .inl (upd f229 (Int32.toNatClampNeg 12) x248)))] H := hP
  have hD : va_D A [(h0, .inr (9, fs232)), ((a 0), .inl (G.2.1 0, 5000, .inl (upd f229 (Int32.toNatClampNeg 12) x248)))] := hD
  generalize (upd f229 (Int32.toNatClampNeg 12) x248) = f250 at hP hD
  refine lv_aload_n hx hb dX12_feed_104 rfl (lv_at hl 2 rfl) ?_
  refine lv_dup hx hb dX12_feed_105 rfl ?_
  refine va_get (D := G.1) (ci := 9) (v := .int 12) (C := RX12) (T := TX12) (N := 134) hx hb hq pin_wsX120 hown hE.1.1 hP 0 rfl rfl 2 (by decide) (by rw [tFX12_2]; exact hq _ pw_260) (fun _ h9 => h9) (by rw [e233]; exact List.getElem?_set_self (by rw [hn214]; decide)) dX12_feed_106 ?_
  refine lv_iconst (v := 1) hx hb dX12_feed_109 (by decide) ?_
  refine lv_iadd hx hb dX12_feed_110 ?_
  refine lv_topi (fun x251 e252 => ?_)
  obtain rfl : x251 = 13 := e252.trans (by decide)
  refine va_put (D := G.1) (ci := 9) (v := .int 13) (ty := .int) (C := RX12) (T := TX12) (N := 134) hx hb hq pin_wsX120 tyX12 tyX12_ok nmX12 hown hE.1.1 hP hD hS 0 rfl rfl 2 (by decide) (by rw [tFX12_2]; exact hq _ pw_260) (fun _ h9 => h9) (by rw [tFX12_2]) (by rw [tFX12_2]; decide +kernel) rfl rfl (by rw [hn234]; decide) dX12_feed_111 (fun H locs hP hD hS => ?_)
  obtain ⟨fs253, e254⟩ : ∃ z : List Value, z = fs232.set 2 (.int 13) := ⟨_, rfl⟩
  have hn255 : fs253.length = 134 := by rw [e254, List.length_set]; exact hn234
  have hP : va_P G.1 pCl [(h0, .inr (9, fs253)), ((a 0), .inl (G.2.1 0, 5000, .inl f250))] H := by rw [e254]; exact hP
  have hD : va_D A [(h0, .inr (9, fs253)), ((a 0), .inl (G.2.1 0, 5000, .inl f250))] := by rw [e254]; exact hD
  refine lv_iinc (v := 13) (lv' := [(6, .int 13), (7, .int x4), (0, .ref h0), (1, .int x1), (2, .int x2), (3, .int x3), (4, .int x4), (5, .int x5)]) hx hb dX12_feed_114 hl (k := 1) rfl (by decide) (by decide) rfl (fun ls hl => ?_)
  refine lv_goto (tgt := 23) hx hb dX12_feed_117 (by decide) ?_
  refine lv_iload hx hb dX12_feed_23 (lv_at hl 0 rfl) ?_
  refine lv_bipush (v := 20) hx hb dX12_feed_25 (by decide) ?_
  refine lv_icmp_ge (tgt := 120) hx hb dX12_feed_27 (by decide) (fun c256 => absurd c256 (by decide)) (fun c256 => ?_)
  refine lv_iload hx hb dX12_feed_30 (lv_at hl 0 rfl) ?_
  refine lv_iconst (v := 4) hx hb dX12_feed_32 (by decide) ?_
  refine lv_icmp_ge (tgt := 40) hx hb dX12_feed_33 (by decide) (fun c257 => ?_) (fun c257 => absurd c257 (by decide))
  refine lv_iload hx hb dX12_feed_40 (lv_at hl 0 rfl) ?_
  refine lv_bipush (v := 8) hx hb dX12_feed_42 (by decide) ?_
  refine lv_icmp_ge (tgt := 51) hx hb dX12_feed_44 (by decide) (fun c258 => ?_) (fun c258 => absurd c258 (by decide))
  refine lv_iload hx hb dX12_feed_51 (lv_at hl 0 rfl) ?_
  refine lv_bipush (v := 12) hx hb dX12_feed_53 (by decide) ?_
  refine lv_icmp_ge (tgt := 62) hx hb dX12_feed_55 (by decide) (fun c259 => ?_) (fun c259 => absurd c259 (by decide))
  refine lv_iload hx hb dX12_feed_62 (lv_at hl 0 rfl) ?_
  refine lv_bipush (v := 16) hx hb dX12_feed_64 (by decide) ?_
  refine lv_icmp_ge (tgt := 74) hx hb dX12_feed_66 (by decide) (fun c260 => absurd c260 (by decide)) (fun c260 => ?_)
  refine lv_iload hx hb dX12_feed_69 (lv_at hl 6 rfl) ?_
  refine lv_goto (tgt := 76) hx hb dX12_feed_71 (by decide) ?_
  refine lv_istore (lv' := [(7, .int x4), (6, .int 13), (0, .ref h0), (1, .int x1), (2, .int x2), (3, .int x3), (4, .int x4), (5, .int x5)]) hx hb dX12_feed_76 hl (by decide) rfl (fun ls hl => ?_)
  refine lv_aload_n hx hb dX12_feed_78 rfl (lv_at hl 2 rfl) ?_
  refine va_get (D := G.1) (ci := 9) (v := .ref (a 0)) (C := RX12) (T := TX12) (N := 134) hx hb hq pin_wsX120 hown hE.1.1 hP 0 rfl rfl 1 (by decide) (by rw [tFX12_1]; exact hq _ pw_178) (fun _ h9 => h9) (by rw [e254, List.getElem?_set_ne (by decide), e233, List.getElem?_set_ne (by decide), e213, List.getElem?_set_ne (by decide), e193, List.getElem?_set_ne (by decide), e173, List.getElem?_set_ne (by decide), e153, List.getElem?_set_ne (by decide), e134, List.getElem?_set_ne (by decide), e115, List.getElem?_set_ne (by decide), e96, List.getElem?_set_ne (by decide), e77, List.getElem?_set_ne (by decide), e59, List.getElem?_set_ne (by decide), e41, List.getElem?_set_ne (by decide), e23, List.getElem?_set_ne (by decide), e2, List.getElem?_set_ne (by decide), ef]; rfl) dX12_feed_79 ?_
  refine lv_aload_n hx hb dX12_feed_82 rfl (lv_at hl 2 rfl) ?_
  refine va_get (D := G.1) (ci := 9) (v := .int 13) (C := RX12) (T := TX12) (N := 134) hx hb hq pin_wsX120 hown hE.1.1 hP 0 rfl rfl 2 (by decide) (by rw [tFX12_2]; exact hq _ pw_260) (fun _ h9 => h9) (by rw [e254]; exact List.getElem?_set_self (by rw [hn234]; decide)) dX12_feed_83 ?_
  refine lv_iload hx hb dX12_feed_86 (lv_at hl 0 rfl) ?_
  refine lv_bipush (v := 24) hx hb dX12_feed_88 (by decide) ?_
  refine lv_bipush (v := 8) hx hb dX12_feed_90 (by decide) ?_
  refine lv_iload hx hb dX12_feed_92 (lv_at hl 1 rfl) ?_
  refine lv_iconst (v := 4) hx hb dX12_feed_94 (by decide) ?_
  refine lv_irem hx hb dX12_feed_95 (by decide) ?_
  refine lv_topi (fun x261 e262 => ?_)
  obtain rfl : x261 = 1 := e262.trans (by decide)
  refine lv_imul hx hb dX12_feed_96 ?_
  refine lv_topi (fun x263 e264 => ?_)
  obtain rfl : x263 = 8 := e264.trans (by decide)
  refine lv_isub hx hb dX12_feed_97 ?_
  refine lv_topi (fun x265 e266 => ?_)
  obtain rfl : x265 = 16 := e266.trans (by decide)
  refine lv_ishr hx hb dX12_feed_98 ?_
  refine lv_topi (fun x267 e268 => ?_)
  refine lv_sipush (v := 255) hx hb dX12_feed_99 (by decide) ?_
  refine lv_iand hx hb dX12_feed_102 ?_
  refine lv_topi (fun x269 e270 => ?_)
  refine va_iast hx hb hE.1.1 hP hD hS 1 0 rfl rfl (by unfold vp_in; decide) dX12_feed_103 (fun H locs hP hD hS => ?_)
  have hP : va_P G.1 pCl [(h0, .inr (9, fs253)), ((a 0), .inl (G.2.1 0, 5000, .inl (upd f250 (Int32.toNatClampNeg 13) x269)))] H := hP
  have hD : va_D A [(h0, .inr (9, fs253)), ((a 0), .inl (G.2.1 0, 5000, .inl (upd f250 (Int32.toNatClampNeg 13) x269)))] := hD
  generalize (upd f250 (Int32.toNatClampNeg 13) x269) = f271 at hP hD
  refine lv_aload_n hx hb dX12_feed_104 rfl (lv_at hl 2 rfl) ?_
  refine lv_dup hx hb dX12_feed_105 rfl ?_
  refine va_get (D := G.1) (ci := 9) (v := .int 13) (C := RX12) (T := TX12) (N := 134) hx hb hq pin_wsX120 hown hE.1.1 hP 0 rfl rfl 2 (by decide) (by rw [tFX12_2]; exact hq _ pw_260) (fun _ h9 => h9) (by rw [e254]; exact List.getElem?_set_self (by rw [hn234]; decide)) dX12_feed_106 ?_
  refine lv_iconst (v := 1) hx hb dX12_feed_109 (by decide) ?_
  refine lv_iadd hx hb dX12_feed_110 ?_
  refine lv_topi (fun x272 e273 => ?_)
  obtain rfl : x272 = 14 := e273.trans (by decide)
  refine va_put (D := G.1) (ci := 9) (v := .int 14) (ty := .int) (C := RX12) (T := TX12) (N := 134) hx hb hq pin_wsX120 tyX12 tyX12_ok nmX12 hown hE.1.1 hP hD hS 0 rfl rfl 2 (by decide) (by rw [tFX12_2]; exact hq _ pw_260) (fun _ h9 => h9) (by rw [tFX12_2]) (by rw [tFX12_2]; decide +kernel) rfl rfl (by rw [hn255]; decide) dX12_feed_111 (fun H locs hP hD hS => ?_)
  obtain ⟨fs274, e275⟩ : ∃ z : List Value, z = fs253.set 2 (.int 14) := ⟨_, rfl⟩
  have hn276 : fs274.length = 134 := by rw [e275, List.length_set]; exact hn255
  have hP : va_P G.1 pCl [(h0, .inr (9, fs274)), ((a 0), .inl (G.2.1 0, 5000, .inl f271))] H := by rw [e275]; exact hP
  have hD : va_D A [(h0, .inr (9, fs274)), ((a 0), .inl (G.2.1 0, 5000, .inl f271))] := by rw [e275]; exact hD
  refine lv_iinc (v := 14) (lv' := [(6, .int 14), (7, .int x4), (0, .ref h0), (1, .int x1), (2, .int x2), (3, .int x3), (4, .int x4), (5, .int x5)]) hx hb dX12_feed_114 hl (k := 1) rfl (by decide) (by decide) rfl (fun ls hl => ?_)
  refine lv_goto (tgt := 23) hx hb dX12_feed_117 (by decide) ?_
  refine lv_iload hx hb dX12_feed_23 (lv_at hl 0 rfl) ?_
  refine lv_bipush (v := 20) hx hb dX12_feed_25 (by decide) ?_
  refine lv_icmp_ge (tgt := 120) hx hb dX12_feed_27 (by decide) (fun c277 => absurd c277 (by decide)) (fun c277 => ?_)
  refine lv_iload hx hb dX12_feed_30 (lv_at hl 0 rfl) ?_
  refine lv_iconst (v := 4) hx hb dX12_feed_32 (by decide) ?_
  refine lv_icmp_ge (tgt := 40) hx hb dX12_feed_33 (by decide) (fun c278 => ?_) (fun c278 => absurd c278 (by decide))
  refine lv_iload hx hb dX12_feed_40 (lv_at hl 0 rfl) ?_
  refine lv_bipush (v := 8) hx hb dX12_feed_42 (by decide) ?_
  refine lv_icmp_ge (tgt := 51) hx hb dX12_feed_44 (by decide) (fun c279 => ?_) (fun c279 => absurd c279 (by decide))
  refine lv_iload hx hb dX12_feed_51 (lv_at hl 0 rfl) ?_
  refine lv_bipush (v := 12) hx hb dX12_feed_53 (by decide) ?_
  refine lv_icmp_ge (tgt := 62) hx hb dX12_feed_55 (by decide) (fun c280 => ?_) (fun c280 => absurd c280 (by decide))
  refine lv_iload hx hb dX12_feed_62 (lv_at hl 0 rfl) ?_
  refine lv_bipush (v := 16) hx hb dX12_feed_64 (by decide) ?_
  refine lv_icmp_ge (tgt := 74) hx hb dX12_feed_66 (by decide) (fun c281 => absurd c281 (by decide)) (fun c281 => ?_)
  refine lv_iload hx hb dX12_feed_69 (lv_at hl 6 rfl) ?_
  refine lv_goto (tgt := 76) hx hb dX12_feed_71 (by decide) ?_
  refine lv_istore (lv' := [(7, .int x4), (6, .int 14), (0, .ref h0), (1, .int x1), (2, .int x2), (3, .int x3), (4, .int x4), (5, .int x5)]) hx hb dX12_feed_76 hl (by decide) rfl (fun ls hl => ?_)
  refine lv_aload_n hx hb dX12_feed_78 rfl (lv_at hl 2 rfl) ?_
  refine va_get (D := G.1) (ci := 9) (v := .ref (a 0)) (C := RX12) (T := TX12) (N := 134) hx hb hq pin_wsX120 hown hE.1.1 hP 0 rfl rfl 1 (by decide) (by rw [tFX12_1]; exact hq _ pw_178) (fun _ h9 => h9) (by rw [e275, List.getElem?_set_ne (by decide), e254, List.getElem?_set_ne (by decide), e233, List.getElem?_set_ne (by decide), e213, List.getElem?_set_ne (by decide), e193, List.getElem?_set_ne (by decide), e173, List.getElem?_set_ne (by decide), e153, List.getElem?_set_ne (by decide), e134, List.getElem?_set_ne (by decide), e115, List.getElem?_set_ne (by decide), e96, List.getElem?_set_ne (by decide), e77, List.getElem?_set_ne (by decide), e59, List.getElem?_set_ne (by decide), e41, List.getElem?_set_ne (by decide), e23, List.getElem?_set_ne (by decide), e2, List.getElem?_set_ne (by decide), ef]; rfl) dX12_feed_79 ?_
  refine lv_aload_n hx hb dX12_feed_82 rfl (lv_at hl 2 rfl) ?_
  refine va_get (D := G.1) (ci := 9) (v := .int 14) (C := RX12) (T := TX12) (N := 134) hx hb hq pin_wsX120 hown hE.1.1 hP 0 rfl rfl 2 (by decide) (by rw [tFX12_2]; exact hq _ pw_260) (fun _ h9 => h9) (by rw [e275]; exact List.getElem?_set_self (by rw [hn255]; decide)) dX12_feed_83 ?_
  refine lv_iload hx hb dX12_feed_86 (lv_at hl 0 rfl) ?_
  refine lv_bipush (v := 24) hx hb dX12_feed_88 (by decide) ?_
  refine lv_bipush (v := 8) hx hb dX12_feed_90 (by decide) ?_
  refine lv_iload hx hb dX12_feed_92 (lv_at hl 1 rfl) ?_
  refine lv_iconst (v := 4) hx hb dX12_feed_94 (by decide) ?_
  refine lv_irem hx hb dX12_feed_95 (by decide) ?_
  refine lv_topi (fun x282 e283 => ?_)
  obtain rfl : x282 = 2 := e283.trans (by decide)
  refine lv_imul hx hb dX12_feed_96 ?_
  refine lv_topi (fun x284 e285 => ?_)
  obtain rfl : x284 = 16 := e285.trans (by decide)
  refine lv_isub hx hb dX12_feed_97 ?_
  refine lv_topi (fun x286 e287 => ?_)
  obtain rfl : x286 = 8 := e287.trans (by decide)
  refine lv_ishr hx hb dX12_feed_98 ?_
  refine lv_topi (fun x288 e289 => ?_)
  refine lv_sipush (v := 255) hx hb dX12_feed_99 (by decide) ?_
  refine lv_iand hx hb dX12_feed_102 ?_
  refine lv_topi (fun x290 e291 => ?_)
  refine va_iast hx hb hE.1.1 hP hD hS 1 0 rfl rfl (by unfold vp_in; decide) dX12_feed_103 (fun H locs hP hD hS => ?_)
  have hP : va_P G.1 pCl [(h0, .inr (9, fs274)), ((a 0), .inl (G.2.1 0, 5000, .inl (upd f271 (Int32.toNatClampNeg 14) x290)))] H := hP
  have hD : va_D A [(h0, .inr (9, fs274)), ((a 0), .inl (G.2.1 0, 5000, .inl (upd f271 (Int32.toNatClampNeg 14) x290)))] := hD
  generalize (upd f271 (Int32.toNatClampNeg 14) x290) = f292 at hP hD
  refine lv_aload_n hx hb dX12_feed_104 rfl (lv_at hl 2 rfl) ?_
  refine lv_dup hx hb dX12_feed_105 rfl ?_
  refine va_get (D := G.1) (ci := 9) (v := .int 14) (C := RX12) (T := TX12) (N := 134) hx hb hq pin_wsX120 hown hE.1.1 hP 0 rfl rfl 2 (by decide) (by rw [tFX12_2]; exact hq _ pw_260) (fun _ h9 => h9) (by rw [e275]; exact List.getElem?_set_self (by rw [hn255]; decide)) dX12_feed_106 ?_
  refine lv_iconst (v := 1) hx hb dX12_feed_109 (by decide) ?_
  refine lv_iadd hx hb dX12_feed_110 ?_
  refine lv_topi (fun x293 e294 => ?_)
  obtain rfl : x293 = 15 := e294.trans (by decide)
  refine va_put (D := G.1) (ci := 9) (v := .int 15) (ty := .int) (C := RX12) (T := TX12) (N := 134) hx hb hq pin_wsX120 tyX12 tyX12_ok nmX12 hown hE.1.1 hP hD hS 0 rfl rfl 2 (by decide) (by rw [tFX12_2]; exact hq _ pw_260) (fun _ h9 => h9) (by rw [tFX12_2]) (by rw [tFX12_2]; decide +kernel) rfl rfl (by rw [hn276]; decide) dX12_feed_111 (fun H locs hP hD hS => ?_)
  obtain ⟨fs295, e296⟩ : ∃ z : List Value, z = fs274.set 2 (.int 15) := ⟨_, rfl⟩
  have hn297 : fs295.length = 134 := by rw [e296, List.length_set]; exact hn276
  have hP : va_P G.1 pCl [(h0, .inr (9, fs295)), ((a 0), .inl (G.2.1 0, 5000, .inl f292))] H := by rw [e296]; exact hP
  have hD : va_D A [(h0, .inr (9, fs295)), ((a 0), .inl (G.2.1 0, 5000, .inl f292))] := by rw [e296]; exact hD
  refine lv_iinc (v := 15) (lv' := [(6, .int 15), (7, .int x4), (0, .ref h0), (1, .int x1), (2, .int x2), (3, .int x3), (4, .int x4), (5, .int x5)]) hx hb dX12_feed_114 hl (k := 1) rfl (by decide) (by decide) rfl (fun ls hl => ?_)
  refine lv_goto (tgt := 23) hx hb dX12_feed_117 (by decide) ?_
  refine lv_iload hx hb dX12_feed_23 (lv_at hl 0 rfl) ?_
  refine lv_bipush (v := 20) hx hb dX12_feed_25 (by decide) ?_
  refine lv_icmp_ge (tgt := 120) hx hb dX12_feed_27 (by decide) (fun c298 => absurd c298 (by decide)) (fun c298 => ?_)
  refine lv_iload hx hb dX12_feed_30 (lv_at hl 0 rfl) ?_
  refine lv_iconst (v := 4) hx hb dX12_feed_32 (by decide) ?_
  refine lv_icmp_ge (tgt := 40) hx hb dX12_feed_33 (by decide) (fun c299 => ?_) (fun c299 => absurd c299 (by decide))
  refine lv_iload hx hb dX12_feed_40 (lv_at hl 0 rfl) ?_
  refine lv_bipush (v := 8) hx hb dX12_feed_42 (by decide) ?_
  refine lv_icmp_ge (tgt := 51) hx hb dX12_feed_44 (by decide) (fun c300 => ?_) (fun c300 => absurd c300 (by decide))
  refine lv_iload hx hb dX12_feed_51 (lv_at hl 0 rfl) ?_
  refine lv_bipush (v := 12) hx hb dX12_feed_53 (by decide) ?_
  refine lv_icmp_ge (tgt := 62) hx hb dX12_feed_55 (by decide) (fun c301 => ?_) (fun c301 => absurd c301 (by decide))
  refine lv_iload hx hb dX12_feed_62 (lv_at hl 0 rfl) ?_
  refine lv_bipush (v := 16) hx hb dX12_feed_64 (by decide) ?_
  refine lv_icmp_ge (tgt := 74) hx hb dX12_feed_66 (by decide) (fun c302 => absurd c302 (by decide)) (fun c302 => ?_)
  refine lv_iload hx hb dX12_feed_69 (lv_at hl 6 rfl) ?_
  refine lv_goto (tgt := 76) hx hb dX12_feed_71 (by decide) ?_
  refine lv_istore (lv' := [(7, .int x4), (6, .int 15), (0, .ref h0), (1, .int x1), (2, .int x2), (3, .int x3), (4, .int x4), (5, .int x5)]) hx hb dX12_feed_76 hl (by decide) rfl (fun ls hl => ?_)
  refine lv_aload_n hx hb dX12_feed_78 rfl (lv_at hl 2 rfl) ?_
  refine va_get (D := G.1) (ci := 9) (v := .ref (a 0)) (C := RX12) (T := TX12) (N := 134) hx hb hq pin_wsX120 hown hE.1.1 hP 0 rfl rfl 1 (by decide) (by rw [tFX12_1]; exact hq _ pw_178) (fun _ h9 => h9) (by rw [e296, List.getElem?_set_ne (by decide), e275, List.getElem?_set_ne (by decide), e254, List.getElem?_set_ne (by decide), e233, List.getElem?_set_ne (by decide), e213, List.getElem?_set_ne (by decide), e193, List.getElem?_set_ne (by decide), e173, List.getElem?_set_ne (by decide), e153, List.getElem?_set_ne (by decide), e134, List.getElem?_set_ne (by decide), e115, List.getElem?_set_ne (by decide), e96, List.getElem?_set_ne (by decide), e77, List.getElem?_set_ne (by decide), e59, List.getElem?_set_ne (by decide), e41, List.getElem?_set_ne (by decide), e23, List.getElem?_set_ne (by decide), e2, List.getElem?_set_ne (by decide), ef]; rfl) dX12_feed_79 ?_
  refine lv_aload_n hx hb dX12_feed_82 rfl (lv_at hl 2 rfl) ?_
  refine va_get (D := G.1) (ci := 9) (v := .int 15) (C := RX12) (T := TX12) (N := 134) hx hb hq pin_wsX120 hown hE.1.1 hP 0 rfl rfl 2 (by decide) (by rw [tFX12_2]; exact hq _ pw_260) (fun _ h9 => h9) (by rw [e296]; exact List.getElem?_set_self (by rw [hn276]; decide)) dX12_feed_83 ?_
  refine lv_iload hx hb dX12_feed_86 (lv_at hl 0 rfl) ?_
  refine lv_bipush (v := 24) hx hb dX12_feed_88 (by decide) ?_
  refine lv_bipush (v := 8) hx hb dX12_feed_90 (by decide) ?_
  refine lv_iload hx hb dX12_feed_92 (lv_at hl 1 rfl) ?_
  refine lv_iconst (v := 4) hx hb dX12_feed_94 (by decide) ?_
  refine lv_irem hx hb dX12_feed_95 (by decide) ?_
  refine lv_topi (fun x303 e304 => ?_)
  obtain rfl : x303 = 3 := e304.trans (by decide)
  refine lv_imul hx hb dX12_feed_96 ?_
  refine lv_topi (fun x305 e306 => ?_)
  obtain rfl : x305 = 24 := e306.trans (by decide)
  refine lv_isub hx hb dX12_feed_97 ?_
  refine lv_topi (fun x307 e308 => ?_)
  obtain rfl : x307 = 0 := e308.trans (by decide)
  refine lv_ishr hx hb dX12_feed_98 ?_
  refine lv_topi (fun x309 e310 => ?_)
  refine lv_sipush (v := 255) hx hb dX12_feed_99 (by decide) ?_
  refine lv_iand hx hb dX12_feed_102 ?_
  refine lv_topi (fun x311 e312 => ?_)
  refine va_iast hx hb hE.1.1 hP hD hS 1 0 rfl rfl (by unfold vp_in; decide) dX12_feed_103 (fun H locs hP hD hS => ?_)
  have hP : va_P G.1 pCl [(h0, .inr (9, fs295)), ((a 0), .inl (G.2.1 0, 5000, .inl (upd f292 (Int32.toNatClampNeg 15) x311)))] H := hP
  have hD : va_D A [(h0, .inr (9, fs295)), ((a 0), .inl (G.2.1 0, 5000, .inl (upd f292 (Int32.toNatClampNeg 15) x311)))] := hD
  generalize (upd f292 (Int32.toNatClampNeg 15) x311) = f313 at hP hD
  refine lv_aload_n hx hb dX12_feed_104 rfl (lv_at hl 2 rfl) ?_
  refine lv_dup hx hb dX12_feed_105 rfl ?_
  refine va_get (D := G.1) (ci := 9) (v := .int 15) (C := RX12) (T := TX12) (N := 134) hx hb hq pin_wsX120 hown hE.1.1 hP 0 rfl rfl 2 (by decide) (by rw [tFX12_2]; exact hq _ pw_260) (fun _ h9 => h9) (by rw [e296]; exact List.getElem?_set_self (by rw [hn276]; decide)) dX12_feed_106 ?_
  refine lv_iconst (v := 1) hx hb dX12_feed_109 (by decide) ?_
  refine lv_iadd hx hb dX12_feed_110 ?_
  refine lv_topi (fun x314 e315 => ?_)
  obtain rfl : x314 = 16 := e315.trans (by decide)
  refine va_put (D := G.1) (ci := 9) (v := .int 16) (ty := .int) (C := RX12) (T := TX12) (N := 134) hx hb hq pin_wsX120 tyX12 tyX12_ok nmX12 hown hE.1.1 hP hD hS 0 rfl rfl 2 (by decide) (by rw [tFX12_2]; exact hq _ pw_260) (fun _ h9 => h9) (by rw [tFX12_2]) (by rw [tFX12_2]; decide +kernel) rfl rfl (by rw [hn297]; decide) dX12_feed_111 (fun H locs hP hD hS => ?_)
  obtain ⟨fs316, e317⟩ : ∃ z : List Value, z = fs295.set 2 (.int 16) := ⟨_, rfl⟩
  have hn318 : fs316.length = 134 := by rw [e317, List.length_set]; exact hn297
  have hP : va_P G.1 pCl [(h0, .inr (9, fs316)), ((a 0), .inl (G.2.1 0, 5000, .inl f313))] H := by rw [e317]; exact hP
  have hD : va_D A [(h0, .inr (9, fs316)), ((a 0), .inl (G.2.1 0, 5000, .inl f313))] := by rw [e317]; exact hD
  refine lv_iinc (v := 16) (lv' := [(6, .int 16), (7, .int x4), (0, .ref h0), (1, .int x1), (2, .int x2), (3, .int x3), (4, .int x4), (5, .int x5)]) hx hb dX12_feed_114 hl (k := 1) rfl (by decide) (by decide) rfl (fun ls hl => ?_)
  refine lv_goto (tgt := 23) hx hb dX12_feed_117 (by decide) ?_
  refine lv_iload hx hb dX12_feed_23 (lv_at hl 0 rfl) ?_
  refine lv_bipush (v := 20) hx hb dX12_feed_25 (by decide) ?_
  refine lv_icmp_ge (tgt := 120) hx hb dX12_feed_27 (by decide) (fun c319 => absurd c319 (by decide)) (fun c319 => ?_)
  refine lv_iload hx hb dX12_feed_30 (lv_at hl 0 rfl) ?_
  refine lv_iconst (v := 4) hx hb dX12_feed_32 (by decide) ?_
  refine lv_icmp_ge (tgt := 40) hx hb dX12_feed_33 (by decide) (fun c320 => ?_) (fun c320 => absurd c320 (by decide))
  refine lv_iload hx hb dX12_feed_40 (lv_at hl 0 rfl) ?_
  refine lv_bipush (v := 8) hx hb dX12_feed_42 (by decide) ?_
  refine lv_icmp_ge (tgt := 51) hx hb dX12_feed_44 (by decide) (fun c321 => ?_) (fun c321 => absurd c321 (by decide))
  refine lv_iload hx hb dX12_feed_51 (lv_at hl 0 rfl) ?_
  refine lv_bipush (v := 12) hx hb dX12_feed_53 (by decide) ?_
  refine lv_icmp_ge (tgt := 62) hx hb dX12_feed_55 (by decide) (fun c322 => ?_) (fun c322 => absurd c322 (by decide))
  refine lv_iload hx hb dX12_feed_62 (lv_at hl 0 rfl) ?_
  refine lv_bipush (v := 16) hx hb dX12_feed_64 (by decide) ?_
  refine lv_icmp_ge (tgt := 74) hx hb dX12_feed_66 (by decide) (fun c323 => ?_) (fun c323 => absurd c323 (by decide))
  refine lv_iload hx hb dX12_feed_74 (lv_at hl 7 rfl) ?_
  refine lv_istore (lv' := [(7, .int x5), (6, .int 16), (0, .ref h0), (1, .int x1), (2, .int x2), (3, .int x3), (4, .int x4), (5, .int x5)]) hx hb dX12_feed_76 hl (by decide) rfl (fun ls hl => ?_)
  refine lv_aload_n hx hb dX12_feed_78 rfl (lv_at hl 2 rfl) ?_
  refine va_get (D := G.1) (ci := 9) (v := .ref (a 0)) (C := RX12) (T := TX12) (N := 134) hx hb hq pin_wsX120 hown hE.1.1 hP 0 rfl rfl 1 (by decide) (by rw [tFX12_1]; exact hq _ pw_178) (fun _ h9 => h9) (by rw [e317, List.getElem?_set_ne (by decide), e296, List.getElem?_set_ne (by decide), e275, List.getElem?_set_ne (by decide), e254, List.getElem?_set_ne (by decide), e233, List.getElem?_set_ne (by decide), e213, List.getElem?_set_ne (by decide), e193, List.getElem?_set_ne (by decide), e173, List.getElem?_set_ne (by decide), e153, List.getElem?_set_ne (by decide), e134, List.getElem?_set_ne (by decide), e115, List.getElem?_set_ne (by decide), e96, List.getElem?_set_ne (by decide), e77, List.getElem?_set_ne (by decide), e59, List.getElem?_set_ne (by decide), e41, List.getElem?_set_ne (by decide), e23, List.getElem?_set_ne (by decide), e2, List.getElem?_set_ne (by decide), ef]; rfl) dX12_feed_79 ?_
  refine lv_aload_n hx hb dX12_feed_82 rfl (lv_at hl 2 rfl) ?_
  refine va_get (D := G.1) (ci := 9) (v := .int 16) (C := RX12) (T := TX12) (N := 134) hx hb hq pin_wsX120 hown hE.1.1 hP 0 rfl rfl 2 (by decide) (by rw [tFX12_2]; exact hq _ pw_260) (fun _ h9 => h9) (by rw [e317]; exact List.getElem?_set_self (by rw [hn297]; decide)) dX12_feed_83 ?_
  refine lv_iload hx hb dX12_feed_86 (lv_at hl 0 rfl) ?_
  refine lv_bipush (v := 24) hx hb dX12_feed_88 (by decide) ?_
  refine lv_bipush (v := 8) hx hb dX12_feed_90 (by decide) ?_
  refine lv_iload hx hb dX12_feed_92 (lv_at hl 1 rfl) ?_
  refine lv_iconst (v := 4) hx hb dX12_feed_94 (by decide) ?_
  refine lv_irem hx hb dX12_feed_95 (by decide) ?_
  refine lv_topi (fun x324 e325 => ?_)
  obtain rfl : x324 = 0 := e325.trans (by decide)
  refine lv_imul hx hb dX12_feed_96 ?_
  refine lv_topi (fun x326 e327 => ?_)
  obtain rfl : x326 = 0 := e327.trans (by decide)
  refine lv_isub hx hb dX12_feed_97 ?_
  refine lv_topi (fun x328 e329 => ?_)
  obtain rfl : x328 = 24 := e329.trans (by decide)
  refine lv_ishr hx hb dX12_feed_98 ?_
  refine lv_topi (fun x330 e331 => ?_)
  refine lv_sipush (v := 255) hx hb dX12_feed_99 (by decide) ?_
  refine lv_iand hx hb dX12_feed_102 ?_
  refine lv_topi (fun x332 e333 => ?_)
  refine va_iast hx hb hE.1.1 hP hD hS 1 0 rfl rfl (by unfold vp_in; decide) dX12_feed_103 (fun H locs hP hD hS => ?_)
  have hP : va_P G.1 pCl [(h0, .inr (9, fs316)), ((a 0), .inl (G.2.1 0, 5000, .inl (upd f313 (Int32.toNatClampNeg 16) x332)))] H := hP
  have hD : va_D A [(h0, .inr (9, fs316)), ((a 0), .inl (G.2.1 0, 5000, .inl (upd f313 (Int32.toNatClampNeg 16) x332)))] := hD
  generalize (upd f313 (Int32.toNatClampNeg 16) x332) = f334 at hP hD
  refine lv_aload_n hx hb dX12_feed_104 rfl (lv_at hl 2 rfl) ?_
  refine lv_dup hx hb dX12_feed_105 rfl ?_
  refine va_get (D := G.1) (ci := 9) (v := .int 16) (C := RX12) (T := TX12) (N := 134) hx hb hq pin_wsX120 hown hE.1.1 hP 0 rfl rfl 2 (by decide) (by rw [tFX12_2]; exact hq _ pw_260) (fun _ h9 => h9) (by rw [e317]; exact List.getElem?_set_self (by rw [hn297]; decide)) dX12_feed_106 ?_
  refine lv_iconst (v := 1) hx hb dX12_feed_109 (by decide) ?_
  refine lv_iadd hx hb dX12_feed_110 ?_
  refine lv_topi (fun x335 e336 => ?_)
  obtain rfl : x335 = 17 := e336.trans (by decide)
  refine va_put (D := G.1) (ci := 9) (v := .int 17) (ty := .int) (C := RX12) (T := TX12) (N := 134) hx hb hq pin_wsX120 tyX12 tyX12_ok nmX12 hown hE.1.1 hP hD hS 0 rfl rfl 2 (by decide) (by rw [tFX12_2]; exact hq _ pw_260) (fun _ h9 => h9) (by rw [tFX12_2]) (by rw [tFX12_2]; decide +kernel) rfl rfl (by rw [hn318]; decide) dX12_feed_111 (fun H locs hP hD hS => ?_)
  obtain ⟨fs337, e338⟩ : ∃ z : List Value, z = fs316.set 2 (.int 17) := ⟨_, rfl⟩
  have hn339 : fs337.length = 134 := by rw [e338, List.length_set]; exact hn318
  have hP : va_P G.1 pCl [(h0, .inr (9, fs337)), ((a 0), .inl (G.2.1 0, 5000, .inl f334))] H := by rw [e338]; exact hP
  have hD : va_D A [(h0, .inr (9, fs337)), ((a 0), .inl (G.2.1 0, 5000, .inl f334))] := by rw [e338]; exact hD
  refine lv_iinc (v := 17) (lv' := [(6, .int 17), (7, .int x5), (0, .ref h0), (1, .int x1), (2, .int x2), (3, .int x3), (4, .int x4), (5, .int x5)]) hx hb dX12_feed_114 hl (k := 1) rfl (by decide) (by decide) rfl (fun ls hl => ?_)
  refine lv_goto (tgt := 23) hx hb dX12_feed_117 (by decide) ?_
  refine lv_iload hx hb dX12_feed_23 (lv_at hl 0 rfl) ?_
  refine lv_bipush (v := 20) hx hb dX12_feed_25 (by decide) ?_
  refine lv_icmp_ge (tgt := 120) hx hb dX12_feed_27 (by decide) (fun c340 => absurd c340 (by decide)) (fun c340 => ?_)
  refine lv_iload hx hb dX12_feed_30 (lv_at hl 0 rfl) ?_
  refine lv_iconst (v := 4) hx hb dX12_feed_32 (by decide) ?_
  refine lv_icmp_ge (tgt := 40) hx hb dX12_feed_33 (by decide) (fun c341 => ?_) (fun c341 => absurd c341 (by decide))
  refine lv_iload hx hb dX12_feed_40 (lv_at hl 0 rfl) ?_
  refine lv_bipush (v := 8) hx hb dX12_feed_42 (by decide) ?_
  refine lv_icmp_ge (tgt := 51) hx hb dX12_feed_44 (by decide) (fun c342 => ?_) (fun c342 => absurd c342 (by decide))
  refine lv_iload hx hb dX12_feed_51 (lv_at hl 0 rfl) ?_
  refine lv_bipush (v := 12) hx hb dX12_feed_53 (by decide) ?_
  refine lv_icmp_ge (tgt := 62) hx hb dX12_feed_55 (by decide) (fun c343 => ?_) (fun c343 => absurd c343 (by decide))
  refine lv_iload hx hb dX12_feed_62 (lv_at hl 0 rfl) ?_
  refine lv_bipush (v := 16) hx hb dX12_feed_64 (by decide) ?_
  refine lv_icmp_ge (tgt := 74) hx hb dX12_feed_66 (by decide) (fun c344 => ?_) (fun c344 => absurd c344 (by decide))
  refine lv_iload hx hb dX12_feed_74 (lv_at hl 7 rfl) ?_
  refine lv_istore (lv' := [(7, .int x5), (6, .int 17), (0, .ref h0), (1, .int x1), (2, .int x2), (3, .int x3), (4, .int x4), (5, .int x5)]) hx hb dX12_feed_76 hl (by decide) rfl (fun ls hl => ?_)
  refine lv_aload_n hx hb dX12_feed_78 rfl (lv_at hl 2 rfl) ?_
  refine va_get (D := G.1) (ci := 9) (v := .ref (a 0)) (C := RX12) (T := TX12) (N := 134) hx hb hq pin_wsX120 hown hE.1.1 hP 0 rfl rfl 1 (by decide) (by rw [tFX12_1]; exact hq _ pw_178) (fun _ h9 => h9) (by rw [e338, List.getElem?_set_ne (by decide), e317, List.getElem?_set_ne (by decide), e296, List.getElem?_set_ne (by decide), e275, List.getElem?_set_ne (by decide), e254, List.getElem?_set_ne (by decide), e233, List.getElem?_set_ne (by decide), e213, List.getElem?_set_ne (by decide), e193, List.getElem?_set_ne (by decide), e173, List.getElem?_set_ne (by decide), e153, List.getElem?_set_ne (by decide), e134, List.getElem?_set_ne (by decide), e115, List.getElem?_set_ne (by decide), e96, List.getElem?_set_ne (by decide), e77, List.getElem?_set_ne (by decide), e59, List.getElem?_set_ne (by decide), e41, List.getElem?_set_ne (by decide), e23, List.getElem?_set_ne (by decide), e2, List.getElem?_set_ne (by decide), ef]; rfl) dX12_feed_79 ?_
  refine lv_aload_n hx hb dX12_feed_82 rfl (lv_at hl 2 rfl) ?_
  refine va_get (D := G.1) (ci := 9) (v := .int 17) (C := RX12) (T := TX12) (N := 134) hx hb hq pin_wsX120 hown hE.1.1 hP 0 rfl rfl 2 (by decide) (by rw [tFX12_2]; exact hq _ pw_260) (fun _ h9 => h9) (by rw [e338]; exact List.getElem?_set_self (by rw [hn318]; decide)) dX12_feed_83 ?_
  refine lv_iload hx hb dX12_feed_86 (lv_at hl 0 rfl) ?_
  refine lv_bipush (v := 24) hx hb dX12_feed_88 (by decide) ?_
  refine lv_bipush (v := 8) hx hb dX12_feed_90 (by decide) ?_
  refine lv_iload hx hb dX12_feed_92 (lv_at hl 1 rfl) ?_
  refine lv_iconst (v := 4) hx hb dX12_feed_94 (by decide) ?_
  refine lv_irem hx hb dX12_feed_95 (by decide) ?_
  refine lv_topi (fun x345 e346 => ?_)
  obtain rfl : x345 = 1 := e346.trans (by decide)
  refine lv_imul hx hb dX12_feed_96 ?_
  refine lv_topi (fun x347 e348 => ?_)
  obtain rfl : x347 = 8 := e348.trans (by decide)
  refine lv_isub hx hb dX12_feed_97 ?_
  refine lv_topi (fun x349 e350 => ?_)
  obtain rfl : x349 = 16 := e350.trans (by decide)
  refine lv_ishr hx hb dX12_feed_98 ?_
  refine lv_topi (fun x351 e352 => ?_)
  refine lv_sipush (v := 255) hx hb dX12_feed_99 (by decide) ?_
  refine lv_iand hx hb dX12_feed_102 ?_
  refine lv_topi (fun x353 e354 => ?_)
  refine va_iast hx hb hE.1.1 hP hD hS 1 0 rfl rfl (by unfold vp_in; decide) dX12_feed_103 (fun H locs hP hD hS => ?_)
  have hP : va_P G.1 pCl [(h0, .inr (9, fs337)), ((a 0), .inl (G.2.1 0, 5000, .inl (upd f334 (Int32.toNatClampNeg 17) x353)))] H := hP
  have hD : va_D A [(h0, .inr (9, fs337)), ((a 0), .inl (G.2.1 0, 5000, .inl (upd f334 (Int32.toNatClampNeg 17) x353)))] := hD
  generalize (upd f334 (Int32.toNatClampNeg 17) x353) = f355 at hP hD
  refine lv_aload_n hx hb dX12_feed_104 rfl (lv_at hl 2 rfl) ?_
  refine lv_dup hx hb dX12_feed_105 rfl ?_
  refine va_get (D := G.1) (ci := 9) (v := .int 17) (C := RX12) (T := TX12) (N := 134) hx hb hq pin_wsX120 hown hE.1.1 hP 0 rfl rfl 2 (by decide) (by rw [tFX12_2]; exact hq _ pw_260) (fun _ h9 => h9) (by rw [e338]; exact List.getElem?_set_self (by rw [hn318]; decide)) dX12_feed_106 ?_
  refine lv_iconst (v := 1) hx hb dX12_feed_109 (by decide) ?_
  refine lv_iadd hx hb dX12_feed_110 ?_
  refine lv_topi (fun x356 e357 => ?_)
  obtain rfl : x356 = 18 := e357.trans (by decide)
  refine va_put (D := G.1) (ci := 9) (v := .int 18) (ty := .int) (C := RX12) (T := TX12) (N := 134) hx hb hq pin_wsX120 tyX12 tyX12_ok nmX12 hown hE.1.1 hP hD hS 0 rfl rfl 2 (by decide) (by rw [tFX12_2]; exact hq _ pw_260) (fun _ h9 => h9) (by rw [tFX12_2]) (by rw [tFX12_2]; decide +kernel) rfl rfl (by rw [hn339]; decide) dX12_feed_111 (fun H locs hP hD hS => ?_)
  obtain ⟨fs358, e359⟩ : ∃ z : List Value, z = fs337.set 2 (.int 18) := ⟨_, rfl⟩
  have hn360 : fs358.length = 134 := by rw [e359, List.length_set]; exact hn339
  have hP : va_P G.1 pCl [(h0, .inr (9, fs358)), ((a 0), .inl (G.2.1 0, 5000, .inl f355))] H := by rw [e359]; exact hP
  have hD : va_D A [(h0, .inr (9, fs358)), ((a 0), .inl (G.2.1 0, 5000, .inl f355))] := by rw [e359]; exact hD
  refine lv_iinc (v := 18) (lv' := [(6, .int 18), (7, .int x5), (0, .ref h0), (1, .int x1), (2, .int x2), (3, .int x3), (4, .int x4), (5, .int x5)]) hx hb dX12_feed_114 hl (k := 1) rfl (by decide) (by decide) rfl (fun ls hl => ?_)
  refine lv_goto (tgt := 23) hx hb dX12_feed_117 (by decide) ?_
  refine lv_iload hx hb dX12_feed_23 (lv_at hl 0 rfl) ?_
  refine lv_bipush (v := 20) hx hb dX12_feed_25 (by decide) ?_
  refine lv_icmp_ge (tgt := 120) hx hb dX12_feed_27 (by decide) (fun c361 => absurd c361 (by decide)) (fun c361 => ?_)
  refine lv_iload hx hb dX12_feed_30 (lv_at hl 0 rfl) ?_
  refine lv_iconst (v := 4) hx hb dX12_feed_32 (by decide) ?_
  refine lv_icmp_ge (tgt := 40) hx hb dX12_feed_33 (by decide) (fun c362 => ?_) (fun c362 => absurd c362 (by decide))
  refine lv_iload hx hb dX12_feed_40 (lv_at hl 0 rfl) ?_
  refine lv_bipush (v := 8) hx hb dX12_feed_42 (by decide) ?_
  refine lv_icmp_ge (tgt := 51) hx hb dX12_feed_44 (by decide) (fun c363 => ?_) (fun c363 => absurd c363 (by decide))
  refine lv_iload hx hb dX12_feed_51 (lv_at hl 0 rfl) ?_
  refine lv_bipush (v := 12) hx hb dX12_feed_53 (by decide) ?_
  refine lv_icmp_ge (tgt := 62) hx hb dX12_feed_55 (by decide) (fun c364 => ?_) (fun c364 => absurd c364 (by decide))
  refine lv_iload hx hb dX12_feed_62 (lv_at hl 0 rfl) ?_
  refine lv_bipush (v := 16) hx hb dX12_feed_64 (by decide) ?_
  refine lv_icmp_ge (tgt := 74) hx hb dX12_feed_66 (by decide) (fun c365 => ?_) (fun c365 => absurd c365 (by decide))
  refine lv_iload hx hb dX12_feed_74 (lv_at hl 7 rfl) ?_
  refine lv_istore (lv' := [(7, .int x5), (6, .int 18), (0, .ref h0), (1, .int x1), (2, .int x2), (3, .int x3), (4, .int x4), (5, .int x5)]) hx hb dX12_feed_76 hl (by decide) rfl (fun ls hl => ?_)
  refine lv_aload_n hx hb dX12_feed_78 rfl (lv_at hl 2 rfl) ?_
  refine va_get (D := G.1) (ci := 9) (v := .ref (a 0)) (C := RX12) (T := TX12) (N := 134) hx hb hq pin_wsX120 hown hE.1.1 hP 0 rfl rfl 1 (by decide) (by rw [tFX12_1]; exact hq _ pw_178) (fun _ h9 => h9) (by rw [e359, List.getElem?_set_ne (by decide), e338, List.getElem?_set_ne (by decide), e317, List.getElem?_set_ne (by decide), e296, List.getElem?_set_ne (by decide), e275, List.getElem?_set_ne (by decide), e254, List.getElem?_set_ne (by decide), e233, List.getElem?_set_ne (by decide), e213, List.getElem?_set_ne (by decide), e193, List.getElem?_set_ne (by decide), e173, List.getElem?_set_ne (by decide), e153, List.getElem?_set_ne (by decide), e134, List.getElem?_set_ne (by decide), e115, List.getElem?_set_ne (by decide), e96, List.getElem?_set_ne (by decide), e77, List.getElem?_set_ne (by decide), e59, List.getElem?_set_ne (by decide), e41, List.getElem?_set_ne (by decide), e23, List.getElem?_set_ne (by decide), e2, List.getElem?_set_ne (by decide), ef]; rfl) dX12_feed_79 ?_
  refine lv_aload_n hx hb dX12_feed_82 rfl (lv_at hl 2 rfl) ?_
  refine va_get (D := G.1) (ci := 9) (v := .int 18) (C := RX12) (T := TX12) (N := 134) hx hb hq pin_wsX120 hown hE.1.1 hP 0 rfl rfl 2 (by decide) (by rw [tFX12_2]; exact hq _ pw_260) (fun _ h9 => h9) (by rw [e359]; exact List.getElem?_set_self (by rw [hn339]; decide)) dX12_feed_83 ?_
  refine lv_iload hx hb dX12_feed_86 (lv_at hl 0 rfl) ?_
  refine lv_bipush (v := 24) hx hb dX12_feed_88 (by decide) ?_
  refine lv_bipush (v := 8) hx hb dX12_feed_90 (by decide) ?_
  refine lv_iload hx hb dX12_feed_92 (lv_at hl 1 rfl) ?_
  refine lv_iconst (v := 4) hx hb dX12_feed_94 (by decide) ?_
  refine lv_irem hx hb dX12_feed_95 (by decide) ?_
  refine lv_topi (fun x366 e367 => ?_)
  obtain rfl : x366 = 2 := e367.trans (by decide)
  refine lv_imul hx hb dX12_feed_96 ?_
  refine lv_topi (fun x368 e369 => ?_)
  obtain rfl : x368 = 16 := e369.trans (by decide)
  refine lv_isub hx hb dX12_feed_97 ?_
  refine lv_topi (fun x370 e371 => ?_)
  obtain rfl : x370 = 8 := e371.trans (by decide)
  refine lv_ishr hx hb dX12_feed_98 ?_
  refine lv_topi (fun x372 e373 => ?_)
  refine lv_sipush (v := 255) hx hb dX12_feed_99 (by decide) ?_
  refine lv_iand hx hb dX12_feed_102 ?_
  refine lv_topi (fun x374 e375 => ?_)
  refine va_iast hx hb hE.1.1 hP hD hS 1 0 rfl rfl (by unfold vp_in; decide) dX12_feed_103 (fun H locs hP hD hS => ?_)
  have hP : va_P G.1 pCl [(h0, .inr (9, fs358)), ((a 0), .inl (G.2.1 0, 5000, .inl (upd f355 (Int32.toNatClampNeg 18) x374)))] H := hP
  have hD : va_D A [(h0, .inr (9, fs358)), ((a 0), .inl (G.2.1 0, 5000, .inl (upd f355 (Int32.toNatClampNeg 18) x374)))] := hD
  generalize (upd f355 (Int32.toNatClampNeg 18) x374) = f376 at hP hD
  refine lv_aload_n hx hb dX12_feed_104 rfl (lv_at hl 2 rfl) ?_
  refine lv_dup hx hb dX12_feed_105 rfl ?_
  refine va_get (D := G.1) (ci := 9) (v := .int 18) (C := RX12) (T := TX12) (N := 134) hx hb hq pin_wsX120 hown hE.1.1 hP 0 rfl rfl 2 (by decide) (by rw [tFX12_2]; exact hq _ pw_260) (fun _ h9 => h9) (by rw [e359]; exact List.getElem?_set_self (by rw [hn339]; decide)) dX12_feed_106 ?_
  refine lv_iconst (v := 1) hx hb dX12_feed_109 (by decide) ?_
  refine lv_iadd hx hb dX12_feed_110 ?_
  refine lv_topi (fun x377 e378 => ?_)
  obtain rfl : x377 = 19 := e378.trans (by decide)
  refine va_put (D := G.1) (ci := 9) (v := .int 19) (ty := .int) (C := RX12) (T := TX12) (N := 134) hx hb hq pin_wsX120 tyX12 tyX12_ok nmX12 hown hE.1.1 hP hD hS 0 rfl rfl 2 (by decide) (by rw [tFX12_2]; exact hq _ pw_260) (fun _ h9 => h9) (by rw [tFX12_2]) (by rw [tFX12_2]; decide +kernel) rfl rfl (by rw [hn360]; decide) dX12_feed_111 (fun H locs hP hD hS => ?_)
  obtain ⟨fs379, e380⟩ : ∃ z : List Value, z = fs358.set 2 (.int 19) := ⟨_, rfl⟩
  have hn381 : fs379.length = 134 := by rw [e380, List.length_set]; exact hn360
  have hP : va_P G.1 pCl [(h0, .inr (9, fs379)), ((a 0), .inl (G.2.1 0, 5000, .inl f376))] H := by rw [e380]; exact hP
  have hD : va_D A [(h0, .inr (9, fs379)), ((a 0), .inl (G.2.1 0, 5000, .inl f376))] := by rw [e380]; exact hD
  refine lv_iinc (v := 19) (lv' := [(6, .int 19), (7, .int x5), (0, .ref h0), (1, .int x1), (2, .int x2), (3, .int x3), (4, .int x4), (5, .int x5)]) hx hb dX12_feed_114 hl (k := 1) rfl (by decide) (by decide) rfl (fun ls hl => ?_)
  refine lv_goto (tgt := 23) hx hb dX12_feed_117 (by decide) ?_
  refine lv_iload hx hb dX12_feed_23 (lv_at hl 0 rfl) ?_
  refine lv_bipush (v := 20) hx hb dX12_feed_25 (by decide) ?_
  refine lv_icmp_ge (tgt := 120) hx hb dX12_feed_27 (by decide) (fun c382 => absurd c382 (by decide)) (fun c382 => ?_)
  refine lv_iload hx hb dX12_feed_30 (lv_at hl 0 rfl) ?_
  refine lv_iconst (v := 4) hx hb dX12_feed_32 (by decide) ?_
  refine lv_icmp_ge (tgt := 40) hx hb dX12_feed_33 (by decide) (fun c383 => ?_) (fun c383 => absurd c383 (by decide))
  refine lv_iload hx hb dX12_feed_40 (lv_at hl 0 rfl) ?_
  refine lv_bipush (v := 8) hx hb dX12_feed_42 (by decide) ?_
  refine lv_icmp_ge (tgt := 51) hx hb dX12_feed_44 (by decide) (fun c384 => ?_) (fun c384 => absurd c384 (by decide))
  refine lv_iload hx hb dX12_feed_51 (lv_at hl 0 rfl) ?_
  refine lv_bipush (v := 12) hx hb dX12_feed_53 (by decide) ?_
  refine lv_icmp_ge (tgt := 62) hx hb dX12_feed_55 (by decide) (fun c385 => ?_) (fun c385 => absurd c385 (by decide))
  refine lv_iload hx hb dX12_feed_62 (lv_at hl 0 rfl) ?_
  refine lv_bipush (v := 16) hx hb dX12_feed_64 (by decide) ?_
  refine lv_icmp_ge (tgt := 74) hx hb dX12_feed_66 (by decide) (fun c386 => ?_) (fun c386 => absurd c386 (by decide))
  refine lv_iload hx hb dX12_feed_74 (lv_at hl 7 rfl) ?_
  refine lv_istore (lv' := [(7, .int x5), (6, .int 19), (0, .ref h0), (1, .int x1), (2, .int x2), (3, .int x3), (4, .int x4), (5, .int x5)]) hx hb dX12_feed_76 hl (by decide) rfl (fun ls hl => ?_)
  refine lv_aload_n hx hb dX12_feed_78 rfl (lv_at hl 2 rfl) ?_
  refine va_get (D := G.1) (ci := 9) (v := .ref (a 0)) (C := RX12) (T := TX12) (N := 134) hx hb hq pin_wsX120 hown hE.1.1 hP 0 rfl rfl 1 (by decide) (by rw [tFX12_1]; exact hq _ pw_178) (fun _ h9 => h9) (by rw [e380, List.getElem?_set_ne (by decide), e359, List.getElem?_set_ne (by decide), e338, List.getElem?_set_ne (by decide), e317, List.getElem?_set_ne (by decide), e296, List.getElem?_set_ne (by decide), e275, List.getElem?_set_ne (by decide), e254, List.getElem?_set_ne (by decide), e233, List.getElem?_set_ne (by decide), e213, List.getElem?_set_ne (by decide), e193, List.getElem?_set_ne (by decide), e173, List.getElem?_set_ne (by decide), e153, List.getElem?_set_ne (by decide), e134, List.getElem?_set_ne (by decide), e115, List.getElem?_set_ne (by decide), e96, List.getElem?_set_ne (by decide), e77, List.getElem?_set_ne (by decide), e59, List.getElem?_set_ne (by decide), e41, List.getElem?_set_ne (by decide), e23, List.getElem?_set_ne (by decide), e2, List.getElem?_set_ne (by decide), ef]; rfl) dX12_feed_79 ?_
  refine lv_aload_n hx hb dX12_feed_82 rfl (lv_at hl 2 rfl) ?_
  refine va_get (D := G.1) (ci := 9) (v := .int 19) (C := RX12) (T := TX12) (N := 134) hx hb hq pin_wsX120 hown hE.1.1 hP 0 rfl rfl 2 (by decide) (by rw [tFX12_2]; exact hq _ pw_260) (fun _ h9 => h9) (by rw [e380]; exact List.getElem?_set_self (by rw [hn360]; decide)) dX12_feed_83 ?_
  refine lv_iload hx hb dX12_feed_86 (lv_at hl 0 rfl) ?_
  refine lv_bipush (v := 24) hx hb dX12_feed_88 (by decide) ?_
  refine lv_bipush (v := 8) hx hb dX12_feed_90 (by decide) ?_
  refine lv_iload hx hb dX12_feed_92 (lv_at hl 1 rfl) ?_
  refine lv_iconst (v := 4) hx hb dX12_feed_94 (by decide) ?_
  refine lv_irem hx hb dX12_feed_95 (by decide) ?_
  refine lv_topi (fun x387 e388 => ?_)
  obtain rfl : x387 = 3 := e388.trans (by decide)
  refine lv_imul hx hb dX12_feed_96 ?_
  refine lv_topi (fun x389 e390 => ?_)
  obtain rfl : x389 = 24 := e390.trans (by decide)
  refine lv_isub hx hb dX12_feed_97 ?_
  refine lv_topi (fun x391 e392 => ?_)
  obtain rfl : x391 = 0 := e392.trans (by decide)
  refine lv_ishr hx hb dX12_feed_98 ?_
  refine lv_topi (fun x393 e394 => ?_)
  refine lv_sipush (v := 255) hx hb dX12_feed_99 (by decide) ?_
  refine lv_iand hx hb dX12_feed_102 ?_
  refine lv_topi (fun x395 e396 => ?_)
  refine va_iast hx hb hE.1.1 hP hD hS 1 0 rfl rfl (by unfold vp_in; decide) dX12_feed_103 (fun H locs hP hD hS => ?_)
  have hP : va_P G.1 pCl [(h0, .inr (9, fs379)), ((a 0), .inl (G.2.1 0, 5000, .inl (upd f376 (Int32.toNatClampNeg 19) x395)))] H := hP
  have hD : va_D A [(h0, .inr (9, fs379)), ((a 0), .inl (G.2.1 0, 5000, .inl (upd f376 (Int32.toNatClampNeg 19) x395)))] := hD
  generalize (upd f376 (Int32.toNatClampNeg 19) x395) = f397 at hP hD
  refine lv_aload_n hx hb dX12_feed_104 rfl (lv_at hl 2 rfl) ?_
  refine lv_dup hx hb dX12_feed_105 rfl ?_
  refine va_get (D := G.1) (ci := 9) (v := .int 19) (C := RX12) (T := TX12) (N := 134) hx hb hq pin_wsX120 hown hE.1.1 hP 0 rfl rfl 2 (by decide) (by rw [tFX12_2]; exact hq _ pw_260) (fun _ h9 => h9) (by rw [e380]; exact List.getElem?_set_self (by rw [hn360]; decide)) dX12_feed_106 ?_
  refine lv_iconst (v := 1) hx hb dX12_feed_109 (by decide) ?_
  refine lv_iadd hx hb dX12_feed_110 ?_
  refine lv_topi (fun x398 e399 => ?_)
  obtain rfl : x398 = 20 := e399.trans (by decide)
  refine va_put (D := G.1) (ci := 9) (v := .int 20) (ty := .int) (C := RX12) (T := TX12) (N := 134) hx hb hq pin_wsX120 tyX12 tyX12_ok nmX12 hown hE.1.1 hP hD hS 0 rfl rfl 2 (by decide) (by rw [tFX12_2]; exact hq _ pw_260) (fun _ h9 => h9) (by rw [tFX12_2]) (by rw [tFX12_2]; decide +kernel) rfl rfl (by rw [hn381]; decide) dX12_feed_111 (fun H locs hP hD hS => ?_)
  obtain ⟨fs400, e401⟩ : ∃ z : List Value, z = fs379.set 2 (.int 20) := ⟨_, rfl⟩
  have hn402 : fs400.length = 134 := by rw [e401, List.length_set]; exact hn381
  have hP : va_P G.1 pCl [(h0, .inr (9, fs400)), ((a 0), .inl (G.2.1 0, 5000, .inl f397))] H := by rw [e401]; exact hP
  have hD : va_D A [(h0, .inr (9, fs400)), ((a 0), .inl (G.2.1 0, 5000, .inl f397))] := by rw [e401]; exact hD
  refine lv_iinc (v := 20) (lv' := [(6, .int 20), (7, .int x5), (0, .ref h0), (1, .int x1), (2, .int x2), (3, .int x3), (4, .int x4), (5, .int x5)]) hx hb dX12_feed_114 hl (k := 1) rfl (by decide) (by decide) rfl (fun ls hl => ?_)
  refine lv_goto (tgt := 23) hx hb dX12_feed_117 (by decide) ?_
  refine lv_iload hx hb dX12_feed_23 (lv_at hl 0 rfl) ?_
  refine lv_bipush (v := 20) hx hb dX12_feed_25 (by decide) ?_
  refine lv_icmp_ge (tgt := 120) hx hb dX12_feed_27 (by decide) (fun c403 => ?_) (fun c403 => absurd c403 (by decide))
  refine lv_aload_n hx hb dX12_feed_120 rfl (lv_at hl 2 rfl) ?_
  refine va_get (D := G.1) (ci := 9) (v := .int 20) (C := RX12) (T := TX12) (N := 134) hx hb hq pin_wsX120 hown hE.1.1 hP 0 rfl rfl 2 (by decide) (by rw [tFX12_2]; exact hq _ pw_260) (fun _ h9 => h9) (by rw [e401]; exact List.getElem?_set_self (by rw [hn381]; decide)) dX12_feed_121 ?_
  refine W.widen (k := 0) (n := 0) (Nat.le_of_ble_eq_true rfl) (Nat.le_of_ble_eq_true rfl) ?_
  exact W.iret (v := 20) hx hb hr (fun t ht hW => ⟨⟨_, ((fun _ => 0), (fun _ => fun _ => 0), (fun _ => fun _ => 0)), rfl, rfl, by rw [ht]; exact hP.sub [] rfl, hD.sub [] (by decide) rfl⟩, hS.F ht⟩) hS.2.2 dX12_feed_124
theorem dX12_type_0 : decode cX12_type 0 = .ok (.aload_n 0, 1) := by decide +kernel
theorem dX12_type_1 : decode cX12_type 1 = .ok (.iconst 0, 1) := by decide +kernel
theorem dX12_type_2 : decode cX12_type 2 = .ok (.putfield 252, 3) := by decide +kernel
theorem dX12_type_5 : decode cX12_type 5 = .ok (.aload_n 0, 1) := by decide +kernel
theorem dX12_type_6 : decode cX12_type 6 = .ok (.getfield 649, 3) := by decide +kernel
theorem dX12_type_9 : decode cX12_type 9 = .ok (.ifCond .eq 17, 3) := by decide +kernel
theorem dX12_type_26 : decode cX12_type 26 = .ok (.iconst (-1), 1) := by decide +kernel
theorem dX12_type_27 : decode cX12_type 27 = .ok (.ireturn, 1) := by decide +kernel
set_option maxHeartbeats 1000000 in
set_option maxRecDepth 100000 in
/-- type of the reference: NONE -/
theorem m_type (l : Launch) (G : pT) (h0 : Nat) (a : Nat → Nat) (x : Int32) (y : Int32) : PM l G pX0 yX12_type cX12_type 7 (some .int) ({ frames := 2, cells := 0, slots := 0, locals := 60 }) [.ref h0, .int x, .int y] [(h0, .inr (9, (mF a)))] (fun (v : Option Value) (u : (Nat → Nat) × (Nat → Nat → Int32) × (Nat → Nat → Int64)) => v = some (.int (-1))) (fun u => []) := by
  intro sz
  refine Met.ofW (cc := cX12_type) (maxL := 7) (ret := (some .int)) (by decide) rfl ?_
  intro p e s m args below meth c s₁ B hml hv
  obtain ⟨rfl, hsz, hP, hD0, hE, hX⟩ := hv
  have hx := B.exec
  have hb := B.bytes
  have hr := B.returns
  have hts := atoms_spec (ws := Cond.code yX12_type cX12_type 7 (some .int) :: pw) B.pre
  have hq : ∀ w ∈ pw, w.before _ s = true := fun w h => hts w (List.mem_cons_of_mem _ h)
  have hown : s.vm.findClass RX12 = some m.cls := findClass_of_methodNamed B.named
  have hlocks := B.notSynchronized
  subst hsz
  have hD := hD0.self (sz := s.heap.size)
  have hA : ∀ q : Nat, s.heap.size ≤ q → va_A [(h0, .inr (9, (mF a)))] s.heap.size q := fun q h => Or.inr h
  have hP : va_P G.1 pCl [(h0, .inr (9, (mF a)))] s.heap := hP
  generalize va_A [(h0, .inr (9, (mF a)))] s.heap.size = A at hD hE hA ⊢
  have hS : va_S A s.heap s.heap [] := va_S.rf
  have hl := lv_entry ([.ref h0, .int x, .int y]) (n := 7) (Nat.le_of_ble_eq_true rfl)
  rw [lg_entry_eq]
  generalize (lg_sl ([.ref h0, .int x, .int y]) ++ List.replicate (7 - (lg_sl ([.ref h0, .int x, .int y])).length) Slot.unset).toArray = ls at hl ⊢
  have hl : lv_has ls 7 [(0, .ref h0), (1, .int x), (2, .int y)] := hl
  obtain ⟨fs, ef⟩ : ∃ z : List Value, z = (mF a) := ⟨_, rfl⟩
  have hn : fs.length = 134 := by rw [ef]; rfl
  have hP : va_P G.1 pCl [(h0, .inr (9, fs))] s.heap := by rw [ef]; exact hP
  have hD : va_D A [(h0, .inr (9, fs))] := by rw [ef]; exact hD
  refine lv_aload_n hx hb dX12_type_0 rfl (lv_at hl 0 rfl) ?_
  refine lv_iconst (v := 0) hx hb dX12_type_1 (by decide) ?_
  refine va_put (D := G.1) (ci := 9) (v := .int 0) (ty := .int) (C := RX12) (T := TX12) (N := 134) hx hb hq pin_wsX120 tyX12 tyX12_ok nmX12 hown hE.1.1 hP hD hS 0 rfl rfl 0 (by decide) (by rw [tFX12_0]; exact hq _ pw_259) (fun _ h9 => h9) (by rw [tFX12_0]) (by rw [tFX12_0]; decide +kernel) rfl rfl (by rw [hn]; decide) dX12_type_2 (fun H locs hP hD hS => ?_)
  obtain ⟨fs1, e2⟩ : ∃ z : List Value, z = fs.set 0 (.int 0) := ⟨_, rfl⟩
  have hn3 : fs1.length = 134 := by rw [e2, List.length_set]; exact hn
  have hP : va_P G.1 pCl [(h0, .inr (9, fs1))] H := by rw [e2]; exact hP
  have hD : va_D A [(h0, .inr (9, fs1))] := by rw [e2]; exact hD
  refine lv_aload_n hx hb dX12_type_5 rfl (lv_at hl 0 rfl) ?_
  refine va_get (D := G.1) (ci := 9) (v := .int 0) (C := RX12) (T := TX12) (N := 134) hx hb hq pin_wsX120 hown hE.1.1 hP 0 rfl rfl 82 (by decide) (by rw [tFX12_82]; exact hq _ pw_284) (fun _ h9 => h9) (by rw [e2, List.getElem?_set_ne (by decide), ef]; rfl) dX12_type_6 ?_
  refine lv_if_eq (tgt := 26) hx hb dX12_type_9 (by decide) (fun c4 => ?_) (fun c4 => absurd c4 (by decide))
  refine lv_iconst (v := (-1)) hx hb dX12_type_26 (by decide) ?_
  refine W.widen (k := 0) (n := 0) (Nat.le_of_ble_eq_true rfl) (Nat.le_of_ble_eq_true rfl) ?_
  exact W.iret (v := (-1)) hx hb hr (fun t ht hW => ⟨⟨_, ((fun _ => 0), (fun _ => fun _ => 0), (fun _ => fun _ => 0)), rfl, rfl, by rw [ht]; exact hP.sub [] rfl, hD.sub [] (by decide) rfl⟩, hS.F ht⟩) hS.2.2 dX12_type_27
theorem dX12_above_0 : decode cX12_above 0 = .ok (.aload_n 0, 1) := by decide +kernel
theorem dX12_above_1 : decode cX12_above 1 = .ok (.iconst 0, 1) := by decide +kernel
theorem dX12_above_2 : decode cX12_above 2 = .ok (.putfield 252, 3) := by decide +kernel
theorem dX12_above_5 : decode cX12_above 5 = .ok (.aload_n 0, 1) := by decide +kernel
theorem dX12_above_6 : decode cX12_above 6 = .ok (.getfield 649, 3) := by decide +kernel
theorem dX12_above_9 : decode cX12_above 9 = .ok (.ifCond .eq 31, 3) := by decide +kernel
theorem dX12_above_40 : decode cX12_above 40 = .ok (.iconst (-1), 1) := by decide +kernel
theorem dX12_above_41 : decode cX12_above 41 = .ok (.goto 22, 3) := by decide +kernel
theorem dX12_above_63 : decode cX12_above 63 = .ok (.ireturn, 1) := by decide +kernel
set_option maxHeartbeats 1000000 in
set_option maxRecDepth 100000 in
/-- above of the reference: NONE -/
theorem m_above (l : Launch) (G : pT) (h0 : Nat) (a : Nat → Nat) (x : Int32) (y : Int32) : PM l G pX0 yX12_above cX12_above 3 (some .int) ({ frames := 2, cells := 0, slots := 0, locals := 60 }) [.ref h0, .int x, .int y] [(h0, .inr (9, (mF a)))] (fun (v : Option Value) (u : (Nat → Nat) × (Nat → Nat → Int32) × (Nat → Nat → Int64)) => v = some (.int (-1))) (fun u => []) := by
  intro sz
  refine Met.ofW (cc := cX12_above) (maxL := 3) (ret := (some .int)) (by decide) rfl ?_
  intro p e s m args below meth c s₁ B hml hv
  obtain ⟨rfl, hsz, hP, hD0, hE, hX⟩ := hv
  have hx := B.exec
  have hb := B.bytes
  have hr := B.returns
  have hts := atoms_spec (ws := Cond.code yX12_above cX12_above 3 (some .int) :: pw) B.pre
  have hq : ∀ w ∈ pw, w.before _ s = true := fun w h => hts w (List.mem_cons_of_mem _ h)
  have hown : s.vm.findClass RX12 = some m.cls := findClass_of_methodNamed B.named
  have hlocks := B.notSynchronized
  subst hsz
  have hD := hD0.self (sz := s.heap.size)
  have hA : ∀ q : Nat, s.heap.size ≤ q → va_A [(h0, .inr (9, (mF a)))] s.heap.size q := fun q h => Or.inr h
  have hP : va_P G.1 pCl [(h0, .inr (9, (mF a)))] s.heap := hP
  generalize va_A [(h0, .inr (9, (mF a)))] s.heap.size = A at hD hE hA ⊢
  have hS : va_S A s.heap s.heap [] := va_S.rf
  have hl := lv_entry ([.ref h0, .int x, .int y]) (n := 3) (Nat.le_of_ble_eq_true rfl)
  rw [lg_entry_eq]
  generalize (lg_sl ([.ref h0, .int x, .int y]) ++ List.replicate (3 - (lg_sl ([.ref h0, .int x, .int y])).length) Slot.unset).toArray = ls at hl ⊢
  have hl : lv_has ls 3 [(0, .ref h0), (1, .int x), (2, .int y)] := hl
  obtain ⟨fs, ef⟩ : ∃ z : List Value, z = (mF a) := ⟨_, rfl⟩
  have hn : fs.length = 134 := by rw [ef]; rfl
  have hP : va_P G.1 pCl [(h0, .inr (9, fs))] s.heap := by rw [ef]; exact hP
  have hD : va_D A [(h0, .inr (9, fs))] := by rw [ef]; exact hD
  refine lv_aload_n hx hb dX12_above_0 rfl (lv_at hl 0 rfl) ?_
  refine lv_iconst (v := 0) hx hb dX12_above_1 (by decide) ?_
  refine va_put (D := G.1) (ci := 9) (v := .int 0) (ty := .int) (C := RX12) (T := TX12) (N := 134) hx hb hq pin_wsX120 tyX12 tyX12_ok nmX12 hown hE.1.1 hP hD hS 0 rfl rfl 0 (by decide) (by rw [tFX12_0]; exact hq _ pw_259) (fun _ h9 => h9) (by rw [tFX12_0]) (by rw [tFX12_0]; decide +kernel) rfl rfl (by rw [hn]; decide) dX12_above_2 (fun H locs hP hD hS => ?_)
  obtain ⟨fs1, e2⟩ : ∃ z : List Value, z = fs.set 0 (.int 0) := ⟨_, rfl⟩
  have hn3 : fs1.length = 134 := by rw [e2, List.length_set]; exact hn
  have hP : va_P G.1 pCl [(h0, .inr (9, fs1))] H := by rw [e2]; exact hP
  have hD : va_D A [(h0, .inr (9, fs1))] := by rw [e2]; exact hD
  refine lv_aload_n hx hb dX12_above_5 rfl (lv_at hl 0 rfl) ?_
  refine va_get (D := G.1) (ci := 9) (v := .int 0) (C := RX12) (T := TX12) (N := 134) hx hb hq pin_wsX120 hown hE.1.1 hP 0 rfl rfl 82 (by decide) (by rw [tFX12_82]; exact hq _ pw_284) (fun _ h9 => h9) (by rw [e2, List.getElem?_set_ne (by decide), ef]; rfl) dX12_above_6 ?_
  refine lv_if_eq (tgt := 40) hx hb dX12_above_9 (by decide) (fun c4 => ?_) (fun c4 => absurd c4 (by decide))
  refine lv_iconst (v := (-1)) hx hb dX12_above_40 (by decide) ?_
  refine lv_goto (tgt := 63) hx hb dX12_above_41 (by decide) ?_
  refine W.widen (k := 0) (n := 0) (Nat.le_of_ble_eq_true rfl) (Nat.le_of_ble_eq_true rfl) ?_
  exact W.iret (v := (-1)) hx hb hr (fun t ht hW => ⟨⟨_, ((fun _ => 0), (fun _ => fun _ => 0), (fun _ => fun _ => 0)), rfl, rfl, by rw [ht]; exact hP.sub [] rfl, hD.sub [] (by decide) rfl⟩, hS.F ht⟩) hS.2.2 dX12_above_63
theorem dX12_letter_0 : decode cX12_letter 0 = .ok (.aload_n 0, 1) := by decide +kernel
theorem dX12_letter_1 : decode cX12_letter 1 = .ok (.iconst 0, 1) := by decide +kernel
theorem dX12_letter_2 : decode cX12_letter 2 = .ok (.putfield 252, 3) := by decide +kernel
theorem dX12_letter_5 : decode cX12_letter 5 = .ok (.aload_n 0, 1) := by decide +kernel
theorem dX12_letter_6 : decode cX12_letter 6 = .ok (.getfield 649, 3) := by decide +kernel
theorem dX12_letter_9 : decode cX12_letter 9 = .ok (.ifCond .eq 36, 3) := by decide +kernel
theorem dX12_letter_45 : decode cX12_letter 45 = .ok (.iconst (-1), 1) := by decide +kernel
theorem dX12_letter_46 : decode cX12_letter 46 = .ok (.ireturn, 1) := by decide +kernel
set_option maxHeartbeats 1000000 in
set_option maxRecDepth 100000 in
/-- letter of the reference: NONE -/
theorem m_letter (l : Launch) (G : pT) (h0 : Nat) (a : Nat → Nat) (x : Int32) (y : Int32) : PM l G pX0 yX12_letter cX12_letter 3 (some .int) ({ frames := 2, cells := 0, slots := 0, locals := 60 }) [.ref h0, .int x, .int y] [(h0, .inr (9, (mF a)))] (fun (v : Option Value) (u : (Nat → Nat) × (Nat → Nat → Int32) × (Nat → Nat → Int64)) => v = some (.int (-1))) (fun u => []) := by
  intro sz
  refine Met.ofW (cc := cX12_letter) (maxL := 3) (ret := (some .int)) (by decide) rfl ?_
  intro p e s m args below meth c s₁ B hml hv
  obtain ⟨rfl, hsz, hP, hD0, hE, hX⟩ := hv
  have hx := B.exec
  have hb := B.bytes
  have hr := B.returns
  have hts := atoms_spec (ws := Cond.code yX12_letter cX12_letter 3 (some .int) :: pw) B.pre
  have hq : ∀ w ∈ pw, w.before _ s = true := fun w h => hts w (List.mem_cons_of_mem _ h)
  have hown : s.vm.findClass RX12 = some m.cls := findClass_of_methodNamed B.named
  have hlocks := B.notSynchronized
  subst hsz
  have hD := hD0.self (sz := s.heap.size)
  have hA : ∀ q : Nat, s.heap.size ≤ q → va_A [(h0, .inr (9, (mF a)))] s.heap.size q := fun q h => Or.inr h
  have hP : va_P G.1 pCl [(h0, .inr (9, (mF a)))] s.heap := hP
  generalize va_A [(h0, .inr (9, (mF a)))] s.heap.size = A at hD hE hA ⊢
  have hS : va_S A s.heap s.heap [] := va_S.rf
  have hl := lv_entry ([.ref h0, .int x, .int y]) (n := 3) (Nat.le_of_ble_eq_true rfl)
  rw [lg_entry_eq]
  generalize (lg_sl ([.ref h0, .int x, .int y]) ++ List.replicate (3 - (lg_sl ([.ref h0, .int x, .int y])).length) Slot.unset).toArray = ls at hl ⊢
  have hl : lv_has ls 3 [(0, .ref h0), (1, .int x), (2, .int y)] := hl
  obtain ⟨fs, ef⟩ : ∃ z : List Value, z = (mF a) := ⟨_, rfl⟩
  have hn : fs.length = 134 := by rw [ef]; rfl
  have hP : va_P G.1 pCl [(h0, .inr (9, fs))] s.heap := by rw [ef]; exact hP
  have hD : va_D A [(h0, .inr (9, fs))] := by rw [ef]; exact hD
  refine lv_aload_n hx hb dX12_letter_0 rfl (lv_at hl 0 rfl) ?_
  refine lv_iconst (v := 0) hx hb dX12_letter_1 (by decide) ?_
  refine va_put (D := G.1) (ci := 9) (v := .int 0) (ty := .int) (C := RX12) (T := TX12) (N := 134) hx hb hq pin_wsX120 tyX12 tyX12_ok nmX12 hown hE.1.1 hP hD hS 0 rfl rfl 0 (by decide) (by rw [tFX12_0]; exact hq _ pw_259) (fun _ h9 => h9) (by rw [tFX12_0]) (by rw [tFX12_0]; decide +kernel) rfl rfl (by rw [hn]; decide) dX12_letter_2 (fun H locs hP hD hS => ?_)
  obtain ⟨fs1, e2⟩ : ∃ z : List Value, z = fs.set 0 (.int 0) := ⟨_, rfl⟩
  have hn3 : fs1.length = 134 := by rw [e2, List.length_set]; exact hn
  have hP : va_P G.1 pCl [(h0, .inr (9, fs1))] H := by rw [e2]; exact hP
  have hD : va_D A [(h0, .inr (9, fs1))] := by rw [e2]; exact hD
  refine lv_aload_n hx hb dX12_letter_5 rfl (lv_at hl 0 rfl) ?_
  refine va_get (D := G.1) (ci := 9) (v := .int 0) (C := RX12) (T := TX12) (N := 134) hx hb hq pin_wsX120 hown hE.1.1 hP 0 rfl rfl 82 (by decide) (by rw [tFX12_82]; exact hq _ pw_284) (fun _ h9 => h9) (by rw [e2, List.getElem?_set_ne (by decide), ef]; rfl) dX12_letter_6 ?_
  refine lv_if_eq (tgt := 45) hx hb dX12_letter_9 (by decide) (fun c4 => ?_) (fun c4 => absurd c4 (by decide))
  refine lv_iconst (v := (-1)) hx hb dX12_letter_45 (by decide) ?_
  refine W.widen (k := 0) (n := 0) (Nat.le_of_ble_eq_true rfl) (Nat.le_of_ble_eq_true rfl) ?_
  exact W.iret (v := (-1)) hx hb hr (fun t ht hW => ⟨⟨_, ((fun _ => 0), (fun _ => fun _ => 0), (fun _ => fun _ => 0)), rfl, rfl, by rw [ht]; exact hP.sub [] rfl, hD.sub [] (by decide) rfl⟩, hS.F ht⟩) hS.2.2 dX12_letter_46
theorem dX12_called_0 : decode cX12_called 0 = .ok (.aload_n 0, 1) := by decide +kernel
theorem dX12_called_1 : decode cX12_called 1 = .ok (.iconst 0, 1) := by decide +kernel
theorem dX12_called_2 : decode cX12_called 2 = .ok (.putfield 252, 3) := by decide +kernel
theorem dX12_called_5 : decode cX12_called 5 = .ok (.aload_n 0, 1) := by decide +kernel
theorem dX12_called_6 : decode cX12_called 6 = .ok (.getfield 649, 3) := by decide +kernel
theorem dX12_called_9 : decode cX12_called 9 = .ok (.ifCond .eq 58, 3) := by decide +kernel
theorem dX12_called_67 : decode cX12_called 67 = .ok (.iconst (-1), 1) := by decide +kernel
theorem dX12_called_68 : decode cX12_called 68 = .ok (.ireturn, 1) := by decide +kernel
set_option maxHeartbeats 1000000 in
set_option maxRecDepth 100000 in
/-- called of the reference: NONE -/
theorem m_called (l : Launch) (G : pT) (h0 : Nat) (a : Nat → Nat) (x : Int32) (y : Int32) : PM l G pX0 yX12_called cX12_called 5 (some .int) ({ frames := 2, cells := 0, slots := 0, locals := 60 }) [.ref h0, .int x, .int y] [(h0, .inr (9, (mF a)))] (fun (v : Option Value) (u : (Nat → Nat) × (Nat → Nat → Int32) × (Nat → Nat → Int64)) => v = some (.int (-1))) (fun u => []) := by
  intro sz
  refine Met.ofW (cc := cX12_called) (maxL := 5) (ret := (some .int)) (by decide) rfl ?_
  intro p e s m args below meth c s₁ B hml hv
  obtain ⟨rfl, hsz, hP, hD0, hE, hX⟩ := hv
  have hx := B.exec
  have hb := B.bytes
  have hr := B.returns
  have hts := atoms_spec (ws := Cond.code yX12_called cX12_called 5 (some .int) :: pw) B.pre
  have hq : ∀ w ∈ pw, w.before _ s = true := fun w h => hts w (List.mem_cons_of_mem _ h)
  have hown : s.vm.findClass RX12 = some m.cls := findClass_of_methodNamed B.named
  have hlocks := B.notSynchronized
  subst hsz
  have hD := hD0.self (sz := s.heap.size)
  have hA : ∀ q : Nat, s.heap.size ≤ q → va_A [(h0, .inr (9, (mF a)))] s.heap.size q := fun q h => Or.inr h
  have hP : va_P G.1 pCl [(h0, .inr (9, (mF a)))] s.heap := hP
  generalize va_A [(h0, .inr (9, (mF a)))] s.heap.size = A at hD hE hA ⊢
  have hS : va_S A s.heap s.heap [] := va_S.rf
  have hl := lv_entry ([.ref h0, .int x, .int y]) (n := 5) (Nat.le_of_ble_eq_true rfl)
  rw [lg_entry_eq]
  generalize (lg_sl ([.ref h0, .int x, .int y]) ++ List.replicate (5 - (lg_sl ([.ref h0, .int x, .int y])).length) Slot.unset).toArray = ls at hl ⊢
  have hl : lv_has ls 5 [(0, .ref h0), (1, .int x), (2, .int y)] := hl
  obtain ⟨fs, ef⟩ : ∃ z : List Value, z = (mF a) := ⟨_, rfl⟩
  have hn : fs.length = 134 := by rw [ef]; rfl
  have hP : va_P G.1 pCl [(h0, .inr (9, fs))] s.heap := by rw [ef]; exact hP
  have hD : va_D A [(h0, .inr (9, fs))] := by rw [ef]; exact hD
  refine lv_aload_n hx hb dX12_called_0 rfl (lv_at hl 0 rfl) ?_
  refine lv_iconst (v := 0) hx hb dX12_called_1 (by decide) ?_
  refine va_put (D := G.1) (ci := 9) (v := .int 0) (ty := .int) (C := RX12) (T := TX12) (N := 134) hx hb hq pin_wsX120 tyX12 tyX12_ok nmX12 hown hE.1.1 hP hD hS 0 rfl rfl 0 (by decide) (by rw [tFX12_0]; exact hq _ pw_259) (fun _ h9 => h9) (by rw [tFX12_0]) (by rw [tFX12_0]; decide +kernel) rfl rfl (by rw [hn]; decide) dX12_called_2 (fun H locs hP hD hS => ?_)
  obtain ⟨fs1, e2⟩ : ∃ z : List Value, z = fs.set 0 (.int 0) := ⟨_, rfl⟩
  have hn3 : fs1.length = 134 := by rw [e2, List.length_set]; exact hn
  have hP : va_P G.1 pCl [(h0, .inr (9, fs1))] H := by rw [e2]; exact hP
  have hD : va_D A [(h0, .inr (9, fs1))] := by rw [e2]; exact hD
  refine lv_aload_n hx hb dX12_called_5 rfl (lv_at hl 0 rfl) ?_
  refine va_get (D := G.1) (ci := 9) (v := .int 0) (C := RX12) (T := TX12) (N := 134) hx hb hq pin_wsX120 hown hE.1.1 hP 0 rfl rfl 82 (by decide) (by rw [tFX12_82]; exact hq _ pw_284) (fun _ h9 => h9) (by rw [e2, List.getElem?_set_ne (by decide), ef]; rfl) dX12_called_6 ?_
  refine lv_if_eq (tgt := 67) hx hb dX12_called_9 (by decide) (fun c4 => ?_) (fun c4 => absurd c4 (by decide))
  refine lv_iconst (v := (-1)) hx hb dX12_called_67 (by decide) ?_
  refine W.widen (k := 0) (n := 0) (Nat.le_of_ble_eq_true rfl) (Nat.le_of_ble_eq_true rfl) ?_
  exact W.iret (v := (-1)) hx hb hr (fun t ht hW => ⟨⟨_, ((fun _ => 0), (fun _ => fun _ => 0), (fun _ => fun _ => 0)), rfl, rfl, by rw [ht]; exact hP.sub [] rfl, hD.sub [] (by decide) rfl⟩, hS.F ht⟩) hS.2.2 dX12_called_68
theorem dX12_input_0 : decode cX12_input 0 = .ok (.aload_n 0, 1) := by decide +kernel
theorem dX12_input_1 : decode cX12_input 1 = .ok (.iconst 0, 1) := by decide +kernel
theorem dX12_input_2 : decode cX12_input 2 = .ok (.putfield 252, 3) := by decide +kernel
theorem dX12_input_5 : decode cX12_input 5 = .ok (.aload_n 0, 1) := by decide +kernel
theorem dX12_input_6 : decode cX12_input 6 = .ok (.getfield 689, 3) := by decide +kernel
theorem dX12_input_9 : decode cX12_input 9 = .ok (.sipush 200, 3) := by decide +kernel
theorem dX12_input_12 : decode cX12_input 12 = .ok (.if_icmp .ne 5, 3) := by decide +kernel
theorem dX12_input_17 : decode cX12_input 17 = .ok (.aload_n 0, 1) := by decide +kernel
theorem dX12_input_18 : decode cX12_input 18 = .ok (.getfield 162, 3) := by decide +kernel
theorem dX12_input_21 : decode cX12_input 21 = .ok (.aload_n 0, 1) := by decide +kernel
theorem dX12_input_22 : decode cX12_input 22 = .ok (.getfield 689, 3) := by decide +kernel
theorem dX12_input_25 : decode cX12_input 25 = .ok (.iload_n 1, 1) := by decide +kernel
theorem dX12_input_26 : decode cX12_input 26 = .ok (.iastore, 1) := by decide +kernel
theorem dX12_input_27 : decode cX12_input 27 = .ok (.aload_n 0, 1) := by decide +kernel
theorem dX12_input_28 : decode cX12_input 28 = .ok (.dup, 1) := by decide +kernel
theorem dX12_input_29 : decode cX12_input 29 = .ok (.getfield 689, 3) := by decide +kernel
theorem dX12_input_32 : decode cX12_input 32 = .ok (.iconst 1, 1) := by decide +kernel
theorem dX12_input_33 : decode cX12_input 33 = .ok (.iadd, 1) := by decide +kernel
theorem dX12_input_34 : decode cX12_input 34 = .ok (.putfield 689, 3) := by decide +kernel
theorem dX12_input_37 : decode cX12_input 37 = .ok (.aload_n 0, 1) := by decide +kernel
theorem dX12_input_38 : decode cX12_input 38 = .ok (.getfield 689, 3) := by decide +kernel
theorem dX12_input_41 : decode cX12_input 41 = .ok (.ireturn, 1) := by decide +kernel
set_option maxHeartbeats 1000000 in
set_option maxRecDepth 100000 in
/-- input of the reference: 1 -/
theorem m_input (l : Launch) (G : pT) (h0 : Nat) (a : Nat → Nat) (x : Int32) : PM l G pX0 yX12_input cX12_input 2 (some .int) ({ frames := 2, cells := 0, slots := 0, locals := 60 }) [.ref h0, .int x] [(h0, .inr (9, (mF a))), ((a 50), .inl (G.2.1 0, 200, .inl (fun _ => 0)))] (fun (v : Option Value) (u : (Nat → Nat) × (Nat → Nat → Int32) × (Nat → Nat → Int64)) => v = some (.int 1)) (fun u => []) := by
  intro sz
  refine Met.ofW (cc := cX12_input) (maxL := 2) (ret := (some .int)) (by decide) rfl ?_
  intro p e s m args below meth c s₁ B hml hv
  obtain ⟨rfl, hsz, hP, hD0, hE, hX⟩ := hv
  have hx := B.exec
  have hb := B.bytes
  have hr := B.returns
  have hts := atoms_spec (ws := Cond.code yX12_input cX12_input 2 (some .int) :: pw) B.pre
  have hq : ∀ w ∈ pw, w.before _ s = true := fun w h => hts w (List.mem_cons_of_mem _ h)
  have hown : s.vm.findClass RX12 = some m.cls := findClass_of_methodNamed B.named
  have hlocks := B.notSynchronized
  subst hsz
  have hD := hD0.self (sz := s.heap.size)
  have hA : ∀ q : Nat, s.heap.size ≤ q → va_A [(h0, .inr (9, (mF a))), ((a 50), .inl (G.2.1 0, 200, .inl (fun _ => 0)))] s.heap.size q := fun q h => Or.inr h
  have hP : va_P G.1 pCl [(h0, .inr (9, (mF a))), ((a 50), .inl (G.2.1 0, 200, .inl (fun _ => 0)))] s.heap := hP
  generalize va_A [(h0, .inr (9, (mF a))), ((a 50), .inl (G.2.1 0, 200, .inl (fun _ => 0)))] s.heap.size = A at hD hE hA ⊢
  have hS : va_S A s.heap s.heap [] := va_S.rf
  have hl := lv_entry ([.ref h0, .int x]) (n := 2) (Nat.le_of_ble_eq_true rfl)
  rw [lg_entry_eq]
  generalize (lg_sl ([.ref h0, .int x]) ++ List.replicate (2 - (lg_sl ([.ref h0, .int x])).length) Slot.unset).toArray = ls at hl ⊢
  have hl : lv_has ls 2 [(0, .ref h0), (1, .int x)] := hl
  obtain ⟨fs, ef⟩ : ∃ z : List Value, z = (mF a) := ⟨_, rfl⟩
  have hn : fs.length = 134 := by rw [ef]; rfl
  have hP : va_P G.1 pCl [(h0, .inr (9, fs)), ((a 50), .inl (G.2.1 0, 200, .inl (fun _ => 0)))] s.heap := by rw [ef]; exact hP
  have hD : va_D A [(h0, .inr (9, fs)), ((a 50), .inl (G.2.1 0, 200, .inl (fun _ => 0)))] := by rw [ef]; exact hD
  refine lv_aload_n hx hb dX12_input_0 rfl (lv_at hl 0 rfl) ?_
  refine lv_iconst (v := 0) hx hb dX12_input_1 (by decide) ?_
  refine va_put (D := G.1) (ci := 9) (v := .int 0) (ty := .int) (C := RX12) (T := TX12) (N := 134) hx hb hq pin_wsX120 tyX12 tyX12_ok nmX12 hown hE.1.1 hP hD hS 0 rfl rfl 0 (by decide) (by rw [tFX12_0]; exact hq _ pw_259) (fun _ h9 => h9) (by rw [tFX12_0]) (by rw [tFX12_0]; decide +kernel) rfl rfl (by rw [hn]; decide) dX12_input_2 (fun H locs hP hD hS => ?_)
  obtain ⟨fs1, e2⟩ : ∃ z : List Value, z = fs.set 0 (.int 0) := ⟨_, rfl⟩
  have hn3 : fs1.length = 134 := by rw [e2, List.length_set]; exact hn
  have hP : va_P G.1 pCl [(h0, .inr (9, fs1)), ((a 50), .inl (G.2.1 0, 200, .inl (fun _ => 0)))] H := by rw [e2]; exact hP
  have hD : va_D A [(h0, .inr (9, fs1)), ((a 50), .inl (G.2.1 0, 200, .inl (fun _ => 0)))] := by rw [e2]; exact hD
  refine lv_aload_n hx hb dX12_input_5 rfl (lv_at hl 0 rfl) ?_
  refine va_get (D := G.1) (ci := 9) (v := .int 0) (C := RX12) (T := TX12) (N := 134) hx hb hq pin_wsX120 hown hE.1.1 hP 0 rfl rfl 85 (by decide) (by rw [tFX12_85]; exact hq _ pw_298) (fun _ h9 => h9) (by rw [e2, List.getElem?_set_ne (by decide), ef]; rfl) dX12_input_6 ?_
  refine lv_sipush (v := 200) hx hb dX12_input_9 (by decide) ?_
  refine lv_icmp_ne (tgt := 17) hx hb dX12_input_12 (by decide) (fun c4 => ?_) (fun c4 => absurd c4 (by decide))
  refine lv_aload_n hx hb dX12_input_17 rfl (lv_at hl 0 rfl) ?_
  refine va_get (D := G.1) (ci := 9) (v := .ref (a 50)) (C := RX12) (T := TX12) (N := 134) hx hb hq pin_wsX120 hown hE.1.1 hP 0 rfl rfl 84 (by decide) (by rw [tFX12_84]; exact hq _ pw_228) (fun _ h9 => h9) (by rw [e2, List.getElem?_set_ne (by decide), ef]; rfl) dX12_input_18 ?_
  refine lv_aload_n hx hb dX12_input_21 rfl (lv_at hl 0 rfl) ?_
  refine va_get (D := G.1) (ci := 9) (v := .int 0) (C := RX12) (T := TX12) (N := 134) hx hb hq pin_wsX120 hown hE.1.1 hP 0 rfl rfl 85 (by decide) (by rw [tFX12_85]; exact hq _ pw_298) (fun _ h9 => h9) (by rw [e2, List.getElem?_set_ne (by decide), ef]; rfl) dX12_input_22 ?_
  refine lv_iload_n hx hb dX12_input_25 rfl (lv_at hl 1 rfl) ?_
  refine va_iast hx hb hE.1.1 hP hD hS 1 0 rfl rfl (by unfold vp_in; decide) dX12_input_26 (fun H locs hP hD hS => ?_)
  have hP : va_P G.1 pCl [(h0, .inr (9, fs1)), ((a 50), .inl (G.2.1 0, 200, .inl (upd (fun _ => 0) (Int32.toNatClampNeg 0) x)))] H := hP
  have hD : va_D A [(h0, .inr (9, fs1)), ((a 50), .inl (G.2.1 0, 200, .inl (upd (fun _ => 0) (Int32.toNatClampNeg 0) x)))] := hD
  generalize (upd (fun _ => 0) (Int32.toNatClampNeg 0) x) = f5 at hP hD
  refine lv_aload_n hx hb dX12_input_27 rfl (lv_at hl 0 rfl) ?_
  refine lv_dup hx hb dX12_input_28 rfl ?_
  refine va_get (D := G.1) (ci := 9) (v := .int 0) (C := RX12) (T := TX12) (N := 134) hx hb hq pin_wsX120 hown hE.1.1 hP 0 rfl rfl 85 (by decide) (by rw [tFX12_85]; exact hq _ pw_298) (fun _ h9 => h9) (by rw [e2, List.getElem?_set_ne (by decide), ef]; rfl) dX12_input_29 ?_
  refine lv_iconst (v := 1) hx hb dX12_input_32 (by decide) ?_
  refine lv_iadd hx hb dX12_input_33 ?_
  refine lv_topi (fun x6 e7 => ?_)
  obtain rfl : x6 = 1 := e7.trans (by decide)
  refine va_put (D := G.1) (ci := 9) (v := .int 1) (ty := .int) (C := RX12) (T := TX12) (N := 134) hx hb hq pin_wsX120 tyX12 tyX12_ok nmX12 hown hE.1.1 hP hD hS 0 rfl rfl 85 (by decide) (by rw [tFX12_85]; exact hq _ pw_298) (fun _ h9 => h9) (by rw [tFX12_85]) (by rw [tFX12_85]; decide +kernel) rfl rfl (by rw [hn3]; decide) dX12_input_34 (fun H locs hP hD hS => ?_)
  obtain ⟨fs8, e9⟩ : ∃ z : List Value, z = fs1.set 85 (.int 1) := ⟨_, rfl⟩
  have hn10 : fs8.length = 134 := by rw [e9, List.length_set]; exact hn3
  have hP : va_P G.1 pCl [(h0, .inr (9, fs8)), ((a 50), .inl (G.2.1 0, 200, .inl f5))] H := by rw [e9]; exact hP
  have hD : va_D A [(h0, .inr (9, fs8)), ((a 50), .inl (G.2.1 0, 200, .inl f5))] := by rw [e9]; exact hD
  refine lv_aload_n hx hb dX12_input_37 rfl (lv_at hl 0 rfl) ?_
  refine va_get (D := G.1) (ci := 9) (v := .int 1) (C := RX12) (T := TX12) (N := 134) hx hb hq pin_wsX120 hown hE.1.1 hP 0 rfl rfl 85 (by decide) (by rw [tFX12_85]; exact hq _ pw_298) (fun _ h9 => h9) (by rw [e9]; exact List.getElem?_set_self (by rw [hn3]; decide)) dX12_input_38 ?_
  refine W.widen (k := 0) (n := 0) (Nat.le_of_ble_eq_true rfl) (Nat.le_of_ble_eq_true rfl) ?_
  exact W.iret (v := 1) hx hb hr (fun t ht hW => ⟨⟨_, ((fun _ => 0), (fun _ => fun _ => 0), (fun _ => fun _ => 0)), rfl, rfl, by rw [ht]; exact hP.sub [] rfl, hD.sub [] (by decide) rfl⟩, hS.F ht⟩) hS.2.2 dX12_input_41
theorem dX12_forget_0 : decode cX12_forget 0 = .ok (.aload_n 0, 1) := by decide +kernel
theorem dX12_forget_1 : decode cX12_forget 1 = .ok (.iconst 0, 1) := by decide +kernel
theorem dX12_forget_2 : decode cX12_forget 2 = .ok (.putfield 252, 3) := by decide +kernel
theorem dX12_forget_5 : decode cX12_forget 5 = .ok (.aload_n 0, 1) := by decide +kernel
theorem dX12_forget_6 : decode cX12_forget 6 = .ok (.iconst 0, 1) := by decide +kernel
theorem dX12_forget_7 : decode cX12_forget 7 = .ok (.putfield 689, 3) := by decide +kernel
theorem dX12_forget_10 : decode cX12_forget 10 = .ok (.return_, 1) := by decide +kernel
set_option maxHeartbeats 1000000 in
set_option maxRecDepth 100000 in
/-- forget of the reference -/
theorem m_forget (l : Launch) (G : pT) (h0 : Nat) (a : Nat → Nat) : PM l G pX0 yX12_forget cX12_forget 1 none ({ frames := 2, cells := 0, slots := 0, locals := 60 }) [.ref h0] [(h0, .inr (9, (mF a)))] (fun (v : Option Value) (u : (Nat → Nat) × (Nat → Nat → Int32) × (Nat → Nat → Int64)) => v = none) (fun u => []) := by
  intro sz
  refine Met.ofW (cc := cX12_forget) (maxL := 1) (ret := none) (by decide) rfl ?_
  intro p e s m args below meth c s₁ B hml hv
  obtain ⟨rfl, hsz, hP, hD0, hE, hX⟩ := hv
  have hx := B.exec
  have hb := B.bytes
  have hr := B.returns
  have hts := atoms_spec (ws := Cond.code yX12_forget cX12_forget 1 none :: pw) B.pre
  have hq : ∀ w ∈ pw, w.before _ s = true := fun w h => hts w (List.mem_cons_of_mem _ h)
  have hown : s.vm.findClass RX12 = some m.cls := findClass_of_methodNamed B.named
  have hlocks := B.notSynchronized
  subst hsz
  have hD := hD0.self (sz := s.heap.size)
  have hA : ∀ q : Nat, s.heap.size ≤ q → va_A [(h0, .inr (9, (mF a)))] s.heap.size q := fun q h => Or.inr h
  have hP : va_P G.1 pCl [(h0, .inr (9, (mF a)))] s.heap := hP
  generalize va_A [(h0, .inr (9, (mF a)))] s.heap.size = A at hD hE hA ⊢
  have hS : va_S A s.heap s.heap [] := va_S.rf
  have hl := lv_entry ([.ref h0]) (n := 1) (Nat.le_of_ble_eq_true rfl)
  rw [lg_entry_eq]
  generalize (lg_sl ([.ref h0]) ++ List.replicate (1 - (lg_sl ([.ref h0])).length) Slot.unset).toArray = ls at hl ⊢
  have hl : lv_has ls 1 [(0, .ref h0)] := hl
  obtain ⟨fs, ef⟩ : ∃ z : List Value, z = (mF a) := ⟨_, rfl⟩
  have hn : fs.length = 134 := by rw [ef]; rfl
  have hP : va_P G.1 pCl [(h0, .inr (9, fs))] s.heap := by rw [ef]; exact hP
  have hD : va_D A [(h0, .inr (9, fs))] := by rw [ef]; exact hD
  refine lv_aload_n hx hb dX12_forget_0 rfl (lv_at hl 0 rfl) ?_
  refine lv_iconst (v := 0) hx hb dX12_forget_1 (by decide) ?_
  refine va_put (D := G.1) (ci := 9) (v := .int 0) (ty := .int) (C := RX12) (T := TX12) (N := 134) hx hb hq pin_wsX120 tyX12 tyX12_ok nmX12 hown hE.1.1 hP hD hS 0 rfl rfl 0 (by decide) (by rw [tFX12_0]; exact hq _ pw_259) (fun _ h9 => h9) (by rw [tFX12_0]) (by rw [tFX12_0]; decide +kernel) rfl rfl (by rw [hn]; decide) dX12_forget_2 (fun H locs hP hD hS => ?_)
  obtain ⟨fs1, e2⟩ : ∃ z : List Value, z = fs.set 0 (.int 0) := ⟨_, rfl⟩
  have hn3 : fs1.length = 134 := by rw [e2, List.length_set]; exact hn
  have hP : va_P G.1 pCl [(h0, .inr (9, fs1))] H := by rw [e2]; exact hP
  have hD : va_D A [(h0, .inr (9, fs1))] := by rw [e2]; exact hD
  refine lv_aload_n hx hb dX12_forget_5 rfl (lv_at hl 0 rfl) ?_
  refine lv_iconst (v := 0) hx hb dX12_forget_6 (by decide) ?_
  refine va_put (D := G.1) (ci := 9) (v := .int 0) (ty := .int) (C := RX12) (T := TX12) (N := 134) hx hb hq pin_wsX120 tyX12 tyX12_ok nmX12 hown hE.1.1 hP hD hS 0 rfl rfl 85 (by decide) (by rw [tFX12_85]; exact hq _ pw_298) (fun _ h9 => h9) (by rw [tFX12_85]) (by rw [tFX12_85]; decide +kernel) rfl rfl (by rw [hn3]; decide) dX12_forget_7 (fun H locs hP hD hS => ?_)
  obtain ⟨fs4, e5⟩ : ∃ z : List Value, z = fs1.set 85 (.int 0) := ⟨_, rfl⟩
  have hn6 : fs4.length = 134 := by rw [e5, List.length_set]; exact hn3
  have hP : va_P G.1 pCl [(h0, .inr (9, fs4))] H := by rw [e5]; exact hP
  have hD : va_D A [(h0, .inr (9, fs4))] := by rw [e5]; exact hD
  refine W.widen (k := 0) (n := 0) (Nat.le_of_ble_eq_true rfl) (Nat.le_of_ble_eq_true rfl) ?_
  exact W.vret hx hb hr (fun t ht hW => ⟨⟨_, ((fun _ => 0), (fun _ => fun _ => 0), (fun _ => fun _ => 0)), rfl, rfl, by rw [ht]; exact hP.sub [] rfl, hD.sub [] (by decide) rfl⟩, hS.F ht⟩) hS.2.2 dX12_forget_10
theorem dX12_result_0 : decode cX12_result 0 = .ok (.aload_n 0, 1) := by decide +kernel
theorem dX12_result_1 : decode cX12_result 1 = .ok (.iconst 0, 1) := by decide +kernel
theorem dX12_result_2 : decode cX12_result 2 = .ok (.putfield 252, 3) := by decide +kernel
theorem dX12_result_5 : decode cX12_result 5 = .ok (.aload_n 0, 1) := by decide +kernel
theorem dX12_result_6 : decode cX12_result 6 = .ok (.getfield 233, 3) := by decide +kernel
theorem dX12_result_9 : decode cX12_result 9 = .ok (.ifCond .ne 10, 3) := by decide +kernel
theorem dX12_result_19 : decode cX12_result 19 = .ok (.iconst 0, 1) := by decide +kernel
theorem dX12_result_20 : decode cX12_result 20 = .ok (.ireturn, 1) := by decide +kernel
set_option maxHeartbeats 1000000 in
set_option maxRecDepth 100000 in
/-- result of the reference: 0 -/
theorem m_result (l : Launch) (G : pT) (h0 : Nat) (a : Nat → Nat) : PM l G pX0 yX12_result cX12_result 1 (some .int) ({ frames := 2, cells := 0, slots := 0, locals := 60 }) [.ref h0] [(h0, .inr (9, (mF a)))] (fun (v : Option Value) (u : (Nat → Nat) × (Nat → Nat → Int32) × (Nat → Nat → Int64)) => v = some (.int 0)) (fun u => []) := by
  intro sz
  refine Met.ofW (cc := cX12_result) (maxL := 1) (ret := (some .int)) (by decide) rfl ?_
  intro p e s m args below meth c s₁ B hml hv
  obtain ⟨rfl, hsz, hP, hD0, hE, hX⟩ := hv
  have hx := B.exec
  have hb := B.bytes
  have hr := B.returns
  have hts := atoms_spec (ws := Cond.code yX12_result cX12_result 1 (some .int) :: pw) B.pre
  have hq : ∀ w ∈ pw, w.before _ s = true := fun w h => hts w (List.mem_cons_of_mem _ h)
  have hown : s.vm.findClass RX12 = some m.cls := findClass_of_methodNamed B.named
  have hlocks := B.notSynchronized
  subst hsz
  have hD := hD0.self (sz := s.heap.size)
  have hA : ∀ q : Nat, s.heap.size ≤ q → va_A [(h0, .inr (9, (mF a)))] s.heap.size q := fun q h => Or.inr h
  have hP : va_P G.1 pCl [(h0, .inr (9, (mF a)))] s.heap := hP
  generalize va_A [(h0, .inr (9, (mF a)))] s.heap.size = A at hD hE hA ⊢
  have hS : va_S A s.heap s.heap [] := va_S.rf
  have hl := lv_entry ([.ref h0]) (n := 1) (Nat.le_of_ble_eq_true rfl)
  rw [lg_entry_eq]
  generalize (lg_sl ([.ref h0]) ++ List.replicate (1 - (lg_sl ([.ref h0])).length) Slot.unset).toArray = ls at hl ⊢
  have hl : lv_has ls 1 [(0, .ref h0)] := hl
  obtain ⟨fs, ef⟩ : ∃ z : List Value, z = (mF a) := ⟨_, rfl⟩
  have hn : fs.length = 134 := by rw [ef]; rfl
  have hP : va_P G.1 pCl [(h0, .inr (9, fs))] s.heap := by rw [ef]; exact hP
  have hD : va_D A [(h0, .inr (9, fs))] := by rw [ef]; exact hD
  refine lv_aload_n hx hb dX12_result_0 rfl (lv_at hl 0 rfl) ?_
  refine lv_iconst (v := 0) hx hb dX12_result_1 (by decide) ?_
  refine va_put (D := G.1) (ci := 9) (v := .int 0) (ty := .int) (C := RX12) (T := TX12) (N := 134) hx hb hq pin_wsX120 tyX12 tyX12_ok nmX12 hown hE.1.1 hP hD hS 0 rfl rfl 0 (by decide) (by rw [tFX12_0]; exact hq _ pw_259) (fun _ h9 => h9) (by rw [tFX12_0]) (by rw [tFX12_0]; decide +kernel) rfl rfl (by rw [hn]; decide) dX12_result_2 (fun H locs hP hD hS => ?_)
  obtain ⟨fs1, e2⟩ : ∃ z : List Value, z = fs.set 0 (.int 0) := ⟨_, rfl⟩
  have hn3 : fs1.length = 134 := by rw [e2, List.length_set]; exact hn
  have hP : va_P G.1 pCl [(h0, .inr (9, fs1))] H := by rw [e2]; exact hP
  have hD : va_D A [(h0, .inr (9, fs1))] := by rw [e2]; exact hD
  refine lv_aload_n hx hb dX12_result_5 rfl (lv_at hl 0 rfl) ?_
  refine va_get (D := G.1) (ci := 9) (v := .int (-1)) (C := RX12) (T := TX12) (N := 134) hx hb hq pin_wsX120 hown hE.1.1 hP 0 rfl rfl 116 (by decide) (by rw [tFX12_116]; exact hq _ pw_253) (fun _ h9 => h9) (by rw [e2, List.getElem?_set_ne (by decide), ef]; rfl) dX12_result_6 ?_
  refine lv_if_ne (tgt := 19) hx hb dX12_result_9 (by decide) (fun c4 => ?_) (fun c4 => absurd c4 (by decide))
  refine lv_iconst (v := 0) hx hb dX12_result_19 (by decide) ?_
  refine W.widen (k := 0) (n := 0) (Nat.le_of_ble_eq_true rfl) (Nat.le_of_ble_eq_true rfl) ?_
  exact W.iret (v := 0) hx hb hr (fun t ht hW => ⟨⟨_, ((fun _ => 0), (fun _ => fun _ => 0), (fun _ => fun _ => 0)), rfl, rfl, by rw [ht]; exact hP.sub [] rfl, hD.sub [] (by decide) rfl⟩, hS.F ht⟩) hS.2.2 dX12_result_20
theorem dX12_refusals_0 : decode cX12_refusals 0 = .ok (.aload_n 0, 1) := by decide +kernel
theorem dX12_refusals_1 : decode cX12_refusals 1 = .ok (.iconst 0, 1) := by decide +kernel
theorem dX12_refusals_2 : decode cX12_refusals 2 = .ok (.putfield 252, 3) := by decide +kernel
theorem dX12_refusals_5 : decode cX12_refusals 5 = .ok (.iconst 0, 1) := by decide +kernel
theorem dX12_refusals_6 : decode cX12_refusals 6 = .ok (.ireturn, 1) := by decide +kernel
set_option maxHeartbeats 1000000 in
set_option maxRecDepth 100000 in
/-- refusals of the reference: 0 -/
theorem m_refusals (l : Launch) (G : pT) (h0 : Nat) (a : Nat → Nat) : PM l G pX0 yX12_refusals cX12_refusals 1 (some .int) ({ frames := 2, cells := 0, slots := 0, locals := 60 }) [.ref h0] [(h0, .inr (9, (mF a)))] (fun (v : Option Value) (u : (Nat → Nat) × (Nat → Nat → Int32) × (Nat → Nat → Int64)) => v = some (.int 0)) (fun u => []) := by
  intro sz
  refine Met.ofW (cc := cX12_refusals) (maxL := 1) (ret := (some .int)) (by decide) rfl ?_
  intro p e s m args below meth c s₁ B hml hv
  obtain ⟨rfl, hsz, hP, hD0, hE, hX⟩ := hv
  have hx := B.exec
  have hb := B.bytes
  have hr := B.returns
  have hts := atoms_spec (ws := Cond.code yX12_refusals cX12_refusals 1 (some .int) :: pw) B.pre
  have hq : ∀ w ∈ pw, w.before _ s = true := fun w h => hts w (List.mem_cons_of_mem _ h)
  have hown : s.vm.findClass RX12 = some m.cls := findClass_of_methodNamed B.named
  have hlocks := B.notSynchronized
  subst hsz
  have hD := hD0.self (sz := s.heap.size)
  have hA : ∀ q : Nat, s.heap.size ≤ q → va_A [(h0, .inr (9, (mF a)))] s.heap.size q := fun q h => Or.inr h
  have hP : va_P G.1 pCl [(h0, .inr (9, (mF a)))] s.heap := hP
  generalize va_A [(h0, .inr (9, (mF a)))] s.heap.size = A at hD hE hA ⊢
  have hS : va_S A s.heap s.heap [] := va_S.rf
  have hl := lv_entry ([.ref h0]) (n := 1) (Nat.le_of_ble_eq_true rfl)
  rw [lg_entry_eq]
  generalize (lg_sl ([.ref h0]) ++ List.replicate (1 - (lg_sl ([.ref h0])).length) Slot.unset).toArray = ls at hl ⊢
  have hl : lv_has ls 1 [(0, .ref h0)] := hl
  obtain ⟨fs, ef⟩ : ∃ z : List Value, z = (mF a) := ⟨_, rfl⟩
  have hn : fs.length = 134 := by rw [ef]; rfl
  have hP : va_P G.1 pCl [(h0, .inr (9, fs))] s.heap := by rw [ef]; exact hP
  have hD : va_D A [(h0, .inr (9, fs))] := by rw [ef]; exact hD
  refine lv_aload_n hx hb dX12_refusals_0 rfl (lv_at hl 0 rfl) ?_
  refine lv_iconst (v := 0) hx hb dX12_refusals_1 (by decide) ?_
  refine va_put (D := G.1) (ci := 9) (v := .int 0) (ty := .int) (C := RX12) (T := TX12) (N := 134) hx hb hq pin_wsX120 tyX12 tyX12_ok nmX12 hown hE.1.1 hP hD hS 0 rfl rfl 0 (by decide) (by rw [tFX12_0]; exact hq _ pw_259) (fun _ h9 => h9) (by rw [tFX12_0]) (by rw [tFX12_0]; decide +kernel) rfl rfl (by rw [hn]; decide) dX12_refusals_2 (fun H locs hP hD hS => ?_)
  obtain ⟨fs1, e2⟩ : ∃ z : List Value, z = fs.set 0 (.int 0) := ⟨_, rfl⟩
  have hn3 : fs1.length = 134 := by rw [e2, List.length_set]; exact hn
  have hP : va_P G.1 pCl [(h0, .inr (9, fs1))] H := by rw [e2]; exact hP
  have hD : va_D A [(h0, .inr (9, fs1))] := by rw [e2]; exact hD
  refine lv_iconst (v := 0) hx hb dX12_refusals_5 (by decide) ?_
  refine W.widen (k := 0) (n := 0) (Nat.le_of_ble_eq_true rfl) (Nat.le_of_ble_eq_true rfl) ?_
  exact W.iret (v := 0) hx hb hr (fun t ht hW => ⟨⟨_, ((fun _ => 0), (fun _ => fun _ => 0), (fun _ => fun _ => 0)), rfl, rfl, by rw [ht]; exact hP.sub [] rfl, hD.sub [] (by decide) rfl⟩, hS.F ht⟩) hS.2.2 dX12_refusals_6
theorem dX12_thrown__0 : decode cX12_thrown_ 0 = .ok (.aload_n 0, 1) := by decide +kernel
theorem dX12_thrown__1 : decode cX12_thrown_ 1 = .ok (.iconst 0, 1) := by decide +kernel
theorem dX12_thrown__2 : decode cX12_thrown_ 2 = .ok (.putfield 252, 3) := by decide +kernel
theorem dX12_thrown__5 : decode cX12_thrown_ 5 = .ok (.aload_n 0, 1) := by decide +kernel
theorem dX12_thrown__6 : decode cX12_thrown_ 6 = .ok (.getfield 233, 3) := by decide +kernel
theorem dX12_thrown__9 : decode cX12_thrown_ 9 = .ok (.iconst 1, 1) := by decide +kernel
theorem dX12_thrown__10 : decode cX12_thrown_ 10 = .ok (.if_icmp .eq 5, 3) := by decide +kernel
theorem dX12_thrown__13 : decode cX12_thrown_ 13 = .ok (.iconst (-1), 1) := by decide +kernel
theorem dX12_thrown__14 : decode cX12_thrown_ 14 = .ok (.ireturn, 1) := by decide +kernel
set_option maxHeartbeats 1000000 in
set_option maxRecDepth 100000 in
/-- thrown of the reference: NONE -/
theorem m_thrown (l : Launch) (G : pT) (h0 : Nat) (a : Nat → Nat) (x : Int32) : PM l G pX0 yX12_thrown_ cX12_thrown_ 6 (some .int) ({ frames := 2, cells := 0, slots := 0, locals := 60 }) [.ref h0, .int x] [(h0, .inr (9, (mF a)))] (fun (v : Option Value) (u : (Nat → Nat) × (Nat → Nat → Int32) × (Nat → Nat → Int64)) => v = some (.int (-1))) (fun u => []) := by
  intro sz
  refine Met.ofW (cc := cX12_thrown_) (maxL := 6) (ret := (some .int)) (by decide) rfl ?_
  intro p e s m args below meth c s₁ B hml hv
  obtain ⟨rfl, hsz, hP, hD0, hE, hX⟩ := hv
  have hx := B.exec
  have hb := B.bytes
  have hr := B.returns
  have hts := atoms_spec (ws := Cond.code yX12_thrown_ cX12_thrown_ 6 (some .int) :: pw) B.pre
  have hq : ∀ w ∈ pw, w.before _ s = true := fun w h => hts w (List.mem_cons_of_mem _ h)
  have hown : s.vm.findClass RX12 = some m.cls := findClass_of_methodNamed B.named
  have hlocks := B.notSynchronized
  subst hsz
  have hD := hD0.self (sz := s.heap.size)
  have hA : ∀ q : Nat, s.heap.size ≤ q → va_A [(h0, .inr (9, (mF a)))] s.heap.size q := fun q h => Or.inr h
  have hP : va_P G.1 pCl [(h0, .inr (9, (mF a)))] s.heap := hP
  generalize va_A [(h0, .inr (9, (mF a)))] s.heap.size = A at hD hE hA ⊢
  have hS : va_S A s.heap s.heap [] := va_S.rf
  have hl := lv_entry ([.ref h0, .int x]) (n := 6) (Nat.le_of_ble_eq_true rfl)
  rw [lg_entry_eq]
  generalize (lg_sl ([.ref h0, .int x]) ++ List.replicate (6 - (lg_sl ([.ref h0, .int x])).length) Slot.unset).toArray = ls at hl ⊢
  have hl : lv_has ls 6 [(0, .ref h0), (1, .int x)] := hl
  obtain ⟨fs, ef⟩ : ∃ z : List Value, z = (mF a) := ⟨_, rfl⟩
  have hn : fs.length = 134 := by rw [ef]; rfl
  have hP : va_P G.1 pCl [(h0, .inr (9, fs))] s.heap := by rw [ef]; exact hP
  have hD : va_D A [(h0, .inr (9, fs))] := by rw [ef]; exact hD
  refine lv_aload_n hx hb dX12_thrown__0 rfl (lv_at hl 0 rfl) ?_
  refine lv_iconst (v := 0) hx hb dX12_thrown__1 (by decide) ?_
  refine va_put (D := G.1) (ci := 9) (v := .int 0) (ty := .int) (C := RX12) (T := TX12) (N := 134) hx hb hq pin_wsX120 tyX12 tyX12_ok nmX12 hown hE.1.1 hP hD hS 0 rfl rfl 0 (by decide) (by rw [tFX12_0]; exact hq _ pw_259) (fun _ h9 => h9) (by rw [tFX12_0]) (by rw [tFX12_0]; decide +kernel) rfl rfl (by rw [hn]; decide) dX12_thrown__2 (fun H locs hP hD hS => ?_)
  obtain ⟨fs1, e2⟩ : ∃ z : List Value, z = fs.set 0 (.int 0) := ⟨_, rfl⟩
  have hn3 : fs1.length = 134 := by rw [e2, List.length_set]; exact hn
  have hP : va_P G.1 pCl [(h0, .inr (9, fs1))] H := by rw [e2]; exact hP
  have hD : va_D A [(h0, .inr (9, fs1))] := by rw [e2]; exact hD
  refine lv_aload_n hx hb dX12_thrown__5 rfl (lv_at hl 0 rfl) ?_
  refine va_get (D := G.1) (ci := 9) (v := .int (-1)) (C := RX12) (T := TX12) (N := 134) hx hb hq pin_wsX120 hown hE.1.1 hP 0 rfl rfl 116 (by decide) (by rw [tFX12_116]; exact hq _ pw_253) (fun _ h9 => h9) (by rw [e2, List.getElem?_set_ne (by decide), ef]; rfl) dX12_thrown__6 ?_
  refine lv_iconst (v := 1) hx hb dX12_thrown__9 (by decide) ?_
  refine lv_icmp_eq (tgt := 15) hx hb dX12_thrown__10 (by decide) (fun c4 => absurd c4 (by decide)) (fun c4 => ?_)
  refine lv_iconst (v := (-1)) hx hb dX12_thrown__13 (by decide) ?_
  refine W.widen (k := 0) (n := 0) (Nat.le_of_ble_eq_true rfl) (Nat.le_of_ble_eq_true rfl) ?_
  exact W.iret (v := (-1)) hx hb hr (fun t ht hW => ⟨⟨_, ((fun _ => 0), (fun _ => fun _ => 0), (fun _ => fun _ => 0)), rfl, rfl, by rw [ht]; exact hP.sub [] rfl, hD.sub [] (by decide) rfl⟩, hS.F ht⟩) hS.2.2 dX12_thrown__14
theorem dX12_back_0 : decode cX12_back 0 = .ok (.aload_n 0, 1) := by decide +kernel
theorem dX12_back_1 : decode cX12_back 1 = .ok (.iconst 0, 1) := by decide +kernel
theorem dX12_back_2 : decode cX12_back 2 = .ok (.putfield 252, 3) := by decide +kernel
theorem dX12_back_5 : decode cX12_back 5 = .ok (.iload_n 1, 1) := by decide +kernel
theorem dX12_back_6 : decode cX12_back 6 = .ok (.ifCond .lt 11, 3) := by decide +kernel
theorem dX12_back_17 : decode cX12_back 17 = .ok (.iconst (-1), 1) := by decide +kernel
theorem dX12_back_18 : decode cX12_back 18 = .ok (.ireturn, 1) := by decide +kernel
theorem dX12_back_9 : decode cX12_back 9 = .ok (.iload_n 1, 1) := by decide +kernel
theorem dX12_back_10 : decode cX12_back 10 = .ok (.aload_n 0, 1) := by decide +kernel
theorem dX12_back_11 : decode cX12_back 11 = .ok (.getfield 255, 3) := by decide +kernel
theorem dX12_back_14 : decode cX12_back 14 = .ok (.if_icmp .le 5, 3) := by decide +kernel
theorem dX12_back_19 : decode cX12_back 19 = .ok (.aload_n 0, 1) := by decide +kernel
theorem dX12_back_20 : decode cX12_back 20 = .ok (.dup, 1) := by decide +kernel
theorem dX12_back_21 : decode cX12_back 21 = .ok (.getfield 255, 3) := by decide +kernel
theorem dX12_back_24 : decode cX12_back 24 = .ok (.iload_n 1, 1) := by decide +kernel
theorem dX12_back_25 : decode cX12_back 25 = .ok (.isub, 1) := by decide +kernel
theorem dX12_back_26 : decode cX12_back 26 = .ok (.putfield 255, 3) := by decide +kernel
theorem dX12_back_29 : decode cX12_back 29 = .ok (.aload_n 0, 1) := by decide +kernel
theorem dX12_back_30 : decode cX12_back 30 = .ok (.getfield 255, 3) := by decide +kernel
theorem dX12_back_33 : decode cX12_back 33 = .ok (.ireturn, 1) := by decide +kernel
set_option maxHeartbeats 1000000 in
set_option maxRecDepth 100000 in
/-- back of the reference -/
theorem m_back (l : Launch) (G : pT) (h0 : Nat) (a : Nat → Nat) (x : Int32) : PM l G pX0 yX12_back cX12_back 2 (some .int) ({ frames := 2, cells := 0, slots := 0, locals := 60 }) [.ref h0, .int x] [(h0, .inr (9, (mF a)))] (fun (v : Option Value) (u : Unit) => v = some (.int (if x = 0 then 0 else (-1)))) (fun u => []) := by
  intro sz
  refine Met.ofW (cc := cX12_back) (maxL := 2) (ret := (some .int)) (by decide) rfl ?_
  intro p e s m args below meth c s₁ B hml hv
  obtain ⟨rfl, hsz, hP, hD0, hE, hX⟩ := hv
  have hx := B.exec
  have hb := B.bytes
  have hr := B.returns
  have hts := atoms_spec (ws := Cond.code yX12_back cX12_back 2 (some .int) :: pw) B.pre
  have hq : ∀ w ∈ pw, w.before _ s = true := fun w h => hts w (List.mem_cons_of_mem _ h)
  have hown : s.vm.findClass RX12 = some m.cls := findClass_of_methodNamed B.named
  have hlocks := B.notSynchronized
  subst hsz
  have hD := hD0.self (sz := s.heap.size)
  have hA : ∀ q : Nat, s.heap.size ≤ q → va_A [(h0, .inr (9, (mF a)))] s.heap.size q := fun q h => Or.inr h
  have hP : va_P G.1 pCl [(h0, .inr (9, (mF a)))] s.heap := hP
  generalize va_A [(h0, .inr (9, (mF a)))] s.heap.size = A at hD hE hA ⊢
  have hS : va_S A s.heap s.heap [] := va_S.rf
  have hl := lv_entry ([.ref h0, .int x]) (n := 2) (Nat.le_of_ble_eq_true rfl)
  rw [lg_entry_eq]
  generalize (lg_sl ([.ref h0, .int x]) ++ List.replicate (2 - (lg_sl ([.ref h0, .int x])).length) Slot.unset).toArray = ls at hl ⊢
  have hl : lv_has ls 2 [(0, .ref h0), (1, .int x)] := hl
  obtain ⟨fs, ef⟩ : ∃ z : List Value, z = (mF a) := ⟨_, rfl⟩
  have hn : fs.length = 134 := by rw [ef]; rfl
  have hP : va_P G.1 pCl [(h0, .inr (9, fs))] s.heap := by rw [ef]; exact hP
  have hD : va_D A [(h0, .inr (9, fs))] := by rw [ef]; exact hD
  refine lv_aload_n hx hb dX12_back_0 rfl (lv_at hl 0 rfl) ?_
  refine lv_iconst (v := 0) hx hb dX12_back_1 (by decide) ?_
  refine va_put (D := G.1) (ci := 9) (v := .int 0) (ty := .int) (C := RX12) (T := TX12) (N := 134) hx hb hq pin_wsX120 tyX12 tyX12_ok nmX12 hown hE.1.1 hP hD hS 0 rfl rfl 0 (by decide) (by rw [tFX12_0]; exact hq _ pw_259) (fun _ h9 => h9) (by rw [tFX12_0]) (by rw [tFX12_0]; decide +kernel) rfl rfl (by rw [hn]; decide) dX12_back_2 (fun H locs hP hD hS => ?_)
  obtain ⟨fs1, e2⟩ : ∃ z : List Value, z = fs.set 0 (.int 0) := ⟨_, rfl⟩
  have hn3 : fs1.length = 134 := by rw [e2, List.length_set]; exact hn
  have hP : va_P G.1 pCl [(h0, .inr (9, fs1))] H := by rw [e2]; exact hP
  have hD : va_D A [(h0, .inr (9, fs1))] := by rw [e2]; exact hD
  refine lv_iload_n hx hb dX12_back_5 rfl (lv_at hl 1 rfl) ?_
  refine lv_if_lt (tgt := 17) hx hb dX12_back_6 (by decide) (fun c4 => ?_) (fun c4 => ?_)
  · refine lv_iconst (v := (-1)) hx hb dX12_back_17 (by decide) ?_
    refine W.widen (k := 0) (n := 0) (Nat.le_of_ble_eq_true rfl) (Nat.le_of_ble_eq_true rfl) ?_
    exact W.iret (v := (-1)) hx hb hr (fun t ht hW => ⟨⟨_, (), rfl, (by rw [if_neg (fun h => absurd c4 (by rw [h]; decide))]), by rw [ht]; exact hP.sub [] rfl, hD.sub [] (by decide) rfl⟩, hS.F ht⟩) hS.2.2 dX12_back_18
  · refine lv_iload_n hx hb dX12_back_9 rfl (lv_at hl 1 rfl) ?_
    refine lv_aload_n hx hb dX12_back_10 rfl (lv_at hl 0 rfl) ?_
    refine va_get (D := G.1) (ci := 9) (v := .int 0) (C := RX12) (T := TX12) (N := 134) hx hb hq pin_wsX120 hown hE.1.1 hP 0 rfl rfl 2 (by decide) (by rw [tFX12_2]; exact hq _ pw_260) (fun _ h9 => h9) (by rw [e2, List.getElem?_set_ne (by decide), ef]; rfl) dX12_back_11 ?_
    refine lv_icmp_le (tgt := 19) hx hb dX12_back_14 (by decide) (fun c5 => ?_) (fun c5 => ?_)
    · refine lv_aload_n hx hb dX12_back_19 rfl (lv_at hl 0 rfl) ?_
      refine lv_dup hx hb dX12_back_20 rfl ?_
      refine va_get (D := G.1) (ci := 9) (v := .int 0) (C := RX12) (T := TX12) (N := 134) hx hb hq pin_wsX120 hown hE.1.1 hP 0 rfl rfl 2 (by decide) (by rw [tFX12_2]; exact hq _ pw_260) (fun _ h9 => h9) (by rw [e2, List.getElem?_set_ne (by decide), ef]; rfl) dX12_back_21 ?_
      refine lv_iload_n hx hb dX12_back_24 rfl (lv_at hl 1 rfl) ?_
      refine lv_isub hx hb dX12_back_25 ?_
      refine lv_topi (fun x6 e7 => ?_)
      refine va_put (D := G.1) (ci := 9) (v := .int x6) (ty := .int) (C := RX12) (T := TX12) (N := 134) hx hb hq pin_wsX120 tyX12 tyX12_ok nmX12 hown hE.1.1 hP hD hS 0 rfl rfl 2 (by decide) (by rw [tFX12_2]; exact hq _ pw_260) (fun _ h9 => h9) (by rw [tFX12_2]) (by rw [tFX12_2]; decide +kernel) rfl rfl (by rw [hn3]; decide) dX12_back_26 (fun H locs hP hD hS => ?_)
      obtain ⟨fs8, e9⟩ : ∃ z : List Value, z = fs1.set 2 (.int x6) := ⟨_, rfl⟩
      have hn10 : fs8.length = 134 := by rw [e9, List.length_set]; exact hn3
      have hP : va_P G.1 pCl [(h0, .inr (9, fs8))] H := by rw [e9]; exact hP
      have hD : va_D A [(h0, .inr (9, fs8))] := by rw [e9]; exact hD
      refine lv_aload_n hx hb dX12_back_29 rfl (lv_at hl 0 rfl) ?_
      refine va_get (D := G.1) (ci := 9) (v := .int x6) (C := RX12) (T := TX12) (N := 134) hx hb hq pin_wsX120 hown hE.1.1 hP 0 rfl rfl 2 (by decide) (by rw [tFX12_2]; exact hq _ pw_260) (fun _ h9 => h9) (by rw [e9]; exact List.getElem?_set_self (by rw [hn3]; decide)) dX12_back_30 ?_
      refine W.widen (k := 0) (n := 0) (Nat.le_of_ble_eq_true rfl) (Nat.le_of_ble_eq_true rfl) ?_
      exact W.iret (v := x6) hx hb hr (fun t ht hW => ⟨⟨_, (), rfl, (by have h : x = 0 := Int32.le_antisymm c5 (Int32.not_lt.mp c4); rw [if_pos h, e7, h]; rfl), by rw [ht]; exact hP.sub [] rfl, hD.sub [] (by decide) rfl⟩, hS.F ht⟩) hS.2.2 dX12_back_33
    · refine lv_iconst (v := (-1)) hx hb dX12_back_17 (by decide) ?_
      refine W.widen (k := 0) (n := 0) (Nat.le_of_ble_eq_true rfl) (Nat.le_of_ble_eq_true rfl) ?_
      exact W.iret (v := (-1)) hx hb hr (fun t ht hW => ⟨⟨_, (), rfl, (by rw [if_neg (fun h => c5 (by rw [h]; decide))]), by rw [ht]; exact hP.sub [] rfl, hD.sub [] (by decide) rfl⟩, hS.F ht⟩) hS.2.2 dX12_back_18
theorem dX12_in_0 : decode cX12_in 0 = .ok (.iload_n 0, 1) := by decide +kernel
theorem dX12_in_1 : decode cX12_in 1 = .ok (.iload_n 1, 1) := by decide +kernel
theorem dX12_in_2 : decode cX12_in 2 = .ok (.if_icmp .lt 12, 3) := by decide +kernel
theorem dX12_in_14 : decode cX12_in 14 = .ok (.iconst 0, 1) := by decide +kernel
theorem dX12_in_15 : decode cX12_in 15 = .ok (.ireturn, 1) := by decide +kernel
theorem dX12_in_5 : decode cX12_in 5 = .ok (.iload_n 0, 1) := by decide +kernel
theorem dX12_in_6 : decode cX12_in 6 = .ok (.iload_n 2, 1) := by decide +kernel
theorem dX12_in_7 : decode cX12_in 7 = .ok (.if_icmp .gt 7, 3) := by decide +kernel
set_option maxHeartbeats 1000000 in
set_option maxRecDepth 100000 in
/-- in(x, 0, -1): no -/
theorem m_in0 (l : Launch) (G : pT) (x : Int32) : PM l G pX0 yX12_in cX12_in 3 (some .boolean) ({ frames := 2, cells := 0, slots := 0, locals := 60 }) [.int x, .int 0, .int (-1)] [] (fun (v : Option Value) (u : Unit) => v = some (.int 0)) (fun u => []) := by
  intro sz
  refine Met.ofW (cc := cX12_in) (maxL := 3) (ret := (some .boolean)) (by decide) rfl ?_
  intro p e s m args below meth c s₁ B hml hv
  obtain ⟨rfl, hsz, hP, hD0, hE, hX⟩ := hv
  have hx := B.exec
  have hb := B.bytes
  have hr := B.returns
  have hts := atoms_spec (ws := Cond.code yX12_in cX12_in 3 (some .boolean) :: pw) B.pre
  have hq : ∀ w ∈ pw, w.before _ s = true := fun w h => hts w (List.mem_cons_of_mem _ h)
  have hown : s.vm.findClass RX12 = some m.cls := findClass_of_methodNamed B.named
  have hlocks := B.notSynchronized
  subst hsz
  have hD := hD0.self (sz := s.heap.size)
  have hA : ∀ q : Nat, s.heap.size ≤ q → va_A [] s.heap.size q := fun q h => Or.inr h
  have hP : va_P G.1 pCl [] s.heap := hP
  generalize va_A [] s.heap.size = A at hD hE hA ⊢
  have hS : va_S A s.heap s.heap [] := va_S.rf
  have hl := lv_entry ([.int x, .int 0, .int (-1)]) (n := 3) (Nat.le_of_ble_eq_true rfl)
  rw [lg_entry_eq]
  generalize (lg_sl ([.int x, .int 0, .int (-1)]) ++ List.replicate (3 - (lg_sl ([.int x, .int 0, .int (-1)])).length) Slot.unset).toArray = ls at hl ⊢
  have hl : lv_has ls 3 [(0, .int x), (1, .int 0), (2, .int (-1))] := hl
  refine lv_iload_n hx hb dX12_in_0 rfl (lv_at hl 0 rfl) ?_
  refine lv_iload_n hx hb dX12_in_1 rfl (lv_at hl 1 rfl) ?_
  refine lv_icmp_lt (tgt := 14) hx hb dX12_in_2 (by decide) (fun c1 => ?_) (fun c1 => ?_)
  · refine lv_iconst (v := 0) hx hb dX12_in_14 (by decide) ?_
    refine W.widen (k := 0) (n := 0) (Nat.le_of_ble_eq_true rfl) (Nat.le_of_ble_eq_true rfl) ?_
    exact W.zret (v := 0) hx hb hr rfl (fun t ht hW => ⟨⟨_, (), rfl, rfl, by rw [ht]; exact hP.sub [] rfl, hD.sub [] (by decide) rfl⟩, hS.F ht⟩) hS.2.2 dX12_in_15
  · refine lv_iload_n hx hb dX12_in_5 rfl (lv_at hl 0 rfl) ?_
    refine lv_iload_n hx hb dX12_in_6 rfl (lv_at hl 2 rfl) ?_
    refine lv_icmp_gt (tgt := 14) hx hb dX12_in_7 (by decide) (fun c2 => ?_) (fun c2 => absurd (m1_lt c1) c2)
    refine lv_iconst (v := 0) hx hb dX12_in_14 (by decide) ?_
    refine W.widen (k := 0) (n := 0) (Nat.le_of_ble_eq_true rfl) (Nat.le_of_ble_eq_true rfl) ?_
    exact W.zret (v := 0) hx hb hr rfl (fun t ht hW => ⟨⟨_, (), rfl, rfl, by rw [ht]; exact hP.sub [] rfl, hD.sub [] (by decide) rfl⟩, hS.F ht⟩) hS.2.2 dX12_in_15
theorem dX12_output_0 : decode cX12_output 0 = .ok (.aload_n 0, 1) := by decide +kernel
theorem dX12_output_1 : decode cX12_output 1 = .ok (.iconst 0, 1) := by decide +kernel
theorem dX12_output_2 : decode cX12_output 2 = .ok (.putfield 252, 3) := by decide +kernel
theorem dX12_output_5 : decode cX12_output 5 = .ok (.iload_n 1, 1) := by decide +kernel
theorem dX12_output_6 : decode cX12_output 6 = .ok (.iconst 0, 1) := by decide +kernel
theorem dX12_output_7 : decode cX12_output 7 = .ok (.aload_n 0, 1) := by decide +kernel
theorem dX12_output_8 : decode cX12_output 8 = .ok (.getfield 656, 3) := by decide +kernel
theorem dX12_output_11 : decode cX12_output 11 = .ok (.iconst 1, 1) := by decide +kernel
theorem dX12_output_12 : decode cX12_output 12 = .ok (.isub, 1) := by decide +kernel
theorem dX12_output_13 : decode cX12_output 13 = .ok (.invokestatic 261, 3) := by decide +kernel
theorem dX12_output_16 : decode cX12_output 16 = .ok (.ifCond .eq 12, 3) := by decide +kernel
theorem dX12_output_28 : decode cX12_output 28 = .ok (.iconst 0, 1) := by decide +kernel
theorem dX12_output_29 : decode cX12_output 29 = .ok (.ireturn, 1) := by decide +kernel
theorem hS_X12_in : yX12_in.cls ≠ "java/lang/invoke/MethodHandle" ∧ yX12_in.cls ≠ "java/lang/invoke/VarHandle" ∧ (parseMethodDescriptor yX12_in.desc).map (fun d => d.parameters.length) = some 3 := by decide +kernel
set_option maxHeartbeats 1000000 in
set_option maxRecDepth 100000 in
/-- output of the reference: 0 -/
theorem m_output (l : Launch) (G : pT) (h0 : Nat) (a : Nat → Nat) (x : Int32) : PM l G pX0 yX12_output cX12_output 2 (some .int) ({ frames := 3, cells := 0, slots := 0, locals := 82 }) [.ref h0, .int x] [(h0, .inr (9, (mF a)))] (fun (v : Option Value) (u : Unit) => v = some (.int 0)) (fun u => []) := by
  intro sz
  refine Met.ofW (cc := cX12_output) (maxL := 2) (ret := (some .int)) (by decide) rfl ?_
  intro p e s m args below meth c s₁ B hml hv
  obtain ⟨rfl, hsz, hP, hD0, hE, hX⟩ := hv
  have hx := B.exec
  have hb := B.bytes
  have hr := B.returns
  have hts := atoms_spec (ws := Cond.code yX12_output cX12_output 2 (some .int) :: pw) B.pre
  have hq : ∀ w ∈ pw, w.before _ s = true := fun w h => hts w (List.mem_cons_of_mem _ h)
  have hown : s.vm.findClass RX12 = some m.cls := findClass_of_methodNamed B.named
  have hlocks := B.notSynchronized
  subst hsz
  have hD := hD0.self (sz := s.heap.size)
  have hA : ∀ q : Nat, s.heap.size ≤ q → va_A [(h0, .inr (9, (mF a)))] s.heap.size q := fun q h => Or.inr h
  have hP : va_P G.1 pCl [(h0, .inr (9, (mF a)))] s.heap := hP
  generalize va_A [(h0, .inr (9, (mF a)))] s.heap.size = A at hD hE hA ⊢
  have hS : va_S A s.heap s.heap [] := va_S.rf
  have hl := lv_entry ([.ref h0, .int x]) (n := 2) (Nat.le_of_ble_eq_true rfl)
  rw [lg_entry_eq]
  generalize (lg_sl ([.ref h0, .int x]) ++ List.replicate (2 - (lg_sl ([.ref h0, .int x])).length) Slot.unset).toArray = ls at hl ⊢
  have hl : lv_has ls 2 [(0, .ref h0), (1, .int x)] := hl
  obtain ⟨fs, ef⟩ : ∃ z : List Value, z = (mF a) := ⟨_, rfl⟩
  have hn : fs.length = 134 := by rw [ef]; rfl
  have hP : va_P G.1 pCl [(h0, .inr (9, fs))] s.heap := by rw [ef]; exact hP
  have hD : va_D A [(h0, .inr (9, fs))] := by rw [ef]; exact hD
  refine lv_aload_n hx hb dX12_output_0 rfl (lv_at hl 0 rfl) ?_
  refine lv_iconst (v := 0) hx hb dX12_output_1 (by decide) ?_
  refine va_put (D := G.1) (ci := 9) (v := .int 0) (ty := .int) (C := RX12) (T := TX12) (N := 134) hx hb hq pin_wsX120 tyX12 tyX12_ok nmX12 hown hE.1.1 hP hD hS 0 rfl rfl 0 (by decide) (by rw [tFX12_0]; exact hq _ pw_259) (fun _ h9 => h9) (by rw [tFX12_0]) (by rw [tFX12_0]; decide +kernel) rfl rfl (by rw [hn]; decide) dX12_output_2 (fun H locs hP hD hS => ?_)
  obtain ⟨fs1, e2⟩ : ∃ z : List Value, z = fs.set 0 (.int 0) := ⟨_, rfl⟩
  have hn3 : fs1.length = 134 := by rw [e2, List.length_set]; exact hn
  have hP : va_P G.1 pCl [(h0, .inr (9, fs1))] H := by rw [e2]; exact hP
  have hD : va_D A [(h0, .inr (9, fs1))] := by rw [e2]; exact hD
  refine lv_iload_n hx hb dX12_output_5 rfl (lv_at hl 1 rfl) ?_
  refine lv_iconst (v := 0) hx hb dX12_output_6 (by decide) ?_
  refine lv_aload_n hx hb dX12_output_7 rfl (lv_at hl 0 rfl) ?_
  refine va_get (D := G.1) (ci := 9) (v := .int 0) (C := RX12) (T := TX12) (N := 134) hx hb hq pin_wsX120 hown hE.1.1 hP 0 rfl rfl 87 (by decide) (by rw [tFX12_87]; exact hq _ pw_286) (fun _ h9 => h9) (by rw [e2, List.getElem?_set_ne (by decide), ef]; rfl) dX12_output_8 ?_
  refine lv_iconst (v := 1) hx hb dX12_output_11 (by decide) ?_
  refine lv_isub hx hb dX12_output_12 ?_
  refine lv_topi (fun x4 e5 => ?_)
  obtain rfl : x4 = (-1) := e5.trans (by decide)
  refine pc_S (G := G) (As := [.int x, .int 0, .int (-1)]) (rest := []) (wr := [(h0, .inr (9, fs1))]) hx hb hml hown hq hE hX pX0_al hP hD hS hA hl.1 (m_in0 l G x) (gS pw_297 pw_522 pw_517 pw_521) hS_X12_in [] [0] rfl rfl (by decide) (by decide) (by decide) rfl (Nat.le_of_ble_eq_true rfl) dX12_output_13 ⟨Nat.le_of_ble_eq_true rfl, Nat.le_of_ble_eq_true rfl⟩ ⟨Nat.le_of_ble_eq_true rfl, Nat.le_of_ble_eq_true rfl⟩ (fun v8 u6 H locs hw7 hP hD hS => ?_)
  obtain rfl : v8 = some (.int 0) := hw7
  have hP : va_P G.1 pCl [(h0, .inr (9, fs1))] H := hP
  have hD : va_D A [(h0, .inr (9, fs1))] := hD
  refine W.widen (k := 0) (n := 0) (Nat.le_of_ble_eq_true rfl) (Nat.le_of_ble_eq_true rfl) ?_
  refine W.eq (g2 := F0 m 16 ls [.int 0]) rfl ?_
  refine lv_if_eq (tgt := 28) hx hb dX12_output_16 (by decide) (fun c9 => ?_) (fun c9 => absurd c9 (by decide))
  refine lv_iconst (v := 0) hx hb dX12_output_28 (by decide) ?_
  refine W.widen (k := 0) (n := 0) (Nat.le_of_ble_eq_true rfl) (Nat.le_of_ble_eq_true rfl) ?_
  exact W.iret (v := 0) hx hb hr (fun t ht hW => ⟨⟨_, (), rfl, rfl, by rw [ht]; exact hP.sub [] rfl, hD.sub [] (by decide) rfl⟩, hS.F ht⟩) hS.2.2 dX12_output_29
theorem dX12_count_0 : decode cX12_count 0 = .ok (.aload_n 0, 1) := by decide +kernel
theorem dX12_count_1 : decode cX12_count 1 = .ok (.iconst 0, 1) := by decide +kernel
theorem dX12_count_2 : decode cX12_count 2 = .ok (.putfield 252, 3) := by decide +kernel
theorem dX12_count_5 : decode cX12_count 5 = .ok (.iload_n 1, 1) := by decide +kernel
theorem dX12_count_6 : decode cX12_count 6 = .ok (.iconst 2, 1) := by decide +kernel
theorem dX12_count_7 : decode cX12_count 7 = .ok (.if_icmp .lt 9, 3) := by decide +kernel
theorem dX12_count_16 : decode cX12_count 16 = .ok (.iload_n 1, 1) := by decide +kernel
theorem dX12_count_17 : decode cX12_count 17 = .ok (.ifCond .ne 10, 3) := by decide +kernel
theorem dX12_count_27 : decode cX12_count 27 = .ok (.iload_n 1, 1) := by decide +kernel
theorem dX12_count_28 : decode cX12_count 28 = .ok (.iconst 1, 1) := by decide +kernel
theorem dX12_count_29 : decode cX12_count 29 = .ok (.if_icmp .ne 10, 3) := by decide +kernel
theorem dX12_count_39 : decode cX12_count 39 = .ok (.iconst (-1), 1) := by decide +kernel
theorem dX12_count_40 : decode cX12_count 40 = .ok (.ireturn, 1) := by decide +kernel
theorem dX12_count_32 : decode cX12_count 32 = .ok (.aload_n 0, 1) := by decide +kernel
theorem dX12_count_33 : decode cX12_count 33 = .ok (.getfield 689, 3) := by decide +kernel
theorem dX12_count_36 : decode cX12_count 36 = .ok (.goto 4, 3) := by decide +kernel
theorem dX12_count_20 : decode cX12_count 20 = .ok (.aload_n 0, 1) := by decide +kernel
theorem dX12_count_21 : decode cX12_count 21 = .ok (.getfield 255, 3) := by decide +kernel
theorem dX12_count_24 : decode cX12_count 24 = .ok (.goto 16, 3) := by decide +kernel
theorem dX12_count_10 : decode cX12_count 10 = .ok (.iload_n 1, 1) := by decide +kernel
theorem dX12_count_11 : decode cX12_count 11 = .ok (.bipush 11, 2) := by decide +kernel
theorem dX12_count_13 : decode cX12_count 13 = .ok (.if_icmp .le 28, 3) := by decide +kernel
theorem dX12_count_41 : decode cX12_count 41 = .ok (.iload_n 1, 1) := by decide +kernel
theorem dX12_count_42 : decode cX12_count 42 = .ok (.iconst 5, 1) := by decide +kernel
theorem dX12_count_43 : decode cX12_count 43 = .ok (.if_icmp .ge 43, 3) := by decide +kernel
theorem dX12_count_86 : decode cX12_count 86 = .ok (.aload_n 0, 1) := by decide +kernel
theorem dX12_count_87 : decode cX12_count 87 = .ok (.getfield 653, 3) := by decide +kernel
theorem dX12_count_90 : decode cX12_count 90 = .ok (.ifCond .ne 5, 3) := by decide +kernel
theorem dX12_count_93 : decode cX12_count 93 = .ok (.iconst 0, 1) := by decide +kernel
theorem dX12_count_94 : decode cX12_count 94 = .ok (.ireturn, 1) := by decide +kernel
theorem dX12_count_46 : decode cX12_count 46 = .ok (.aload_n 0, 1) := by decide +kernel
theorem dX12_count_47 : decode cX12_count 47 = .ok (.getfield 649, 3) := by decide +kernel
theorem dX12_count_50 : decode cX12_count 50 = .ok (.ifCond .ne 7, 3) := by decide +kernel
theorem dX12_count_53 : decode cX12_count 53 = .ok (.iconst 0, 1) := by decide +kernel
theorem dX12_count_54 : decode cX12_count 54 = .ok (.goto 31, 3) := by decide +kernel
theorem dX12_count_85 : decode cX12_count 85 = .ok (.ireturn, 1) := by decide +kernel
set_option maxHeartbeats 1000000 in
set_option maxRecDepth 100000 in
/-- count of the reference -/
theorem m_count (l : Launch) (G : pT) (h0 : Nat) (a : Nat → Nat) (x : Int32) : PM l G pX0 yX12_count cX12_count 2 (some .int) ({ frames := 2, cells := 0, slots := 0, locals := 60 }) [.ref h0, .int x] [(h0, .inr (9, (mF a)))] (fun (v : Option Value) (u : Unit) => v = some (.int (cnt x))) (fun u => []) := by
  intro sz
  refine Met.ofW (cc := cX12_count) (maxL := 2) (ret := (some .int)) (by decide) rfl ?_
  intro p e s m args below meth c s₁ B hml hv
  obtain ⟨rfl, hsz, hP, hD0, hE, hX⟩ := hv
  have hx := B.exec
  have hb := B.bytes
  have hr := B.returns
  have hts := atoms_spec (ws := Cond.code yX12_count cX12_count 2 (some .int) :: pw) B.pre
  have hq : ∀ w ∈ pw, w.before _ s = true := fun w h => hts w (List.mem_cons_of_mem _ h)
  have hown : s.vm.findClass RX12 = some m.cls := findClass_of_methodNamed B.named
  have hlocks := B.notSynchronized
  subst hsz
  have hD := hD0.self (sz := s.heap.size)
  have hA : ∀ q : Nat, s.heap.size ≤ q → va_A [(h0, .inr (9, (mF a)))] s.heap.size q := fun q h => Or.inr h
  have hP : va_P G.1 pCl [(h0, .inr (9, (mF a)))] s.heap := hP
  generalize va_A [(h0, .inr (9, (mF a)))] s.heap.size = A at hD hE hA ⊢
  have hS : va_S A s.heap s.heap [] := va_S.rf
  have hl := lv_entry ([.ref h0, .int x]) (n := 2) (Nat.le_of_ble_eq_true rfl)
  rw [lg_entry_eq]
  generalize (lg_sl ([.ref h0, .int x]) ++ List.replicate (2 - (lg_sl ([.ref h0, .int x])).length) Slot.unset).toArray = ls at hl ⊢
  have hl : lv_has ls 2 [(0, .ref h0), (1, .int x)] := hl
  obtain ⟨fs, ef⟩ : ∃ z : List Value, z = (mF a) := ⟨_, rfl⟩
  have hn : fs.length = 134 := by rw [ef]; rfl
  have hP : va_P G.1 pCl [(h0, .inr (9, fs))] s.heap := by rw [ef]; exact hP
  have hD : va_D A [(h0, .inr (9, fs))] := by rw [ef]; exact hD
  refine lv_aload_n hx hb dX12_count_0 rfl (lv_at hl 0 rfl) ?_
  refine lv_iconst (v := 0) hx hb dX12_count_1 (by decide) ?_
  refine va_put (D := G.1) (ci := 9) (v := .int 0) (ty := .int) (C := RX12) (T := TX12) (N := 134) hx hb hq pin_wsX120 tyX12 tyX12_ok nmX12 hown hE.1.1 hP hD hS 0 rfl rfl 0 (by decide) (by rw [tFX12_0]; exact hq _ pw_259) (fun _ h9 => h9) (by rw [tFX12_0]) (by rw [tFX12_0]; decide +kernel) rfl rfl (by rw [hn]; decide) dX12_count_2 (fun H locs hP hD hS => ?_)
  obtain ⟨fs1, e2⟩ : ∃ z : List Value, z = fs.set 0 (.int 0) := ⟨_, rfl⟩
  have hn3 : fs1.length = 134 := by rw [e2, List.length_set]; exact hn
  have hP : va_P G.1 pCl [(h0, .inr (9, fs1))] H := by rw [e2]; exact hP
  have hD : va_D A [(h0, .inr (9, fs1))] := by rw [e2]; exact hD
  refine lv_iload_n hx hb dX12_count_5 rfl (lv_at hl 1 rfl) ?_
  refine lv_iconst (v := 2) hx hb dX12_count_6 (by decide) ?_
  refine lv_icmp_lt (tgt := 16) hx hb dX12_count_7 (by decide) (fun c4 => ?_) (fun c4 => ?_)
  · refine lv_iload_n hx hb dX12_count_16 rfl (lv_at hl 1 rfl) ?_
    refine lv_if_ne (tgt := 27) hx hb dX12_count_17 (by decide) (fun c5 => ?_) (fun c5 => ?_)
    · refine lv_iload_n hx hb dX12_count_27 rfl (lv_at hl 1 rfl) ?_
      refine lv_iconst (v := 1) hx hb dX12_count_28 (by decide) ?_
      refine lv_icmp_ne (tgt := 39) hx hb dX12_count_29 (by decide) (fun c6 => ?_) (fun c6 => ?_)
      · refine lv_iconst (v := (-1)) hx hb dX12_count_39 (by decide) ?_
        refine W.widen (k := 0) (n := 0) (Nat.le_of_ble_eq_true rfl) (Nat.le_of_ble_eq_true rfl) ?_
        exact W.iret (v := (-1)) hx hb hr (fun t ht hW => ⟨⟨_, (), rfl, (by rw [cnt_lo c4 c5 c6]), by rw [ht]; exact hP.sub [] rfl, hD.sub [] (by decide) rfl⟩, hS.F ht⟩) hS.2.2 dX12_count_40
      · refine lv_aload_n hx hb dX12_count_32 rfl (lv_at hl 0 rfl) ?_
        refine va_get (D := G.1) (ci := 9) (v := .int 0) (C := RX12) (T := TX12) (N := 134) hx hb hq pin_wsX120 hown hE.1.1 hP 0 rfl rfl 85 (by decide) (by rw [tFX12_85]; exact hq _ pw_298) (fun _ h9 => h9) (by rw [e2, List.getElem?_set_ne (by decide), ef]; rfl) dX12_count_33 ?_
        refine lv_goto (tgt := 40) hx hb dX12_count_36 (by decide) ?_
        refine W.widen (k := 0) (n := 0) (Nat.le_of_ble_eq_true rfl) (Nat.le_of_ble_eq_true rfl) ?_
        exact W.iret (v := 0) hx hb hr (fun t ht hW => ⟨⟨_, (), rfl, (by rw [c6]; rfl), by rw [ht]; exact hP.sub [] rfl, hD.sub [] (by decide) rfl⟩, hS.F ht⟩) hS.2.2 dX12_count_40
    · refine lv_aload_n hx hb dX12_count_20 rfl (lv_at hl 0 rfl) ?_
      refine va_get (D := G.1) (ci := 9) (v := .int 0) (C := RX12) (T := TX12) (N := 134) hx hb hq pin_wsX120 hown hE.1.1 hP 0 rfl rfl 2 (by decide) (by rw [tFX12_2]; exact hq _ pw_260) (fun _ h9 => h9) (by rw [e2, List.getElem?_set_ne (by decide), ef]; rfl) dX12_count_21 ?_
      refine lv_goto (tgt := 40) hx hb dX12_count_24 (by decide) ?_
      refine W.widen (k := 0) (n := 0) (Nat.le_of_ble_eq_true rfl) (Nat.le_of_ble_eq_true rfl) ?_
      exact W.iret (v := 0) hx hb hr (fun t ht hW => ⟨⟨_, (), rfl, (by rw [c5]; rfl), by rw [ht]; exact hP.sub [] rfl, hD.sub [] (by decide) rfl⟩, hS.F ht⟩) hS.2.2 dX12_count_40
  · refine lv_iload_n hx hb dX12_count_10 rfl (lv_at hl 1 rfl) ?_
    refine lv_bipush (v := 11) hx hb dX12_count_11 (by decide) ?_
    refine lv_icmp_le (tgt := 41) hx hb dX12_count_13 (by decide) (fun c7 => ?_) (fun c7 => ?_)
    · refine lv_iload_n hx hb dX12_count_41 rfl (lv_at hl 1 rfl) ?_
      refine lv_iconst (v := 5) hx hb dX12_count_42 (by decide) ?_
      refine lv_icmp_ge (tgt := 86) hx hb dX12_count_43 (by decide) (fun c8 => ?_) (fun c8 => ?_)
      · refine lv_aload_n hx hb dX12_count_86 rfl (lv_at hl 0 rfl) ?_
        refine va_get (D := G.1) (ci := 9) (v := .int 0) (C := RX12) (T := TX12) (N := 134) hx hb hq pin_wsX120 hown hE.1.1 hP 0 rfl rfl 83 (by decide) (by rw [tFX12_83]; exact hq _ pw_285) (fun _ h9 => h9) (by rw [e2, List.getElem?_set_ne (by decide), ef]; rfl) dX12_count_87 ?_
        refine lv_if_ne (tgt := 95) hx hb dX12_count_90 (by decide) (fun c9 => absurd c9 (by decide)) (fun c9 => ?_)
        refine lv_iconst (v := 0) hx hb dX12_count_93 (by decide) ?_
        refine W.widen (k := 0) (n := 0) (Nat.le_of_ble_eq_true rfl) (Nat.le_of_ble_eq_true rfl) ?_
        exact W.iret (v := 0) hx hb hr (fun t ht hW => ⟨⟨_, (), rfl, (by rw [cnt_mid c4 c7]), by rw [ht]; exact hP.sub [] rfl, hD.sub [] (by decide) rfl⟩, hS.F ht⟩) hS.2.2 dX12_count_94
      · refine lv_aload_n hx hb dX12_count_46 rfl (lv_at hl 0 rfl) ?_
        refine va_get (D := G.1) (ci := 9) (v := .int 0) (C := RX12) (T := TX12) (N := 134) hx hb hq pin_wsX120 hown hE.1.1 hP 0 rfl rfl 82 (by decide) (by rw [tFX12_82]; exact hq _ pw_284) (fun _ h9 => h9) (by rw [e2, List.getElem?_set_ne (by decide), ef]; rfl) dX12_count_47 ?_
        refine lv_if_ne (tgt := 57) hx hb dX12_count_50 (by decide) (fun c10 => absurd c10 (by decide)) (fun c10 => ?_)
        refine lv_iconst (v := 0) hx hb dX12_count_53 (by decide) ?_
        refine lv_goto (tgt := 85) hx hb dX12_count_54 (by decide) ?_
        refine W.widen (k := 0) (n := 0) (Nat.le_of_ble_eq_true rfl) (Nat.le_of_ble_eq_true rfl) ?_
        exact W.iret (v := 0) hx hb hr (fun t ht hW => ⟨⟨_, (), rfl, (by rw [cnt_mid c4 c7]), by rw [ht]; exact hP.sub [] rfl, hD.sub [] (by decide) rfl⟩, hS.F ht⟩) hS.2.2 dX12_count_85
    · refine lv_iload_n hx hb dX12_count_16 rfl (lv_at hl 1 rfl) ?_
      refine lv_if_ne (tgt := 27) hx hb dX12_count_17 (by decide) (fun c11 => ?_) (fun c11 => ?_)
      · refine lv_iload_n hx hb dX12_count_27 rfl (lv_at hl 1 rfl) ?_
        refine lv_iconst (v := 1) hx hb dX12_count_28 (by decide) ?_
        refine lv_icmp_ne (tgt := 39) hx hb dX12_count_29 (by decide) (fun c12 => ?_) (fun c12 => ?_)
        · refine lv_iconst (v := (-1)) hx hb dX12_count_39 (by decide) ?_
          refine W.widen (k := 0) (n := 0) (Nat.le_of_ble_eq_true rfl) (Nat.le_of_ble_eq_true rfl) ?_
          exact W.iret (v := (-1)) hx hb hr (fun t ht hW => ⟨⟨_, (), rfl, (by rw [cnt_hi c7]), by rw [ht]; exact hP.sub [] rfl, hD.sub [] (by decide) rfl⟩, hS.F ht⟩) hS.2.2 dX12_count_40
        · refine lv_aload_n hx hb dX12_count_32 rfl (lv_at hl 0 rfl) ?_
          refine va_get (D := G.1) (ci := 9) (v := .int 0) (C := RX12) (T := TX12) (N := 134) hx hb hq pin_wsX120 hown hE.1.1 hP 0 rfl rfl 85 (by decide) (by rw [tFX12_85]; exact hq _ pw_298) (fun _ h9 => h9) (by rw [e2, List.getElem?_set_ne (by decide), ef]; rfl) dX12_count_33 ?_
          refine lv_goto (tgt := 40) hx hb dX12_count_36 (by decide) ?_
          refine W.widen (k := 0) (n := 0) (Nat.le_of_ble_eq_true rfl) (Nat.le_of_ble_eq_true rfl) ?_
          exact W.iret (v := 0) hx hb hr (fun t ht hW => ⟨⟨_, (), rfl, (absurd (by rw [c12]; decide) c7), by rw [ht]; exact hP.sub [] rfl, hD.sub [] (by decide) rfl⟩, hS.F ht⟩) hS.2.2 dX12_count_40
      · refine lv_aload_n hx hb dX12_count_20 rfl (lv_at hl 0 rfl) ?_
        refine va_get (D := G.1) (ci := 9) (v := .int 0) (C := RX12) (T := TX12) (N := 134) hx hb hq pin_wsX120 hown hE.1.1 hP 0 rfl rfl 2 (by decide) (by rw [tFX12_2]; exact hq _ pw_260) (fun _ h9 => h9) (by rw [e2, List.getElem?_set_ne (by decide), ef]; rfl) dX12_count_21 ?_
        refine lv_goto (tgt := 40) hx hb dX12_count_24 (by decide) ?_
        refine W.widen (k := 0) (n := 0) (Nat.le_of_ble_eq_true rfl) (Nat.le_of_ble_eq_true rfl) ?_
        exact W.iret (v := 0) hx hb hr (fun t ht hW => ⟨⟨_, (), rfl, (absurd (by rw [c11]; decide) c7), by rw [ht]; exact hP.sub [] rfl, hD.sub [] (by decide) rfl⟩, hS.F ht⟩) hS.2.2 dX12_count_40
theorem dX12_in_10 : decode cX12_in 10 = .ok (.iconst 1, 1) := by decide +kernel
theorem dX12_in_11 : decode cX12_in 11 = .ok (.goto 4, 3) := by decide +kernel
set_option maxHeartbeats 1000000 in
set_option maxRecDepth 100000 in
/-- in(x, low, high) -/
theorem m_in (l : Launch) (G : pT) (x : Int32) (lo : Int32) (hi : Int32) : PM l G pX0 yX12_in cX12_in 3 (some .boolean) ({ frames := 2, cells := 0, slots := 0, locals := 60 }) [.int x, .int lo, .int hi] [] (fun (v : Option Value) (u : Unit) => v = some (.int (isin x lo hi))) (fun u => []) := by
  intro sz
  refine Met.ofW (cc := cX12_in) (maxL := 3) (ret := (some .boolean)) (by decide) rfl ?_
  intro p e s m args below meth c s₁ B hml hv
  obtain ⟨rfl, hsz, hP, hD0, hE, hX⟩ := hv
  have hx := B.exec
  have hb := B.bytes
  have hr := B.returns
  have hts := atoms_spec (ws := Cond.code yX12_in cX12_in 3 (some .boolean) :: pw) B.pre
  have hq : ∀ w ∈ pw, w.before _ s = true := fun w h => hts w (List.mem_cons_of_mem _ h)
  have hown : s.vm.findClass RX12 = some m.cls := findClass_of_methodNamed B.named
  have hlocks := B.notSynchronized
  subst hsz
  have hD := hD0.self (sz := s.heap.size)
  have hA : ∀ q : Nat, s.heap.size ≤ q → va_A [] s.heap.size q := fun q h => Or.inr h
  have hP : va_P G.1 pCl [] s.heap := hP
  generalize va_A [] s.heap.size = A at hD hE hA ⊢
  have hS : va_S A s.heap s.heap [] := va_S.rf
  have hl := lv_entry ([.int x, .int lo, .int hi]) (n := 3) (Nat.le_of_ble_eq_true rfl)
  rw [lg_entry_eq]
  generalize (lg_sl ([.int x, .int lo, .int hi]) ++ List.replicate (3 - (lg_sl ([.int x, .int lo, .int hi])).length) Slot.unset).toArray = ls at hl ⊢
  have hl : lv_has ls 3 [(0, .int x), (1, .int lo), (2, .int hi)] := hl
  refine lv_iload_n hx hb dX12_in_0 rfl (lv_at hl 0 rfl) ?_
  refine lv_iload_n hx hb dX12_in_1 rfl (lv_at hl 1 rfl) ?_
  refine lv_icmp_lt (tgt := 14) hx hb dX12_in_2 (by decide) (fun c1 => ?_) (fun c1 => ?_)
  · refine lv_iconst (v := 0) hx hb dX12_in_14 (by decide) ?_
    refine W.widen (k := 0) (n := 0) (Nat.le_of_ble_eq_true rfl) (Nat.le_of_ble_eq_true rfl) ?_
    exact W.zret (v := 0) hx hb hr rfl (fun t ht hW => ⟨⟨_, (), rfl, (by unfold isin; rw [if_pos (Or.inl c1)]), by rw [ht]; exact hP.sub [] rfl, hD.sub [] (by decide) rfl⟩, hS.F ht⟩) hS.2.2 dX12_in_15
  · refine lv_iload_n hx hb dX12_in_5 rfl (lv_at hl 0 rfl) ?_
    refine lv_iload_n hx hb dX12_in_6 rfl (lv_at hl 2 rfl) ?_
    refine lv_icmp_gt (tgt := 14) hx hb dX12_in_7 (by decide) (fun c2 => ?_) (fun c2 => ?_)
    · refine lv_iconst (v := 0) hx hb dX12_in_14 (by decide) ?_
      refine W.widen (k := 0) (n := 0) (Nat.le_of_ble_eq_true rfl) (Nat.le_of_ble_eq_true rfl) ?_
      exact W.zret (v := 0) hx hb hr rfl (fun t ht hW => ⟨⟨_, (), rfl, (by unfold isin; rw [if_pos (Or.inr c2)]), by rw [ht]; exact hP.sub [] rfl, hD.sub [] (by decide) rfl⟩, hS.F ht⟩) hS.2.2 dX12_in_15
    · refine lv_iconst (v := 1) hx hb dX12_in_10 (by decide) ?_
      refine lv_goto (tgt := 15) hx hb dX12_in_11 (by decide) ?_
      refine W.widen (k := 0) (n := 0) (Nat.le_of_ble_eq_true rfl) (Nat.le_of_ble_eq_true rfl) ?_
      exact W.zret (v := 1) hx hb hr rfl (fun t ht hW => ⟨⟨_, (), rfl, (by unfold isin; rw [if_neg (fun q => q.elim c1 c2)]), by rw [ht]; exact hP.sub [] rfl, hD.sub [] (by decide) rfl⟩, hS.F ht⟩) hS.2.2 dX12_in_15
