theorem own_not {X : Nat → Nat → Int32} {k f d : Nat} (ed : X 32 f = nI d) (hd : d < 2 ^ 31) (hk : k < 2 ^ 31) (h1 : ¬ d = k) (h2 : X 31 (40 * d + k) = 0) : ¬ owF X k f = true := fun h => by
  unfold owF at h
  rw [ed, nI_cl hd, h2] at h
  rcases (Bool.or_eq_true _ _).mp h with q | q
  · exact h1 ((nI_eq hd hk).mp (eq_of_beq q))
  · exact absurd (eq_of_beq q) (by decide)
theorem ge_two {x : Int32} (h : ¬ x < 2) : ∃ z : Nat, x = nI (z + 2) ∧ z < 2147483646 := by
  obtain ⟨k, rfl, hk⟩ := nI_nn2 (x := x) (fun q => h (by rw [Int32.lt_iff_toInt_lt] at q ⊢; have z1 : (0 : Int32).toInt = 0 := by decide
                                                        have z2 : (2 : Int32).toInt = 2 := by decide
                                                        omega))
  have h2 : ¬ k < 2 := fun q => h ((nI_ltI (a := k) (b := 2) (by omega) (by omega)).mpr q)
  exact ⟨k - 2, by rw [show k - 2 + 2 = k by omega], by omega⟩
theorem dX12_thrown_0 : decode cX12_thrown 0 = .ok (.aload_n 0, 1) := by decide +kernel
theorem dX12_thrown_1 : decode cX12_thrown 1 = .ok (.iconst 0, 1) := by decide +kernel
theorem dX12_thrown_2 : decode cX12_thrown 2 = .ok (.putfield 252, 3) := by decide +kernel
theorem dX12_thrown_5 : decode cX12_thrown 5 = .ok (.aload_n 0, 1) := by decide +kernel
theorem dX12_thrown_6 : decode cX12_thrown 6 = .ok (.getfield 233, 3) := by decide +kernel
theorem dX12_thrown_9 : decode cX12_thrown 9 = .ok (.iconst 1, 1) := by decide +kernel
theorem dX12_thrown_10 : decode cX12_thrown 10 = .ok (.if_icmp .eq 5, 3) := by decide +kernel
theorem dX12_thrown_15 : decode cX12_thrown 15 = .ok (.aload_n 0, 1) := by decide +kernel
theorem dX12_thrown_16 : decode cX12_thrown 16 = .ok (.aload_n 0, 1) := by decide +kernel
theorem dX12_thrown_17 : decode cX12_thrown 17 = .ok (.getfield 766, 3) := by decide +kernel
theorem dX12_thrown_20 : decode cX12_thrown 20 = .ok (.invokevirtual 745, 3) := by decide +kernel
theorem dX12_thrown_23 : decode cX12_thrown 23 = .ok (.istore_n 2, 1) := by decide +kernel
theorem dX12_thrown_24 : decode cX12_thrown 24 = .ok (.aload_n 0, 1) := by decide +kernel
theorem dX12_thrown_25 : decode cX12_thrown 25 = .ok (.getfield 766, 3) := by decide +kernel
theorem dX12_thrown_28 : decode cX12_thrown 28 = .ok (.sipush 4000, 3) := by decide +kernel
theorem dX12_thrown_31 : decode cX12_thrown 31 = .ok (.if_icmp .le 7, 3) := by decide +kernel
theorem dX12_thrown_38 : decode cX12_thrown 38 = .ok (.aload_n 0, 1) := by decide +kernel
theorem dX12_thrown_39 : decode cX12_thrown 39 = .ok (.getfield 184, 3) := by decide +kernel
theorem dX12_thrown_42 : decode cX12_thrown 42 = .ok (.aload_n 0, 1) := by decide +kernel
theorem dX12_thrown_43 : decode cX12_thrown 43 = .ok (.getfield 766, 3) := by decide +kernel
theorem dX12_thrown_46 : decode cX12_thrown 46 = .ok (.iconst 1, 1) := by decide +kernel
theorem dX12_thrown_47 : decode cX12_thrown 47 = .ok (.isub, 1) := by decide +kernel
theorem dX12_thrown_48 : decode cX12_thrown 48 = .ok (.iaload, 1) := by decide +kernel
theorem dX12_thrown_49 : decode cX12_thrown 49 = .ok (.istore_n 3, 1) := by decide +kernel
theorem dX12_thrown_50 : decode cX12_thrown 50 = .ok (.iload_n 1, 1) := by decide +kernel
theorem dX12_thrown_51 : decode cX12_thrown 51 = .ok (.iconst 2, 1) := by decide +kernel
theorem dX12_thrown_52 : decode cX12_thrown 52 = .ok (.if_icmp .lt 10, 3) := by decide +kernel
theorem dX12_thrown_62 : decode cX12_thrown 62 = .ok (.iload_n 1, 1) := by decide +kernel
theorem dX12_thrown_63 : decode cX12_thrown 63 = .ok (.ifCond .ne 7, 3) := by decide +kernel
theorem dX12_thrown_70 : decode cX12_thrown 70 = .ok (.iload_n 1, 1) := by decide +kernel
theorem dX12_thrown_71 : decode cX12_thrown 71 = .ok (.iconst 1, 1) := by decide +kernel
theorem dX12_thrown_72 : decode cX12_thrown 72 = .ok (.if_icmp .ne 7, 3) := by decide +kernel
theorem dX12_thrown_79 : decode cX12_thrown 79 = .ok (.iconst (-1), 1) := by decide +kernel
theorem dX12_thrown_80 : decode cX12_thrown 80 = .ok (.ireturn, 1) := by decide +kernel
theorem dX12_thrown_75 : decode cX12_thrown 75 = .ok (.iload_n 3, 1) := by decide +kernel
theorem dX12_thrown_76 : decode cX12_thrown 76 = .ok (.goto 4, 3) := by decide +kernel
theorem dX12_thrown_66 : decode cX12_thrown 66 = .ok (.iload_n 2, 1) := by decide +kernel
theorem dX12_thrown_67 : decode cX12_thrown 67 = .ok (.goto 13, 3) := by decide +kernel
theorem dX12_thrown_55 : decode cX12_thrown 55 = .ok (.iload_n 1, 1) := by decide +kernel
theorem dX12_thrown_56 : decode cX12_thrown 56 = .ok (.iconst 2, 1) := by decide +kernel
theorem dX12_thrown_57 : decode cX12_thrown 57 = .ok (.isub, 1) := by decide +kernel
theorem dX12_thrown_58 : decode cX12_thrown 58 = .ok (.iload_n 3, 1) := by decide +kernel
theorem dX12_thrown_59 : decode cX12_thrown 59 = .ok (.if_icmp .lt 22, 3) := by decide +kernel
theorem dX12_thrown_81 : decode cX12_thrown 81 = .ok (.iconst 0, 1) := by decide +kernel
theorem dX12_thrown_82 : decode cX12_thrown 82 = .ok (.istore 4, 2) := by decide +kernel
theorem dX12_thrown_84 : decode cX12_thrown 84 = .ok (.aload_n 0, 1) := by decide +kernel
theorem dX12_thrown_85 : decode cX12_thrown 85 = .ok (.getfield 108, 3) := by decide +kernel
theorem dX12_thrown_88 : decode cX12_thrown 88 = .ok (.iload 4, 2) := by decide +kernel
theorem dX12_thrown_90 : decode cX12_thrown 90 = .ok (.iaload, 1) := by decide +kernel
theorem dX12_thrown_91 : decode cX12_thrown 91 = .ok (.iload_n 2, 1) := by decide +kernel
theorem dX12_thrown_92 : decode cX12_thrown 92 = .ok (.if_icmp .eq 18, 3) := by decide +kernel
theorem dX12_thrown_110 : decode cX12_thrown 110 = .ok (.aload_n 0, 1) := by decide +kernel
theorem dX12_thrown_111 : decode cX12_thrown 111 = .ok (.getfield 171, 3) := by decide +kernel
theorem dX12_thrown_114 : decode cX12_thrown 114 = .ok (.iload 4, 2) := by decide +kernel
theorem dX12_thrown_116 : decode cX12_thrown 116 = .ok (.iaload, 1) := by decide +kernel
theorem dX12_thrown_117 : decode cX12_thrown 117 = .ok (.iload_n 1, 1) := by decide +kernel
theorem dX12_thrown_118 : decode cX12_thrown 118 = .ok (.iconst 2, 1) := by decide +kernel
theorem dX12_thrown_119 : decode cX12_thrown 119 = .ok (.isub, 1) := by decide +kernel
theorem dX12_thrown_120 : decode cX12_thrown 120 = .ok (.if_icmp .eq 9, 3) := by decide +kernel
theorem dX12_thrown_129 : decode cX12_thrown 129 = .ok (.aload_n 0, 1) := by decide +kernel
theorem dX12_thrown_130 : decode cX12_thrown 130 = .ok (.getfield 193, 3) := by decide +kernel
theorem dX12_thrown_133 : decode cX12_thrown 133 = .ok (.aload_n 0, 1) := by decide +kernel
theorem dX12_thrown_134 : decode cX12_thrown 134 = .ok (.getfield 187, 3) := by decide +kernel
theorem dX12_thrown_137 : decode cX12_thrown 137 = .ok (.aload_n 0, 1) := by decide +kernel
theorem dX12_thrown_138 : decode cX12_thrown 138 = .ok (.getfield 766, 3) := by decide +kernel
theorem dX12_thrown_141 : decode cX12_thrown 141 = .ok (.iconst 1, 1) := by decide +kernel
theorem dX12_thrown_142 : decode cX12_thrown 142 = .ok (.isub, 1) := by decide +kernel
theorem dX12_thrown_143 : decode cX12_thrown 143 = .ok (.iaload, 1) := by decide +kernel
theorem dX12_thrown_144 : decode cX12_thrown 144 = .ok (.iload_n 1, 1) := by decide +kernel
theorem dX12_thrown_145 : decode cX12_thrown 145 = .ok (.iadd, 1) := by decide +kernel
theorem dX12_thrown_146 : decode cX12_thrown 146 = .ok (.iconst 2, 1) := by decide +kernel
theorem dX12_thrown_147 : decode cX12_thrown 147 = .ok (.isub, 1) := by decide +kernel
theorem dX12_thrown_148 : decode cX12_thrown 148 = .ok (.iaload, 1) := by decide +kernel
theorem dX12_thrown_149 : decode cX12_thrown 149 = .ok (.istore 5, 2) := by decide +kernel
theorem dX12_thrown_151 : decode cX12_thrown 151 = .ok (.aload_n 0, 1) := by decide +kernel
theorem dX12_thrown_152 : decode cX12_thrown 152 = .ok (.aload_n 0, 1) := by decide +kernel
theorem dX12_thrown_153 : decode cX12_thrown 153 = .ok (.getfield 75, 3) := by decide +kernel
theorem dX12_thrown_156 : decode cX12_thrown 156 = .ok (.aload_n 0, 1) := by decide +kernel
theorem dX12_thrown_157 : decode cX12_thrown 157 = .ok (.getfield 117, 3) := by decide +kernel
theorem dX12_thrown_160 : decode cX12_thrown 160 = .ok (.iload 4, 2) := by decide +kernel
theorem dX12_thrown_162 : decode cX12_thrown 162 = .ok (.iaload, 1) := by decide +kernel
theorem dX12_thrown_163 : decode cX12_thrown 163 = .ok (.iaload, 1) := by decide +kernel
theorem dX12_thrown_164 : decode cX12_thrown 164 = .ok (.invokevirtual 525, 3) := by decide +kernel
theorem dX12_thrown_167 : decode cX12_thrown 167 = .ok (.ifCond .eq 16, 3) := by decide +kernel
theorem dX12_thrown_183 : decode cX12_thrown 183 = .ok (.iload 5, 2) := by decide +kernel
theorem dX12_thrown_185 : decode cX12_thrown 185 = .ok (.ireturn, 1) := by decide +kernel
theorem dX12_thrown_170 : decode cX12_thrown 170 = .ok (.iload 5, 2) := by decide +kernel
theorem dX12_thrown_172 : decode cX12_thrown 172 = .ok (.ifCond .ne 7, 3) := by decide +kernel
theorem dX12_thrown_179 : decode cX12_thrown 179 = .ok (.iconst 1, 1) := by decide +kernel
theorem dX12_thrown_180 : decode cX12_thrown 180 = .ok (.goto 5, 3) := by decide +kernel
theorem dX12_thrown_175 : decode cX12_thrown 175 = .ok (.iconst 0, 1) := by decide +kernel
theorem dX12_thrown_176 : decode cX12_thrown 176 = .ok (.goto 9, 3) := by decide +kernel
theorem dX12_thrown_123 : decode cX12_thrown 123 = .ok (.iinc 4 1, 3) := by decide +kernel
theorem dX12_thrown_126 : decode cX12_thrown 126 = .ok (.goto (-42), 3) := by decide +kernel
theorem dX12_thrown_95 : decode cX12_thrown 95 = .ok (.aload_n 0, 1) := by decide +kernel
theorem dX12_thrown_96 : decode cX12_thrown 96 = .ok (.aload_n 0, 1) := by decide +kernel
theorem dX12_thrown_97 : decode cX12_thrown 97 = .ok (.getfield 108, 3) := by decide +kernel
theorem dX12_thrown_100 : decode cX12_thrown 100 = .ok (.iload 4, 2) := by decide +kernel
theorem dX12_thrown_102 : decode cX12_thrown 102 = .ok (.iaload, 1) := by decide +kernel
theorem dX12_thrown_103 : decode cX12_thrown 103 = .ok (.iload_n 2, 1) := by decide +kernel
theorem dX12_thrown_104 : decode cX12_thrown 104 = .ok (.invokevirtual 518, 3) := by decide +kernel
theorem dX12_thrown_107 : decode cX12_thrown 107 = .ok (.ifCond .eq 16, 3) := by decide +kernel
theorem dX12_thrown_34 : decode cX12_thrown 34 = .ok (.iconst 0, 1) := by decide +kernel
theorem dX12_thrown_35 : decode cX12_thrown 35 = .ok (.goto 14, 3) := by decide +kernel
theorem dX12_thrown_13 : decode cX12_thrown 13 = .ok (.iconst (-1), 1) := by decide +kernel
theorem dX12_thrown_14 : decode cX12_thrown 14 = .ok (.ireturn, 1) := by decide +kernel
set_option maxHeartbeats 20000000 in
set_option maxRecDepth 100000 in
/-- thrown(what) -/
theorem R_thrownW (l : Launch) (G : pT) (h0 : Nat) (a : Nat → Nat) (F : Nat → Int32) (B : Nat → Nat → Int32) (Xs : Nat → Nat → Int32) (gh : Nat → Nat → Nat) (nd : Nat) (T : Nat) (nm : Nat) (wr : Nat) (lz : Nat) (dc : Nat) (fd : Nat) (md : Nat) (pr : Nat) (bk : Nat) (M : MTb) (on : Nat) (idn : Nat) (fl : Nat) (c9 : Nat) (ct : Nat) (en : Int32) (uc : Int32) (x : Int32) (hth : If (en = 1) (Pg Xs B gh nd T nm wr lz dc fd md pr bk M ∧ Hp Xs B dc fd on idn fl c9 ct ∧ Thr B on dc uc)) : PM l G pX0 yX12_thrown cX12_thrown 6 (some .int) ({ frames := 3, cells := 0, slots := 0, locals := 82 }) [.ref h0, .int x] (mW G h0 a (upd (upd (upd F 44 (nI fd)) 116 en) 119 uc) B) (fun (v : Option Value) (u : Int32) => v = some (.int u)) (fun u => (mW G h0 a (upd (upd (upd (upd F 0 0) 44 (nI fd)) 116 en) 119 uc) B)) := by
  intro sz
  refine Met.ofW (cc := cX12_thrown) (maxL := 6) (ret := (some .int)) (by decide) rfl ?_
  intro p e s m args below meth c s₁ B9 hml hv
  obtain ⟨rfl, hsz, hP, hD0, hE, hX⟩ := hv
  have hx := B9.exec
  have hb := B9.bytes
  have hr := B9.returns
  have hts := atoms_spec (ws := Cond.code yX12_thrown cX12_thrown 6 (some .int) :: pw) B9.pre
  have hq : ∀ w ∈ pw, w.before _ s = true := fun w h => hts w (List.mem_cons_of_mem _ h)
  have hown : s.vm.findClass RX12 = some m.cls := findClass_of_methodNamed B9.named
  have hlocks := B9.notSynchronized
  subst hsz
  have hD := hD0.self (sz := s.heap.size)
  have hA : ∀ q : Nat, s.heap.size ≤ q → va_A (mW G h0 a (upd (upd (upd F 44 (nI fd)) 116 en) 119 uc) B) s.heap.size q := fun q h => Or.inr h
  have hP : va_P G.1 pCl (mW G h0 a (upd (upd (upd F 44 (nI fd)) 116 en) 119 uc) B) s.heap := hP
  generalize va_A (mW G h0 a (upd (upd (upd F 44 (nI fd)) 116 en) 119 uc) B) s.heap.size = A at hD hE hA ⊢
  have hS : va_S A s.heap s.heap [] := va_S.rf
  have hl := lv_entry ([.ref h0, .int x]) (n := 6) (Nat.le_of_ble_eq_true rfl)
  rw [lg_entry_eq]
  generalize (lg_sl ([.ref h0, .int x]) ++ List.replicate (6 - (lg_sl ([.ref h0, .int x])).length) Slot.unset).toArray = ls at hl ⊢
  have hl : lv_has ls 6 [(0, .ref h0), (1, .int x)] := hl
  refine lv_aload_n hx hb dX12_thrown_0 rfl (lv_at hl 0 rfl) ?_
  refine lv_iconst (v := 0) hx hb dX12_thrown_1 (by decide) ?_
  refine r_put (v := 0) (ty := .int) hx hb hown hq hE hP hD hS 0 252 tFX12_0 (by decide) pw_1515 (by decide) rfl rfl (ms_0 a _ _) dX12_thrown_2 (fun H locs hP hD hS => ?_)
  refine lv_aload_n hx hb dX12_thrown_5 rfl (lv_at hl 0 rfl) ?_
  refine r_get (v := .int en) hx hb hown hq hE hP 116 233 tFX12_116 (by decide) pw_1506 rfl dX12_thrown_6 ?_
  refine lv_iconst (v := 1) hx hb dX12_thrown_9 (by decide) ?_
  refine lv_icmp_eq (tgt := 15) hx hb dX12_thrown_10 (by decide) (fun c1 => ?_) (fun c1 => ?_)
  · obtain ⟨hPg, hHp, hT0⟩ := hth c1
    have hbd := hPg.bd
    have hw31 : B 31 = Xs 31 := hPg.row 31 (by omega) (by omega) (by omega) (by omega) (by omega)
    have hw32 : B 32 = Xs 32 := hPg.row 32 (by omega) (by omega) (by omega) (by omega) (by omega)
    have hw35 : B 35 = Xs 35 := hPg.row 35 (by omega) (by omega) (by omega) (by omega) (by omega)
    have hw21 : B 21 = Xs 21 := hPg.row 21 (by omega) (by omega) (by omega) (by omega) (by omega)
    have hfb := hPg.ab.1
    obtain ⟨u9, k9, hu1, hu2, hu3, hu4, hu5⟩ := Thr.got hPg hHp hT0
    subst hu1
    have hP : va_P G.1 pCl (mW G h0 a (upd (upd (upd (upd F 0 0) 44 (nI fd)) 116 en) 119 (nI u9)) B) _ := hP
    have hD : va_D A (mW G h0 a (upd (upd (upd (upd F 0 0) 44 (nI fd)) 116 en) 119 (nI u9)) B) := hD
    refine lv_aload_n hx hb dX12_thrown_15 rfl (lv_at hl 0 rfl) ?_
    refine lv_aload_n hx hb dX12_thrown_16 rfl (lv_at hl 0 rfl) ?_
    refine r_get (v := .int (nI u9)) hx hb hown hq hE hP 119 766 tFX12_119 (by decide) pw_2033 rfl dX12_thrown_17 ?_
    have hP : va_P G.1 pCl (mW G h0 a (upd (upd (upd (upd F 0 0) 44 (nI fd)) 116 en) 119 (nI u9)) (updA B 55 (B 55))) _ := hP
    have hD : va_D A (mW G h0 a (upd (upd (upd (upd F 0 0) 44 (nI fd)) 116 en) 119 (nI u9)) (updA B 55 (B 55))) := hD
    refine pc_V0 (G := G) (As := [.int (nI u9)]) (rest := []) hx hb hml hown hq hE hX pX0_al hP hD hS hA hl.1 (R_classOf l G h0 a (upd (upd (upd (upd F 0 0) 44 (nI fd)) 116 en) 119 (nI u9)) B u9 (B 55) (by rcases hu5 with z | ⟨z, _⟩ <;> omega)) (gV pw_1995 pw_1996 pw_1997 pw_1523 pw_1994) hV_X12_classOf 0 9 rfl rfl rfl rfl (Nat.le_of_ble_eq_true rfl) dX12_thrown_20 ⟨Nat.le_of_ble_eq_true rfl, Nat.le_of_ble_eq_true rfl⟩ ⟨Nat.le_of_ble_eq_true rfl, Nat.le_of_ble_eq_true rfl⟩ (fun v4 u2 H locs hw3 hP hD hS => ?_)
    obtain rfl : v4 = some (.int (clF (B 55) u9)) := hw3
    have hP : va_P G.1 pCl (mW G h0 a (upd (upd (upd (upd F 0 0) 44 (nI fd)) 116 en) 119 (nI u9)) B) _ := hP
    have hD : va_D A (mW G h0 a (upd (upd (upd (upd F 0 0) 44 (nI fd)) 116 en) 119 (nI u9)) B) := hD
    refine W.widen (k := 0) (n := 0) (Nat.le_of_ble_eq_true rfl) (Nat.le_of_ble_eq_true rfl) ?_
    refine W.eq (g2 := F0 m 23 ls [.int (clF (B 55) u9)]) rfl ?_
    refine lv_topi (fun x5 e6 => ?_)
    obtain rfl : x5 = nI k9 := e6.trans hu3
    refine lv_istore_n (lv' := [(2, .int (nI k9)), (0, .ref h0), (1, .int x)]) hx hb dX12_thrown_23 rfl hl (by decide) rfl (fun ls hl => ?_)
    refine lv_aload_n hx hb dX12_thrown_24 rfl (lv_at hl 1 rfl) ?_
    refine r_get (v := .int (nI u9)) hx hb hown hq hE hP 119 766 tFX12_119 (by decide) pw_2033 rfl dX12_thrown_25 ?_
    refine lv_sipush (v := 4000) hx hb dX12_thrown_28 (by decide) ?_
    rcases hu5 with hu6 | ⟨hu6, q9, p9, hq1, hq2, hp1, hp2, hfo⟩
    · refine lv_icmp_le (tgt := 38) hx hb dX12_thrown_31 (by decide) (fun c7 => ?_) (fun c7 => ?_)
      · have n8 : u9 ≤ 4000 := (nI_leI (a := u9) (b := 4000) (by omega) (by omega)).mp c7
        refine lv_aload_n hx hb dX12_thrown_38 rfl (lv_at hl 1 rfl) ?_
        refine r_get (v := .ref (a 57)) hx hb hown hq hE hP 93 184 tFX12_93 (by decide) pw_1489 rfl dX12_thrown_39 ?_
        refine lv_aload_n hx hb dX12_thrown_42 rfl (lv_at hl 1 rfl) ?_
        refine r_get (v := .int (nI u9)) hx hb hown hq hE hP 119 766 tFX12_119 (by decide) pw_2033 rfl dX12_thrown_43 ?_
        refine lv_iconst (v := 1) hx hb dX12_thrown_46 (by decide) ?_
        refine lv_isub hx hb dX12_thrown_47 ?_
        refine lv_topi (fun x9 e10 => ?_)
        obtain rfl : x9 = nI (u9 - 1) := e10.trans (nI_subN (a := 1) (b := u9) (by omega))
        refine r_ldi (f := (B 57)) (j := (u9 - 1)) hx hb hE hP 57 (ma_57 G a _) rfl (by omega) (by decide) dX12_thrown_48 ?_
        refine lv_topi (fun x11 e12 => ?_)
        obtain rfl : x11 = nI q9 := e12.trans hq1
        refine lv_istore_n (lv' := [(3, .int (nI q9)), (2, .int (nI k9)), (0, .ref h0), (1, .int x)]) hx hb dX12_thrown_49 rfl hl (by decide) rfl (fun ls hl => ?_)
        refine lv_iload_n hx hb dX12_thrown_50 rfl (lv_at hl 3 rfl) ?_
        refine lv_iconst (v := 2) hx hb dX12_thrown_51 (by decide) ?_
        refine lv_icmp_lt (tgt := 62) hx hb dX12_thrown_52 (by decide) (fun c13 => ?_) (fun c13 => ?_)
        · refine lv_iload_n hx hb dX12_thrown_62 rfl (lv_at hl 3 rfl) ?_
          refine lv_if_ne (tgt := 70) hx hb dX12_thrown_63 (by decide) (fun c14 => ?_) (fun c14 => ?_)
          · refine lv_iload_n hx hb dX12_thrown_70 rfl (lv_at hl 3 rfl) ?_
            refine lv_iconst (v := 1) hx hb dX12_thrown_71 (by decide) ?_
            refine lv_icmp_ne (tgt := 79) hx hb dX12_thrown_72 (by decide) (fun c15 => ?_) (fun c15 => ?_)
            · refine lv_iconst (v := (-1)) hx hb dX12_thrown_79 (by decide) ?_
              have hP : va_P G.1 pCl (mW G h0 a (upd (upd (upd (upd F 0 0) 44 (nI fd)) 116 en) 119 uc) B) _ := hP
              have hD : va_D A (mW G h0 a (upd (upd (upd (upd F 0 0) 44 (nI fd)) 116 en) 119 uc) B) := hD
              exact W.iret (v := (-1)) hx hb hr (fun t9 ht9 hW9 => ⟨⟨_, ((-1) : Int32), rfl, rfl, by rw [ht9]; exact hP, hD⟩, hS.F ht9⟩) hS.2.2 dX12_thrown_80
            · refine lv_iload_n hx hb dX12_thrown_75 rfl (lv_at hl 0 rfl) ?_
              refine lv_goto (tgt := 80) hx hb dX12_thrown_76 (by decide) ?_
              have hP : va_P G.1 pCl (mW G h0 a (upd (upd (upd (upd F 0 0) 44 (nI fd)) 116 en) 119 uc) B) _ := hP
              have hD : va_D A (mW G h0 a (upd (upd (upd (upd F 0 0) 44 (nI fd)) 116 en) 119 uc) B) := hD
              exact W.iret (v := (nI q9)) hx hb hr (fun t9 ht9 hW9 => ⟨⟨_, (nI q9), rfl, rfl, by rw [ht9]; exact hP, hD⟩, hS.F ht9⟩) hS.2.2 dX12_thrown_80
          · refine lv_iload_n hx hb dX12_thrown_66 rfl (lv_at hl 1 rfl) ?_
            refine lv_goto (tgt := 80) hx hb dX12_thrown_67 (by decide) ?_
            have hP : va_P G.1 pCl (mW G h0 a (upd (upd (upd (upd F 0 0) 44 (nI fd)) 116 en) 119 uc) B) _ := hP
            have hD : va_D A (mW G h0 a (upd (upd (upd (upd F 0 0) 44 (nI fd)) 116 en) 119 uc) B) := hD
            exact W.iret (v := (nI k9)) hx hb hr (fun t9 ht9 hW9 => ⟨⟨_, (nI k9), rfl, rfl, by rw [ht9]; exact hP, hD⟩, hS.F ht9⟩) hS.2.2 dX12_thrown_80
        · obtain ⟨x9, hx1, hx2⟩ : ∃ z : Nat, x = nI (z + 2) ∧ z < 2147483646 := ge_two c13
          subst hx1
          have hP : va_P G.1 pCl (mW G h0 a (upd (upd (upd (upd F 0 0) 44 (nI fd)) 116 en) 119 (nI u9)) B) _ := hP
          have hD : va_D A (mW G h0 a (upd (upd (upd (upd F 0 0) 44 (nI fd)) 116 en) 119 (nI u9)) B) := hD
          refine lv_iload_n hx hb dX12_thrown_55 rfl (lv_at hl 3 rfl) ?_
          refine lv_iconst (v := 2) hx hb dX12_thrown_56 (by decide) ?_
          refine lv_isub hx hb dX12_thrown_57 ?_
          refine lv_topi (fun x16 e17 => ?_)
          obtain rfl : x16 = nI ((x9 + 2) - 2) := e17.trans (nI_subN (a := 2) (b := (x9 + 2)) (by omega))
          refine lv_iload_n hx hb dX12_thrown_58 rfl (lv_at hl 0 rfl) ?_
          refine lv_icmp_lt (tgt := 81) hx hb dX12_thrown_59 (by decide) (fun c18 => ?_) (fun c18 => ?_)
          · have n19 : ((x9 + 2) - 2) < q9 := (nI_ltI (a := ((x9 + 2) - 2)) (b := q9) (by omega) (by omega)).mp c18
            refine lv_iconst (v := 0) hx hb dX12_thrown_81 (by decide) ?_
            refine lv_istore (lv' := [(4, .int 0), (3, .int (nI q9)), (2, .int (nI k9)), (0, .ref h0), (1, .int (nI (x9 + 2)))]) hx hb dX12_thrown_82 hl (by decide) rfl (fun ls hl => ?_)
            have loop_f : ∀ (n_f : Nat) (f2 : Nat) (H : Heap) (locs : List Loc) (ls : Array Slot), f2 ≤ f0 → f0 + 1 ≤ f2 + n_f → va_P G.1 pCl (mW G h0 a (upd (upd (upd (upd F 0 0) 44 (nI fd)) 116 en) 119 (nI u9)) B) H → va_D A (mW G h0 a (upd (upd (upd (upd F 0 0) 44 (nI fd)) 116 en) 119 (nI u9)) B) → va_S A s.heap H locs → lv_has ls 6 [(4, .int (nI f2)), (3, .int (nI q9)), (2, .int (nI k9)), (1, .int (nI (x9 + 2))), (0, .ref h0)] → W p l e (headSpec (Cond.code yX12_thrown cX12_thrown 6 (some .int) :: pw) ({ frames := 3, cells := 0, slots := 0, locals := 82 } : Room)).room s m ([.ref h0, .int x] : List Value).toArray below meth c H locs 0 0 (MQ below (pQ G A (fun (v : Option Value) (u : Int32) => v = some (.int u)) (fun u => (mW G h0 a (upd (upd (upd (upd F 0 0) 44 (nI fd)) 116 en) 119 uc) B))) ([.ref h0, .int x] : List Value).toArray s ({ frames := 3, cells := 0, slots := 0, locals := 82 } : Room).cells ({ frames := 3, cells := 0, slots := 0, locals := 82 } : Room).slots A) (F0 m 84 ls []) := by
              intro n_f
              induction n_f with
              | zero => intro f2 H locs ls hk_f hn_f; omega
              | succ n_f ih_f =>
                intro f2 H locs ls hk_f hn_f hP hD hS hl
                refine lv_aload_n hx hb dX12_thrown_84 rfl (lv_at hl 4 rfl) ?_
                refine r_get (v := .ref (a 32)) hx hb hown hq hE hP 45 108 tFX12_45 (by decide) pw_1463 rfl dX12_thrown_85 ?_
                refine lv_iload hx hb dX12_thrown_88 (lv_at hl 0 rfl) ?_
                refine r_ldi (f := (B 32)) (j := f2) hx hb hE hP 32 (ma_32 G a _) rfl (by omega) (by decide) dX12_thrown_90 ?_
                obtain ⟨⟨d20, e21, -, h22⟩, -⟩ := hPg.ps.2.1 f2 (by omega)
                refine lv_topi (fun x23 e24 => ?_)
                obtain rfl : x23 = nI d20 := e24.trans ((congrFun hw32 _).trans e21)
                refine lv_iload_n hx hb dX12_thrown_91 rfl (lv_at hl 2 rfl) ?_
                refine lv_icmp_eq (tgt := 110) hx hb dX12_thrown_92 (by decide) (fun c25 => ?_) (fun c25 => ?_)
                · have n26 : d20 = k9 := (nI_eq (a := d20) (b := k9) (by omega) (by omega)).mp c25
                  refine lv_aload_n hx hb dX12_thrown_110 rfl (lv_at hl 4 rfl) ?_
                  refine r_get (v := .ref (a 53)) hx hb hown hq hE hP 89 171 tFX12_89 (by decide) pw_1484 rfl dX12_thrown_111 ?_
                  refine lv_iload hx hb dX12_thrown_114 (lv_at hl 0 rfl) ?_
                  refine r_ldi (f := (B 53)) (j := f2) hx hb hE hP 53 (ma_53 G a _) rfl (by omega) (by decide) dX12_thrown_116 ?_
                  refine lv_iload_n hx hb dX12_thrown_117 rfl (lv_at hl 3 rfl) ?_
                  refine lv_iconst (v := 2) hx hb dX12_thrown_118 (by decide) ?_
                  refine lv_isub hx hb dX12_thrown_119 ?_
                  refine lv_topi (fun x27 e28 => ?_)
                  obtain rfl : x27 = nI ((x9 + 2) - 2) := e28.trans (nI_subN (a := 2) (b := (x9 + 2)) (by omega))
                  refine lv_icmp_eq (tgt := 129) hx hb dX12_thrown_120 (by decide) (fun c29 => ?_) (fun c29 => ?_)
                  · refine lv_aload_n hx hb dX12_thrown_129 rfl (lv_at hl 4 rfl) ?_
                    refine r_get (v := .ref (a 60)) hx hb hown hq hE hP 96 193 tFX12_96 (by decide) pw_1492 rfl dX12_thrown_130 ?_
                    refine lv_aload_n hx hb dX12_thrown_133 rfl (lv_at hl 4 rfl) ?_
                    refine r_get (v := .ref (a 58)) hx hb hown hq hE hP 94 187 tFX12_94 (by decide) pw_1490 rfl dX12_thrown_134 ?_
                    refine lv_aload_n hx hb dX12_thrown_137 rfl (lv_at hl 4 rfl) ?_
                    refine r_get (v := .int (nI u9)) hx hb hown hq hE hP 119 766 tFX12_119 (by decide) pw_2033 rfl dX12_thrown_138 ?_
                    refine lv_iconst (v := 1) hx hb dX12_thrown_141 (by decide) ?_
                    refine lv_isub hx hb dX12_thrown_142 ?_
                    refine lv_topi (fun x30 e31 => ?_)
                    obtain rfl : x30 = nI (u9 - 1) := e31.trans (nI_subN (a := 1) (b := u9) (by omega))
                    refine r_ldi (f := (B 58)) (j := (u9 - 1)) hx hb hE hP 58 (ma_58 G a _) rfl (by omega) (by decide) dX12_thrown_143 ?_
                    refine lv_topi (fun x32 e33 => ?_)
                    obtain rfl : x32 = nI p9 := e33.trans hp1
                    refine lv_iload_n hx hb dX12_thrown_144 rfl (lv_at hl 3 rfl) ?_
                    refine lv_iadd hx hb dX12_thrown_145 ?_
                    refine lv_topi (fun x34 e35 => ?_)
                    obtain rfl : x34 = nI (p9 + (x9 + 2)) := e35.trans (nI_add (p9) ((x9 + 2)))
                    refine lv_iconst (v := 2) hx hb dX12_thrown_146 (by decide) ?_
                    refine lv_isub hx hb dX12_thrown_147 ?_
                    refine lv_topi (fun x36 e37 => ?_)
                    obtain rfl : x36 = nI ((p9 + (x9 + 2)) - 2) := e37.trans (nI_subN (a := 2) (b := (p9 + (x9 + 2))) (by omega))
                    refine r_ldi (f := (B 60)) (j := ((p9 + (x9 + 2)) - 2)) hx hb hE hP 60 (ma_60 G a _) rfl (by omega) (by decide) dX12_thrown_148 ?_
                    refine lv_istore (lv' := [(5, .int ((B 60) ((p9 + (x9 + 2)) - 2))), (4, .int (nI f2)), (3, .int (nI q9)), (2, .int (nI k9)), (1, .int (nI (x9 + 2))), (0, .ref h0)]) hx hb dX12_thrown_149 hl (by decide) rfl (fun ls hl => ?_)
                    refine lv_aload_n hx hb dX12_thrown_151 rfl (lv_at hl 5 rfl) ?_
                    refine lv_aload_n hx hb dX12_thrown_152 rfl (lv_at hl 5 rfl) ?_
                    refine r_get (v := .ref (a 21)) hx hb hown hq hE hP 30 75 tFX12_30 (by decide) pw_1452 rfl dX12_thrown_153 ?_
                    refine lv_aload_n hx hb dX12_thrown_156 rfl (lv_at hl 5 rfl) ?_
                    refine r_get (v := .ref (a 35)) hx hb hown hq hE hP 48 117 tFX12_48 (by decide) pw_1466 rfl dX12_thrown_157 ?_
                    refine lv_iload hx hb dX12_thrown_160 (lv_at hl 1 rfl) ?_
                    refine r_ldi (f := (B 35)) (j := f2) hx hb hE hP 35 (ma_35 G a _) rfl (by omega) (by decide) dX12_thrown_162 ?_
                    obtain ⟨-, -, y9, ey9, hy9⟩ := hPg.ps.2.1 f2 (by omega)
                    refine lv_topi (fun x38 e39 => ?_)
                    obtain rfl : x38 = nI y9 := e39.trans ((congrFun hw35 _).trans ey9)
                    refine r_ldi (f := (B 21)) (j := y9) hx hb hE hP 21 (ma_21 G a _) rfl (by omega) (by decide) dX12_thrown_163 ?_
                    obtain ⟨t9, et9, -, -, ht9, -⟩ := (hPg.ty y9 (by omega)).tc (by omega)
                    refine lv_topi (fun x40 e41 => ?_)
                    obtain rfl : x40 = nI t9 := e41.trans ((congrFun hw21 _).trans et9)
                    have hP : va_P G.1 pCl (mW G h0 a (upd (upd (upd (upd F 0 0) 44 (nI fd)) 116 en) 119 (nI u9)) B) _ := hP
                    have hD : va_D A (mW G h0 a (upd (upd (upd (upd F 0 0) 44 (nI fd)) 116 en) 119 (nI u9)) B) := hD
                    refine pc_V0 (G := G) (As := [.int (nI t9)]) (rest := []) hx hb hml hown hq hE hX pX0_al hP hD hS hA hl.1 (R_isReference l G h0 a (upd (upd (upd (upd F 0 0) 44 (nI fd)) 116 en) 119 (nI u9)) B t9 (by omega)) (gV pw_1783 pw_1784 pw_1785 pw_1523 pw_1779) hV_X12_isReference 0 9 rfl rfl rfl rfl (Nat.le_of_ble_eq_true rfl) dX12_thrown_164 ⟨Nat.le_of_ble_eq_true rfl, Nat.le_of_ble_eq_true rfl⟩ ⟨Nat.le_of_ble_eq_true rfl, Nat.le_of_ble_eq_true rfl⟩ (fun v44 u42 H locs hw43 hP hD hS => ?_)
                    obtain ⟨r45, rfl⟩ : ∃ z, z = u42 := ⟨_, rfl⟩
                    obtain ⟨hw43, h46, h47, h48⟩ := hw43
                    replace h46 : r45 ≤ 1 := h46
                    replace h47 : 3 * r45 ≤ t9 := h47
                    replace h48 : t9 ≤ 2 + 9000 * r45 := h48
                    obtain rfl : v44 = some (.int (nI r45)) := hw43
                    have hP : va_P G.1 pCl (mW G h0 a (upd (upd (upd (upd F 0 0) 44 (nI fd)) 116 en) 119 (nI u9)) B) _ := hP
                    have hD : va_D A (mW G h0 a (upd (upd (upd (upd F 0 0) 44 (nI fd)) 116 en) 119 (nI u9)) B) := hD
                    refine W.widen (k := 0) (n := 0) (Nat.le_of_ble_eq_true rfl) (Nat.le_of_ble_eq_true rfl) ?_
                    refine W.eq (g2 := F0 m 167 ls [.int (nI r45)]) rfl ?_
                    refine lv_if_eq (tgt := 183) hx hb dX12_thrown_167 (by decide) (fun c49 => ?_) (fun c49 => ?_)
                    · have n50 : r45 = 0 := (nI_eq (a := r45) (b := 0) (by omega) (by omega)).mp c49
                      refine lv_iload hx hb dX12_thrown_183 (lv_at hl 0 rfl) ?_
                      have hP : va_P G.1 pCl (mW G h0 a (upd (upd (upd (upd F 0 0) 44 (nI fd)) 116 en) 119 uc) B) _ := hP
                      have hD : va_D A (mW G h0 a (upd (upd (upd (upd F 0 0) 44 (nI fd)) 116 en) 119 uc) B) := hD
                      exact W.iret (v := ((B 60) ((p9 + (x9 + 2)) - 2))) hx hb hr (fun t9 ht9 hW9 => ⟨⟨_, ((B 60) ((p9 + (x9 + 2)) - 2)), rfl, rfl, by rw [ht9]; exact hP, hD⟩, hS.F ht9⟩) hS.2.2 dX12_thrown_185
                    · have n51 : ¬ (r45 = 0) := fun h9 => c49 ((nI_eq (a := r45) (b := 0) (by omega) (by omega)).mpr h9)
                      refine lv_iload hx hb dX12_thrown_170 (lv_at hl 0 rfl) ?_
                      refine lv_if_ne (tgt := 179) hx hb dX12_thrown_172 (by decide) (fun c52 => ?_) (fun c52 => ?_)
                      · refine lv_iconst (v := 1) hx hb dX12_thrown_179 (by decide) ?_
                        refine lv_goto (tgt := 185) hx hb dX12_thrown_180 (by decide) ?_
                        have hP : va_P G.1 pCl (mW G h0 a (upd (upd (upd (upd F 0 0) 44 (nI fd)) 116 en) 119 uc) B) _ := hP
                        have hD : va_D A (mW G h0 a (upd (upd (upd (upd F 0 0) 44 (nI fd)) 116 en) 119 uc) B) := hD
                        exact W.iret (v := 1) hx hb hr (fun t9 ht9 hW9 => ⟨⟨_, (1 : Int32), rfl, rfl, by rw [ht9]; exact hP, hD⟩, hS.F ht9⟩) hS.2.2 dX12_thrown_185
                      · refine lv_iconst (v := 0) hx hb dX12_thrown_175 (by decide) ?_
                        refine lv_goto (tgt := 185) hx hb dX12_thrown_176 (by decide) ?_
                        have hP : va_P G.1 pCl (mW G h0 a (upd (upd (upd (upd F 0 0) 44 (nI fd)) 116 en) 119 uc) B) _ := hP
                        have hD : va_D A (mW G h0 a (upd (upd (upd (upd F 0 0) 44 (nI fd)) 116 en) 119 uc) B) := hD
                        exact W.iret (v := 0) hx hb hr (fun t9 ht9 hW9 => ⟨⟨_, (0 : Int32), rfl, rfl, by rw [ht9]; exact hP, hD⟩, hS.F ht9⟩) hS.2.2 dX12_thrown_185
                  · refine lv_iinc (v := (nI (f2 + 1))) (lv' := [(4, .int (nI (f2 + 1))), (3, .int (nI q9)), (2, .int (nI k9)), (1, .int (nI (x9 + 2))), (0, .ref h0)]) hx hb dX12_thrown_123 hl (k := 0) rfl (nI_1 f2) (by decide) rfl (fun ls hl => ?_)
                    refine lv_goto (tgt := 84) hx hb dX12_thrown_126 (by decide) ?_
                    have hP : va_P G.1 pCl (mW G h0 a (upd (upd (upd (upd F 0 0) 44 (nI fd)) 116 en) 119 (nI u9)) B) _ := hP
                    have hD : va_D A (mW G h0 a (upd (upd (upd (upd F 0 0) 44 (nI fd)) 116 en) 119 (nI u9)) B) := hD
                    exact ih_f (f2 + 1) _ _ _ (by have z : ¬ f2 = f0 := (fun z => c29 (by rw [z, hPg.pl f0 hf0, hf2]; rfl)); omega) (by omega) hP hD hS (lv_sub hl [0, 1, 2, 3, 4] rfl)
                · have n53 : ¬ (d20 = k9) := fun h9 => c25 ((nI_eq (a := d20) (b := k9) (by omega) (by omega)).mpr h9)
                  refine lv_aload_n hx hb dX12_thrown_95 rfl (lv_at hl 4 rfl) ?_
                  refine lv_aload_n hx hb dX12_thrown_96 rfl (lv_at hl 4 rfl) ?_
                  refine r_get (v := .ref (a 32)) hx hb hown hq hE hP 45 108 tFX12_45 (by decide) pw_1463 rfl dX12_thrown_97 ?_
                  refine lv_iload hx hb dX12_thrown_100 (lv_at hl 0 rfl) ?_
                  refine r_ldi (f := (B 32)) (j := f2) hx hb hE hP 32 (ma_32 G a _) rfl (by omega) (by decide) dX12_thrown_102 ?_
                  obtain ⟨⟨d54, e55, -, h56⟩, -⟩ := hPg.ps.2.1 f2 (by omega)
                  refine lv_topi (fun x57 e58 => ?_)
                  obtain rfl : x57 = nI d54 := e58.trans ((congrFun hw32 _).trans e55)
                  refine lv_iload_n hx hb dX12_thrown_103 rfl (lv_at hl 2 rfl) ?_
                  have hP : va_P G.1 pCl (mW G h0 a (upd (upd (upd (upd F 0 0) 44 (nI fd)) 116 en) 119 (nI u9)) (updA B 31 (B 31))) _ := hP
                  have hD : va_D A (mW G h0 a (upd (upd (upd (upd F 0 0) 44 (nI fd)) 116 en) 119 (nI u9)) (updA B 31 (B 31))) := hD
                  refine pc_V0 (G := G) (As := [.int (nI d54), .int (nI k9)]) (rest := []) hx hb hml hown hq hE hX pX0_al hP hD hS hA hl.1 (R_isAbove l G h0 a (upd (upd (upd (upd F 0 0) 44 (nI fd)) 116 en) 119 (nI u9)) B d54 k9 (B 31) (by omega) (by show ∀ i : Nat, i < 1600 → B 31 i = 0 ∨ B 31 i = 1; rw [hw31]; exact hfb)) (gV pw_1772 pw_1773 pw_1774 pw_1523 pw_1760) hV_X12_isAbove 0 9 rfl rfl rfl rfl (Nat.le_of_ble_eq_true rfl) dX12_thrown_104 ⟨Nat.le_of_ble_eq_true rfl, Nat.le_of_ble_eq_true rfl⟩ ⟨Nat.le_of_ble_eq_true rfl, Nat.le_of_ble_eq_true rfl⟩ (fun v61 u59 H locs hw60 hP hD hS => ?_)
                  obtain rfl : v61 = some (.int ((B 31) (40 * d54 + k9))) := hw60
                  have hP : va_P G.1 pCl (mW G h0 a (upd (upd (upd (upd F 0 0) 44 (nI fd)) 116 en) 119 (nI u9)) B) _ := hP
                  have hD : va_D A (mW G h0 a (upd (upd (upd (upd F 0 0) 44 (nI fd)) 116 en) 119 (nI u9)) B) := hD
                  refine W.widen (k := 0) (n := 0) (Nat.le_of_ble_eq_true rfl) (Nat.le_of_ble_eq_true rfl) ?_
                  refine W.eq (g2 := F0 m 107 ls [.int ((B 31) (40 * d54 + k9))]) rfl ?_
                  refine lv_if_eq (tgt := 123) hx hb dX12_thrown_107 (by decide) (fun c62 => ?_) (fun c62 => ?_)
                  · refine lv_iinc (v := (nI (f2 + 1))) (lv' := [(4, .int (nI (f2 + 1))), (3, .int (nI q9)), (2, .int (nI k9)), (1, .int (nI (x9 + 2))), (0, .ref h0)]) hx hb dX12_thrown_123 hl (k := 0) rfl (nI_1 f2) (by decide) rfl (fun ls hl => ?_)
                    refine lv_goto (tgt := 84) hx hb dX12_thrown_126 (by decide) ?_
                    have hP : va_P G.1 pCl (mW G h0 a (upd (upd (upd (upd F 0 0) 44 (nI fd)) 116 en) 119 (nI u9)) B) _ := hP
                    have hD : va_D A (mW G h0 a (upd (upd (upd (upd F 0 0) 44 (nI fd)) 116 en) 119 (nI u9)) B) := hD
                    exact ih_f (f2 + 1) _ _ _ (by have z : ¬ f2 = f0 := (fun z => own_not e55 (by omega) (by omega) c25 (by rw [← hw31]; exact c62) (z ▸ hf1)); omega) (by omega) hP hD hS (lv_sub hl [0, 1, 2, 3, 4] rfl)
                  · refine lv_aload_n hx hb dX12_thrown_110 rfl (lv_at hl 4 rfl) ?_
                    refine r_get (v := .ref (a 53)) hx hb hown hq hE hP 89 171 tFX12_89 (by decide) pw_1484 rfl dX12_thrown_111 ?_
                    refine lv_iload hx hb dX12_thrown_114 (lv_at hl 0 rfl) ?_
                    refine r_ldi (f := (B 53)) (j := f2) hx hb hE hP 53 (ma_53 G a _) rfl (by omega) (by decide) dX12_thrown_116 ?_
                    refine lv_iload_n hx hb dX12_thrown_117 rfl (lv_at hl 3 rfl) ?_
                    refine lv_iconst (v := 2) hx hb dX12_thrown_118 (by decide) ?_
                    refine lv_isub hx hb dX12_thrown_119 ?_
                    refine lv_topi (fun x63 e64 => ?_)
                    obtain rfl : x63 = nI ((x9 + 2) - 2) := e64.trans (nI_subN (a := 2) (b := (x9 + 2)) (by omega))
                    refine lv_icmp_eq (tgt := 129) hx hb dX12_thrown_120 (by decide) (fun c65 => ?_) (fun c65 => ?_)
                    · refine lv_aload_n hx hb dX12_thrown_129 rfl (lv_at hl 4 rfl) ?_
                      refine r_get (v := .ref (a 60)) hx hb hown hq hE hP 96 193 tFX12_96 (by decide) pw_1492 rfl dX12_thrown_130 ?_
                      refine lv_aload_n hx hb dX12_thrown_133 rfl (lv_at hl 4 rfl) ?_
                      refine r_get (v := .ref (a 58)) hx hb hown hq hE hP 94 187 tFX12_94 (by decide) pw_1490 rfl dX12_thrown_134 ?_
                      refine lv_aload_n hx hb dX12_thrown_137 rfl (lv_at hl 4 rfl) ?_
                      refine r_get (v := .int (nI u9)) hx hb hown hq hE hP 119 766 tFX12_119 (by decide) pw_2033 rfl dX12_thrown_138 ?_
                      refine lv_iconst (v := 1) hx hb dX12_thrown_141 (by decide) ?_
                      refine lv_isub hx hb dX12_thrown_142 ?_
                      refine lv_topi (fun x66 e67 => ?_)
                      obtain rfl : x66 = nI (u9 - 1) := e67.trans (nI_subN (a := 1) (b := u9) (by omega))
                      refine r_ldi (f := (B 58)) (j := (u9 - 1)) hx hb hE hP 58 (ma_58 G a _) rfl (by omega) (by decide) dX12_thrown_143 ?_
                      refine lv_topi (fun x68 e69 => ?_)
                      obtain rfl : x68 = nI p9 := e69.trans hp1
                      refine lv_iload_n hx hb dX12_thrown_144 rfl (lv_at hl 3 rfl) ?_
                      refine lv_iadd hx hb dX12_thrown_145 ?_
                      refine lv_topi (fun x70 e71 => ?_)
                      obtain rfl : x70 = nI (p9 + (x9 + 2)) := e71.trans (nI_add (p9) ((x9 + 2)))
                      refine lv_iconst (v := 2) hx hb dX12_thrown_146 (by decide) ?_
                      refine lv_isub hx hb dX12_thrown_147 ?_
                      refine lv_topi (fun x72 e73 => ?_)
                      obtain rfl : x72 = nI ((p9 + (x9 + 2)) - 2) := e73.trans (nI_subN (a := 2) (b := (p9 + (x9 + 2))) (by omega))
                      refine r_ldi (f := (B 60)) (j := ((p9 + (x9 + 2)) - 2)) hx hb hE hP 60 (ma_60 G a _) rfl (by omega) (by decide) dX12_thrown_148 ?_
                      refine lv_istore (lv' := [(5, .int ((B 60) ((p9 + (x9 + 2)) - 2))), (4, .int (nI f2)), (3, .int (nI q9)), (2, .int (nI k9)), (1, .int (nI (x9 + 2))), (0, .ref h0)]) hx hb dX12_thrown_149 hl (by decide) rfl (fun ls hl => ?_)
                      refine lv_aload_n hx hb dX12_thrown_151 rfl (lv_at hl 5 rfl) ?_
                      refine lv_aload_n hx hb dX12_thrown_152 rfl (lv_at hl 5 rfl) ?_
                      refine r_get (v := .ref (a 21)) hx hb hown hq hE hP 30 75 tFX12_30 (by decide) pw_1452 rfl dX12_thrown_153 ?_
                      refine lv_aload_n hx hb dX12_thrown_156 rfl (lv_at hl 5 rfl) ?_
                      refine r_get (v := .ref (a 35)) hx hb hown hq hE hP 48 117 tFX12_48 (by decide) pw_1466 rfl dX12_thrown_157 ?_
                      refine lv_iload hx hb dX12_thrown_160 (lv_at hl 1 rfl) ?_
                      refine r_ldi (f := (B 35)) (j := f2) hx hb hE hP 35 (ma_35 G a _) rfl (by omega) (by decide) dX12_thrown_162 ?_
                      obtain ⟨-, -, y9, ey9, hy9⟩ := hPg.ps.2.1 f2 (by omega)
                      refine lv_topi (fun x74 e75 => ?_)
                      obtain rfl : x74 = nI y9 := e75.trans ((congrFun hw35 _).trans ey9)
                      refine r_ldi (f := (B 21)) (j := y9) hx hb hE hP 21 (ma_21 G a _) rfl (by omega) (by decide) dX12_thrown_163 ?_
                      obtain ⟨t9, et9, -, -, ht9, -⟩ := (hPg.ty y9 (by omega)).tc (by omega)
                      refine lv_topi (fun x76 e77 => ?_)
                      obtain rfl : x76 = nI t9 := e77.trans ((congrFun hw21 _).trans et9)
                      have hP : va_P G.1 pCl (mW G h0 a (upd (upd (upd (upd F 0 0) 44 (nI fd)) 116 en) 119 (nI u9)) B) _ := hP
                      have hD : va_D A (mW G h0 a (upd (upd (upd (upd F 0 0) 44 (nI fd)) 116 en) 119 (nI u9)) B) := hD
                      refine pc_V0 (G := G) (As := [.int (nI t9)]) (rest := []) hx hb hml hown hq hE hX pX0_al hP hD hS hA hl.1 (R_isReference l G h0 a (upd (upd (upd (upd F 0 0) 44 (nI fd)) 116 en) 119 (nI u9)) B t9 (by omega)) (gV pw_1783 pw_1784 pw_1785 pw_1523 pw_1779) hV_X12_isReference 0 9 rfl rfl rfl rfl (Nat.le_of_ble_eq_true rfl) dX12_thrown_164 ⟨Nat.le_of_ble_eq_true rfl, Nat.le_of_ble_eq_true rfl⟩ ⟨Nat.le_of_ble_eq_true rfl, Nat.le_of_ble_eq_true rfl⟩ (fun v80 u78 H locs hw79 hP hD hS => ?_)
                      obtain ⟨r81, rfl⟩ : ∃ z, z = u78 := ⟨_, rfl⟩
                      obtain ⟨hw79, h82, h83, h84⟩ := hw79
                      replace h82 : r81 ≤ 1 := h82
                      replace h83 : 3 * r81 ≤ t9 := h83
                      replace h84 : t9 ≤ 2 + 9000 * r81 := h84
                      obtain rfl : v80 = some (.int (nI r81)) := hw79
                      have hP : va_P G.1 pCl (mW G h0 a (upd (upd (upd (upd F 0 0) 44 (nI fd)) 116 en) 119 (nI u9)) B) _ := hP
                      have hD : va_D A (mW G h0 a (upd (upd (upd (upd F 0 0) 44 (nI fd)) 116 en) 119 (nI u9)) B) := hD
                      refine W.widen (k := 0) (n := 0) (Nat.le_of_ble_eq_true rfl) (Nat.le_of_ble_eq_true rfl) ?_
                      refine W.eq (g2 := F0 m 167 ls [.int (nI r81)]) rfl ?_
                      refine lv_if_eq (tgt := 183) hx hb dX12_thrown_167 (by decide) (fun c85 => ?_) (fun c85 => ?_)
                      · have n86 : r81 = 0 := (nI_eq (a := r81) (b := 0) (by omega) (by omega)).mp c85
                        refine lv_iload hx hb dX12_thrown_183 (lv_at hl 0 rfl) ?_
                        have hP : va_P G.1 pCl (mW G h0 a (upd (upd (upd (upd F 0 0) 44 (nI fd)) 116 en) 119 uc) B) _ := hP
                        have hD : va_D A (mW G h0 a (upd (upd (upd (upd F 0 0) 44 (nI fd)) 116 en) 119 uc) B) := hD
                        exact W.iret (v := ((B 60) ((p9 + (x9 + 2)) - 2))) hx hb hr (fun t9 ht9 hW9 => ⟨⟨_, ((B 60) ((p9 + (x9 + 2)) - 2)), rfl, rfl, by rw [ht9]; exact hP, hD⟩, hS.F ht9⟩) hS.2.2 dX12_thrown_185
                      · have n87 : ¬ (r81 = 0) := fun h9 => c85 ((nI_eq (a := r81) (b := 0) (by omega) (by omega)).mpr h9)
                        refine lv_iload hx hb dX12_thrown_170 (lv_at hl 0 rfl) ?_
                        refine lv_if_ne (tgt := 179) hx hb dX12_thrown_172 (by decide) (fun c88 => ?_) (fun c88 => ?_)
                        · refine lv_iconst (v := 1) hx hb dX12_thrown_179 (by decide) ?_
                          refine lv_goto (tgt := 185) hx hb dX12_thrown_180 (by decide) ?_
                          have hP : va_P G.1 pCl (mW G h0 a (upd (upd (upd (upd F 0 0) 44 (nI fd)) 116 en) 119 uc) B) _ := hP
                          have hD : va_D A (mW G h0 a (upd (upd (upd (upd F 0 0) 44 (nI fd)) 116 en) 119 uc) B) := hD
                          exact W.iret (v := 1) hx hb hr (fun t9 ht9 hW9 => ⟨⟨_, (1 : Int32), rfl, rfl, by rw [ht9]; exact hP, hD⟩, hS.F ht9⟩) hS.2.2 dX12_thrown_185
                        · refine lv_iconst (v := 0) hx hb dX12_thrown_175 (by decide) ?_
                          refine lv_goto (tgt := 185) hx hb dX12_thrown_176 (by decide) ?_
                          have hP : va_P G.1 pCl (mW G h0 a (upd (upd (upd (upd F 0 0) 44 (nI fd)) 116 en) 119 uc) B) _ := hP
                          have hD : va_D A (mW G h0 a (upd (upd (upd (upd F 0 0) 44 (nI fd)) 116 en) 119 uc) B) := hD
                          exact W.iret (v := 0) hx hb hr (fun t9 ht9 hW9 => ⟨⟨_, (0 : Int32), rfl, rfl, by rw [ht9]; exact hP, hD⟩, hS.F ht9⟩) hS.2.2 dX12_thrown_185
                    · refine lv_iinc (v := (nI (f2 + 1))) (lv' := [(4, .int (nI (f2 + 1))), (3, .int (nI q9)), (2, .int (nI k9)), (1, .int (nI (x9 + 2))), (0, .ref h0)]) hx hb dX12_thrown_123 hl (k := 0) rfl (nI_1 f2) (by decide) rfl (fun ls hl => ?_)
                      refine lv_goto (tgt := 84) hx hb dX12_thrown_126 (by decide) ?_
                      have hP : va_P G.1 pCl (mW G h0 a (upd (upd (upd (upd F 0 0) 44 (nI fd)) 116 en) 119 (nI u9)) B) _ := hP
                      have hD : va_D A (mW G h0 a (upd (upd (upd (upd F 0 0) 44 (nI fd)) 116 en) 119 (nI u9)) B) := hD
                      exact ih_f (f2 + 1) _ _ _ (by have z : ¬ f2 = f0 := (fun z => c65 (by rw [z, hPg.pl f0 hf0, hf2]; rfl)); omega) (by omega) hP hD hS (lv_sub hl [0, 1, 2, 3, 4] rfl)
            have hP : va_P G.1 pCl (mW G h0 a (upd (upd (upd (upd F 0 0) 44 (nI fd)) 116 en) 119 (nI u9)) B) _ := hP
            have hD : va_D A (mW G h0 a (upd (upd (upd (upd F 0 0) 44 (nI fd)) 116 en) 119 (nI u9)) B) := hD
            exact loop_f (f0 + 1) 0 _ _ _ (by omega) (by omega) hP hD hS (lv_sub hl [0, 1, 2, 4, 3] rfl)
          · have n89 : ¬ (((x9 + 2) - 2) < q9) := fun h9 => c18 ((nI_ltI (a := ((x9 + 2) - 2)) (b := q9) (by omega) (by omega)).mpr h9)
            refine lv_iload_n hx hb dX12_thrown_62 rfl (lv_at hl 3 rfl) ?_
            refine lv_if_ne (tgt := 70) hx hb dX12_thrown_63 (by decide) (fun c90 => ?_) (fun c90 => ?_)
            · have n91 : ¬ ((x9 + 2) = 0) := fun h9 => c90 ((nI_eq (a := (x9 + 2)) (b := 0) (by omega) (by omega)).mpr h9)
              refine lv_iload_n hx hb dX12_thrown_70 rfl (lv_at hl 3 rfl) ?_
              refine lv_iconst (v := 1) hx hb dX12_thrown_71 (by decide) ?_
              refine lv_icmp_ne (tgt := 79) hx hb dX12_thrown_72 (by decide) (fun c92 => ?_) (fun c92 => ?_)
              · have n93 : ¬ ((x9 + 2) = 1) := fun h9 => c92 ((nI_eq (a := (x9 + 2)) (b := 1) (by omega) (by omega)).mpr h9)
                refine lv_iconst (v := (-1)) hx hb dX12_thrown_79 (by decide) ?_
                have hP : va_P G.1 pCl (mW G h0 a (upd (upd (upd (upd F 0 0) 44 (nI fd)) 116 en) 119 uc) B) _ := hP
                have hD : va_D A (mW G h0 a (upd (upd (upd (upd F 0 0) 44 (nI fd)) 116 en) 119 uc) B) := hD
                exact W.iret (v := (-1)) hx hb hr (fun t9 ht9 hW9 => ⟨⟨_, ((-1) : Int32), rfl, rfl, by rw [ht9]; exact hP, hD⟩, hS.F ht9⟩) hS.2.2 dX12_thrown_80
              · have n94 : (x9 + 2) = 1 := (nI_eq (a := (x9 + 2)) (b := 1) (by omega) (by omega)).mp c92
                refine lv_iload_n hx hb dX12_thrown_75 rfl (lv_at hl 0 rfl) ?_
                refine lv_goto (tgt := 80) hx hb dX12_thrown_76 (by decide) ?_
                have hP : va_P G.1 pCl (mW G h0 a (upd (upd (upd (upd F 0 0) 44 (nI fd)) 116 en) 119 uc) B) _ := hP
                have hD : va_D A (mW G h0 a (upd (upd (upd (upd F 0 0) 44 (nI fd)) 116 en) 119 uc) B) := hD
                exact W.iret (v := (nI q9)) hx hb hr (fun t9 ht9 hW9 => ⟨⟨_, (nI q9), rfl, rfl, by rw [ht9]; exact hP, hD⟩, hS.F ht9⟩) hS.2.2 dX12_thrown_80
            · have n95 : (x9 + 2) = 0 := (nI_eq (a := (x9 + 2)) (b := 0) (by omega) (by omega)).mp c90
              refine lv_iload_n hx hb dX12_thrown_66 rfl (lv_at hl 1 rfl) ?_
              refine lv_goto (tgt := 80) hx hb dX12_thrown_67 (by decide) ?_
              have hP : va_P G.1 pCl (mW G h0 a (upd (upd (upd (upd F 0 0) 44 (nI fd)) 116 en) 119 uc) B) _ := hP
              have hD : va_D A (mW G h0 a (upd (upd (upd (upd F 0 0) 44 (nI fd)) 116 en) 119 uc) B) := hD
              exact W.iret (v := (nI k9)) hx hb hr (fun t9 ht9 hW9 => ⟨⟨_, (nI k9), rfl, rfl, by rw [ht9]; exact hP, hD⟩, hS.F ht9⟩) hS.2.2 dX12_thrown_80
      · have n96 : ¬ (u9 ≤ 4000) := fun h9 => c7 ((nI_leI (a := u9) (b := 4000) (by omega) (by omega)).mpr h9)
        refine lv_iconst (v := 0) hx hb dX12_thrown_34 (by decide) ?_
        refine lv_goto (tgt := 49) hx hb dX12_thrown_35 (by decide) ?_
        refine lv_istore_n (lv' := [(3, .int 0), (2, .int (nI k9)), (0, .ref h0), (1, .int x)]) hx hb dX12_thrown_49 rfl hl (by decide) rfl (fun ls hl => ?_)
        refine lv_iload_n hx hb dX12_thrown_50 rfl (lv_at hl 3 rfl) ?_
        refine lv_iconst (v := 2) hx hb dX12_thrown_51 (by decide) ?_
        refine lv_icmp_lt (tgt := 62) hx hb dX12_thrown_52 (by decide) (fun c97 => ?_) (fun c97 => ?_)
        · refine lv_iload_n hx hb dX12_thrown_62 rfl (lv_at hl 3 rfl) ?_
          refine lv_if_ne (tgt := 70) hx hb dX12_thrown_63 (by decide) (fun c98 => ?_) (fun c98 => ?_)
          · refine lv_iload_n hx hb dX12_thrown_70 rfl (lv_at hl 3 rfl) ?_
            refine lv_iconst (v := 1) hx hb dX12_thrown_71 (by decide) ?_
            refine lv_icmp_ne (tgt := 79) hx hb dX12_thrown_72 (by decide) (fun c99 => ?_) (fun c99 => ?_)
            · refine lv_iconst (v := (-1)) hx hb dX12_thrown_79 (by decide) ?_
              have hP : va_P G.1 pCl (mW G h0 a (upd (upd (upd (upd F 0 0) 44 (nI fd)) 116 en) 119 uc) B) _ := hP
              have hD : va_D A (mW G h0 a (upd (upd (upd (upd F 0 0) 44 (nI fd)) 116 en) 119 uc) B) := hD
              exact W.iret (v := (-1)) hx hb hr (fun t9 ht9 hW9 => ⟨⟨_, ((-1) : Int32), rfl, rfl, by rw [ht9]; exact hP, hD⟩, hS.F ht9⟩) hS.2.2 dX12_thrown_80
            · refine lv_iload_n hx hb dX12_thrown_75 rfl (lv_at hl 0 rfl) ?_
              refine lv_goto (tgt := 80) hx hb dX12_thrown_76 (by decide) ?_
              have hP : va_P G.1 pCl (mW G h0 a (upd (upd (upd (upd F 0 0) 44 (nI fd)) 116 en) 119 uc) B) _ := hP
              have hD : va_D A (mW G h0 a (upd (upd (upd (upd F 0 0) 44 (nI fd)) 116 en) 119 uc) B) := hD
              exact W.iret (v := 0) hx hb hr (fun t9 ht9 hW9 => ⟨⟨_, (0 : Int32), rfl, rfl, by rw [ht9]; exact hP, hD⟩, hS.F ht9⟩) hS.2.2 dX12_thrown_80
          · refine lv_iload_n hx hb dX12_thrown_66 rfl (lv_at hl 1 rfl) ?_
            refine lv_goto (tgt := 80) hx hb dX12_thrown_67 (by decide) ?_
            have hP : va_P G.1 pCl (mW G h0 a (upd (upd (upd (upd F 0 0) 44 (nI fd)) 116 en) 119 uc) B) _ := hP
            have hD : va_D A (mW G h0 a (upd (upd (upd (upd F 0 0) 44 (nI fd)) 116 en) 119 uc) B) := hD
            exact W.iret (v := (nI k9)) hx hb hr (fun t9 ht9 hW9 => ⟨⟨_, (nI k9), rfl, rfl, by rw [ht9]; exact hP, hD⟩, hS.F ht9⟩) hS.2.2 dX12_thrown_80
        · obtain ⟨x9, hx1, hx2⟩ : ∃ z : Nat, x = nI (z + 2) ∧ z < 2147483646 := ge_two c97
          subst hx1
          have hP : va_P G.1 pCl (mW G h0 a (upd (upd (upd (upd F 0 0) 44 (nI fd)) 116 en) 119 (nI u9)) B) _ := hP
          have hD : va_D A (mW G h0 a (upd (upd (upd (upd F 0 0) 44 (nI fd)) 116 en) 119 (nI u9)) B) := hD
          refine lv_iload_n hx hb dX12_thrown_55 rfl (lv_at hl 3 rfl) ?_
          refine lv_iconst (v := 2) hx hb dX12_thrown_56 (by decide) ?_
          refine lv_isub hx hb dX12_thrown_57 ?_
          refine lv_topi (fun x100 e101 => ?_)
          obtain rfl : x100 = nI ((x9 + 2) - 2) := e101.trans (nI_subN (a := 2) (b := (x9 + 2)) (by omega))
          refine lv_iload_n hx hb dX12_thrown_58 rfl (lv_at hl 0 rfl) ?_
          refine lv_icmp_lt (tgt := 81) hx hb dX12_thrown_59 (by decide) (fun c102 => ?_) (fun c102 => ?_)
          · have n103 : ((x9 + 2) - 2) < 0 := (nI_ltI (a := ((x9 + 2) - 2)) (b := 0) (by omega) (by omega)).mp c102
            refine lv_iconst (v := 0) hx hb dX12_thrown_81 (by decide) ?_
            refine lv_istore (lv' := [(4, .int 0), (3, .int 0), (2, .int (nI k9)), (0, .ref h0), (1, .int (nI (x9 + 2)))]) hx hb dX12_thrown_82 hl (by decide) rfl (fun ls hl => ?_)
            have loop_f : ∀ (n_f : Nat) (f2 : Nat) (H : Heap) (locs : List Loc) (ls : Array Slot), f2 ≤ f0 → f0 + 1 ≤ f2 + n_f → va_P G.1 pCl (mW G h0 a (upd (upd (upd (upd F 0 0) 44 (nI fd)) 116 en) 119 (nI u9)) B) H → va_D A (mW G h0 a (upd (upd (upd (upd F 0 0) 44 (nI fd)) 116 en) 119 (nI u9)) B) → va_S A s.heap H locs → lv_has ls 6 [(4, .int (nI f2)), (3, .int (nI q9)), (2, .int (nI k9)), (1, .int (nI (x9 + 2))), (0, .ref h0)] → W p l e (headSpec (Cond.code yX12_thrown cX12_thrown 6 (some .int) :: pw) ({ frames := 3, cells := 0, slots := 0, locals := 82 } : Room)).room s m ([.ref h0, .int x] : List Value).toArray below meth c H locs 0 0 (MQ below (pQ G A (fun (v : Option Value) (u : Int32) => v = some (.int u)) (fun u => (mW G h0 a (upd (upd (upd (upd F 0 0) 44 (nI fd)) 116 en) 119 uc) B))) ([.ref h0, .int x] : List Value).toArray s ({ frames := 3, cells := 0, slots := 0, locals := 82 } : Room).cells ({ frames := 3, cells := 0, slots := 0, locals := 82 } : Room).slots A) (F0 m 84 ls []) := by
              intro n_f
              induction n_f with
              | zero => intro f2 H locs ls hk_f hn_f; omega
              | succ n_f ih_f =>
                intro f2 H locs ls hk_f hn_f hP hD hS hl
                refine lv_aload_n hx hb dX12_thrown_84 rfl (lv_at hl 4 rfl) ?_
                refine r_get (v := .ref (a 32)) hx hb hown hq hE hP 45 108 tFX12_45 (by decide) pw_1463 rfl dX12_thrown_85 ?_
                refine lv_iload hx hb dX12_thrown_88 (lv_at hl 0 rfl) ?_
                refine r_ldi (f := (B 32)) (j := f2) hx hb hE hP 32 (ma_32 G a _) rfl (by omega) (by decide) dX12_thrown_90 ?_
                obtain ⟨⟨d104, e105, -, h106⟩, -⟩ := hPg.ps.2.1 f2 (by omega)
                refine lv_topi (fun x107 e108 => ?_)
                obtain rfl : x107 = nI d104 := e108.trans ((congrFun hw32 _).trans e105)
                refine lv_iload_n hx hb dX12_thrown_91 rfl (lv_at hl 2 rfl) ?_
                refine lv_icmp_eq (tgt := 110) hx hb dX12_thrown_92 (by decide) (fun c109 => ?_) (fun c109 => ?_)
                · have n110 : d104 = k9 := (nI_eq (a := d104) (b := k9) (by omega) (by omega)).mp c109
                  refine lv_aload_n hx hb dX12_thrown_110 rfl (lv_at hl 4 rfl) ?_
                  refine r_get (v := .ref (a 53)) hx hb hown hq hE hP 89 171 tFX12_89 (by decide) pw_1484 rfl dX12_thrown_111 ?_
                  refine lv_iload hx hb dX12_thrown_114 (lv_at hl 0 rfl) ?_
                  refine r_ldi (f := (B 53)) (j := f2) hx hb hE hP 53 (ma_53 G a _) rfl (by omega) (by decide) dX12_thrown_116 ?_
                  refine lv_iload_n hx hb dX12_thrown_117 rfl (lv_at hl 3 rfl) ?_
                  refine lv_iconst (v := 2) hx hb dX12_thrown_118 (by decide) ?_
                  refine lv_isub hx hb dX12_thrown_119 ?_
                  refine lv_topi (fun x111 e112 => ?_)
                  obtain rfl : x111 = nI ((x9 + 2) - 2) := e112.trans (nI_subN (a := 2) (b := (x9 + 2)) (by omega))
                  refine lv_icmp_eq (tgt := 129) hx hb dX12_thrown_120 (by decide) (fun c113 => ?_) (fun c113 => ?_)
                  · refine lv_aload_n hx hb dX12_thrown_129 rfl (lv_at hl 4 rfl) ?_
                    refine r_get (v := .ref (a 60)) hx hb hown hq hE hP 96 193 tFX12_96 (by decide) pw_1492 rfl dX12_thrown_130 ?_
                    refine lv_aload_n hx hb dX12_thrown_133 rfl (lv_at hl 4 rfl) ?_
                    refine r_get (v := .ref (a 58)) hx hb hown hq hE hP 94 187 tFX12_94 (by decide) pw_1490 rfl dX12_thrown_134 ?_
                    refine lv_aload_n hx hb dX12_thrown_137 rfl (lv_at hl 4 rfl) ?_
                    refine r_get (v := .int (nI u9)) hx hb hown hq hE hP 119 766 tFX12_119 (by decide) pw_2033 rfl dX12_thrown_138 ?_
                    refine lv_iconst (v := 1) hx hb dX12_thrown_141 (by decide) ?_
                    refine lv_isub hx hb dX12_thrown_142 ?_
                    refine lv_topi (fun x114 e115 => ?_)
                    obtain rfl : x114 = nI (u9 - 1) := e115.trans (nI_subN (a := 1) (b := u9) (by omega))
                    refine r_ldi (f := (B 58)) (j := (u9 - 1)) hx hb hE hP 58 (ma_58 G a _) rfl (by omega) (by decide) dX12_thrown_143 ?_
                    refine lv_topi (fun x116 e117 => ?_)
                    obtain rfl : x116 = nI p9 := e117.trans hp1
                    refine lv_iload_n hx hb dX12_thrown_144 rfl (lv_at hl 3 rfl) ?_
                    refine lv_iadd hx hb dX12_thrown_145 ?_
                    refine lv_topi (fun x118 e119 => ?_)
                    obtain rfl : x118 = nI (p9 + (x9 + 2)) := e119.trans (nI_add (p9) ((x9 + 2)))
                    refine lv_iconst (v := 2) hx hb dX12_thrown_146 (by decide) ?_
                    refine lv_isub hx hb dX12_thrown_147 ?_
                    refine lv_topi (fun x120 e121 => ?_)
                    obtain rfl : x120 = nI ((p9 + (x9 + 2)) - 2) := e121.trans (nI_subN (a := 2) (b := (p9 + (x9 + 2))) (by omega))
                    refine r_ldi (f := (B 60)) (j := ((p9 + (x9 + 2)) - 2)) hx hb hE hP 60 (ma_60 G a _) rfl (by omega) (by decide) dX12_thrown_148 ?_
                    refine lv_istore (lv' := [(5, .int ((B 60) ((p9 + (x9 + 2)) - 2))), (4, .int (nI f2)), (3, .int (nI q9)), (2, .int (nI k9)), (1, .int (nI (x9 + 2))), (0, .ref h0)]) hx hb dX12_thrown_149 hl (by decide) rfl (fun ls hl => ?_)
                    refine lv_aload_n hx hb dX12_thrown_151 rfl (lv_at hl 5 rfl) ?_
                    refine lv_aload_n hx hb dX12_thrown_152 rfl (lv_at hl 5 rfl) ?_
                    refine r_get (v := .ref (a 21)) hx hb hown hq hE hP 30 75 tFX12_30 (by decide) pw_1452 rfl dX12_thrown_153 ?_
                    refine lv_aload_n hx hb dX12_thrown_156 rfl (lv_at hl 5 rfl) ?_
                    refine r_get (v := .ref (a 35)) hx hb hown hq hE hP 48 117 tFX12_48 (by decide) pw_1466 rfl dX12_thrown_157 ?_
                    refine lv_iload hx hb dX12_thrown_160 (lv_at hl 1 rfl) ?_
                    refine r_ldi (f := (B 35)) (j := f2) hx hb hE hP 35 (ma_35 G a _) rfl (by omega) (by decide) dX12_thrown_162 ?_
                    obtain ⟨-, -, y9, ey9, hy9⟩ := hPg.ps.2.1 f2 (by omega)
                    refine lv_topi (fun x122 e123 => ?_)
                    obtain rfl : x122 = nI y9 := e123.trans ((congrFun hw35 _).trans ey9)
                    refine r_ldi (f := (B 21)) (j := y9) hx hb hE hP 21 (ma_21 G a _) rfl (by omega) (by decide) dX12_thrown_163 ?_
                    obtain ⟨t9, et9, -, -, ht9, -⟩ := (hPg.ty y9 (by omega)).tc (by omega)
                    refine lv_topi (fun x124 e125 => ?_)
                    obtain rfl : x124 = nI t9 := e125.trans ((congrFun hw21 _).trans et9)
                    have hP : va_P G.1 pCl (mW G h0 a (upd (upd (upd (upd F 0 0) 44 (nI fd)) 116 en) 119 (nI u9)) B) _ := hP
                    have hD : va_D A (mW G h0 a (upd (upd (upd (upd F 0 0) 44 (nI fd)) 116 en) 119 (nI u9)) B) := hD
                    refine pc_V0 (G := G) (As := [.int (nI t9)]) (rest := []) hx hb hml hown hq hE hX pX0_al hP hD hS hA hl.1 (R_isReference l G h0 a (upd (upd (upd (upd F 0 0) 44 (nI fd)) 116 en) 119 (nI u9)) B t9 (by omega)) (gV pw_1783 pw_1784 pw_1785 pw_1523 pw_1779) hV_X12_isReference 0 9 rfl rfl rfl rfl (Nat.le_of_ble_eq_true rfl) dX12_thrown_164 ⟨Nat.le_of_ble_eq_true rfl, Nat.le_of_ble_eq_true rfl⟩ ⟨Nat.le_of_ble_eq_true rfl, Nat.le_of_ble_eq_true rfl⟩ (fun v128 u126 H locs hw127 hP hD hS => ?_)
                    obtain ⟨r129, rfl⟩ : ∃ z, z = u126 := ⟨_, rfl⟩
                    obtain ⟨hw127, h130, h131, h132⟩ := hw127
                    replace h130 : r129 ≤ 1 := h130
                    replace h131 : 3 * r129 ≤ t9 := h131
                    replace h132 : t9 ≤ 2 + 9000 * r129 := h132
                    obtain rfl : v128 = some (.int (nI r129)) := hw127
                    have hP : va_P G.1 pCl (mW G h0 a (upd (upd (upd (upd F 0 0) 44 (nI fd)) 116 en) 119 (nI u9)) B) _ := hP
                    have hD : va_D A (mW G h0 a (upd (upd (upd (upd F 0 0) 44 (nI fd)) 116 en) 119 (nI u9)) B) := hD
                    refine W.widen (k := 0) (n := 0) (Nat.le_of_ble_eq_true rfl) (Nat.le_of_ble_eq_true rfl) ?_
                    refine W.eq (g2 := F0 m 167 ls [.int (nI r129)]) rfl ?_
                    refine lv_if_eq (tgt := 183) hx hb dX12_thrown_167 (by decide) (fun c133 => ?_) (fun c133 => ?_)
                    · have n134 : r129 = 0 := (nI_eq (a := r129) (b := 0) (by omega) (by omega)).mp c133
                      refine lv_iload hx hb dX12_thrown_183 (lv_at hl 0 rfl) ?_
                      have hP : va_P G.1 pCl (mW G h0 a (upd (upd (upd (upd F 0 0) 44 (nI fd)) 116 en) 119 uc) B) _ := hP
                      have hD : va_D A (mW G h0 a (upd (upd (upd (upd F 0 0) 44 (nI fd)) 116 en) 119 uc) B) := hD
                      exact W.iret (v := ((B 60) ((p9 + (x9 + 2)) - 2))) hx hb hr (fun t9 ht9 hW9 => ⟨⟨_, ((B 60) ((p9 + (x9 + 2)) - 2)), rfl, rfl, by rw [ht9]; exact hP, hD⟩, hS.F ht9⟩) hS.2.2 dX12_thrown_185
                    · have n135 : ¬ (r129 = 0) := fun h9 => c133 ((nI_eq (a := r129) (b := 0) (by omega) (by omega)).mpr h9)
                      refine lv_iload hx hb dX12_thrown_170 (lv_at hl 0 rfl) ?_
                      refine lv_if_ne (tgt := 179) hx hb dX12_thrown_172 (by decide) (fun c136 => ?_) (fun c136 => ?_)
                      · refine lv_iconst (v := 1) hx hb dX12_thrown_179 (by decide) ?_
                        refine lv_goto (tgt := 185) hx hb dX12_thrown_180 (by decide) ?_
                        have hP : va_P G.1 pCl (mW G h0 a (upd (upd (upd (upd F 0 0) 44 (nI fd)) 116 en) 119 uc) B) _ := hP
                        have hD : va_D A (mW G h0 a (upd (upd (upd (upd F 0 0) 44 (nI fd)) 116 en) 119 uc) B) := hD
                        exact W.iret (v := 1) hx hb hr (fun t9 ht9 hW9 => ⟨⟨_, (1 : Int32), rfl, rfl, by rw [ht9]; exact hP, hD⟩, hS.F ht9⟩) hS.2.2 dX12_thrown_185
                      · refine lv_iconst (v := 0) hx hb dX12_thrown_175 (by decide) ?_
                        refine lv_goto (tgt := 185) hx hb dX12_thrown_176 (by decide) ?_
                        have hP : va_P G.1 pCl (mW G h0 a (upd (upd (upd (upd F 0 0) 44 (nI fd)) 116 en) 119 uc) B) _ := hP
                        have hD : va_D A (mW G h0 a (upd (upd (upd (upd F 0 0) 44 (nI fd)) 116 en) 119 uc) B) := hD
                        exact W.iret (v := 0) hx hb hr (fun t9 ht9 hW9 => ⟨⟨_, (0 : Int32), rfl, rfl, by rw [ht9]; exact hP, hD⟩, hS.F ht9⟩) hS.2.2 dX12_thrown_185
                  · refine lv_iinc (v := (nI (f2 + 1))) (lv' := [(4, .int (nI (f2 + 1))), (3, .int (nI q9)), (2, .int (nI k9)), (1, .int (nI (x9 + 2))), (0, .ref h0)]) hx hb dX12_thrown_123 hl (k := 0) rfl (nI_1 f2) (by decide) rfl (fun ls hl => ?_)
                    refine lv_goto (tgt := 84) hx hb dX12_thrown_126 (by decide) ?_
                    have hP : va_P G.1 pCl (mW G h0 a (upd (upd (upd (upd F 0 0) 44 (nI fd)) 116 en) 119 (nI u9)) B) _ := hP
                    have hD : va_D A (mW G h0 a (upd (upd (upd (upd F 0 0) 44 (nI fd)) 116 en) 119 (nI u9)) B) := hD
                    exact ih_f (f2 + 1) _ _ _ (by have z : ¬ f2 = f0 := (fun z => c113 (by rw [z, hPg.pl f0 hf0, hf2]; rfl)); omega) (by omega) hP hD hS (lv_sub hl [0, 1, 2, 3, 4] rfl)
                · have n137 : ¬ (d104 = k9) := fun h9 => c109 ((nI_eq (a := d104) (b := k9) (by omega) (by omega)).mpr h9)
                  refine lv_aload_n hx hb dX12_thrown_95 rfl (lv_at hl 4 rfl) ?_
                  refine lv_aload_n hx hb dX12_thrown_96 rfl (lv_at hl 4 rfl) ?_
                  refine r_get (v := .ref (a 32)) hx hb hown hq hE hP 45 108 tFX12_45 (by decide) pw_1463 rfl dX12_thrown_97 ?_
                  refine lv_iload hx hb dX12_thrown_100 (lv_at hl 0 rfl) ?_
                  refine r_ldi (f := (B 32)) (j := f2) hx hb hE hP 32 (ma_32 G a _) rfl (by omega) (by decide) dX12_thrown_102 ?_
                  obtain ⟨⟨d138, e139, -, h140⟩, -⟩ := hPg.ps.2.1 f2 (by omega)
                  refine lv_topi (fun x141 e142 => ?_)
                  obtain rfl : x141 = nI d138 := e142.trans ((congrFun hw32 _).trans e139)
                  refine lv_iload_n hx hb dX12_thrown_103 rfl (lv_at hl 2 rfl) ?_
                  have hP : va_P G.1 pCl (mW G h0 a (upd (upd (upd (upd F 0 0) 44 (nI fd)) 116 en) 119 (nI u9)) (updA B 31 (B 31))) _ := hP
                  have hD : va_D A (mW G h0 a (upd (upd (upd (upd F 0 0) 44 (nI fd)) 116 en) 119 (nI u9)) (updA B 31 (B 31))) := hD
                  refine pc_V0 (G := G) (As := [.int (nI d138), .int (nI k9)]) (rest := []) hx hb hml hown hq hE hX pX0_al hP hD hS hA hl.1 (R_isAbove l G h0 a (upd (upd (upd (upd F 0 0) 44 (nI fd)) 116 en) 119 (nI u9)) B d138 k9 (B 31) (by omega) (by show ∀ i : Nat, i < 1600 → B 31 i = 0 ∨ B 31 i = 1; rw [hw31]; exact hfb)) (gV pw_1772 pw_1773 pw_1774 pw_1523 pw_1760) hV_X12_isAbove 0 9 rfl rfl rfl rfl (Nat.le_of_ble_eq_true rfl) dX12_thrown_104 ⟨Nat.le_of_ble_eq_true rfl, Nat.le_of_ble_eq_true rfl⟩ ⟨Nat.le_of_ble_eq_true rfl, Nat.le_of_ble_eq_true rfl⟩ (fun v145 u143 H locs hw144 hP hD hS => ?_)
                  obtain rfl : v145 = some (.int ((B 31) (40 * d138 + k9))) := hw144
                  have hP : va_P G.1 pCl (mW G h0 a (upd (upd (upd (upd F 0 0) 44 (nI fd)) 116 en) 119 (nI u9)) B) _ := hP
                  have hD : va_D A (mW G h0 a (upd (upd (upd (upd F 0 0) 44 (nI fd)) 116 en) 119 (nI u9)) B) := hD
                  refine W.widen (k := 0) (n := 0) (Nat.le_of_ble_eq_true rfl) (Nat.le_of_ble_eq_true rfl) ?_
                  refine W.eq (g2 := F0 m 107 ls [.int ((B 31) (40 * d138 + k9))]) rfl ?_
                  refine lv_if_eq (tgt := 123) hx hb dX12_thrown_107 (by decide) (fun c146 => ?_) (fun c146 => ?_)
                  · refine lv_iinc (v := (nI (f2 + 1))) (lv' := [(4, .int (nI (f2 + 1))), (3, .int (nI q9)), (2, .int (nI k9)), (1, .int (nI (x9 + 2))), (0, .ref h0)]) hx hb dX12_thrown_123 hl (k := 0) rfl (nI_1 f2) (by decide) rfl (fun ls hl => ?_)
                    refine lv_goto (tgt := 84) hx hb dX12_thrown_126 (by decide) ?_
                    have hP : va_P G.1 pCl (mW G h0 a (upd (upd (upd (upd F 0 0) 44 (nI fd)) 116 en) 119 (nI u9)) B) _ := hP
                    have hD : va_D A (mW G h0 a (upd (upd (upd (upd F 0 0) 44 (nI fd)) 116 en) 119 (nI u9)) B) := hD
                    exact ih_f (f2 + 1) _ _ _ (by have z : ¬ f2 = f0 := (fun z => own_not e139 (by omega) (by omega) c109 (by rw [← hw31]; exact c146) (z ▸ hf1)); omega) (by omega) hP hD hS (lv_sub hl [0, 1, 2, 3, 4] rfl)
                  · refine lv_aload_n hx hb dX12_thrown_110 rfl (lv_at hl 4 rfl) ?_
                    refine r_get (v := .ref (a 53)) hx hb hown hq hE hP 89 171 tFX12_89 (by decide) pw_1484 rfl dX12_thrown_111 ?_
                    refine lv_iload hx hb dX12_thrown_114 (lv_at hl 0 rfl) ?_
                    refine r_ldi (f := (B 53)) (j := f2) hx hb hE hP 53 (ma_53 G a _) rfl (by omega) (by decide) dX12_thrown_116 ?_
                    refine lv_iload_n hx hb dX12_thrown_117 rfl (lv_at hl 3 rfl) ?_
                    refine lv_iconst (v := 2) hx hb dX12_thrown_118 (by decide) ?_
                    refine lv_isub hx hb dX12_thrown_119 ?_
                    refine lv_topi (fun x147 e148 => ?_)
                    obtain rfl : x147 = nI ((x9 + 2) - 2) := e148.trans (nI_subN (a := 2) (b := (x9 + 2)) (by omega))
                    refine lv_icmp_eq (tgt := 129) hx hb dX12_thrown_120 (by decide) (fun c149 => ?_) (fun c149 => ?_)
                    · refine lv_aload_n hx hb dX12_thrown_129 rfl (lv_at hl 4 rfl) ?_
                      refine r_get (v := .ref (a 60)) hx hb hown hq hE hP 96 193 tFX12_96 (by decide) pw_1492 rfl dX12_thrown_130 ?_
                      refine lv_aload_n hx hb dX12_thrown_133 rfl (lv_at hl 4 rfl) ?_
                      refine r_get (v := .ref (a 58)) hx hb hown hq hE hP 94 187 tFX12_94 (by decide) pw_1490 rfl dX12_thrown_134 ?_
                      refine lv_aload_n hx hb dX12_thrown_137 rfl (lv_at hl 4 rfl) ?_
                      refine r_get (v := .int (nI u9)) hx hb hown hq hE hP 119 766 tFX12_119 (by decide) pw_2033 rfl dX12_thrown_138 ?_
                      refine lv_iconst (v := 1) hx hb dX12_thrown_141 (by decide) ?_
                      refine lv_isub hx hb dX12_thrown_142 ?_
                      refine lv_topi (fun x150 e151 => ?_)
                      obtain rfl : x150 = nI (u9 - 1) := e151.trans (nI_subN (a := 1) (b := u9) (by omega))
                      refine r_ldi (f := (B 58)) (j := (u9 - 1)) hx hb hE hP 58 (ma_58 G a _) rfl (by omega) (by decide) dX12_thrown_143 ?_
                      refine lv_topi (fun x152 e153 => ?_)
                      obtain rfl : x152 = nI p9 := e153.trans hp1
                      refine lv_iload_n hx hb dX12_thrown_144 rfl (lv_at hl 3 rfl) ?_
                      refine lv_iadd hx hb dX12_thrown_145 ?_
                      refine lv_topi (fun x154 e155 => ?_)
                      obtain rfl : x154 = nI (p9 + (x9 + 2)) := e155.trans (nI_add (p9) ((x9 + 2)))
                      refine lv_iconst (v := 2) hx hb dX12_thrown_146 (by decide) ?_
                      refine lv_isub hx hb dX12_thrown_147 ?_
                      refine lv_topi (fun x156 e157 => ?_)
                      obtain rfl : x156 = nI ((p9 + (x9 + 2)) - 2) := e157.trans (nI_subN (a := 2) (b := (p9 + (x9 + 2))) (by omega))
                      refine r_ldi (f := (B 60)) (j := ((p9 + (x9 + 2)) - 2)) hx hb hE hP 60 (ma_60 G a _) rfl (by omega) (by decide) dX12_thrown_148 ?_
                      refine lv_istore (lv' := [(5, .int ((B 60) ((p9 + (x9 + 2)) - 2))), (4, .int (nI f2)), (3, .int (nI q9)), (2, .int (nI k9)), (1, .int (nI (x9 + 2))), (0, .ref h0)]) hx hb dX12_thrown_149 hl (by decide) rfl (fun ls hl => ?_)
                      refine lv_aload_n hx hb dX12_thrown_151 rfl (lv_at hl 5 rfl) ?_
                      refine lv_aload_n hx hb dX12_thrown_152 rfl (lv_at hl 5 rfl) ?_
                      refine r_get (v := .ref (a 21)) hx hb hown hq hE hP 30 75 tFX12_30 (by decide) pw_1452 rfl dX12_thrown_153 ?_
                      refine lv_aload_n hx hb dX12_thrown_156 rfl (lv_at hl 5 rfl) ?_
                      refine r_get (v := .ref (a 35)) hx hb hown hq hE hP 48 117 tFX12_48 (by decide) pw_1466 rfl dX12_thrown_157 ?_
                      refine lv_iload hx hb dX12_thrown_160 (lv_at hl 1 rfl) ?_
                      refine r_ldi (f := (B 35)) (j := f2) hx hb hE hP 35 (ma_35 G a _) rfl (by omega) (by decide) dX12_thrown_162 ?_
                      obtain ⟨-, -, y9, ey9, hy9⟩ := hPg.ps.2.1 f2 (by omega)
                      refine lv_topi (fun x158 e159 => ?_)
                      obtain rfl : x158 = nI y9 := e159.trans ((congrFun hw35 _).trans ey9)
                      refine r_ldi (f := (B 21)) (j := y9) hx hb hE hP 21 (ma_21 G a _) rfl (by omega) (by decide) dX12_thrown_163 ?_
                      obtain ⟨t9, et9, -, -, ht9, -⟩ := (hPg.ty y9 (by omega)).tc (by omega)
                      refine lv_topi (fun x160 e161 => ?_)
                      obtain rfl : x160 = nI t9 := e161.trans ((congrFun hw21 _).trans et9)
                      have hP : va_P G.1 pCl (mW G h0 a (upd (upd (upd (upd F 0 0) 44 (nI fd)) 116 en) 119 (nI u9)) B) _ := hP
                      have hD : va_D A (mW G h0 a (upd (upd (upd (upd F 0 0) 44 (nI fd)) 116 en) 119 (nI u9)) B) := hD
                      refine pc_V0 (G := G) (As := [.int (nI t9)]) (rest := []) hx hb hml hown hq hE hX pX0_al hP hD hS hA hl.1 (R_isReference l G h0 a (upd (upd (upd (upd F 0 0) 44 (nI fd)) 116 en) 119 (nI u9)) B t9 (by omega)) (gV pw_1783 pw_1784 pw_1785 pw_1523 pw_1779) hV_X12_isReference 0 9 rfl rfl rfl rfl (Nat.le_of_ble_eq_true rfl) dX12_thrown_164 ⟨Nat.le_of_ble_eq_true rfl, Nat.le_of_ble_eq_true rfl⟩ ⟨Nat.le_of_ble_eq_true rfl, Nat.le_of_ble_eq_true rfl⟩ (fun v164 u162 H locs hw163 hP hD hS => ?_)
                      obtain ⟨r165, rfl⟩ : ∃ z, z = u162 := ⟨_, rfl⟩
                      obtain ⟨hw163, h166, h167, h168⟩ := hw163
                      replace h166 : r165 ≤ 1 := h166
                      replace h167 : 3 * r165 ≤ t9 := h167
                      replace h168 : t9 ≤ 2 + 9000 * r165 := h168
                      obtain rfl : v164 = some (.int (nI r165)) := hw163
                      have hP : va_P G.1 pCl (mW G h0 a (upd (upd (upd (upd F 0 0) 44 (nI fd)) 116 en) 119 (nI u9)) B) _ := hP
                      have hD : va_D A (mW G h0 a (upd (upd (upd (upd F 0 0) 44 (nI fd)) 116 en) 119 (nI u9)) B) := hD
                      refine W.widen (k := 0) (n := 0) (Nat.le_of_ble_eq_true rfl) (Nat.le_of_ble_eq_true rfl) ?_
                      refine W.eq (g2 := F0 m 167 ls [.int (nI r165)]) rfl ?_
                      refine lv_if_eq (tgt := 183) hx hb dX12_thrown_167 (by decide) (fun c169 => ?_) (fun c169 => ?_)
                      · have n170 : r165 = 0 := (nI_eq (a := r165) (b := 0) (by omega) (by omega)).mp c169
                        refine lv_iload hx hb dX12_thrown_183 (lv_at hl 0 rfl) ?_
                        have hP : va_P G.1 pCl (mW G h0 a (upd (upd (upd (upd F 0 0) 44 (nI fd)) 116 en) 119 uc) B) _ := hP
                        have hD : va_D A (mW G h0 a (upd (upd (upd (upd F 0 0) 44 (nI fd)) 116 en) 119 uc) B) := hD
                        exact W.iret (v := ((B 60) ((p9 + (x9 + 2)) - 2))) hx hb hr (fun t9 ht9 hW9 => ⟨⟨_, ((B 60) ((p9 + (x9 + 2)) - 2)), rfl, rfl, by rw [ht9]; exact hP, hD⟩, hS.F ht9⟩) hS.2.2 dX12_thrown_185
                      · have n171 : ¬ (r165 = 0) := fun h9 => c169 ((nI_eq (a := r165) (b := 0) (by omega) (by omega)).mpr h9)
                        refine lv_iload hx hb dX12_thrown_170 (lv_at hl 0 rfl) ?_
                        refine lv_if_ne (tgt := 179) hx hb dX12_thrown_172 (by decide) (fun c172 => ?_) (fun c172 => ?_)
                        · refine lv_iconst (v := 1) hx hb dX12_thrown_179 (by decide) ?_
                          refine lv_goto (tgt := 185) hx hb dX12_thrown_180 (by decide) ?_
                          have hP : va_P G.1 pCl (mW G h0 a (upd (upd (upd (upd F 0 0) 44 (nI fd)) 116 en) 119 uc) B) _ := hP
                          have hD : va_D A (mW G h0 a (upd (upd (upd (upd F 0 0) 44 (nI fd)) 116 en) 119 uc) B) := hD
                          exact W.iret (v := 1) hx hb hr (fun t9 ht9 hW9 => ⟨⟨_, (1 : Int32), rfl, rfl, by rw [ht9]; exact hP, hD⟩, hS.F ht9⟩) hS.2.2 dX12_thrown_185
                        · refine lv_iconst (v := 0) hx hb dX12_thrown_175 (by decide) ?_
                          refine lv_goto (tgt := 185) hx hb dX12_thrown_176 (by decide) ?_
                          have hP : va_P G.1 pCl (mW G h0 a (upd (upd (upd (upd F 0 0) 44 (nI fd)) 116 en) 119 uc) B) _ := hP
                          have hD : va_D A (mW G h0 a (upd (upd (upd (upd F 0 0) 44 (nI fd)) 116 en) 119 uc) B) := hD
                          exact W.iret (v := 0) hx hb hr (fun t9 ht9 hW9 => ⟨⟨_, (0 : Int32), rfl, rfl, by rw [ht9]; exact hP, hD⟩, hS.F ht9⟩) hS.2.2 dX12_thrown_185
                    · refine lv_iinc (v := (nI (f2 + 1))) (lv' := [(4, .int (nI (f2 + 1))), (3, .int (nI q9)), (2, .int (nI k9)), (1, .int (nI (x9 + 2))), (0, .ref h0)]) hx hb dX12_thrown_123 hl (k := 0) rfl (nI_1 f2) (by decide) rfl (fun ls hl => ?_)
                      refine lv_goto (tgt := 84) hx hb dX12_thrown_126 (by decide) ?_
                      have hP : va_P G.1 pCl (mW G h0 a (upd (upd (upd (upd F 0 0) 44 (nI fd)) 116 en) 119 (nI u9)) B) _ := hP
                      have hD : va_D A (mW G h0 a (upd (upd (upd (upd F 0 0) 44 (nI fd)) 116 en) 119 (nI u9)) B) := hD
                      exact ih_f (f2 + 1) _ _ _ (by have z : ¬ f2 = f0 := (fun z => c149 (by rw [z, hPg.pl f0 hf0, hf2]; rfl)); omega) (by omega) hP hD hS (lv_sub hl [0, 1, 2, 3, 4] rfl)
            have hP : va_P G.1 pCl (mW G h0 a (upd (upd (upd (upd F 0 0) 44 (nI fd)) 116 en) 119 (nI u9)) B) _ := hP
            have hD : va_D A (mW G h0 a (upd (upd (upd (upd F 0 0) 44 (nI fd)) 116 en) 119 (nI u9)) B) := hD
            exact loop_f (f0 + 1) 0 _ _ _ (by omega) (by omega) hP hD hS (lv_sub hl [0, 1, 2, 4, 3] rfl)
          · have n173 : ¬ (((x9 + 2) - 2) < 0) := fun h9 => c102 ((nI_ltI (a := ((x9 + 2) - 2)) (b := 0) (by omega) (by omega)).mpr h9)
            refine lv_iload_n hx hb dX12_thrown_62 rfl (lv_at hl 3 rfl) ?_
            refine lv_if_ne (tgt := 70) hx hb dX12_thrown_63 (by decide) (fun c174 => ?_) (fun c174 => ?_)
            · have n175 : ¬ ((x9 + 2) = 0) := fun h9 => c174 ((nI_eq (a := (x9 + 2)) (b := 0) (by omega) (by omega)).mpr h9)
              refine lv_iload_n hx hb dX12_thrown_70 rfl (lv_at hl 3 rfl) ?_
              refine lv_iconst (v := 1) hx hb dX12_thrown_71 (by decide) ?_
              refine lv_icmp_ne (tgt := 79) hx hb dX12_thrown_72 (by decide) (fun c176 => ?_) (fun c176 => ?_)
              · have n177 : ¬ ((x9 + 2) = 1) := fun h9 => c176 ((nI_eq (a := (x9 + 2)) (b := 1) (by omega) (by omega)).mpr h9)
                refine lv_iconst (v := (-1)) hx hb dX12_thrown_79 (by decide) ?_
                have hP : va_P G.1 pCl (mW G h0 a (upd (upd (upd (upd F 0 0) 44 (nI fd)) 116 en) 119 uc) B) _ := hP
                have hD : va_D A (mW G h0 a (upd (upd (upd (upd F 0 0) 44 (nI fd)) 116 en) 119 uc) B) := hD
                exact W.iret (v := (-1)) hx hb hr (fun t9 ht9 hW9 => ⟨⟨_, ((-1) : Int32), rfl, rfl, by rw [ht9]; exact hP, hD⟩, hS.F ht9⟩) hS.2.2 dX12_thrown_80
              · have n178 : (x9 + 2) = 1 := (nI_eq (a := (x9 + 2)) (b := 1) (by omega) (by omega)).mp c176
                refine lv_iload_n hx hb dX12_thrown_75 rfl (lv_at hl 0 rfl) ?_
                refine lv_goto (tgt := 80) hx hb dX12_thrown_76 (by decide) ?_
                have hP : va_P G.1 pCl (mW G h0 a (upd (upd (upd (upd F 0 0) 44 (nI fd)) 116 en) 119 uc) B) _ := hP
                have hD : va_D A (mW G h0 a (upd (upd (upd (upd F 0 0) 44 (nI fd)) 116 en) 119 uc) B) := hD
                exact W.iret (v := 0) hx hb hr (fun t9 ht9 hW9 => ⟨⟨_, (0 : Int32), rfl, rfl, by rw [ht9]; exact hP, hD⟩, hS.F ht9⟩) hS.2.2 dX12_thrown_80
            · have n179 : (x9 + 2) = 0 := (nI_eq (a := (x9 + 2)) (b := 0) (by omega) (by omega)).mp c174
              refine lv_iload_n hx hb dX12_thrown_66 rfl (lv_at hl 1 rfl) ?_
              refine lv_goto (tgt := 80) hx hb dX12_thrown_67 (by decide) ?_
              have hP : va_P G.1 pCl (mW G h0 a (upd (upd (upd (upd F 0 0) 44 (nI fd)) 116 en) 119 uc) B) _ := hP
              have hD : va_D A (mW G h0 a (upd (upd (upd (upd F 0 0) 44 (nI fd)) 116 en) 119 uc) B) := hD
              exact W.iret (v := (nI k9)) hx hb hr (fun t9 ht9 hW9 => ⟨⟨_, (nI k9), rfl, rfl, by rw [ht9]; exact hP, hD⟩, hS.F ht9⟩) hS.2.2 dX12_thrown_80
    · refine lv_icmp_le (tgt := 38) hx hb dX12_thrown_31 (by decide) (fun c180 => ?_) (fun c180 => ?_)
      · have n181 : u9 ≤ 4000 := (nI_leI (a := u9) (b := 4000) (by omega) (by omega)).mp c180
        refine lv_aload_n hx hb dX12_thrown_38 rfl (lv_at hl 1 rfl) ?_
        refine r_get (v := .ref (a 57)) hx hb hown hq hE hP 93 184 tFX12_93 (by decide) pw_1489 rfl dX12_thrown_39 ?_
        refine lv_aload_n hx hb dX12_thrown_42 rfl (lv_at hl 1 rfl) ?_
        refine r_get (v := .int (nI u9)) hx hb hown hq hE hP 119 766 tFX12_119 (by decide) pw_2033 rfl dX12_thrown_43 ?_
        refine lv_iconst (v := 1) hx hb dX12_thrown_46 (by decide) ?_
        refine lv_isub hx hb dX12_thrown_47 ?_
        refine lv_topi (fun x182 e183 => ?_)
        obtain rfl : x182 = nI (u9 - 1) := e183.trans (nI_subN (a := 1) (b := u9) (by omega))
        refine r_ldi (f := (B 57)) (j := (u9 - 1)) hx hb hE hP 57 (ma_57 G a _) rfl (by omega) (by decide) dX12_thrown_48 ?_
        refine lv_topi (fun x184 e185 => ?_)
        obtain rfl : x184 = nI q9 := e185.trans hq1
        refine lv_istore_n (lv' := [(3, .int (nI q9)), (2, .int (nI k9)), (0, .ref h0), (1, .int x)]) hx hb dX12_thrown_49 rfl hl (by decide) rfl (fun ls hl => ?_)
        refine lv_iload_n hx hb dX12_thrown_50 rfl (lv_at hl 3 rfl) ?_
        refine lv_iconst (v := 2) hx hb dX12_thrown_51 (by decide) ?_
        refine lv_icmp_lt (tgt := 62) hx hb dX12_thrown_52 (by decide) (fun c186 => ?_) (fun c186 => ?_)
        · refine lv_iload_n hx hb dX12_thrown_62 rfl (lv_at hl 3 rfl) ?_
          refine lv_if_ne (tgt := 70) hx hb dX12_thrown_63 (by decide) (fun c187 => ?_) (fun c187 => ?_)
          · refine lv_iload_n hx hb dX12_thrown_70 rfl (lv_at hl 3 rfl) ?_
            refine lv_iconst (v := 1) hx hb dX12_thrown_71 (by decide) ?_
            refine lv_icmp_ne (tgt := 79) hx hb dX12_thrown_72 (by decide) (fun c188 => ?_) (fun c188 => ?_)
            · refine lv_iconst (v := (-1)) hx hb dX12_thrown_79 (by decide) ?_
              have hP : va_P G.1 pCl (mW G h0 a (upd (upd (upd (upd F 0 0) 44 (nI fd)) 116 en) 119 uc) B) _ := hP
              have hD : va_D A (mW G h0 a (upd (upd (upd (upd F 0 0) 44 (nI fd)) 116 en) 119 uc) B) := hD
              exact W.iret (v := (-1)) hx hb hr (fun t9 ht9 hW9 => ⟨⟨_, ((-1) : Int32), rfl, rfl, by rw [ht9]; exact hP, hD⟩, hS.F ht9⟩) hS.2.2 dX12_thrown_80
            · refine lv_iload_n hx hb dX12_thrown_75 rfl (lv_at hl 0 rfl) ?_
              refine lv_goto (tgt := 80) hx hb dX12_thrown_76 (by decide) ?_
              have hP : va_P G.1 pCl (mW G h0 a (upd (upd (upd (upd F 0 0) 44 (nI fd)) 116 en) 119 uc) B) _ := hP
              have hD : va_D A (mW G h0 a (upd (upd (upd (upd F 0 0) 44 (nI fd)) 116 en) 119 uc) B) := hD
              exact W.iret (v := (nI q9)) hx hb hr (fun t9 ht9 hW9 => ⟨⟨_, (nI q9), rfl, rfl, by rw [ht9]; exact hP, hD⟩, hS.F ht9⟩) hS.2.2 dX12_thrown_80
          · refine lv_iload_n hx hb dX12_thrown_66 rfl (lv_at hl 1 rfl) ?_
            refine lv_goto (tgt := 80) hx hb dX12_thrown_67 (by decide) ?_
            have hP : va_P G.1 pCl (mW G h0 a (upd (upd (upd (upd F 0 0) 44 (nI fd)) 116 en) 119 uc) B) _ := hP
            have hD : va_D A (mW G h0 a (upd (upd (upd (upd F 0 0) 44 (nI fd)) 116 en) 119 uc) B) := hD
            exact W.iret (v := (nI k9)) hx hb hr (fun t9 ht9 hW9 => ⟨⟨_, (nI k9), rfl, rfl, by rw [ht9]; exact hP, hD⟩, hS.F ht9⟩) hS.2.2 dX12_thrown_80
        · obtain ⟨x9, hx1, hx2⟩ : ∃ z : Nat, x = nI (z + 2) ∧ z < 2147483646 := ge_two c186
          subst hx1
          have hP : va_P G.1 pCl (mW G h0 a (upd (upd (upd (upd F 0 0) 44 (nI fd)) 116 en) 119 (nI u9)) B) _ := hP
          have hD : va_D A (mW G h0 a (upd (upd (upd (upd F 0 0) 44 (nI fd)) 116 en) 119 (nI u9)) B) := hD
          refine lv_iload_n hx hb dX12_thrown_55 rfl (lv_at hl 3 rfl) ?_
          refine lv_iconst (v := 2) hx hb dX12_thrown_56 (by decide) ?_
          refine lv_isub hx hb dX12_thrown_57 ?_
          refine lv_topi (fun x189 e190 => ?_)
          obtain rfl : x189 = nI ((x9 + 2) - 2) := e190.trans (nI_subN (a := 2) (b := (x9 + 2)) (by omega))
          refine lv_iload_n hx hb dX12_thrown_58 rfl (lv_at hl 0 rfl) ?_
          refine lv_icmp_lt (tgt := 81) hx hb dX12_thrown_59 (by decide) (fun c191 => ?_) (fun c191 => ?_)
          · have n192 : ((x9 + 2) - 2) < q9 := (nI_ltI (a := ((x9 + 2) - 2)) (b := q9) (by omega) (by omega)).mp c191
            obtain ⟨f0, hf0, hf1, hf2⟩ := hfo x9 (by omega)
            refine lv_iconst (v := 0) hx hb dX12_thrown_81 (by decide) ?_
            refine lv_istore (lv' := [(4, .int 0), (3, .int (nI q9)), (2, .int (nI k9)), (0, .ref h0), (1, .int (nI (x9 + 2)))]) hx hb dX12_thrown_82 hl (by decide) rfl (fun ls hl => ?_)
            have loop_f : ∀ (n_f : Nat) (f2 : Nat) (H : Heap) (locs : List Loc) (ls : Array Slot), f2 ≤ f0 → f0 + 1 ≤ f2 + n_f → va_P G.1 pCl (mW G h0 a (upd (upd (upd (upd F 0 0) 44 (nI fd)) 116 en) 119 (nI u9)) B) H → va_D A (mW G h0 a (upd (upd (upd (upd F 0 0) 44 (nI fd)) 116 en) 119 (nI u9)) B) → va_S A s.heap H locs → lv_has ls 6 [(4, .int (nI f2)), (3, .int (nI q9)), (2, .int (nI k9)), (1, .int (nI (x9 + 2))), (0, .ref h0)] → W p l e (headSpec (Cond.code yX12_thrown cX12_thrown 6 (some .int) :: pw) ({ frames := 3, cells := 0, slots := 0, locals := 82 } : Room)).room s m ([.ref h0, .int x] : List Value).toArray below meth c H locs 0 0 (MQ below (pQ G A (fun (v : Option Value) (u : Int32) => v = some (.int u)) (fun u => (mW G h0 a (upd (upd (upd (upd F 0 0) 44 (nI fd)) 116 en) 119 uc) B))) ([.ref h0, .int x] : List Value).toArray s ({ frames := 3, cells := 0, slots := 0, locals := 82 } : Room).cells ({ frames := 3, cells := 0, slots := 0, locals := 82 } : Room).slots A) (F0 m 84 ls []) := by
              intro n_f
              induction n_f with
              | zero => intro f2 H locs ls hk_f hn_f; omega
              | succ n_f ih_f =>
                intro f2 H locs ls hk_f hn_f hP hD hS hl
                refine lv_aload_n hx hb dX12_thrown_84 rfl (lv_at hl 4 rfl) ?_
                refine r_get (v := .ref (a 32)) hx hb hown hq hE hP 45 108 tFX12_45 (by decide) pw_1463 rfl dX12_thrown_85 ?_
                refine lv_iload hx hb dX12_thrown_88 (lv_at hl 0 rfl) ?_
                refine r_ldi (f := (B 32)) (j := f2) hx hb hE hP 32 (ma_32 G a _) rfl (by omega) (by decide) dX12_thrown_90 ?_
                obtain ⟨⟨d193, e194, -, h195⟩, -⟩ := hPg.ps.2.1 f2 (by omega)
                refine lv_topi (fun x196 e197 => ?_)
                obtain rfl : x196 = nI d193 := e197.trans ((congrFun hw32 _).trans e194)
                refine lv_iload_n hx hb dX12_thrown_91 rfl (lv_at hl 2 rfl) ?_
                refine lv_icmp_eq (tgt := 110) hx hb dX12_thrown_92 (by decide) (fun c198 => ?_) (fun c198 => ?_)
                · have n199 : d193 = k9 := (nI_eq (a := d193) (b := k9) (by omega) (by omega)).mp c198
                  refine lv_aload_n hx hb dX12_thrown_110 rfl (lv_at hl 4 rfl) ?_
                  refine r_get (v := .ref (a 53)) hx hb hown hq hE hP 89 171 tFX12_89 (by decide) pw_1484 rfl dX12_thrown_111 ?_
                  refine lv_iload hx hb dX12_thrown_114 (lv_at hl 0 rfl) ?_
                  refine r_ldi (f := (B 53)) (j := f2) hx hb hE hP 53 (ma_53 G a _) rfl (by omega) (by decide) dX12_thrown_116 ?_
                  refine lv_iload_n hx hb dX12_thrown_117 rfl (lv_at hl 3 rfl) ?_
                  refine lv_iconst (v := 2) hx hb dX12_thrown_118 (by decide) ?_
                  refine lv_isub hx hb dX12_thrown_119 ?_
                  refine lv_topi (fun x200 e201 => ?_)
                  obtain rfl : x200 = nI ((x9 + 2) - 2) := e201.trans (nI_subN (a := 2) (b := (x9 + 2)) (by omega))
                  refine lv_icmp_eq (tgt := 129) hx hb dX12_thrown_120 (by decide) (fun c202 => ?_) (fun c202 => ?_)
                  · refine lv_aload_n hx hb dX12_thrown_129 rfl (lv_at hl 4 rfl) ?_
                    refine r_get (v := .ref (a 60)) hx hb hown hq hE hP 96 193 tFX12_96 (by decide) pw_1492 rfl dX12_thrown_130 ?_
                    refine lv_aload_n hx hb dX12_thrown_133 rfl (lv_at hl 4 rfl) ?_
                    refine r_get (v := .ref (a 58)) hx hb hown hq hE hP 94 187 tFX12_94 (by decide) pw_1490 rfl dX12_thrown_134 ?_
                    refine lv_aload_n hx hb dX12_thrown_137 rfl (lv_at hl 4 rfl) ?_
                    refine r_get (v := .int (nI u9)) hx hb hown hq hE hP 119 766 tFX12_119 (by decide) pw_2033 rfl dX12_thrown_138 ?_
                    refine lv_iconst (v := 1) hx hb dX12_thrown_141 (by decide) ?_
                    refine lv_isub hx hb dX12_thrown_142 ?_
                    refine lv_topi (fun x203 e204 => ?_)
                    obtain rfl : x203 = nI (u9 - 1) := e204.trans (nI_subN (a := 1) (b := u9) (by omega))
                    refine r_ldi (f := (B 58)) (j := (u9 - 1)) hx hb hE hP 58 (ma_58 G a _) rfl (by omega) (by decide) dX12_thrown_143 ?_
                    refine lv_topi (fun x205 e206 => ?_)
                    obtain rfl : x205 = nI p9 := e206.trans hp1
                    refine lv_iload_n hx hb dX12_thrown_144 rfl (lv_at hl 3 rfl) ?_
                    refine lv_iadd hx hb dX12_thrown_145 ?_
                    refine lv_topi (fun x207 e208 => ?_)
                    obtain rfl : x207 = nI (p9 + (x9 + 2)) := e208.trans (nI_add (p9) ((x9 + 2)))
                    refine lv_iconst (v := 2) hx hb dX12_thrown_146 (by decide) ?_
                    refine lv_isub hx hb dX12_thrown_147 ?_
                    refine lv_topi (fun x209 e210 => ?_)
                    obtain rfl : x209 = nI ((p9 + (x9 + 2)) - 2) := e210.trans (nI_subN (a := 2) (b := (p9 + (x9 + 2))) (by omega))
                    refine r_ldi (f := (B 60)) (j := ((p9 + (x9 + 2)) - 2)) hx hb hE hP 60 (ma_60 G a _) rfl (by omega) (by decide) dX12_thrown_148 ?_
                    refine lv_istore (lv' := [(5, .int ((B 60) ((p9 + (x9 + 2)) - 2))), (4, .int (nI f2)), (3, .int (nI q9)), (2, .int (nI k9)), (1, .int (nI (x9 + 2))), (0, .ref h0)]) hx hb dX12_thrown_149 hl (by decide) rfl (fun ls hl => ?_)
                    refine lv_aload_n hx hb dX12_thrown_151 rfl (lv_at hl 5 rfl) ?_
                    refine lv_aload_n hx hb dX12_thrown_152 rfl (lv_at hl 5 rfl) ?_
                    refine r_get (v := .ref (a 21)) hx hb hown hq hE hP 30 75 tFX12_30 (by decide) pw_1452 rfl dX12_thrown_153 ?_
                    refine lv_aload_n hx hb dX12_thrown_156 rfl (lv_at hl 5 rfl) ?_
                    refine r_get (v := .ref (a 35)) hx hb hown hq hE hP 48 117 tFX12_48 (by decide) pw_1466 rfl dX12_thrown_157 ?_
                    refine lv_iload hx hb dX12_thrown_160 (lv_at hl 1 rfl) ?_
                    refine r_ldi (f := (B 35)) (j := f2) hx hb hE hP 35 (ma_35 G a _) rfl (by omega) (by decide) dX12_thrown_162 ?_
                    obtain ⟨-, -, y9, ey9, hy9⟩ := hPg.ps.2.1 f2 (by omega)
                    refine lv_topi (fun x211 e212 => ?_)
                    obtain rfl : x211 = nI y9 := e212.trans ((congrFun hw35 _).trans ey9)
                    refine r_ldi (f := (B 21)) (j := y9) hx hb hE hP 21 (ma_21 G a _) rfl (by omega) (by decide) dX12_thrown_163 ?_
                    obtain ⟨t9, et9, -, -, ht9, -⟩ := (hPg.ty y9 (by omega)).tc (by omega)
                    refine lv_topi (fun x213 e214 => ?_)
                    obtain rfl : x213 = nI t9 := e214.trans ((congrFun hw21 _).trans et9)
                    have hP : va_P G.1 pCl (mW G h0 a (upd (upd (upd (upd F 0 0) 44 (nI fd)) 116 en) 119 (nI u9)) B) _ := hP
                    have hD : va_D A (mW G h0 a (upd (upd (upd (upd F 0 0) 44 (nI fd)) 116 en) 119 (nI u9)) B) := hD
                    refine pc_V0 (G := G) (As := [.int (nI t9)]) (rest := []) hx hb hml hown hq hE hX pX0_al hP hD hS hA hl.1 (R_isReference l G h0 a (upd (upd (upd (upd F 0 0) 44 (nI fd)) 116 en) 119 (nI u9)) B t9 (by omega)) (gV pw_1783 pw_1784 pw_1785 pw_1523 pw_1779) hV_X12_isReference 0 9 rfl rfl rfl rfl (Nat.le_of_ble_eq_true rfl) dX12_thrown_164 ⟨Nat.le_of_ble_eq_true rfl, Nat.le_of_ble_eq_true rfl⟩ ⟨Nat.le_of_ble_eq_true rfl, Nat.le_of_ble_eq_true rfl⟩ (fun v217 u215 H locs hw216 hP hD hS => ?_)
                    obtain ⟨r218, rfl⟩ : ∃ z, z = u215 := ⟨_, rfl⟩
                    obtain ⟨hw216, h219, h220, h221⟩ := hw216
                    replace h219 : r218 ≤ 1 := h219
                    replace h220 : 3 * r218 ≤ t9 := h220
                    replace h221 : t9 ≤ 2 + 9000 * r218 := h221
                    obtain rfl : v217 = some (.int (nI r218)) := hw216
                    have hP : va_P G.1 pCl (mW G h0 a (upd (upd (upd (upd F 0 0) 44 (nI fd)) 116 en) 119 (nI u9)) B) _ := hP
                    have hD : va_D A (mW G h0 a (upd (upd (upd (upd F 0 0) 44 (nI fd)) 116 en) 119 (nI u9)) B) := hD
                    refine W.widen (k := 0) (n := 0) (Nat.le_of_ble_eq_true rfl) (Nat.le_of_ble_eq_true rfl) ?_
                    refine W.eq (g2 := F0 m 167 ls [.int (nI r218)]) rfl ?_
                    refine lv_if_eq (tgt := 183) hx hb dX12_thrown_167 (by decide) (fun c222 => ?_) (fun c222 => ?_)
                    · have n223 : r218 = 0 := (nI_eq (a := r218) (b := 0) (by omega) (by omega)).mp c222
                      refine lv_iload hx hb dX12_thrown_183 (lv_at hl 0 rfl) ?_
                      have hP : va_P G.1 pCl (mW G h0 a (upd (upd (upd (upd F 0 0) 44 (nI fd)) 116 en) 119 uc) B) _ := hP
                      have hD : va_D A (mW G h0 a (upd (upd (upd (upd F 0 0) 44 (nI fd)) 116 en) 119 uc) B) := hD
                      exact W.iret (v := ((B 60) ((p9 + (x9 + 2)) - 2))) hx hb hr (fun t9 ht9 hW9 => ⟨⟨_, ((B 60) ((p9 + (x9 + 2)) - 2)), rfl, rfl, by rw [ht9]; exact hP, hD⟩, hS.F ht9⟩) hS.2.2 dX12_thrown_185
                    · have n224 : ¬ (r218 = 0) := fun h9 => c222 ((nI_eq (a := r218) (b := 0) (by omega) (by omega)).mpr h9)
                      refine lv_iload hx hb dX12_thrown_170 (lv_at hl 0 rfl) ?_
                      refine lv_if_ne (tgt := 179) hx hb dX12_thrown_172 (by decide) (fun c225 => ?_) (fun c225 => ?_)
                      · refine lv_iconst (v := 1) hx hb dX12_thrown_179 (by decide) ?_
                        refine lv_goto (tgt := 185) hx hb dX12_thrown_180 (by decide) ?_
                        have hP : va_P G.1 pCl (mW G h0 a (upd (upd (upd (upd F 0 0) 44 (nI fd)) 116 en) 119 uc) B) _ := hP
                        have hD : va_D A (mW G h0 a (upd (upd (upd (upd F 0 0) 44 (nI fd)) 116 en) 119 uc) B) := hD
                        exact W.iret (v := 1) hx hb hr (fun t9 ht9 hW9 => ⟨⟨_, (1 : Int32), rfl, rfl, by rw [ht9]; exact hP, hD⟩, hS.F ht9⟩) hS.2.2 dX12_thrown_185
                      · refine lv_iconst (v := 0) hx hb dX12_thrown_175 (by decide) ?_
                        refine lv_goto (tgt := 185) hx hb dX12_thrown_176 (by decide) ?_
                        have hP : va_P G.1 pCl (mW G h0 a (upd (upd (upd (upd F 0 0) 44 (nI fd)) 116 en) 119 uc) B) _ := hP
                        have hD : va_D A (mW G h0 a (upd (upd (upd (upd F 0 0) 44 (nI fd)) 116 en) 119 uc) B) := hD
                        exact W.iret (v := 0) hx hb hr (fun t9 ht9 hW9 => ⟨⟨_, (0 : Int32), rfl, rfl, by rw [ht9]; exact hP, hD⟩, hS.F ht9⟩) hS.2.2 dX12_thrown_185
                  · refine lv_iinc (v := (nI (f2 + 1))) (lv' := [(4, .int (nI (f2 + 1))), (3, .int (nI q9)), (2, .int (nI k9)), (1, .int (nI (x9 + 2))), (0, .ref h0)]) hx hb dX12_thrown_123 hl (k := 0) rfl (nI_1 f2) (by decide) rfl (fun ls hl => ?_)
                    refine lv_goto (tgt := 84) hx hb dX12_thrown_126 (by decide) ?_
                    have hP : va_P G.1 pCl (mW G h0 a (upd (upd (upd (upd F 0 0) 44 (nI fd)) 116 en) 119 (nI u9)) B) _ := hP
                    have hD : va_D A (mW G h0 a (upd (upd (upd (upd F 0 0) 44 (nI fd)) 116 en) 119 (nI u9)) B) := hD
                    exact ih_f (f2 + 1) _ _ _ (by have z : ¬ f2 = f0 := (fun z => c202 (by rw [z, hPg.pl f0 hf0, hf2]; rfl)); omega) (by omega) hP hD hS (lv_sub hl [0, 1, 2, 3, 4] rfl)
                · have n226 : ¬ (d193 = k9) := fun h9 => c198 ((nI_eq (a := d193) (b := k9) (by omega) (by omega)).mpr h9)
                  refine lv_aload_n hx hb dX12_thrown_95 rfl (lv_at hl 4 rfl) ?_
                  refine lv_aload_n hx hb dX12_thrown_96 rfl (lv_at hl 4 rfl) ?_
                  refine r_get (v := .ref (a 32)) hx hb hown hq hE hP 45 108 tFX12_45 (by decide) pw_1463 rfl dX12_thrown_97 ?_
                  refine lv_iload hx hb dX12_thrown_100 (lv_at hl 0 rfl) ?_
                  refine r_ldi (f := (B 32)) (j := f2) hx hb hE hP 32 (ma_32 G a _) rfl (by omega) (by decide) dX12_thrown_102 ?_
                  obtain ⟨⟨d227, e228, -, h229⟩, -⟩ := hPg.ps.2.1 f2 (by omega)
                  refine lv_topi (fun x230 e231 => ?_)
                  obtain rfl : x230 = nI d227 := e231.trans ((congrFun hw32 _).trans e228)
                  refine lv_iload_n hx hb dX12_thrown_103 rfl (lv_at hl 2 rfl) ?_
                  have hP : va_P G.1 pCl (mW G h0 a (upd (upd (upd (upd F 0 0) 44 (nI fd)) 116 en) 119 (nI u9)) (updA B 31 (B 31))) _ := hP
                  have hD : va_D A (mW G h0 a (upd (upd (upd (upd F 0 0) 44 (nI fd)) 116 en) 119 (nI u9)) (updA B 31 (B 31))) := hD
                  refine pc_V0 (G := G) (As := [.int (nI d227), .int (nI k9)]) (rest := []) hx hb hml hown hq hE hX pX0_al hP hD hS hA hl.1 (R_isAbove l G h0 a (upd (upd (upd (upd F 0 0) 44 (nI fd)) 116 en) 119 (nI u9)) B d227 k9 (B 31) (by omega) (by show ∀ i : Nat, i < 1600 → B 31 i = 0 ∨ B 31 i = 1; rw [hw31]; exact hfb)) (gV pw_1772 pw_1773 pw_1774 pw_1523 pw_1760) hV_X12_isAbove 0 9 rfl rfl rfl rfl (Nat.le_of_ble_eq_true rfl) dX12_thrown_104 ⟨Nat.le_of_ble_eq_true rfl, Nat.le_of_ble_eq_true rfl⟩ ⟨Nat.le_of_ble_eq_true rfl, Nat.le_of_ble_eq_true rfl⟩ (fun v234 u232 H locs hw233 hP hD hS => ?_)
                  obtain rfl : v234 = some (.int ((B 31) (40 * d227 + k9))) := hw233
                  have hP : va_P G.1 pCl (mW G h0 a (upd (upd (upd (upd F 0 0) 44 (nI fd)) 116 en) 119 (nI u9)) B) _ := hP
                  have hD : va_D A (mW G h0 a (upd (upd (upd (upd F 0 0) 44 (nI fd)) 116 en) 119 (nI u9)) B) := hD
                  refine W.widen (k := 0) (n := 0) (Nat.le_of_ble_eq_true rfl) (Nat.le_of_ble_eq_true rfl) ?_
                  refine W.eq (g2 := F0 m 107 ls [.int ((B 31) (40 * d227 + k9))]) rfl ?_
                  refine lv_if_eq (tgt := 123) hx hb dX12_thrown_107 (by decide) (fun c235 => ?_) (fun c235 => ?_)
                  · refine lv_iinc (v := (nI (f2 + 1))) (lv' := [(4, .int (nI (f2 + 1))), (3, .int (nI q9)), (2, .int (nI k9)), (1, .int (nI (x9 + 2))), (0, .ref h0)]) hx hb dX12_thrown_123 hl (k := 0) rfl (nI_1 f2) (by decide) rfl (fun ls hl => ?_)
                    refine lv_goto (tgt := 84) hx hb dX12_thrown_126 (by decide) ?_
                    have hP : va_P G.1 pCl (mW G h0 a (upd (upd (upd (upd F 0 0) 44 (nI fd)) 116 en) 119 (nI u9)) B) _ := hP
                    have hD : va_D A (mW G h0 a (upd (upd (upd (upd F 0 0) 44 (nI fd)) 116 en) 119 (nI u9)) B) := hD
                    exact ih_f (f2 + 1) _ _ _ (by have z : ¬ f2 = f0 := (fun z => own_not e228 (by omega) (by omega) c198 (by rw [← hw31]; exact c235) (z ▸ hf1)); omega) (by omega) hP hD hS (lv_sub hl [0, 1, 2, 3, 4] rfl)
                  · refine lv_aload_n hx hb dX12_thrown_110 rfl (lv_at hl 4 rfl) ?_
                    refine r_get (v := .ref (a 53)) hx hb hown hq hE hP 89 171 tFX12_89 (by decide) pw_1484 rfl dX12_thrown_111 ?_
                    refine lv_iload hx hb dX12_thrown_114 (lv_at hl 0 rfl) ?_
                    refine r_ldi (f := (B 53)) (j := f2) hx hb hE hP 53 (ma_53 G a _) rfl (by omega) (by decide) dX12_thrown_116 ?_
                    refine lv_iload_n hx hb dX12_thrown_117 rfl (lv_at hl 3 rfl) ?_
                    refine lv_iconst (v := 2) hx hb dX12_thrown_118 (by decide) ?_
                    refine lv_isub hx hb dX12_thrown_119 ?_
                    refine lv_topi (fun x236 e237 => ?_)
                    obtain rfl : x236 = nI ((x9 + 2) - 2) := e237.trans (nI_subN (a := 2) (b := (x9 + 2)) (by omega))
                    refine lv_icmp_eq (tgt := 129) hx hb dX12_thrown_120 (by decide) (fun c238 => ?_) (fun c238 => ?_)
                    · refine lv_aload_n hx hb dX12_thrown_129 rfl (lv_at hl 4 rfl) ?_
                      refine r_get (v := .ref (a 60)) hx hb hown hq hE hP 96 193 tFX12_96 (by decide) pw_1492 rfl dX12_thrown_130 ?_
                      refine lv_aload_n hx hb dX12_thrown_133 rfl (lv_at hl 4 rfl) ?_
                      refine r_get (v := .ref (a 58)) hx hb hown hq hE hP 94 187 tFX12_94 (by decide) pw_1490 rfl dX12_thrown_134 ?_
                      refine lv_aload_n hx hb dX12_thrown_137 rfl (lv_at hl 4 rfl) ?_
                      refine r_get (v := .int (nI u9)) hx hb hown hq hE hP 119 766 tFX12_119 (by decide) pw_2033 rfl dX12_thrown_138 ?_
                      refine lv_iconst (v := 1) hx hb dX12_thrown_141 (by decide) ?_
                      refine lv_isub hx hb dX12_thrown_142 ?_
                      refine lv_topi (fun x239 e240 => ?_)
                      obtain rfl : x239 = nI (u9 - 1) := e240.trans (nI_subN (a := 1) (b := u9) (by omega))
                      refine r_ldi (f := (B 58)) (j := (u9 - 1)) hx hb hE hP 58 (ma_58 G a _) rfl (by omega) (by decide) dX12_thrown_143 ?_
                      refine lv_topi (fun x241 e242 => ?_)
                      obtain rfl : x241 = nI p9 := e242.trans hp1
                      refine lv_iload_n hx hb dX12_thrown_144 rfl (lv_at hl 3 rfl) ?_
                      refine lv_iadd hx hb dX12_thrown_145 ?_
                      refine lv_topi (fun x243 e244 => ?_)
                      obtain rfl : x243 = nI (p9 + (x9 + 2)) := e244.trans (nI_add (p9) ((x9 + 2)))
                      refine lv_iconst (v := 2) hx hb dX12_thrown_146 (by decide) ?_
                      refine lv_isub hx hb dX12_thrown_147 ?_
                      refine lv_topi (fun x245 e246 => ?_)
                      obtain rfl : x245 = nI ((p9 + (x9 + 2)) - 2) := e246.trans (nI_subN (a := 2) (b := (p9 + (x9 + 2))) (by omega))
                      refine r_ldi (f := (B 60)) (j := ((p9 + (x9 + 2)) - 2)) hx hb hE hP 60 (ma_60 G a _) rfl (by omega) (by decide) dX12_thrown_148 ?_
                      refine lv_istore (lv' := [(5, .int ((B 60) ((p9 + (x9 + 2)) - 2))), (4, .int (nI f2)), (3, .int (nI q9)), (2, .int (nI k9)), (1, .int (nI (x9 + 2))), (0, .ref h0)]) hx hb dX12_thrown_149 hl (by decide) rfl (fun ls hl => ?_)
                      refine lv_aload_n hx hb dX12_thrown_151 rfl (lv_at hl 5 rfl) ?_
                      refine lv_aload_n hx hb dX12_thrown_152 rfl (lv_at hl 5 rfl) ?_
                      refine r_get (v := .ref (a 21)) hx hb hown hq hE hP 30 75 tFX12_30 (by decide) pw_1452 rfl dX12_thrown_153 ?_
                      refine lv_aload_n hx hb dX12_thrown_156 rfl (lv_at hl 5 rfl) ?_
                      refine r_get (v := .ref (a 35)) hx hb hown hq hE hP 48 117 tFX12_48 (by decide) pw_1466 rfl dX12_thrown_157 ?_
                      refine lv_iload hx hb dX12_thrown_160 (lv_at hl 1 rfl) ?_
                      refine r_ldi (f := (B 35)) (j := f2) hx hb hE hP 35 (ma_35 G a _) rfl (by omega) (by decide) dX12_thrown_162 ?_
                      obtain ⟨-, -, y9, ey9, hy9⟩ := hPg.ps.2.1 f2 (by omega)
                      refine lv_topi (fun x247 e248 => ?_)
                      obtain rfl : x247 = nI y9 := e248.trans ((congrFun hw35 _).trans ey9)
                      refine r_ldi (f := (B 21)) (j := y9) hx hb hE hP 21 (ma_21 G a _) rfl (by omega) (by decide) dX12_thrown_163 ?_
                      obtain ⟨t9, et9, -, -, ht9, -⟩ := (hPg.ty y9 (by omega)).tc (by omega)
                      refine lv_topi (fun x249 e250 => ?_)
                      obtain rfl : x249 = nI t9 := e250.trans ((congrFun hw21 _).trans et9)
                      have hP : va_P G.1 pCl (mW G h0 a (upd (upd (upd (upd F 0 0) 44 (nI fd)) 116 en) 119 (nI u9)) B) _ := hP
                      have hD : va_D A (mW G h0 a (upd (upd (upd (upd F 0 0) 44 (nI fd)) 116 en) 119 (nI u9)) B) := hD
                      refine pc_V0 (G := G) (As := [.int (nI t9)]) (rest := []) hx hb hml hown hq hE hX pX0_al hP hD hS hA hl.1 (R_isReference l G h0 a (upd (upd (upd (upd F 0 0) 44 (nI fd)) 116 en) 119 (nI u9)) B t9 (by omega)) (gV pw_1783 pw_1784 pw_1785 pw_1523 pw_1779) hV_X12_isReference 0 9 rfl rfl rfl rfl (Nat.le_of_ble_eq_true rfl) dX12_thrown_164 ⟨Nat.le_of_ble_eq_true rfl, Nat.le_of_ble_eq_true rfl⟩ ⟨Nat.le_of_ble_eq_true rfl, Nat.le_of_ble_eq_true rfl⟩ (fun v253 u251 H locs hw252 hP hD hS => ?_)
                      obtain ⟨r254, rfl⟩ : ∃ z, z = u251 := ⟨_, rfl⟩
                      obtain ⟨hw252, h255, h256, h257⟩ := hw252
                      replace h255 : r254 ≤ 1 := h255
                      replace h256 : 3 * r254 ≤ t9 := h256
                      replace h257 : t9 ≤ 2 + 9000 * r254 := h257
                      obtain rfl : v253 = some (.int (nI r254)) := hw252
                      have hP : va_P G.1 pCl (mW G h0 a (upd (upd (upd (upd F 0 0) 44 (nI fd)) 116 en) 119 (nI u9)) B) _ := hP
                      have hD : va_D A (mW G h0 a (upd (upd (upd (upd F 0 0) 44 (nI fd)) 116 en) 119 (nI u9)) B) := hD
                      refine W.widen (k := 0) (n := 0) (Nat.le_of_ble_eq_true rfl) (Nat.le_of_ble_eq_true rfl) ?_
                      refine W.eq (g2 := F0 m 167 ls [.int (nI r254)]) rfl ?_
                      refine lv_if_eq (tgt := 183) hx hb dX12_thrown_167 (by decide) (fun c258 => ?_) (fun c258 => ?_)
                      · have n259 : r254 = 0 := (nI_eq (a := r254) (b := 0) (by omega) (by omega)).mp c258
                        refine lv_iload hx hb dX12_thrown_183 (lv_at hl 0 rfl) ?_
                        have hP : va_P G.1 pCl (mW G h0 a (upd (upd (upd (upd F 0 0) 44 (nI fd)) 116 en) 119 uc) B) _ := hP
                        have hD : va_D A (mW G h0 a (upd (upd (upd (upd F 0 0) 44 (nI fd)) 116 en) 119 uc) B) := hD
                        exact W.iret (v := ((B 60) ((p9 + (x9 + 2)) - 2))) hx hb hr (fun t9 ht9 hW9 => ⟨⟨_, ((B 60) ((p9 + (x9 + 2)) - 2)), rfl, rfl, by rw [ht9]; exact hP, hD⟩, hS.F ht9⟩) hS.2.2 dX12_thrown_185
                      · have n260 : ¬ (r254 = 0) := fun h9 => c258 ((nI_eq (a := r254) (b := 0) (by omega) (by omega)).mpr h9)
                        refine lv_iload hx hb dX12_thrown_170 (lv_at hl 0 rfl) ?_
                        refine lv_if_ne (tgt := 179) hx hb dX12_thrown_172 (by decide) (fun c261 => ?_) (fun c261 => ?_)
                        · refine lv_iconst (v := 1) hx hb dX12_thrown_179 (by decide) ?_
                          refine lv_goto (tgt := 185) hx hb dX12_thrown_180 (by decide) ?_
                          have hP : va_P G.1 pCl (mW G h0 a (upd (upd (upd (upd F 0 0) 44 (nI fd)) 116 en) 119 uc) B) _ := hP
                          have hD : va_D A (mW G h0 a (upd (upd (upd (upd F 0 0) 44 (nI fd)) 116 en) 119 uc) B) := hD
                          exact W.iret (v := 1) hx hb hr (fun t9 ht9 hW9 => ⟨⟨_, (1 : Int32), rfl, rfl, by rw [ht9]; exact hP, hD⟩, hS.F ht9⟩) hS.2.2 dX12_thrown_185
                        · refine lv_iconst (v := 0) hx hb dX12_thrown_175 (by decide) ?_
                          refine lv_goto (tgt := 185) hx hb dX12_thrown_176 (by decide) ?_
                          have hP : va_P G.1 pCl (mW G h0 a (upd (upd (upd (upd F 0 0) 44 (nI fd)) 116 en) 119 uc) B) _ := hP
                          have hD : va_D A (mW G h0 a (upd (upd (upd (upd F 0 0) 44 (nI fd)) 116 en) 119 uc) B) := hD
                          exact W.iret (v := 0) hx hb hr (fun t9 ht9 hW9 => ⟨⟨_, (0 : Int32), rfl, rfl, by rw [ht9]; exact hP, hD⟩, hS.F ht9⟩) hS.2.2 dX12_thrown_185
                    · refine lv_iinc (v := (nI (f2 + 1))) (lv' := [(4, .int (nI (f2 + 1))), (3, .int (nI q9)), (2, .int (nI k9)), (1, .int (nI (x9 + 2))), (0, .ref h0)]) hx hb dX12_thrown_123 hl (k := 0) rfl (nI_1 f2) (by decide) rfl (fun ls hl => ?_)
                      refine lv_goto (tgt := 84) hx hb dX12_thrown_126 (by decide) ?_
                      have hP : va_P G.1 pCl (mW G h0 a (upd (upd (upd (upd F 0 0) 44 (nI fd)) 116 en) 119 (nI u9)) B) _ := hP
                      have hD : va_D A (mW G h0 a (upd (upd (upd (upd F 0 0) 44 (nI fd)) 116 en) 119 (nI u9)) B) := hD
                      exact ih_f (f2 + 1) _ _ _ (by have z : ¬ f2 = f0 := (fun z => c238 (by rw [z, hPg.pl f0 hf0, hf2]; rfl)); omega) (by omega) hP hD hS (lv_sub hl [0, 1, 2, 3, 4] rfl)
            have hP : va_P G.1 pCl (mW G h0 a (upd (upd (upd (upd F 0 0) 44 (nI fd)) 116 en) 119 (nI u9)) B) _ := hP
            have hD : va_D A (mW G h0 a (upd (upd (upd (upd F 0 0) 44 (nI fd)) 116 en) 119 (nI u9)) B) := hD
            exact loop_f (f0 + 1) 0 _ _ _ (by omega) (by omega) hP hD hS (lv_sub hl [0, 1, 2, 4, 3] rfl)
          · have n262 : ¬ (((x9 + 2) - 2) < q9) := fun h9 => c191 ((nI_ltI (a := ((x9 + 2) - 2)) (b := q9) (by omega) (by omega)).mpr h9)
            refine lv_iload_n hx hb dX12_thrown_62 rfl (lv_at hl 3 rfl) ?_
            refine lv_if_ne (tgt := 70) hx hb dX12_thrown_63 (by decide) (fun c263 => ?_) (fun c263 => ?_)
            · have n264 : ¬ ((x9 + 2) = 0) := fun h9 => c263 ((nI_eq (a := (x9 + 2)) (b := 0) (by omega) (by omega)).mpr h9)
              refine lv_iload_n hx hb dX12_thrown_70 rfl (lv_at hl 3 rfl) ?_
              refine lv_iconst (v := 1) hx hb dX12_thrown_71 (by decide) ?_
              refine lv_icmp_ne (tgt := 79) hx hb dX12_thrown_72 (by decide) (fun c265 => ?_) (fun c265 => ?_)
              · have n266 : ¬ ((x9 + 2) = 1) := fun h9 => c265 ((nI_eq (a := (x9 + 2)) (b := 1) (by omega) (by omega)).mpr h9)
                refine lv_iconst (v := (-1)) hx hb dX12_thrown_79 (by decide) ?_
                have hP : va_P G.1 pCl (mW G h0 a (upd (upd (upd (upd F 0 0) 44 (nI fd)) 116 en) 119 uc) B) _ := hP
                have hD : va_D A (mW G h0 a (upd (upd (upd (upd F 0 0) 44 (nI fd)) 116 en) 119 uc) B) := hD
                exact W.iret (v := (-1)) hx hb hr (fun t9 ht9 hW9 => ⟨⟨_, ((-1) : Int32), rfl, rfl, by rw [ht9]; exact hP, hD⟩, hS.F ht9⟩) hS.2.2 dX12_thrown_80
              · have n267 : (x9 + 2) = 1 := (nI_eq (a := (x9 + 2)) (b := 1) (by omega) (by omega)).mp c265
                refine lv_iload_n hx hb dX12_thrown_75 rfl (lv_at hl 0 rfl) ?_
                refine lv_goto (tgt := 80) hx hb dX12_thrown_76 (by decide) ?_
                have hP : va_P G.1 pCl (mW G h0 a (upd (upd (upd (upd F 0 0) 44 (nI fd)) 116 en) 119 uc) B) _ := hP
                have hD : va_D A (mW G h0 a (upd (upd (upd (upd F 0 0) 44 (nI fd)) 116 en) 119 uc) B) := hD
                exact W.iret (v := (nI q9)) hx hb hr (fun t9 ht9 hW9 => ⟨⟨_, (nI q9), rfl, rfl, by rw [ht9]; exact hP, hD⟩, hS.F ht9⟩) hS.2.2 dX12_thrown_80
            · have n268 : (x9 + 2) = 0 := (nI_eq (a := (x9 + 2)) (b := 0) (by omega) (by omega)).mp c263
              refine lv_iload_n hx hb dX12_thrown_66 rfl (lv_at hl 1 rfl) ?_
              refine lv_goto (tgt := 80) hx hb dX12_thrown_67 (by decide) ?_
              have hP : va_P G.1 pCl (mW G h0 a (upd (upd (upd (upd F 0 0) 44 (nI fd)) 116 en) 119 uc) B) _ := hP
              have hD : va_D A (mW G h0 a (upd (upd (upd (upd F 0 0) 44 (nI fd)) 116 en) 119 uc) B) := hD
              exact W.iret (v := (nI k9)) hx hb hr (fun t9 ht9 hW9 => ⟨⟨_, (nI k9), rfl, rfl, by rw [ht9]; exact hP, hD⟩, hS.F ht9⟩) hS.2.2 dX12_thrown_80
      · have n269 : ¬ (u9 ≤ 4000) := fun h9 => c180 ((nI_leI (a := u9) (b := 4000) (by omega) (by omega)).mpr h9)
        refine lv_iconst (v := 0) hx hb dX12_thrown_34 (by decide) ?_
        refine lv_goto (tgt := 49) hx hb dX12_thrown_35 (by decide) ?_
        refine lv_istore_n (lv' := [(3, .int 0), (2, .int (nI k9)), (0, .ref h0), (1, .int x)]) hx hb dX12_thrown_49 rfl hl (by decide) rfl (fun ls hl => ?_)
        refine lv_iload_n hx hb dX12_thrown_50 rfl (lv_at hl 3 rfl) ?_
        refine lv_iconst (v := 2) hx hb dX12_thrown_51 (by decide) ?_
        refine lv_icmp_lt (tgt := 62) hx hb dX12_thrown_52 (by decide) (fun c270 => ?_) (fun c270 => ?_)
        · refine lv_iload_n hx hb dX12_thrown_62 rfl (lv_at hl 3 rfl) ?_
          refine lv_if_ne (tgt := 70) hx hb dX12_thrown_63 (by decide) (fun c271 => ?_) (fun c271 => ?_)
          · refine lv_iload_n hx hb dX12_thrown_70 rfl (lv_at hl 3 rfl) ?_
            refine lv_iconst (v := 1) hx hb dX12_thrown_71 (by decide) ?_
            refine lv_icmp_ne (tgt := 79) hx hb dX12_thrown_72 (by decide) (fun c272 => ?_) (fun c272 => ?_)
            · refine lv_iconst (v := (-1)) hx hb dX12_thrown_79 (by decide) ?_
              have hP : va_P G.1 pCl (mW G h0 a (upd (upd (upd (upd F 0 0) 44 (nI fd)) 116 en) 119 uc) B) _ := hP
              have hD : va_D A (mW G h0 a (upd (upd (upd (upd F 0 0) 44 (nI fd)) 116 en) 119 uc) B) := hD
              exact W.iret (v := (-1)) hx hb hr (fun t9 ht9 hW9 => ⟨⟨_, ((-1) : Int32), rfl, rfl, by rw [ht9]; exact hP, hD⟩, hS.F ht9⟩) hS.2.2 dX12_thrown_80
            · refine lv_iload_n hx hb dX12_thrown_75 rfl (lv_at hl 0 rfl) ?_
              refine lv_goto (tgt := 80) hx hb dX12_thrown_76 (by decide) ?_
              have hP : va_P G.1 pCl (mW G h0 a (upd (upd (upd (upd F 0 0) 44 (nI fd)) 116 en) 119 uc) B) _ := hP
              have hD : va_D A (mW G h0 a (upd (upd (upd (upd F 0 0) 44 (nI fd)) 116 en) 119 uc) B) := hD
              exact W.iret (v := 0) hx hb hr (fun t9 ht9 hW9 => ⟨⟨_, (0 : Int32), rfl, rfl, by rw [ht9]; exact hP, hD⟩, hS.F ht9⟩) hS.2.2 dX12_thrown_80
          · refine lv_iload_n hx hb dX12_thrown_66 rfl (lv_at hl 1 rfl) ?_
            refine lv_goto (tgt := 80) hx hb dX12_thrown_67 (by decide) ?_
            have hP : va_P G.1 pCl (mW G h0 a (upd (upd (upd (upd F 0 0) 44 (nI fd)) 116 en) 119 uc) B) _ := hP
            have hD : va_D A (mW G h0 a (upd (upd (upd (upd F 0 0) 44 (nI fd)) 116 en) 119 uc) B) := hD
            exact W.iret (v := (nI k9)) hx hb hr (fun t9 ht9 hW9 => ⟨⟨_, (nI k9), rfl, rfl, by rw [ht9]; exact hP, hD⟩, hS.F ht9⟩) hS.2.2 dX12_thrown_80
        · obtain ⟨x9, hx1, hx2⟩ : ∃ z : Nat, x = nI (z + 2) ∧ z < 2147483646 := ge_two c270
          subst hx1
          have hP : va_P G.1 pCl (mW G h0 a (upd (upd (upd (upd F 0 0) 44 (nI fd)) 116 en) 119 (nI u9)) B) _ := hP
          have hD : va_D A (mW G h0 a (upd (upd (upd (upd F 0 0) 44 (nI fd)) 116 en) 119 (nI u9)) B) := hD
          refine lv_iload_n hx hb dX12_thrown_55 rfl (lv_at hl 3 rfl) ?_
          refine lv_iconst (v := 2) hx hb dX12_thrown_56 (by decide) ?_
          refine lv_isub hx hb dX12_thrown_57 ?_
          refine lv_topi (fun x273 e274 => ?_)
          obtain rfl : x273 = nI ((x9 + 2) - 2) := e274.trans (nI_subN (a := 2) (b := (x9 + 2)) (by omega))
          refine lv_iload_n hx hb dX12_thrown_58 rfl (lv_at hl 0 rfl) ?_
          refine lv_icmp_lt (tgt := 81) hx hb dX12_thrown_59 (by decide) (fun c275 => ?_) (fun c275 => ?_)
          · have n276 : ((x9 + 2) - 2) < 0 := (nI_ltI (a := ((x9 + 2) - 2)) (b := 0) (by omega) (by omega)).mp c275
            obtain ⟨f0, hf0, hf1, hf2⟩ := hfo x9 (by omega)
            refine lv_iconst (v := 0) hx hb dX12_thrown_81 (by decide) ?_
            refine lv_istore (lv' := [(4, .int 0), (3, .int 0), (2, .int (nI k9)), (0, .ref h0), (1, .int (nI (x9 + 2)))]) hx hb dX12_thrown_82 hl (by decide) rfl (fun ls hl => ?_)
            have loop_f : ∀ (n_f : Nat) (f2 : Nat) (H : Heap) (locs : List Loc) (ls : Array Slot), f2 ≤ f0 → f0 + 1 ≤ f2 + n_f → va_P G.1 pCl (mW G h0 a (upd (upd (upd (upd F 0 0) 44 (nI fd)) 116 en) 119 (nI u9)) B) H → va_D A (mW G h0 a (upd (upd (upd (upd F 0 0) 44 (nI fd)) 116 en) 119 (nI u9)) B) → va_S A s.heap H locs → lv_has ls 6 [(4, .int (nI f2)), (3, .int (nI q9)), (2, .int (nI k9)), (1, .int (nI (x9 + 2))), (0, .ref h0)] → W p l e (headSpec (Cond.code yX12_thrown cX12_thrown 6 (some .int) :: pw) ({ frames := 3, cells := 0, slots := 0, locals := 82 } : Room)).room s m ([.ref h0, .int x] : List Value).toArray below meth c H locs 0 0 (MQ below (pQ G A (fun (v : Option Value) (u : Int32) => v = some (.int u)) (fun u => (mW G h0 a (upd (upd (upd (upd F 0 0) 44 (nI fd)) 116 en) 119 uc) B))) ([.ref h0, .int x] : List Value).toArray s ({ frames := 3, cells := 0, slots := 0, locals := 82 } : Room).cells ({ frames := 3, cells := 0, slots := 0, locals := 82 } : Room).slots A) (F0 m 84 ls []) := by
              intro n_f
              induction n_f with
              | zero => intro f2 H locs ls hk_f hn_f; omega
              | succ n_f ih_f =>
                intro f2 H locs ls hk_f hn_f hP hD hS hl
                refine lv_aload_n hx hb dX12_thrown_84 rfl (lv_at hl 4 rfl) ?_
                refine r_get (v := .ref (a 32)) hx hb hown hq hE hP 45 108 tFX12_45 (by decide) pw_1463 rfl dX12_thrown_85 ?_
                refine lv_iload hx hb dX12_thrown_88 (lv_at hl 0 rfl) ?_
                refine r_ldi (f := (B 32)) (j := f2) hx hb hE hP 32 (ma_32 G a _) rfl (by omega) (by decide) dX12_thrown_90 ?_
                obtain ⟨⟨d277, e278, -, h279⟩, -⟩ := hPg.ps.2.1 f2 (by omega)
                refine lv_topi (fun x280 e281 => ?_)
                obtain rfl : x280 = nI d277 := e281.trans ((congrFun hw32 _).trans e278)
                refine lv_iload_n hx hb dX12_thrown_91 rfl (lv_at hl 2 rfl) ?_
                refine lv_icmp_eq (tgt := 110) hx hb dX12_thrown_92 (by decide) (fun c282 => ?_) (fun c282 => ?_)
                · have n283 : d277 = k9 := (nI_eq (a := d277) (b := k9) (by omega) (by omega)).mp c282
                  refine lv_aload_n hx hb dX12_thrown_110 rfl (lv_at hl 4 rfl) ?_
                  refine r_get (v := .ref (a 53)) hx hb hown hq hE hP 89 171 tFX12_89 (by decide) pw_1484 rfl dX12_thrown_111 ?_
                  refine lv_iload hx hb dX12_thrown_114 (lv_at hl 0 rfl) ?_
                  refine r_ldi (f := (B 53)) (j := f2) hx hb hE hP 53 (ma_53 G a _) rfl (by omega) (by decide) dX12_thrown_116 ?_
                  refine lv_iload_n hx hb dX12_thrown_117 rfl (lv_at hl 3 rfl) ?_
                  refine lv_iconst (v := 2) hx hb dX12_thrown_118 (by decide) ?_
                  refine lv_isub hx hb dX12_thrown_119 ?_
                  refine lv_topi (fun x284 e285 => ?_)
                  obtain rfl : x284 = nI ((x9 + 2) - 2) := e285.trans (nI_subN (a := 2) (b := (x9 + 2)) (by omega))
                  refine lv_icmp_eq (tgt := 129) hx hb dX12_thrown_120 (by decide) (fun c286 => ?_) (fun c286 => ?_)
                  · refine lv_aload_n hx hb dX12_thrown_129 rfl (lv_at hl 4 rfl) ?_
                    refine r_get (v := .ref (a 60)) hx hb hown hq hE hP 96 193 tFX12_96 (by decide) pw_1492 rfl dX12_thrown_130 ?_
                    refine lv_aload_n hx hb dX12_thrown_133 rfl (lv_at hl 4 rfl) ?_
                    refine r_get (v := .ref (a 58)) hx hb hown hq hE hP 94 187 tFX12_94 (by decide) pw_1490 rfl dX12_thrown_134 ?_
                    refine lv_aload_n hx hb dX12_thrown_137 rfl (lv_at hl 4 rfl) ?_
                    refine r_get (v := .int (nI u9)) hx hb hown hq hE hP 119 766 tFX12_119 (by decide) pw_2033 rfl dX12_thrown_138 ?_
                    refine lv_iconst (v := 1) hx hb dX12_thrown_141 (by decide) ?_
                    refine lv_isub hx hb dX12_thrown_142 ?_
                    refine lv_topi (fun x287 e288 => ?_)
                    obtain rfl : x287 = nI (u9 - 1) := e288.trans (nI_subN (a := 1) (b := u9) (by omega))
                    refine r_ldi (f := (B 58)) (j := (u9 - 1)) hx hb hE hP 58 (ma_58 G a _) rfl (by omega) (by decide) dX12_thrown_143 ?_
                    refine lv_topi (fun x289 e290 => ?_)
                    obtain rfl : x289 = nI p9 := e290.trans hp1
                    refine lv_iload_n hx hb dX12_thrown_144 rfl (lv_at hl 3 rfl) ?_
                    refine lv_iadd hx hb dX12_thrown_145 ?_
                    refine lv_topi (fun x291 e292 => ?_)
                    obtain rfl : x291 = nI (p9 + (x9 + 2)) := e292.trans (nI_add (p9) ((x9 + 2)))
                    refine lv_iconst (v := 2) hx hb dX12_thrown_146 (by decide) ?_
                    refine lv_isub hx hb dX12_thrown_147 ?_
                    refine lv_topi (fun x293 e294 => ?_)
                    obtain rfl : x293 = nI ((p9 + (x9 + 2)) - 2) := e294.trans (nI_subN (a := 2) (b := (p9 + (x9 + 2))) (by omega))
                    refine r_ldi (f := (B 60)) (j := ((p9 + (x9 + 2)) - 2)) hx hb hE hP 60 (ma_60 G a _) rfl (by omega) (by decide) dX12_thrown_148 ?_
                    refine lv_istore (lv' := [(5, .int ((B 60) ((p9 + (x9 + 2)) - 2))), (4, .int (nI f2)), (3, .int (nI q9)), (2, .int (nI k9)), (1, .int (nI (x9 + 2))), (0, .ref h0)]) hx hb dX12_thrown_149 hl (by decide) rfl (fun ls hl => ?_)
                    refine lv_aload_n hx hb dX12_thrown_151 rfl (lv_at hl 5 rfl) ?_
                    refine lv_aload_n hx hb dX12_thrown_152 rfl (lv_at hl 5 rfl) ?_
                    refine r_get (v := .ref (a 21)) hx hb hown hq hE hP 30 75 tFX12_30 (by decide) pw_1452 rfl dX12_thrown_153 ?_
                    refine lv_aload_n hx hb dX12_thrown_156 rfl (lv_at hl 5 rfl) ?_
                    refine r_get (v := .ref (a 35)) hx hb hown hq hE hP 48 117 tFX12_48 (by decide) pw_1466 rfl dX12_thrown_157 ?_
                    refine lv_iload hx hb dX12_thrown_160 (lv_at hl 1 rfl) ?_
                    refine r_ldi (f := (B 35)) (j := f2) hx hb hE hP 35 (ma_35 G a _) rfl (by omega) (by decide) dX12_thrown_162 ?_
                    obtain ⟨-, -, y9, ey9, hy9⟩ := hPg.ps.2.1 f2 (by omega)
                    refine lv_topi (fun x295 e296 => ?_)
                    obtain rfl : x295 = nI y9 := e296.trans ((congrFun hw35 _).trans ey9)
                    refine r_ldi (f := (B 21)) (j := y9) hx hb hE hP 21 (ma_21 G a _) rfl (by omega) (by decide) dX12_thrown_163 ?_
                    obtain ⟨t9, et9, -, -, ht9, -⟩ := (hPg.ty y9 (by omega)).tc (by omega)
                    refine lv_topi (fun x297 e298 => ?_)
                    obtain rfl : x297 = nI t9 := e298.trans ((congrFun hw21 _).trans et9)
                    have hP : va_P G.1 pCl (mW G h0 a (upd (upd (upd (upd F 0 0) 44 (nI fd)) 116 en) 119 (nI u9)) B) _ := hP
                    have hD : va_D A (mW G h0 a (upd (upd (upd (upd F 0 0) 44 (nI fd)) 116 en) 119 (nI u9)) B) := hD
                    refine pc_V0 (G := G) (As := [.int (nI t9)]) (rest := []) hx hb hml hown hq hE hX pX0_al hP hD hS hA hl.1 (R_isReference l G h0 a (upd (upd (upd (upd F 0 0) 44 (nI fd)) 116 en) 119 (nI u9)) B t9 (by omega)) (gV pw_1783 pw_1784 pw_1785 pw_1523 pw_1779) hV_X12_isReference 0 9 rfl rfl rfl rfl (Nat.le_of_ble_eq_true rfl) dX12_thrown_164 ⟨Nat.le_of_ble_eq_true rfl, Nat.le_of_ble_eq_true rfl⟩ ⟨Nat.le_of_ble_eq_true rfl, Nat.le_of_ble_eq_true rfl⟩ (fun v301 u299 H locs hw300 hP hD hS => ?_)
                    obtain ⟨r302, rfl⟩ : ∃ z, z = u299 := ⟨_, rfl⟩
                    obtain ⟨hw300, h303, h304, h305⟩ := hw300
                    replace h303 : r302 ≤ 1 := h303
                    replace h304 : 3 * r302 ≤ t9 := h304
                    replace h305 : t9 ≤ 2 + 9000 * r302 := h305
                    obtain rfl : v301 = some (.int (nI r302)) := hw300
                    have hP : va_P G.1 pCl (mW G h0 a (upd (upd (upd (upd F 0 0) 44 (nI fd)) 116 en) 119 (nI u9)) B) _ := hP
                    have hD : va_D A (mW G h0 a (upd (upd (upd (upd F 0 0) 44 (nI fd)) 116 en) 119 (nI u9)) B) := hD
                    refine W.widen (k := 0) (n := 0) (Nat.le_of_ble_eq_true rfl) (Nat.le_of_ble_eq_true rfl) ?_
                    refine W.eq (g2 := F0 m 167 ls [.int (nI r302)]) rfl ?_
                    refine lv_if_eq (tgt := 183) hx hb dX12_thrown_167 (by decide) (fun c306 => ?_) (fun c306 => ?_)
                    · have n307 : r302 = 0 := (nI_eq (a := r302) (b := 0) (by omega) (by omega)).mp c306
                      refine lv_iload hx hb dX12_thrown_183 (lv_at hl 0 rfl) ?_
                      have hP : va_P G.1 pCl (mW G h0 a (upd (upd (upd (upd F 0 0) 44 (nI fd)) 116 en) 119 uc) B) _ := hP
                      have hD : va_D A (mW G h0 a (upd (upd (upd (upd F 0 0) 44 (nI fd)) 116 en) 119 uc) B) := hD
                      exact W.iret (v := ((B 60) ((p9 + (x9 + 2)) - 2))) hx hb hr (fun t9 ht9 hW9 => ⟨⟨_, ((B 60) ((p9 + (x9 + 2)) - 2)), rfl, rfl, by rw [ht9]; exact hP, hD⟩, hS.F ht9⟩) hS.2.2 dX12_thrown_185
                    · have n308 : ¬ (r302 = 0) := fun h9 => c306 ((nI_eq (a := r302) (b := 0) (by omega) (by omega)).mpr h9)
                      refine lv_iload hx hb dX12_thrown_170 (lv_at hl 0 rfl) ?_
                      refine lv_if_ne (tgt := 179) hx hb dX12_thrown_172 (by decide) (fun c309 => ?_) (fun c309 => ?_)
                      · refine lv_iconst (v := 1) hx hb dX12_thrown_179 (by decide) ?_
                        refine lv_goto (tgt := 185) hx hb dX12_thrown_180 (by decide) ?_
                        have hP : va_P G.1 pCl (mW G h0 a (upd (upd (upd (upd F 0 0) 44 (nI fd)) 116 en) 119 uc) B) _ := hP
                        have hD : va_D A (mW G h0 a (upd (upd (upd (upd F 0 0) 44 (nI fd)) 116 en) 119 uc) B) := hD
                        exact W.iret (v := 1) hx hb hr (fun t9 ht9 hW9 => ⟨⟨_, (1 : Int32), rfl, rfl, by rw [ht9]; exact hP, hD⟩, hS.F ht9⟩) hS.2.2 dX12_thrown_185
                      · refine lv_iconst (v := 0) hx hb dX12_thrown_175 (by decide) ?_
                        refine lv_goto (tgt := 185) hx hb dX12_thrown_176 (by decide) ?_
                        have hP : va_P G.1 pCl (mW G h0 a (upd (upd (upd (upd F 0 0) 44 (nI fd)) 116 en) 119 uc) B) _ := hP
                        have hD : va_D A (mW G h0 a (upd (upd (upd (upd F 0 0) 44 (nI fd)) 116 en) 119 uc) B) := hD
                        exact W.iret (v := 0) hx hb hr (fun t9 ht9 hW9 => ⟨⟨_, (0 : Int32), rfl, rfl, by rw [ht9]; exact hP, hD⟩, hS.F ht9⟩) hS.2.2 dX12_thrown_185
                  · refine lv_iinc (v := (nI (f2 + 1))) (lv' := [(4, .int (nI (f2 + 1))), (3, .int (nI q9)), (2, .int (nI k9)), (1, .int (nI (x9 + 2))), (0, .ref h0)]) hx hb dX12_thrown_123 hl (k := 0) rfl (nI_1 f2) (by decide) rfl (fun ls hl => ?_)
                    refine lv_goto (tgt := 84) hx hb dX12_thrown_126 (by decide) ?_
                    have hP : va_P G.1 pCl (mW G h0 a (upd (upd (upd (upd F 0 0) 44 (nI fd)) 116 en) 119 (nI u9)) B) _ := hP
                    have hD : va_D A (mW G h0 a (upd (upd (upd (upd F 0 0) 44 (nI fd)) 116 en) 119 (nI u9)) B) := hD
                    exact ih_f (f2 + 1) _ _ _ (by have z : ¬ f2 = f0 := (fun z => c286 (by rw [z, hPg.pl f0 hf0, hf2]; rfl)); omega) (by omega) hP hD hS (lv_sub hl [0, 1, 2, 3, 4] rfl)
                · have n310 : ¬ (d277 = k9) := fun h9 => c282 ((nI_eq (a := d277) (b := k9) (by omega) (by omega)).mpr h9)
                  refine lv_aload_n hx hb dX12_thrown_95 rfl (lv_at hl 4 rfl) ?_
                  refine lv_aload_n hx hb dX12_thrown_96 rfl (lv_at hl 4 rfl) ?_
                  refine r_get (v := .ref (a 32)) hx hb hown hq hE hP 45 108 tFX12_45 (by decide) pw_1463 rfl dX12_thrown_97 ?_
                  refine lv_iload hx hb dX12_thrown_100 (lv_at hl 0 rfl) ?_
                  refine r_ldi (f := (B 32)) (j := f2) hx hb hE hP 32 (ma_32 G a _) rfl (by omega) (by decide) dX12_thrown_102 ?_
                  obtain ⟨⟨d311, e312, -, h313⟩, -⟩ := hPg.ps.2.1 f2 (by omega)
                  refine lv_topi (fun x314 e315 => ?_)
                  obtain rfl : x314 = nI d311 := e315.trans ((congrFun hw32 _).trans e312)
                  refine lv_iload_n hx hb dX12_thrown_103 rfl (lv_at hl 2 rfl) ?_
                  have hP : va_P G.1 pCl (mW G h0 a (upd (upd (upd (upd F 0 0) 44 (nI fd)) 116 en) 119 (nI u9)) (updA B 31 (B 31))) _ := hP
                  have hD : va_D A (mW G h0 a (upd (upd (upd (upd F 0 0) 44 (nI fd)) 116 en) 119 (nI u9)) (updA B 31 (B 31))) := hD
                  refine pc_V0 (G := G) (As := [.int (nI d311), .int (nI k9)]) (rest := []) hx hb hml hown hq hE hX pX0_al hP hD hS hA hl.1 (R_isAbove l G h0 a (upd (upd (upd (upd F 0 0) 44 (nI fd)) 116 en) 119 (nI u9)) B d311 k9 (B 31) (by omega) (by show ∀ i : Nat, i < 1600 → B 31 i = 0 ∨ B 31 i = 1; rw [hw31]; exact hfb)) (gV pw_1772 pw_1773 pw_1774 pw_1523 pw_1760) hV_X12_isAbove 0 9 rfl rfl rfl rfl (Nat.le_of_ble_eq_true rfl) dX12_thrown_104 ⟨Nat.le_of_ble_eq_true rfl, Nat.le_of_ble_eq_true rfl⟩ ⟨Nat.le_of_ble_eq_true rfl, Nat.le_of_ble_eq_true rfl⟩ (fun v318 u316 H locs hw317 hP hD hS => ?_)
                  obtain rfl : v318 = some (.int ((B 31) (40 * d311 + k9))) := hw317
                  have hP : va_P G.1 pCl (mW G h0 a (upd (upd (upd (upd F 0 0) 44 (nI fd)) 116 en) 119 (nI u9)) B) _ := hP
                  have hD : va_D A (mW G h0 a (upd (upd (upd (upd F 0 0) 44 (nI fd)) 116 en) 119 (nI u9)) B) := hD
                  refine W.widen (k := 0) (n := 0) (Nat.le_of_ble_eq_true rfl) (Nat.le_of_ble_eq_true rfl) ?_
                  refine W.eq (g2 := F0 m 107 ls [.int ((B 31) (40 * d311 + k9))]) rfl ?_
                  refine lv_if_eq (tgt := 123) hx hb dX12_thrown_107 (by decide) (fun c319 => ?_) (fun c319 => ?_)
                  · refine lv_iinc (v := (nI (f2 + 1))) (lv' := [(4, .int (nI (f2 + 1))), (3, .int (nI q9)), (2, .int (nI k9)), (1, .int (nI (x9 + 2))), (0, .ref h0)]) hx hb dX12_thrown_123 hl (k := 0) rfl (nI_1 f2) (by decide) rfl (fun ls hl => ?_)
                    refine lv_goto (tgt := 84) hx hb dX12_thrown_126 (by decide) ?_
                    have hP : va_P G.1 pCl (mW G h0 a (upd (upd (upd (upd F 0 0) 44 (nI fd)) 116 en) 119 (nI u9)) B) _ := hP
                    have hD : va_D A (mW G h0 a (upd (upd (upd (upd F 0 0) 44 (nI fd)) 116 en) 119 (nI u9)) B) := hD
                    exact ih_f (f2 + 1) _ _ _ (by have z : ¬ f2 = f0 := (fun z => own_not e312 (by omega) (by omega) c282 (by rw [← hw31]; exact c319) (z ▸ hf1)); omega) (by omega) hP hD hS (lv_sub hl [0, 1, 2, 3, 4] rfl)
                  · refine lv_aload_n hx hb dX12_thrown_110 rfl (lv_at hl 4 rfl) ?_
                    refine r_get (v := .ref (a 53)) hx hb hown hq hE hP 89 171 tFX12_89 (by decide) pw_1484 rfl dX12_thrown_111 ?_
                    refine lv_iload hx hb dX12_thrown_114 (lv_at hl 0 rfl) ?_
                    refine r_ldi (f := (B 53)) (j := f2) hx hb hE hP 53 (ma_53 G a _) rfl (by omega) (by decide) dX12_thrown_116 ?_
                    refine lv_iload_n hx hb dX12_thrown_117 rfl (lv_at hl 3 rfl) ?_
                    refine lv_iconst (v := 2) hx hb dX12_thrown_118 (by decide) ?_
                    refine lv_isub hx hb dX12_thrown_119 ?_
                    refine lv_topi (fun x320 e321 => ?_)
                    obtain rfl : x320 = nI ((x9 + 2) - 2) := e321.trans (nI_subN (a := 2) (b := (x9 + 2)) (by omega))
                    refine lv_icmp_eq (tgt := 129) hx hb dX12_thrown_120 (by decide) (fun c322 => ?_) (fun c322 => ?_)
                    · refine lv_aload_n hx hb dX12_thrown_129 rfl (lv_at hl 4 rfl) ?_
                      refine r_get (v := .ref (a 60)) hx hb hown hq hE hP 96 193 tFX12_96 (by decide) pw_1492 rfl dX12_thrown_130 ?_
                      refine lv_aload_n hx hb dX12_thrown_133 rfl (lv_at hl 4 rfl) ?_
                      refine r_get (v := .ref (a 58)) hx hb hown hq hE hP 94 187 tFX12_94 (by decide) pw_1490 rfl dX12_thrown_134 ?_
                      refine lv_aload_n hx hb dX12_thrown_137 rfl (lv_at hl 4 rfl) ?_
                      refine r_get (v := .int (nI u9)) hx hb hown hq hE hP 119 766 tFX12_119 (by decide) pw_2033 rfl dX12_thrown_138 ?_
                      refine lv_iconst (v := 1) hx hb dX12_thrown_141 (by decide) ?_
                      refine lv_isub hx hb dX12_thrown_142 ?_
                      refine lv_topi (fun x323 e324 => ?_)
                      obtain rfl : x323 = nI (u9 - 1) := e324.trans (nI_subN (a := 1) (b := u9) (by omega))
                      refine r_ldi (f := (B 58)) (j := (u9 - 1)) hx hb hE hP 58 (ma_58 G a _) rfl (by omega) (by decide) dX12_thrown_143 ?_
                      refine lv_topi (fun x325 e326 => ?_)
                      obtain rfl : x325 = nI p9 := e326.trans hp1
                      refine lv_iload_n hx hb dX12_thrown_144 rfl (lv_at hl 3 rfl) ?_
                      refine lv_iadd hx hb dX12_thrown_145 ?_
                      refine lv_topi (fun x327 e328 => ?_)
                      obtain rfl : x327 = nI (p9 + (x9 + 2)) := e328.trans (nI_add (p9) ((x9 + 2)))
                      refine lv_iconst (v := 2) hx hb dX12_thrown_146 (by decide) ?_
                      refine lv_isub hx hb dX12_thrown_147 ?_
                      refine lv_topi (fun x329 e330 => ?_)
                      obtain rfl : x329 = nI ((p9 + (x9 + 2)) - 2) := e330.trans (nI_subN (a := 2) (b := (p9 + (x9 + 2))) (by omega))
                      refine r_ldi (f := (B 60)) (j := ((p9 + (x9 + 2)) - 2)) hx hb hE hP 60 (ma_60 G a _) rfl (by omega) (by decide) dX12_thrown_148 ?_
                      refine lv_istore (lv' := [(5, .int ((B 60) ((p9 + (x9 + 2)) - 2))), (4, .int (nI f2)), (3, .int (nI q9)), (2, .int (nI k9)), (1, .int (nI (x9 + 2))), (0, .ref h0)]) hx hb dX12_thrown_149 hl (by decide) rfl (fun ls hl => ?_)
                      refine lv_aload_n hx hb dX12_thrown_151 rfl (lv_at hl 5 rfl) ?_
                      refine lv_aload_n hx hb dX12_thrown_152 rfl (lv_at hl 5 rfl) ?_
                      refine r_get (v := .ref (a 21)) hx hb hown hq hE hP 30 75 tFX12_30 (by decide) pw_1452 rfl dX12_thrown_153 ?_
                      refine lv_aload_n hx hb dX12_thrown_156 rfl (lv_at hl 5 rfl) ?_
                      refine r_get (v := .ref (a 35)) hx hb hown hq hE hP 48 117 tFX12_48 (by decide) pw_1466 rfl dX12_thrown_157 ?_
                      refine lv_iload hx hb dX12_thrown_160 (lv_at hl 1 rfl) ?_
                      refine r_ldi (f := (B 35)) (j := f2) hx hb hE hP 35 (ma_35 G a _) rfl (by omega) (by decide) dX12_thrown_162 ?_
                      obtain ⟨-, -, y9, ey9, hy9⟩ := hPg.ps.2.1 f2 (by omega)
                      refine lv_topi (fun x331 e332 => ?_)
                      obtain rfl : x331 = nI y9 := e332.trans ((congrFun hw35 _).trans ey9)
                      refine r_ldi (f := (B 21)) (j := y9) hx hb hE hP 21 (ma_21 G a _) rfl (by omega) (by decide) dX12_thrown_163 ?_
                      obtain ⟨t9, et9, -, -, ht9, -⟩ := (hPg.ty y9 (by omega)).tc (by omega)
                      refine lv_topi (fun x333 e334 => ?_)
                      obtain rfl : x333 = nI t9 := e334.trans ((congrFun hw21 _).trans et9)
                      have hP : va_P G.1 pCl (mW G h0 a (upd (upd (upd (upd F 0 0) 44 (nI fd)) 116 en) 119 (nI u9)) B) _ := hP
                      have hD : va_D A (mW G h0 a (upd (upd (upd (upd F 0 0) 44 (nI fd)) 116 en) 119 (nI u9)) B) := hD
                      refine pc_V0 (G := G) (As := [.int (nI t9)]) (rest := []) hx hb hml hown hq hE hX pX0_al hP hD hS hA hl.1 (R_isReference l G h0 a (upd (upd (upd (upd F 0 0) 44 (nI fd)) 116 en) 119 (nI u9)) B t9 (by omega)) (gV pw_1783 pw_1784 pw_1785 pw_1523 pw_1779) hV_X12_isReference 0 9 rfl rfl rfl rfl (Nat.le_of_ble_eq_true rfl) dX12_thrown_164 ⟨Nat.le_of_ble_eq_true rfl, Nat.le_of_ble_eq_true rfl⟩ ⟨Nat.le_of_ble_eq_true rfl, Nat.le_of_ble_eq_true rfl⟩ (fun v337 u335 H locs hw336 hP hD hS => ?_)
                      obtain ⟨r338, rfl⟩ : ∃ z, z = u335 := ⟨_, rfl⟩
                      obtain ⟨hw336, h339, h340, h341⟩ := hw336
                      replace h339 : r338 ≤ 1 := h339
                      replace h340 : 3 * r338 ≤ t9 := h340
                      replace h341 : t9 ≤ 2 + 9000 * r338 := h341
                      obtain rfl : v337 = some (.int (nI r338)) := hw336
                      have hP : va_P G.1 pCl (mW G h0 a (upd (upd (upd (upd F 0 0) 44 (nI fd)) 116 en) 119 (nI u9)) B) _ := hP
                      have hD : va_D A (mW G h0 a (upd (upd (upd (upd F 0 0) 44 (nI fd)) 116 en) 119 (nI u9)) B) := hD
                      refine W.widen (k := 0) (n := 0) (Nat.le_of_ble_eq_true rfl) (Nat.le_of_ble_eq_true rfl) ?_
                      refine W.eq (g2 := F0 m 167 ls [.int (nI r338)]) rfl ?_
                      refine lv_if_eq (tgt := 183) hx hb dX12_thrown_167 (by decide) (fun c342 => ?_) (fun c342 => ?_)
                      · have n343 : r338 = 0 := (nI_eq (a := r338) (b := 0) (by omega) (by omega)).mp c342
                        refine lv_iload hx hb dX12_thrown_183 (lv_at hl 0 rfl) ?_
                        have hP : va_P G.1 pCl (mW G h0 a (upd (upd (upd (upd F 0 0) 44 (nI fd)) 116 en) 119 uc) B) _ := hP
                        have hD : va_D A (mW G h0 a (upd (upd (upd (upd F 0 0) 44 (nI fd)) 116 en) 119 uc) B) := hD
                        exact W.iret (v := ((B 60) ((p9 + (x9 + 2)) - 2))) hx hb hr (fun t9 ht9 hW9 => ⟨⟨_, ((B 60) ((p9 + (x9 + 2)) - 2)), rfl, rfl, by rw [ht9]; exact hP, hD⟩, hS.F ht9⟩) hS.2.2 dX12_thrown_185
                      · have n344 : ¬ (r338 = 0) := fun h9 => c342 ((nI_eq (a := r338) (b := 0) (by omega) (by omega)).mpr h9)
                        refine lv_iload hx hb dX12_thrown_170 (lv_at hl 0 rfl) ?_
                        refine lv_if_ne (tgt := 179) hx hb dX12_thrown_172 (by decide) (fun c345 => ?_) (fun c345 => ?_)
                        · refine lv_iconst (v := 1) hx hb dX12_thrown_179 (by decide) ?_
                          refine lv_goto (tgt := 185) hx hb dX12_thrown_180 (by decide) ?_
                          have hP : va_P G.1 pCl (mW G h0 a (upd (upd (upd (upd F 0 0) 44 (nI fd)) 116 en) 119 uc) B) _ := hP
                          have hD : va_D A (mW G h0 a (upd (upd (upd (upd F 0 0) 44 (nI fd)) 116 en) 119 uc) B) := hD
                          exact W.iret (v := 1) hx hb hr (fun t9 ht9 hW9 => ⟨⟨_, (1 : Int32), rfl, rfl, by rw [ht9]; exact hP, hD⟩, hS.F ht9⟩) hS.2.2 dX12_thrown_185
                        · refine lv_iconst (v := 0) hx hb dX12_thrown_175 (by decide) ?_
                          refine lv_goto (tgt := 185) hx hb dX12_thrown_176 (by decide) ?_
                          have hP : va_P G.1 pCl (mW G h0 a (upd (upd (upd (upd F 0 0) 44 (nI fd)) 116 en) 119 uc) B) _ := hP
                          have hD : va_D A (mW G h0 a (upd (upd (upd (upd F 0 0) 44 (nI fd)) 116 en) 119 uc) B) := hD
                          exact W.iret (v := 0) hx hb hr (fun t9 ht9 hW9 => ⟨⟨_, (0 : Int32), rfl, rfl, by rw [ht9]; exact hP, hD⟩, hS.F ht9⟩) hS.2.2 dX12_thrown_185
                    · refine lv_iinc (v := (nI (f2 + 1))) (lv' := [(4, .int (nI (f2 + 1))), (3, .int (nI q9)), (2, .int (nI k9)), (1, .int (nI (x9 + 2))), (0, .ref h0)]) hx hb dX12_thrown_123 hl (k := 0) rfl (nI_1 f2) (by decide) rfl (fun ls hl => ?_)
                      refine lv_goto (tgt := 84) hx hb dX12_thrown_126 (by decide) ?_
                      have hP : va_P G.1 pCl (mW G h0 a (upd (upd (upd (upd F 0 0) 44 (nI fd)) 116 en) 119 (nI u9)) B) _ := hP
                      have hD : va_D A (mW G h0 a (upd (upd (upd (upd F 0 0) 44 (nI fd)) 116 en) 119 (nI u9)) B) := hD
                      exact ih_f (f2 + 1) _ _ _ (by have z : ¬ f2 = f0 := (fun z => c322 (by rw [z, hPg.pl f0 hf0, hf2]; rfl)); omega) (by omega) hP hD hS (lv_sub hl [0, 1, 2, 3, 4] rfl)
            have hP : va_P G.1 pCl (mW G h0 a (upd (upd (upd (upd F 0 0) 44 (nI fd)) 116 en) 119 (nI u9)) B) _ := hP
            have hD : va_D A (mW G h0 a (upd (upd (upd (upd F 0 0) 44 (nI fd)) 116 en) 119 (nI u9)) B) := hD
            exact loop_f (f0 + 1) 0 _ _ _ (by omega) (by omega) hP hD hS (lv_sub hl [0, 1, 2, 4, 3] rfl)
          · have n346 : ¬ (((x9 + 2) - 2) < 0) := fun h9 => c275 ((nI_ltI (a := ((x9 + 2) - 2)) (b := 0) (by omega) (by omega)).mpr h9)
            refine lv_iload_n hx hb dX12_thrown_62 rfl (lv_at hl 3 rfl) ?_
            refine lv_if_ne (tgt := 70) hx hb dX12_thrown_63 (by decide) (fun c347 => ?_) (fun c347 => ?_)
            · have n348 : ¬ ((x9 + 2) = 0) := fun h9 => c347 ((nI_eq (a := (x9 + 2)) (b := 0) (by omega) (by omega)).mpr h9)
              refine lv_iload_n hx hb dX12_thrown_70 rfl (lv_at hl 3 rfl) ?_
              refine lv_iconst (v := 1) hx hb dX12_thrown_71 (by decide) ?_
              refine lv_icmp_ne (tgt := 79) hx hb dX12_thrown_72 (by decide) (fun c349 => ?_) (fun c349 => ?_)
              · have n350 : ¬ ((x9 + 2) = 1) := fun h9 => c349 ((nI_eq (a := (x9 + 2)) (b := 1) (by omega) (by omega)).mpr h9)
                refine lv_iconst (v := (-1)) hx hb dX12_thrown_79 (by decide) ?_
                have hP : va_P G.1 pCl (mW G h0 a (upd (upd (upd (upd F 0 0) 44 (nI fd)) 116 en) 119 uc) B) _ := hP
                have hD : va_D A (mW G h0 a (upd (upd (upd (upd F 0 0) 44 (nI fd)) 116 en) 119 uc) B) := hD
                exact W.iret (v := (-1)) hx hb hr (fun t9 ht9 hW9 => ⟨⟨_, ((-1) : Int32), rfl, rfl, by rw [ht9]; exact hP, hD⟩, hS.F ht9⟩) hS.2.2 dX12_thrown_80
              · have n351 : (x9 + 2) = 1 := (nI_eq (a := (x9 + 2)) (b := 1) (by omega) (by omega)).mp c349
                refine lv_iload_n hx hb dX12_thrown_75 rfl (lv_at hl 0 rfl) ?_
                refine lv_goto (tgt := 80) hx hb dX12_thrown_76 (by decide) ?_
                have hP : va_P G.1 pCl (mW G h0 a (upd (upd (upd (upd F 0 0) 44 (nI fd)) 116 en) 119 uc) B) _ := hP
                have hD : va_D A (mW G h0 a (upd (upd (upd (upd F 0 0) 44 (nI fd)) 116 en) 119 uc) B) := hD
                exact W.iret (v := 0) hx hb hr (fun t9 ht9 hW9 => ⟨⟨_, (0 : Int32), rfl, rfl, by rw [ht9]; exact hP, hD⟩, hS.F ht9⟩) hS.2.2 dX12_thrown_80
            · have n352 : (x9 + 2) = 0 := (nI_eq (a := (x9 + 2)) (b := 0) (by omega) (by omega)).mp c347
              refine lv_iload_n hx hb dX12_thrown_66 rfl (lv_at hl 1 rfl) ?_
              refine lv_goto (tgt := 80) hx hb dX12_thrown_67 (by decide) ?_
              have hP : va_P G.1 pCl (mW G h0 a (upd (upd (upd (upd F 0 0) 44 (nI fd)) 116 en) 119 uc) B) _ := hP
              have hD : va_D A (mW G h0 a (upd (upd (upd (upd F 0 0) 44 (nI fd)) 116 en) 119 uc) B) := hD
              exact W.iret (v := (nI k9)) hx hb hr (fun t9 ht9 hW9 => ⟨⟨_, (nI k9), rfl, rfl, by rw [ht9]; exact hP, hD⟩, hS.F ht9⟩) hS.2.2 dX12_thrown_80
  · refine lv_iconst (v := (-1)) hx hb dX12_thrown_13 (by decide) ?_
    have hP : va_P G.1 pCl (mW G h0 a (upd (upd (upd (upd F 0 0) 44 (nI fd)) 116 en) 119 uc) B) _ := hP
    have hD : va_D A (mW G h0 a (upd (upd (upd (upd F 0 0) 44 (nI fd)) 116 en) 119 uc) B) := hD
    exact W.iret (v := (-1)) hx hb hr (fun t9 ht9 hW9 => ⟨⟨_, ((-1) : Int32), rfl, rfl, by rw [ht9]; exact hP, hD⟩, hS.F ht9⟩) hS.2.2 dX12_thrown_14
