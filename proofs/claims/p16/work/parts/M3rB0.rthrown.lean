theorem dX12_thrown_0 : decode cX12_thrown 0 = .ok (.aload_n 0, 1) := by decide +kernel
theorem dX12_thrown_1 : decode cX12_thrown 1 = .ok (.iconst 0, 1) := by decide +kernel
theorem dX12_thrown_2 : decode cX12_thrown 2 = .ok (.putfield 252, 3) := by decide +kernel
theorem dX12_thrown_5 : decode cX12_thrown 5 = .ok (.aload_n 0, 1) := by decide +kernel
theorem dX12_thrown_6 : decode cX12_thrown 6 = .ok (.getfield 233, 3) := by decide +kernel
theorem dX12_thrown_9 : decode cX12_thrown 9 = .ok (.iconst 1, 1) := by decide +kernel
theorem dX12_thrown_10 : decode cX12_thrown 10 = .ok (.if_icmp .eq 5, 3) := by decide +kernel
theorem dX12_thrown_15 : decode cX12_thrown 15 = .ok (.aload_n 0, 1) := by decide +kernel
theorem dX12_thrown_16 : decode cX12_thrown 16 = .ok (.aload_n 0, 1) := by decide +kernel
theorem dX12_thrown_17 : decode cX12_thrown 17 = .ok (.getfield 766, 3) := by decide +kernel
theorem dX12_thrown_20 : decode cX12_thrown 20 = .ok (.invokevirtual 745, 3) := by decide +kernel
theorem dX12_thrown_23 : decode cX12_thrown 23 = .ok (.istore_n 2, 1) := by decide +kernel
theorem dX12_thrown_24 : decode cX12_thrown 24 = .ok (.aload_n 0, 1) := by decide +kernel
theorem dX12_thrown_25 : decode cX12_thrown 25 = .ok (.getfield 766, 3) := by decide +kernel
theorem dX12_thrown_28 : decode cX12_thrown 28 = .ok (.sipush 4000, 3) := by decide +kernel
theorem dX12_thrown_31 : decode cX12_thrown 31 = .ok (.if_icmp .le 7, 3) := by decide +kernel
theorem dX12_thrown_34 : decode cX12_thrown 34 = .ok (.iconst 0, 1) := by decide +kernel
theorem dX12_thrown_35 : decode cX12_thrown 35 = .ok (.goto 14, 3) := by decide +kernel
theorem dX12_thrown_49 : decode cX12_thrown 49 = .ok (.istore_n 3, 1) := by decide +kernel
theorem dX12_thrown_50 : decode cX12_thrown 50 = .ok (.iload_n 1, 1) := by decide +kernel
theorem dX12_thrown_51 : decode cX12_thrown 51 = .ok (.iconst 2, 1) := by decide +kernel
theorem dX12_thrown_52 : decode cX12_thrown 52 = .ok (.if_icmp .lt 10, 3) := by decide +kernel
theorem dX12_thrown_62 : decode cX12_thrown 62 = .ok (.iload_n 1, 1) := by decide +kernel
theorem dX12_thrown_63 : decode cX12_thrown 63 = .ok (.ifCond .ne 7, 3) := by decide +kernel
theorem dX12_thrown_70 : decode cX12_thrown 70 = .ok (.iload_n 1, 1) := by decide +kernel
theorem dX12_thrown_71 : decode cX12_thrown 71 = .ok (.iconst 1, 1) := by decide +kernel
theorem dX12_thrown_72 : decode cX12_thrown 72 = .ok (.if_icmp .ne 7, 3) := by decide +kernel
theorem dX12_thrown_79 : decode cX12_thrown 79 = .ok (.iconst (-1), 1) := by decide +kernel
theorem dX12_thrown_80 : decode cX12_thrown 80 = .ok (.ireturn, 1) := by decide +kernel
theorem dX12_thrown_75 : decode cX12_thrown 75 = .ok (.iload_n 3, 1) := by decide +kernel
theorem dX12_thrown_76 : decode cX12_thrown 76 = .ok (.goto 4, 3) := by decide +kernel
theorem dX12_thrown_66 : decode cX12_thrown 66 = .ok (.iload_n 2, 1) := by decide +kernel
theorem dX12_thrown_67 : decode cX12_thrown 67 = .ok (.goto 13, 3) := by decide +kernel
theorem dX12_thrown_55 : decode cX12_thrown 55 = .ok (.iload_n 1, 1) := by decide +kernel
theorem dX12_thrown_56 : decode cX12_thrown 56 = .ok (.iconst 2, 1) := by decide +kernel
theorem dX12_thrown_57 : decode cX12_thrown 57 = .ok (.isub, 1) := by decide +kernel
theorem dX12_thrown_58 : decode cX12_thrown 58 = .ok (.iload_n 3, 1) := by decide +kernel
theorem dX12_thrown_59 : decode cX12_thrown 59 = .ok (.if_icmp .lt 22, 3) := by decide +kernel
theorem dX12_thrown_38 : decode cX12_thrown 38 = .ok (.aload_n 0, 1) := by decide +kernel
theorem dX12_thrown_39 : decode cX12_thrown 39 = .ok (.getfield 184, 3) := by decide +kernel
theorem dX12_thrown_42 : decode cX12_thrown 42 = .ok (.aload_n 0, 1) := by decide +kernel
theorem dX12_thrown_43 : decode cX12_thrown 43 = .ok (.getfield 766, 3) := by decide +kernel
theorem dX12_thrown_46 : decode cX12_thrown 46 = .ok (.iconst 1, 1) := by decide +kernel
theorem dX12_thrown_47 : decode cX12_thrown 47 = .ok (.isub, 1) := by decide +kernel
theorem dX12_thrown_48 : decode cX12_thrown 48 = .ok (.iaload, 1) := by decide +kernel
theorem dX12_thrown_81 : decode cX12_thrown 81 = .ok (.iconst 0, 1) := by decide +kernel
theorem dX12_thrown_82 : decode cX12_thrown 82 = .ok (.istore 4, 2) := by decide +kernel
theorem dX12_thrown_84 : decode cX12_thrown 84 = .ok (.aload_n 0, 1) := by decide +kernel
theorem dX12_thrown_85 : decode cX12_thrown 85 = .ok (.getfield 108, 3) := by decide +kernel
theorem dX12_thrown_88 : decode cX12_thrown 88 = .ok (.iload 4, 2) := by decide +kernel
theorem dX12_thrown_90 : decode cX12_thrown 90 = .ok (.iaload, 1) := by decide +kernel
theorem dX12_thrown_91 : decode cX12_thrown 91 = .ok (.iload_n 2, 1) := by decide +kernel
theorem dX12_thrown_92 : decode cX12_thrown 92 = .ok (.if_icmp .eq 18, 3) := by decide +kernel
theorem dX12_thrown_110 : decode cX12_thrown 110 = .ok (.aload_n 0, 1) := by decide +kernel
theorem dX12_thrown_111 : decode cX12_thrown 111 = .ok (.getfield 171, 3) := by decide +kernel
theorem dX12_thrown_114 : decode cX12_thrown 114 = .ok (.iload 4, 2) := by decide +kernel
theorem dX12_thrown_116 : decode cX12_thrown 116 = .ok (.iaload, 1) := by decide +kernel
theorem dX12_thrown_117 : decode cX12_thrown 117 = .ok (.iload_n 1, 1) := by decide +kernel
theorem dX12_thrown_118 : decode cX12_thrown 118 = .ok (.iconst 2, 1) := by decide +kernel
theorem dX12_thrown_119 : decode cX12_thrown 119 = .ok (.isub, 1) := by decide +kernel
theorem dX12_thrown_120 : decode cX12_thrown 120 = .ok (.if_icmp .eq 9, 3) := by decide +kernel
theorem dX12_thrown_129 : decode cX12_thrown 129 = .ok (.aload_n 0, 1) := by decide +kernel
theorem dX12_thrown_130 : decode cX12_thrown 130 = .ok (.getfield 193, 3) := by decide +kernel
theorem dX12_thrown_133 : decode cX12_thrown 133 = .ok (.aload_n 0, 1) := by decide +kernel
theorem dX12_thrown_134 : decode cX12_thrown 134 = .ok (.getfield 187, 3) := by decide +kernel
theorem dX12_thrown_137 : decode cX12_thrown 137 = .ok (.aload_n 0, 1) := by decide +kernel
theorem dX12_thrown_138 : decode cX12_thrown 138 = .ok (.getfield 766, 3) := by decide +kernel
theorem dX12_thrown_141 : decode cX12_thrown 141 = .ok (.iconst 1, 1) := by decide +kernel
theorem dX12_thrown_142 : decode cX12_thrown 142 = .ok (.isub, 1) := by decide +kernel
theorem dX12_thrown_143 : decode cX12_thrown 143 = .ok (.iaload, 1) := by decide +kernel
theorem dX12_thrown_144 : decode cX12_thrown 144 = .ok (.iload_n 1, 1) := by decide +kernel
theorem dX12_thrown_145 : decode cX12_thrown 145 = .ok (.iadd, 1) := by decide +kernel
theorem dX12_thrown_146 : decode cX12_thrown 146 = .ok (.iconst 2, 1) := by decide +kernel
theorem dX12_thrown_147 : decode cX12_thrown 147 = .ok (.isub, 1) := by decide +kernel
theorem dX12_thrown_148 : decode cX12_thrown 148 = .ok (.iaload, 1) := by decide +kernel
theorem dX12_thrown_149 : decode cX12_thrown 149 = .ok (.istore 5, 2) := by decide +kernel
theorem dX12_thrown_151 : decode cX12_thrown 151 = .ok (.aload_n 0, 1) := by decide +kernel
theorem dX12_thrown_152 : decode cX12_thrown 152 = .ok (.aload_n 0, 1) := by decide +kernel
theorem dX12_thrown_153 : decode cX12_thrown 153 = .ok (.getfield 75, 3) := by decide +kernel
theorem dX12_thrown_156 : decode cX12_thrown 156 = .ok (.aload_n 0, 1) := by decide +kernel
theorem dX12_thrown_157 : decode cX12_thrown 157 = .ok (.getfield 117, 3) := by decide +kernel
theorem dX12_thrown_160 : decode cX12_thrown 160 = .ok (.iload 4, 2) := by decide +kernel
theorem dX12_thrown_162 : decode cX12_thrown 162 = .ok (.iaload, 1) := by decide +kernel
theorem dX12_thrown_163 : decode cX12_thrown 163 = .ok (.iaload, 1) := by decide +kernel
theorem dX12_thrown_164 : decode cX12_thrown 164 = .ok (.invokevirtual 525, 3) := by decide +kernel
theorem dX12_thrown_167 : decode cX12_thrown 167 = .ok (.ifCond .eq 16, 3) := by decide +kernel
theorem dX12_thrown_183 : decode cX12_thrown 183 = .ok (.iload 5, 2) := by decide +kernel
theorem dX12_thrown_185 : decode cX12_thrown 185 = .ok (.ireturn, 1) := by decide +kernel
theorem dX12_thrown_170 : decode cX12_thrown 170 = .ok (.iload 5, 2) := by decide +kernel
theorem dX12_thrown_172 : decode cX12_thrown 172 = .ok (.ifCond .ne 7, 3) := by decide +kernel
theorem dX12_thrown_179 : decode cX12_thrown 179 = .ok (.iconst 1, 1) := by decide +kernel
theorem dX12_thrown_180 : decode cX12_thrown 180 = .ok (.goto 5, 3) := by decide +kernel
theorem dX12_thrown_175 : decode cX12_thrown 175 = .ok (.iconst 0, 1) := by decide +kernel
theorem dX12_thrown_176 : decode cX12_thrown 176 = .ok (.goto 9, 3) := by decide +kernel
theorem dX12_thrown_123 : decode cX12_thrown 123 = .ok (.iinc 4 1, 3) := by decide +kernel
theorem dX12_thrown_126 : decode cX12_thrown 126 = .ok (.goto (-42), 3) := by decide +kernel
theorem dX12_thrown_95 : decode cX12_thrown 95 = .ok (.aload_n 0, 1) := by decide +kernel
theorem dX12_thrown_96 : decode cX12_thrown 96 = .ok (.aload_n 0, 1) := by decide +kernel
theorem dX12_thrown_97 : decode cX12_thrown 97 = .ok (.getfield 108, 3) := by decide +kernel
theorem dX12_thrown_100 : decode cX12_thrown 100 = .ok (.iload 4, 2) := by decide +kernel
theorem dX12_thrown_102 : decode cX12_thrown 102 = .ok (.iaload, 1) := by decide +kernel
theorem dX12_thrown_103 : decode cX12_thrown 103 = .ok (.iload_n 2, 1) := by decide +kernel
theorem dX12_thrown_104 : decode cX12_thrown 104 = .ok (.invokevirtual 518, 3) := by decide +kernel
theorem dX12_thrown_107 : decode cX12_thrown 107 = .ok (.ifCond .eq 16, 3) := by decide +kernel
theorem dX12_thrown_13 : decode cX12_thrown 13 = .ok (.iconst (-1), 1) := by decide +kernel
theorem dX12_thrown_14 : decode cX12_thrown 14 = .ok (.ireturn, 1) := by decide +kernel
set_option maxHeartbeats 20000000 in
set_option maxRecDepth 100000 in
/-- thrown(what) -/
theorem R_thrownW (l : Launch) (G : pT) (h0 : Nat) (a : Nat → Nat) (F : Nat → Int32) (B : Nat → Nat → Int32) (Xs : Nat → Nat → Int32) (gh : Nat → Nat → Nat) (nd : Nat) (T : Nat) (nm : Nat) (wr : Nat) (lz : Nat) (dc : Nat) (fd : Nat) (md : Nat) (pr : Nat) (bk : Nat) (M : MTb) (on : Nat) (idn : Nat) (fl : Nat) (c9 : Nat) (ct : Nat) (en : Int32) (uc : Int32) (x : Int32) (hth : If (en = 1) (Pg Xs B gh nd T nm wr lz dc fd md pr bk M ∧ Hp Xs B dc fd on idn fl c9 ct ∧ Thr B on dc uc)) : PM l G pX0 yX12_thrown cX12_thrown 6 (some .int) ({ frames := 3, cells := 0, slots := 0, locals := 82 }) [.ref h0, .int x] (mW G h0 a (upd (upd (upd F 44 (nI fd)) 116 en) 119 uc) B) (fun (v : Option Value) (u : Int32) => v = some (.int u)) (fun u => (mW G h0 a (upd (upd (upd (upd F 0 0) 44 (nI fd)) 116 en) 119 uc) B)) := by
  intro sz
  refine Met.ofW (cc := cX12_thrown) (maxL := 6) (ret := (some .int)) (by decide) rfl ?_
  intro p e s m args below meth c s₁ B9 hml hv
  obtain ⟨rfl, hsz, hP, hD0, hE, hX⟩ := hv
  have hx := B9.exec
  have hb := B9.bytes
  have hr := B9.returns
  have hts := atoms_spec (ws := Cond.code yX12_thrown cX12_thrown 6 (some .int) :: pw) B9.pre
  have hq : ∀ w ∈ pw, w.before _ s = true := fun w h => hts w (List.mem_cons_of_mem _ h)
  have hown : s.vm.findClass RX12 = some m.cls := findClass_of_methodNamed B9.named
  have hlocks := B9.notSynchronized
  subst hsz
  have hD := hD0.self (sz := s.heap.size)
  have hA : ∀ q : Nat, s.heap.size ≤ q → va_A (mW G h0 a (upd (upd (upd F 44 (nI fd)) 116 en) 119 uc) B) s.heap.size q := fun q h => Or.inr h
  have hP : va_P G.1 pCl (mW G h0 a (upd (upd (upd F 44 (nI fd)) 116 en) 119 uc) B) s.heap := hP
  generalize va_A (mW G h0 a (upd (upd (upd F 44 (nI fd)) 116 en) 119 uc) B) s.heap.size = A at hD hE hA ⊢
  have hS : va_S A s.heap s.heap [] := va_S.rf
  have hl := lv_entry ([.ref h0, .int x]) (n := 6) (Nat.le_of_ble_eq_true rfl)
  rw [lg_entry_eq]
  generalize (lg_sl ([.ref h0, .int x]) ++ List.replicate (6 - (lg_sl ([.ref h0, .int x])).length) Slot.unset).toArray = ls at hl ⊢
  have hl : lv_has ls 6 [(0, .ref h0), (1, .int x)] := hl
  refine lv_aload_n hx hb dX12_thrown_0 rfl (lv_at hl 0 rfl) ?_
  refine lv_iconst (v := 0) hx hb dX12_thrown_1 (by decide) ?_
  refine r_put (v := 0) (ty := .int) hx hb hown hq hE hP hD hS 0 252 tFX12_0 (by decide) pw_1515 (by decide) rfl rfl (ms_0 a _ _) dX12_thrown_2 (fun H locs hP hD hS => ?_)
  refine lv_aload_n hx hb dX12_thrown_5 rfl (lv_at hl 0 rfl) ?_
  refine r_get (v := .int en) hx hb hown hq hE hP 116 233 tFX12_116 (by decide) pw_1506 rfl dX12_thrown_6 ?_
  refine lv_iconst (v := 1) hx hb dX12_thrown_9 (by decide) ?_
  refine lv_icmp_eq (tgt := 15) hx hb dX12_thrown_10 (by decide) (fun c1 => ?_) (fun c1 => ?_)
  · obtain ⟨hPg, hHp, hT0⟩ := hth c1
    have hbd := hPg.bd
    have hw31 : B 31 = Xs 31 := hPg.row 31 (by omega) (by omega) (by omega) (by omega) (by omega)
    have hw32 : B 32 = Xs 32 := hPg.row 32 (by omega) (by omega) (by omega) (by omega) (by omega)
    have hw35 : B 35 = Xs 35 := hPg.row 35 (by omega) (by omega) (by omega) (by omega) (by omega)
    have hw21 : B 21 = Xs 21 := hPg.row 21 (by omega) (by omega) (by omega) (by omega) (by omega)
    have hfb := hPg.ab.1
    obtain ⟨u9, k9, hu1, hu2, hu3, hu4, hu5⟩ := Thr.got hPg hHp hT0
    refine lv_aload_n hx hb dX12_thrown_15 rfl (lv_at hl 0 rfl) ?_
    refine lv_aload_n hx hb dX12_thrown_16 rfl (lv_at hl 0 rfl) ?_
    refine r_get (v := .int uc) hx hb hown hq hE hP 119 766 tFX12_119 (by decide) pw_2033 rfl dX12_thrown_17 ?_
    refine lv_topi (fun x2 e3 => ?_)
    obtain rfl : x2 = nI u9 := e3.trans hu1
    have hP : va_P G.1 pCl (mW G h0 a (upd (upd (upd (upd F 0 0) 44 (nI fd)) 116 en) 119 uc) (updA B 55 (B 55))) _ := mW_to (F := F) (l1 := [(44, (nI fd)), (116, en), (119, uc), (0, 0)]) (l2 := [(0, 0), (44, (nI fd)), (116, en), (119, uc)]) (V := [(nI fd), en, uc, 0, 0, (nI fd), en, uc]) rfl rfl (show B = (updA B 55 (B 55)) from updsA_eq2 (F := B) (l1 := []) (l2 := [(55, (B 55))]) (V := [(B 55)]) rfl rfl) hP
    have hD : va_D A (mW G h0 a (upd (upd (upd (upd F 0 0) 44 (nI fd)) 116 en) 119 uc) (updA B 55 (B 55))) := mW_D hD
    refine pc_V0 (G := G) (As := [.int (nI u9)]) (rest := []) hx hb hml hown hq hE hX pX0_al hP hD hS hA hl.1 (R_classOf l G h0 a (upd (upd (upd (upd F 0 0) 44 (nI fd)) 116 en) 119 uc) B u9 (B 55) (by rcases hu5 with z | ⟨z, _⟩ <;> omega)) (gV pw_1995 pw_1996 pw_1997 pw_1523 pw_1994) hV_X12_classOf 0 9 rfl rfl rfl rfl (Nat.le_of_ble_eq_true rfl) dX12_thrown_20 ⟨Nat.le_of_ble_eq_true rfl, Nat.le_of_ble_eq_true rfl⟩ ⟨Nat.le_of_ble_eq_true rfl, Nat.le_of_ble_eq_true rfl⟩ (fun v6 u4 H locs hw5 hP hD hS => ?_)
    obtain rfl : v6 = some (.int (clF (B 55) u9)) := hw5
    have hP : va_P G.1 pCl (mW G h0 a (upd (upd (upd (upd F 0 0) 44 (nI fd)) 116 en) 119 uc) B) _ := mW_to (F := F) (l1 := [(0, 0), (44, (nI fd)), (116, en), (119, uc)]) (l2 := [(0, 0), (44, (nI fd)), (116, en), (119, uc)]) (V := [0, (nI fd), en, uc, 0, (nI fd), en, uc]) rfl rfl (show (updA B 55 (B 55)) = B from updsA_eq2 (F := B) (l1 := [(55, (B 55))]) (l2 := []) (V := [(B 55)]) rfl rfl) hP
    have hD : va_D A (mW G h0 a (upd (upd (upd (upd F 0 0) 44 (nI fd)) 116 en) 119 uc) B) := mW_D hD
    refine W.widen (k := 0) (n := 0) (Nat.le_of_ble_eq_true rfl) (Nat.le_of_ble_eq_true rfl) ?_
    refine W.eq (g2 := F0 m 23 ls [.int (clF (B 55) u9)]) rfl ?_
    refine lv_topi (fun x7 e8 => ?_)
    obtain rfl : x7 = nI k9 := e8.trans hu3
    refine lv_istore_n (lv' := [(2, .int (nI k9)), (0, .ref h0), (1, .int x)]) hx hb dX12_thrown_23 rfl hl (by decide) rfl (fun ls hl => ?_)
    refine lv_aload_n hx hb dX12_thrown_24 rfl (lv_at hl 1 rfl) ?_
    refine r_get (v := .int uc) hx hb hown hq hE hP 119 766 tFX12_119 (by decide) pw_2033 rfl dX12_thrown_25 ?_
    refine lv_topi (fun x9 e10 => ?_)
    obtain rfl : x9 = nI u9 := e10.trans hu1
    refine lv_sipush (v := 4000) hx hb dX12_thrown_28 (by decide) ?_
    rcases hu5 with hu6 | ⟨hu6, q9, p9, hq1, hq2, hp1, hp2, hfo⟩
    · refine lv_icmp_le (tgt := 38) hx hb dX12_thrown_31 (by decide) (fun c11 => (by have n12 : u9 ≤ 4000 := (nI_leI (a := u9) (b := 4000) (by omega) (by omega)).mp c11; omega)) (fun c11 => ?_)
      refine lv_iconst (v := 0) hx hb dX12_thrown_34 (by decide) ?_
      refine lv_goto (tgt := 49) hx hb dX12_thrown_35 (by decide) ?_
      refine lv_istore_n (lv' := [(3, .int 0), (2, .int (nI k9)), (0, .ref h0), (1, .int x)]) hx hb dX12_thrown_49 rfl hl (by decide) rfl (fun ls hl => ?_)
      refine lv_iload_n hx hb dX12_thrown_50 rfl (lv_at hl 3 rfl) ?_
      refine lv_iconst (v := 2) hx hb dX12_thrown_51 (by decide) ?_
      refine lv_icmp_lt (tgt := 62) hx hb dX12_thrown_52 (by decide) (fun c13 => ?_) (fun c13 => ?_)
      · refine lv_iload_n hx hb dX12_thrown_62 rfl (lv_at hl 3 rfl) ?_
        refine lv_if_ne (tgt := 70) hx hb dX12_thrown_63 (by decide) (fun c14 => ?_) (fun c14 => ?_)
        · refine lv_iload_n hx hb dX12_thrown_70 rfl (lv_at hl 3 rfl) ?_
          refine lv_iconst (v := 1) hx hb dX12_thrown_71 (by decide) ?_
          refine lv_icmp_ne (tgt := 79) hx hb dX12_thrown_72 (by decide) (fun c15 => ?_) (fun c15 => ?_)
          · refine lv_iconst (v := (-1)) hx hb dX12_thrown_79 (by decide) ?_
            have hP : va_P G.1 pCl (mW G h0 a (upd (upd (upd (upd F 0 0) 44 (nI fd)) 116 en) 119 uc) B) _ := hP
            have hD : va_D A (mW G h0 a (upd (upd (upd (upd F 0 0) 44 (nI fd)) 116 en) 119 uc) B) := mW_D hD
            exact W.iret (v := (-1)) hx hb hr (fun t9 ht9 hW9 => ⟨⟨_, ((-1) : Int32), rfl, rfl, by rw [ht9]; exact hP, hD⟩, hS.F ht9⟩) hS.2.2 dX12_thrown_80
          · refine lv_iload_n hx hb dX12_thrown_75 rfl (lv_at hl 0 rfl) ?_
            refine lv_goto (tgt := 80) hx hb dX12_thrown_76 (by decide) ?_
            have hP : va_P G.1 pCl (mW G h0 a (upd (upd (upd (upd F 0 0) 44 (nI fd)) 116 en) 119 uc) B) _ := hP
            have hD : va_D A (mW G h0 a (upd (upd (upd (upd F 0 0) 44 (nI fd)) 116 en) 119 uc) B) := mW_D hD
            exact W.iret (v := 0) hx hb hr (fun t9 ht9 hW9 => ⟨⟨_, (0 : Int32), rfl, rfl, by rw [ht9]; exact hP, hD⟩, hS.F ht9⟩) hS.2.2 dX12_thrown_80
        · refine lv_iload_n hx hb dX12_thrown_66 rfl (lv_at hl 1 rfl) ?_
          refine lv_goto (tgt := 80) hx hb dX12_thrown_67 (by decide) ?_
          have hP : va_P G.1 pCl (mW G h0 a (upd (upd (upd (upd F 0 0) 44 (nI fd)) 116 en) 119 uc) B) _ := hP
          have hD : va_D A (mW G h0 a (upd (upd (upd (upd F 0 0) 44 (nI fd)) 116 en) 119 uc) B) := mW_D hD
          exact W.iret (v := (nI k9)) hx hb hr (fun t9 ht9 hW9 => ⟨⟨_, (nI k9), rfl, rfl, by rw [ht9]; exact hP, hD⟩, hS.F ht9⟩) hS.2.2 dX12_thrown_80
      · obtain ⟨x9, hx1, hx2⟩ : ∃ z : Nat, x = nI (z + 2) ∧ z < 2147483646 := ge_two c13
        rw [hx1] at hl
        refine lv_iload_n hx hb dX12_thrown_55 rfl (lv_at hl 3 rfl) ?_
        refine lv_iconst (v := 2) hx hb dX12_thrown_56 (by decide) ?_
        refine lv_isub hx hb dX12_thrown_57 ?_
        refine lv_topi (fun x16 e17 => ?_)
        obtain rfl : x16 = nI ((x9 + 2) - 2) := e17.trans (nI_subN (a := 2) (b := (x9 + 2)) (by omega))
        refine lv_iload_n hx hb dX12_thrown_58 rfl (lv_at hl 0 rfl) ?_
        refine lv_icmp_lt (tgt := 81) hx hb dX12_thrown_59 (by decide) (fun c18 => (by have n19 : ((x9 + 2) - 2) < 0 := (nI_ltI (a := ((x9 + 2) - 2)) (b := 0) (by omega) (by omega)).mp c18; omega)) (fun c18 => ?_)
        refine lv_iload_n hx hb dX12_thrown_62 rfl (lv_at hl 3 rfl) ?_
        refine lv_if_ne (tgt := 70) hx hb dX12_thrown_63 (by decide) (fun c20 => ?_) (fun c20 => ?_)
        · have n21 : ¬ ((x9 + 2) = 0) := fun h9 => c20 ((nI_eq (a := (x9 + 2)) (b := 0) (by omega) (by omega)).mpr h9)
          refine lv_iload_n hx hb dX12_thrown_70 rfl (lv_at hl 3 rfl) ?_
          refine lv_iconst (v := 1) hx hb dX12_thrown_71 (by decide) ?_
          refine lv_icmp_ne (tgt := 79) hx hb dX12_thrown_72 (by decide) (fun c22 => ?_) (fun c22 => ?_)
          · have n23 : ¬ ((x9 + 2) = 1) := fun h9 => c22 ((nI_eq (a := (x9 + 2)) (b := 1) (by omega) (by omega)).mpr h9)
            refine lv_iconst (v := (-1)) hx hb dX12_thrown_79 (by decide) ?_
            have hP : va_P G.1 pCl (mW G h0 a (upd (upd (upd (upd F 0 0) 44 (nI fd)) 116 en) 119 uc) B) _ := hP
            have hD : va_D A (mW G h0 a (upd (upd (upd (upd F 0 0) 44 (nI fd)) 116 en) 119 uc) B) := mW_D hD
            exact W.iret (v := (-1)) hx hb hr (fun t9 ht9 hW9 => ⟨⟨_, ((-1) : Int32), rfl, rfl, by rw [ht9]; exact hP, hD⟩, hS.F ht9⟩) hS.2.2 dX12_thrown_80
          · have n24 : (x9 + 2) = 1 := (nI_eq (a := (x9 + 2)) (b := 1) (by omega) (by omega)).mp c22
            refine lv_iload_n hx hb dX12_thrown_75 rfl (lv_at hl 0 rfl) ?_
            refine lv_goto (tgt := 80) hx hb dX12_thrown_76 (by decide) ?_
            have hP : va_P G.1 pCl (mW G h0 a (upd (upd (upd (upd F 0 0) 44 (nI fd)) 116 en) 119 uc) B) _ := hP
            have hD : va_D A (mW G h0 a (upd (upd (upd (upd F 0 0) 44 (nI fd)) 116 en) 119 uc) B) := mW_D hD
            exact W.iret (v := 0) hx hb hr (fun t9 ht9 hW9 => ⟨⟨_, (0 : Int32), rfl, rfl, by rw [ht9]; exact hP, hD⟩, hS.F ht9⟩) hS.2.2 dX12_thrown_80
        · have n25 : (x9 + 2) = 0 := (nI_eq (a := (x9 + 2)) (b := 0) (by omega) (by omega)).mp c20
          refine lv_iload_n hx hb dX12_thrown_66 rfl (lv_at hl 1 rfl) ?_
          refine lv_goto (tgt := 80) hx hb dX12_thrown_67 (by decide) ?_
          have hP : va_P G.1 pCl (mW G h0 a (upd (upd (upd (upd F 0 0) 44 (nI fd)) 116 en) 119 uc) B) _ := hP
          have hD : va_D A (mW G h0 a (upd (upd (upd (upd F 0 0) 44 (nI fd)) 116 en) 119 uc) B) := mW_D hD
          exact W.iret (v := (nI k9)) hx hb hr (fun t9 ht9 hW9 => ⟨⟨_, (nI k9), rfl, rfl, by rw [ht9]; exact hP, hD⟩, hS.F ht9⟩) hS.2.2 dX12_thrown_80
    · refine lv_icmp_le (tgt := 38) hx hb dX12_thrown_31 (by decide) (fun c26 => ?_) (fun c26 => (by have n27 : ¬ (u9 ≤ 4000) := fun h9 => c26 ((nI_leI (a := u9) (b := 4000) (by omega) (by omega)).mpr h9); omega))
      refine lv_aload_n hx hb dX12_thrown_38 rfl (lv_at hl 1 rfl) ?_
      refine r_get (v := .ref (a 57)) hx hb hown hq hE hP 93 184 tFX12_93 (by decide) pw_1489 rfl dX12_thrown_39 ?_
      refine lv_aload_n hx hb dX12_thrown_42 rfl (lv_at hl 1 rfl) ?_
      refine r_get (v := .int uc) hx hb hown hq hE hP 119 766 tFX12_119 (by decide) pw_2033 rfl dX12_thrown_43 ?_
      refine lv_topi (fun x28 e29 => ?_)
      obtain rfl : x28 = nI u9 := e29.trans hu1
      refine lv_iconst (v := 1) hx hb dX12_thrown_46 (by decide) ?_
      refine lv_isub hx hb dX12_thrown_47 ?_
      refine lv_topi (fun x30 e31 => ?_)
      obtain rfl : x30 = nI (u9 - 1) := e31.trans (nI_subN (a := 1) (b := u9) (by omega))
      refine r_ldi (f := (B 57)) (j := (u9 - 1)) hx hb hE hP 57 (ma_57 G a _) rfl (by omega) (by decide) dX12_thrown_48 ?_
      refine lv_topi (fun x32 e33 => ?_)
      obtain rfl : x32 = nI q9 := e33.trans hq1
      refine lv_istore_n (lv' := [(3, .int (nI q9)), (2, .int (nI k9)), (0, .ref h0), (1, .int x)]) hx hb dX12_thrown_49 rfl hl (by decide) rfl (fun ls hl => ?_)
      refine lv_iload_n hx hb dX12_thrown_50 rfl (lv_at hl 3 rfl) ?_
      refine lv_iconst (v := 2) hx hb dX12_thrown_51 (by decide) ?_
      refine lv_icmp_lt (tgt := 62) hx hb dX12_thrown_52 (by decide) (fun c34 => ?_) (fun c34 => ?_)
      · refine lv_iload_n hx hb dX12_thrown_62 rfl (lv_at hl 3 rfl) ?_
        refine lv_if_ne (tgt := 70) hx hb dX12_thrown_63 (by decide) (fun c35 => ?_) (fun c35 => ?_)
        · refine lv_iload_n hx hb dX12_thrown_70 rfl (lv_at hl 3 rfl) ?_
          refine lv_iconst (v := 1) hx hb dX12_thrown_71 (by decide) ?_
          refine lv_icmp_ne (tgt := 79) hx hb dX12_thrown_72 (by decide) (fun c36 => ?_) (fun c36 => ?_)
          · refine lv_iconst (v := (-1)) hx hb dX12_thrown_79 (by decide) ?_
            have hP : va_P G.1 pCl (mW G h0 a (upd (upd (upd (upd F 0 0) 44 (nI fd)) 116 en) 119 uc) B) _ := hP
            have hD : va_D A (mW G h0 a (upd (upd (upd (upd F 0 0) 44 (nI fd)) 116 en) 119 uc) B) := mW_D hD
            exact W.iret (v := (-1)) hx hb hr (fun t9 ht9 hW9 => ⟨⟨_, ((-1) : Int32), rfl, rfl, by rw [ht9]; exact hP, hD⟩, hS.F ht9⟩) hS.2.2 dX12_thrown_80
          · refine lv_iload_n hx hb dX12_thrown_75 rfl (lv_at hl 0 rfl) ?_
            refine lv_goto (tgt := 80) hx hb dX12_thrown_76 (by decide) ?_
            have hP : va_P G.1 pCl (mW G h0 a (upd (upd (upd (upd F 0 0) 44 (nI fd)) 116 en) 119 uc) B) _ := hP
            have hD : va_D A (mW G h0 a (upd (upd (upd (upd F 0 0) 44 (nI fd)) 116 en) 119 uc) B) := mW_D hD
            exact W.iret (v := (nI q9)) hx hb hr (fun t9 ht9 hW9 => ⟨⟨_, (nI q9), rfl, rfl, by rw [ht9]; exact hP, hD⟩, hS.F ht9⟩) hS.2.2 dX12_thrown_80
        · refine lv_iload_n hx hb dX12_thrown_66 rfl (lv_at hl 1 rfl) ?_
          refine lv_goto (tgt := 80) hx hb dX12_thrown_67 (by decide) ?_
          have hP : va_P G.1 pCl (mW G h0 a (upd (upd (upd (upd F 0 0) 44 (nI fd)) 116 en) 119 uc) B) _ := hP
          have hD : va_D A (mW G h0 a (upd (upd (upd (upd F 0 0) 44 (nI fd)) 116 en) 119 uc) B) := mW_D hD
          exact W.iret (v := (nI k9)) hx hb hr (fun t9 ht9 hW9 => ⟨⟨_, (nI k9), rfl, rfl, by rw [ht9]; exact hP, hD⟩, hS.F ht9⟩) hS.2.2 dX12_thrown_80
      · obtain ⟨x9, hx1, hx2⟩ : ∃ z : Nat, x = nI (z + 2) ∧ z < 2147483646 := ge_two c34
        rw [hx1] at hl
        refine lv_iload_n hx hb dX12_thrown_55 rfl (lv_at hl 3 rfl) ?_
        refine lv_iconst (v := 2) hx hb dX12_thrown_56 (by decide) ?_
        refine lv_isub hx hb dX12_thrown_57 ?_
        refine lv_topi (fun x37 e38 => ?_)
        obtain rfl : x37 = nI ((x9 + 2) - 2) := e38.trans (nI_subN (a := 2) (b := (x9 + 2)) (by omega))
        refine lv_iload_n hx hb dX12_thrown_58 rfl (lv_at hl 0 rfl) ?_
        refine lv_icmp_lt (tgt := 81) hx hb dX12_thrown_59 (by decide) (fun c39 => ?_) (fun c39 => ?_)
        · have n40 : ((x9 + 2) - 2) < q9 := (nI_ltI (a := ((x9 + 2) - 2)) (b := q9) (by omega) (by omega)).mp c39
          obtain ⟨f0, hf0, hf1, hf2⟩ := hfo x9 (by omega)
          refine lv_iconst (v := 0) hx hb dX12_thrown_81 (by decide) ?_
          refine lv_istore (lv' := [(4, .int 0), (3, .int (nI q9)), (2, .int (nI k9)), (0, .ref h0), (1, .int (nI (x9 + 2)))]) hx hb dX12_thrown_82 hl (by decide) rfl (fun ls hl => ?_)
          have loop_f : ∀ (n_f : Nat) (f2 : Nat) (H : Heap) (locs : List Loc) (ls : Array Slot), f2 ≤ f0 → f0 + 1 ≤ f2 + n_f → va_P G.1 pCl (mW G h0 a (upd (upd (upd (upd F 0 0) 44 (nI fd)) 116 en) 119 uc) B) H → va_D A (mW G h0 a (upd (upd (upd (upd F 0 0) 44 (nI fd)) 116 en) 119 uc) B) → va_S A s.heap H locs → lv_has ls 6 [(4, .int (nI f2)), (3, .int (nI q9)), (2, .int (nI k9)), (1, .int (nI (x9 + 2))), (0, .ref h0)] → W p l e (headSpec (Cond.code yX12_thrown cX12_thrown 6 (some .int) :: pw) ({ frames := 3, cells := 0, slots := 0, locals := 82 } : Room)).room s m ([.ref h0, .int x] : List Value).toArray below meth c H locs 0 0 (MQ below (pQ G A (fun (v : Option Value) (u : Int32) => v = some (.int u)) (fun u => (mW G h0 a (upd (upd (upd (upd F 0 0) 44 (nI fd)) 116 en) 119 uc) B))) ([.ref h0, .int x] : List Value).toArray s ({ frames := 3, cells := 0, slots := 0, locals := 82 } : Room).cells ({ frames := 3, cells := 0, slots := 0, locals := 82 } : Room).slots A) (F0 m 84 ls []) := by
            intro n_f
            induction n_f with
            | zero => intro f2 H locs ls hk_f hn_f; omega
            | succ n_f ih_f =>
              intro f2 H locs ls hk_f hn_f hP hD hS hl
              refine lv_aload_n hx hb dX12_thrown_84 rfl (lv_at hl 4 rfl) ?_
              refine r_get (v := .ref (a 32)) hx hb hown hq hE hP 45 108 tFX12_45 (by decide) pw_1463 rfl dX12_thrown_85 ?_
              refine lv_iload hx hb dX12_thrown_88 (lv_at hl 0 rfl) ?_
              refine r_ldi (f := (B 32)) (j := f2) hx hb hE hP 32 (ma_32 G a _) rfl (by omega) (by decide) dX12_thrown_90 ?_
              obtain ⟨⟨d41, e42, -, h43⟩, -⟩ := hPg.ps.2.1 f2 (by omega)
              refine lv_topi (fun x44 e45 => ?_)
              obtain rfl : x44 = nI d41 := e45.trans ((congrFun hw32 _).trans e42)
              refine lv_iload_n hx hb dX12_thrown_91 rfl (lv_at hl 2 rfl) ?_
              refine lv_icmp_eq (tgt := 110) hx hb dX12_thrown_92 (by decide) (fun c46 => ?_) (fun c46 => ?_)
              · have n47 : d41 = k9 := (nI_eq (a := d41) (b := k9) (by omega) (by omega)).mp c46
                refine lv_aload_n hx hb dX12_thrown_110 rfl (lv_at hl 4 rfl) ?_
                refine r_get (v := .ref (a 53)) hx hb hown hq hE hP 89 171 tFX12_89 (by decide) pw_1484 rfl dX12_thrown_111 ?_
                refine lv_iload hx hb dX12_thrown_114 (lv_at hl 0 rfl) ?_
                refine r_ldi (f := (B 53)) (j := f2) hx hb hE hP 53 (ma_53 G a _) rfl (by omega) (by decide) dX12_thrown_116 ?_
                refine lv_iload_n hx hb dX12_thrown_117 rfl (lv_at hl 3 rfl) ?_
                refine lv_iconst (v := 2) hx hb dX12_thrown_118 (by decide) ?_
                refine lv_isub hx hb dX12_thrown_119 ?_
                refine lv_topi (fun x48 e49 => ?_)
                obtain rfl : x48 = nI ((x9 + 2) - 2) := e49.trans (nI_subN (a := 2) (b := (x9 + 2)) (by omega))
                refine lv_icmp_eq (tgt := 129) hx hb dX12_thrown_120 (by decide) (fun c50 => ?_) (fun c50 => ?_)
                · refine lv_aload_n hx hb dX12_thrown_129 rfl (lv_at hl 4 rfl) ?_
                  refine r_get (v := .ref (a 60)) hx hb hown hq hE hP 96 193 tFX12_96 (by decide) pw_1492 rfl dX12_thrown_130 ?_
                  refine lv_aload_n hx hb dX12_thrown_133 rfl (lv_at hl 4 rfl) ?_
                  refine r_get (v := .ref (a 58)) hx hb hown hq hE hP 94 187 tFX12_94 (by decide) pw_1490 rfl dX12_thrown_134 ?_
                  refine lv_aload_n hx hb dX12_thrown_137 rfl (lv_at hl 4 rfl) ?_
                  refine r_get (v := .int uc) hx hb hown hq hE hP 119 766 tFX12_119 (by decide) pw_2033 rfl dX12_thrown_138 ?_
                  refine lv_topi (fun x51 e52 => ?_)
                  obtain rfl : x51 = nI u9 := e52.trans hu1
                  refine lv_iconst (v := 1) hx hb dX12_thrown_141 (by decide) ?_
                  refine lv_isub hx hb dX12_thrown_142 ?_
                  refine lv_topi (fun x53 e54 => ?_)
                  obtain rfl : x53 = nI (u9 - 1) := e54.trans (nI_subN (a := 1) (b := u9) (by omega))
                  refine r_ldi (f := (B 58)) (j := (u9 - 1)) hx hb hE hP 58 (ma_58 G a _) rfl (by omega) (by decide) dX12_thrown_143 ?_
                  refine lv_topi (fun x55 e56 => ?_)
                  obtain rfl : x55 = nI p9 := e56.trans hp1
                  refine lv_iload_n hx hb dX12_thrown_144 rfl (lv_at hl 3 rfl) ?_
                  refine lv_iadd hx hb dX12_thrown_145 ?_
                  refine lv_topi (fun x57 e58 => ?_)
                  obtain rfl : x57 = nI (p9 + (x9 + 2)) := e58.trans (nI_add (p9) ((x9 + 2)))
                  refine lv_iconst (v := 2) hx hb dX12_thrown_146 (by decide) ?_
                  refine lv_isub hx hb dX12_thrown_147 ?_
                  refine lv_topi (fun x59 e60 => ?_)
                  obtain rfl : x59 = nI ((p9 + (x9 + 2)) - 2) := e60.trans (nI_subN (a := 2) (b := (p9 + (x9 + 2))) (by omega))
                  refine r_ldi (f := (B 60)) (j := ((p9 + (x9 + 2)) - 2)) hx hb hE hP 60 (ma_60 G a _) rfl (by omega) (by decide) dX12_thrown_148 ?_
                  refine lv_istore (lv' := [(5, .int ((B 60) ((p9 + (x9 + 2)) - 2))), (4, .int (nI f2)), (3, .int (nI q9)), (2, .int (nI k9)), (1, .int (nI (x9 + 2))), (0, .ref h0)]) hx hb dX12_thrown_149 hl (by decide) rfl (fun ls hl => ?_)
                  refine lv_aload_n hx hb dX12_thrown_151 rfl (lv_at hl 5 rfl) ?_
                  refine lv_aload_n hx hb dX12_thrown_152 rfl (lv_at hl 5 rfl) ?_
                  refine r_get (v := .ref (a 21)) hx hb hown hq hE hP 30 75 tFX12_30 (by decide) pw_1452 rfl dX12_thrown_153 ?_
                  refine lv_aload_n hx hb dX12_thrown_156 rfl (lv_at hl 5 rfl) ?_
                  refine r_get (v := .ref (a 35)) hx hb hown hq hE hP 48 117 tFX12_48 (by decide) pw_1466 rfl dX12_thrown_157 ?_
                  refine lv_iload hx hb dX12_thrown_160 (lv_at hl 1 rfl) ?_
                  refine r_ldi (f := (B 35)) (j := f2) hx hb hE hP 35 (ma_35 G a _) rfl (by omega) (by decide) dX12_thrown_162 ?_
                  obtain ⟨-, -, y9, ey9, hy9⟩ := hPg.ps.2.1 f2 (by omega)
                  refine lv_topi (fun x61 e62 => ?_)
                  obtain rfl : x61 = nI y9 := e62.trans ((congrFun hw35 _).trans ey9)
                  refine r_ldi (f := (B 21)) (j := y9) hx hb hE hP 21 (ma_21 G a _) rfl (by omega) (by decide) dX12_thrown_163 ?_
                  obtain ⟨t9, et9, -, -, ht9, -⟩ := (hPg.ty y9 (by omega)).tc (by omega)
                  refine lv_topi (fun x63 e64 => ?_)
                  obtain rfl : x63 = nI t9 := e64.trans ((congrFun hw21 _).trans et9)
                  have hP : va_P G.1 pCl (mW G h0 a (upd (upd (upd (upd F 0 0) 44 (nI fd)) 116 en) 119 uc) B) _ := hP
                  have hD : va_D A (mW G h0 a (upd (upd (upd (upd F 0 0) 44 (nI fd)) 116 en) 119 uc) B) := mW_D hD
                  refine pc_V0 (G := G) (As := [.int (nI t9)]) (rest := []) hx hb hml hown hq hE hX pX0_al hP hD hS hA hl.1 (R_isReference l G h0 a (upd (upd (upd (upd F 0 0) 44 (nI fd)) 116 en) 119 uc) B t9 (by omega)) (gV pw_1783 pw_1784 pw_1785 pw_1523 pw_1779) hV_X12_isReference 0 9 rfl rfl rfl rfl (Nat.le_of_ble_eq_true rfl) dX12_thrown_164 ⟨Nat.le_of_ble_eq_true rfl, Nat.le_of_ble_eq_true rfl⟩ ⟨Nat.le_of_ble_eq_true rfl, Nat.le_of_ble_eq_true rfl⟩ (fun v67 u65 H locs hw66 hP hD hS => ?_)
                  obtain ⟨r68, rfl⟩ : ∃ z, z = u65 := ⟨_, rfl⟩
                  obtain ⟨hw66, h69, h70, h71⟩ := hw66
                  replace h69 : r68 ≤ 1 := h69
                  replace h70 : 3 * r68 ≤ t9 := h70
                  replace h71 : t9 ≤ 2 + 9000 * r68 := h71
                  obtain rfl : v67 = some (.int (nI r68)) := hw66
                  have hP : va_P G.1 pCl (mW G h0 a (upd (upd (upd (upd F 0 0) 44 (nI fd)) 116 en) 119 uc) B) _ := hP
                  have hD : va_D A (mW G h0 a (upd (upd (upd (upd F 0 0) 44 (nI fd)) 116 en) 119 uc) B) := mW_D hD
                  refine W.widen (k := 0) (n := 0) (Nat.le_of_ble_eq_true rfl) (Nat.le_of_ble_eq_true rfl) ?_
                  refine W.eq (g2 := F0 m 167 ls [.int (nI r68)]) rfl ?_
                  refine lv_if_eq (tgt := 183) hx hb dX12_thrown_167 (by decide) (fun c72 => ?_) (fun c72 => ?_)
                  · have n73 : r68 = 0 := (nI_eq (a := r68) (b := 0) (by omega) (by omega)).mp c72
                    refine lv_iload hx hb dX12_thrown_183 (lv_at hl 0 rfl) ?_
                    have hP : va_P G.1 pCl (mW G h0 a (upd (upd (upd (upd F 0 0) 44 (nI fd)) 116 en) 119 uc) B) _ := hP
                    have hD : va_D A (mW G h0 a (upd (upd (upd (upd F 0 0) 44 (nI fd)) 116 en) 119 uc) B) := mW_D hD
                    exact W.iret (v := ((B 60) ((p9 + (x9 + 2)) - 2))) hx hb hr (fun t9 ht9 hW9 => ⟨⟨_, ((B 60) ((p9 + (x9 + 2)) - 2)), rfl, rfl, by rw [ht9]; exact hP, hD⟩, hS.F ht9⟩) hS.2.2 dX12_thrown_185
                  · have n74 : ¬ (r68 = 0) := fun h9 => c72 ((nI_eq (a := r68) (b := 0) (by omega) (by omega)).mpr h9)
                    refine lv_iload hx hb dX12_thrown_170 (lv_at hl 0 rfl) ?_
                    refine lv_if_ne (tgt := 179) hx hb dX12_thrown_172 (by decide) (fun c75 => ?_) (fun c75 => ?_)
                    · refine lv_iconst (v := 1) hx hb dX12_thrown_179 (by decide) ?_
                      refine lv_goto (tgt := 185) hx hb dX12_thrown_180 (by decide) ?_
                      have hP : va_P G.1 pCl (mW G h0 a (upd (upd (upd (upd F 0 0) 44 (nI fd)) 116 en) 119 uc) B) _ := hP
                      have hD : va_D A (mW G h0 a (upd (upd (upd (upd F 0 0) 44 (nI fd)) 116 en) 119 uc) B) := mW_D hD
                      exact W.iret (v := 1) hx hb hr (fun t9 ht9 hW9 => ⟨⟨_, (1 : Int32), rfl, rfl, by rw [ht9]; exact hP, hD⟩, hS.F ht9⟩) hS.2.2 dX12_thrown_185
                    · refine lv_iconst (v := 0) hx hb dX12_thrown_175 (by decide) ?_
                      refine lv_goto (tgt := 185) hx hb dX12_thrown_176 (by decide) ?_
                      have hP : va_P G.1 pCl (mW G h0 a (upd (upd (upd (upd F 0 0) 44 (nI fd)) 116 en) 119 uc) B) _ := hP
                      have hD : va_D A (mW G h0 a (upd (upd (upd (upd F 0 0) 44 (nI fd)) 116 en) 119 uc) B) := mW_D hD
                      exact W.iret (v := 0) hx hb hr (fun t9 ht9 hW9 => ⟨⟨_, (0 : Int32), rfl, rfl, by rw [ht9]; exact hP, hD⟩, hS.F ht9⟩) hS.2.2 dX12_thrown_185
                · refine lv_iinc (v := (nI (f2 + 1))) (lv' := [(4, .int (nI (f2 + 1))), (3, .int (nI q9)), (2, .int (nI k9)), (1, .int (nI (x9 + 2))), (0, .ref h0)]) hx hb dX12_thrown_123 hl (k := 0) rfl (nI_1 f2) (by decide) rfl (fun ls hl => ?_)
                  refine lv_goto (tgt := 84) hx hb dX12_thrown_126 (by decide) ?_
                  have hP : va_P G.1 pCl (mW G h0 a (upd (upd (upd (upd F 0 0) 44 (nI fd)) 116 en) 119 uc) B) _ := hP
                  have hD : va_D A (mW G h0 a (upd (upd (upd (upd F 0 0) 44 (nI fd)) 116 en) 119 uc) B) := mW_D hD
                  exact ih_f (f2 + 1) _ _ _ (by have z : ¬ f2 = f0 := (fun z => c50 (by rw [z, hPg.pl f0 hf0, hf2]; rfl)); omega) (by omega) hP hD hS (lv_sub hl [0, 1, 2, 3, 4] rfl)
              · have n76 : ¬ (d41 = k9) := fun h9 => c46 ((nI_eq (a := d41) (b := k9) (by omega) (by omega)).mpr h9)
                refine lv_aload_n hx hb dX12_thrown_95 rfl (lv_at hl 4 rfl) ?_
                refine lv_aload_n hx hb dX12_thrown_96 rfl (lv_at hl 4 rfl) ?_
                refine r_get (v := .ref (a 32)) hx hb hown hq hE hP 45 108 tFX12_45 (by decide) pw_1463 rfl dX12_thrown_97 ?_
                refine lv_iload hx hb dX12_thrown_100 (lv_at hl 0 rfl) ?_
                refine r_ldi (f := (B 32)) (j := f2) hx hb hE hP 32 (ma_32 G a _) rfl (by omega) (by decide) dX12_thrown_102 ?_
                obtain ⟨⟨d77, e78, -, h79⟩, -⟩ := hPg.ps.2.1 f2 (by omega)
                refine lv_topi (fun x80 e81 => ?_)
                obtain rfl : x80 = nI d77 := e81.trans ((congrFun hw32 _).trans e78)
                refine lv_iload_n hx hb dX12_thrown_103 rfl (lv_at hl 2 rfl) ?_
                have hP : va_P G.1 pCl (mW G h0 a (upd (upd (upd (upd F 0 0) 44 (nI fd)) 116 en) 119 uc) (updA B 31 (B 31))) _ := mW_to (F := F) (l1 := [(0, 0), (44, (nI fd)), (116, en), (119, uc)]) (l2 := [(0, 0), (44, (nI fd)), (116, en), (119, uc)]) (V := [0, (nI fd), en, uc, 0, (nI fd), en, uc]) rfl rfl (show B = (updA B 31 (B 31)) from updsA_eq2 (F := B) (l1 := []) (l2 := [(31, (B 31))]) (V := [(B 31)]) rfl rfl) hP
                have hD : va_D A (mW G h0 a (upd (upd (upd (upd F 0 0) 44 (nI fd)) 116 en) 119 uc) (updA B 31 (B 31))) := mW_D hD
                refine pc_V0 (G := G) (As := [.int (nI d77), .int (nI k9)]) (rest := []) hx hb hml hown hq hE hX pX0_al hP hD hS hA hl.1 (R_isAbove l G h0 a (upd (upd (upd (upd F 0 0) 44 (nI fd)) 116 en) 119 uc) B d77 k9 (B 31) (by omega) (by show ∀ i : Nat, i < 1600 → B 31 i = 0 ∨ B 31 i = 1; rw [hw31]; exact hfb)) (gV pw_1772 pw_1773 pw_1774 pw_1523 pw_1760) hV_X12_isAbove 0 9 rfl rfl rfl rfl (Nat.le_of_ble_eq_true rfl) dX12_thrown_104 ⟨Nat.le_of_ble_eq_true rfl, Nat.le_of_ble_eq_true rfl⟩ ⟨Nat.le_of_ble_eq_true rfl, Nat.le_of_ble_eq_true rfl⟩ (fun v84 u82 H locs hw83 hP hD hS => ?_)
                obtain rfl : v84 = some (.int ((B 31) (40 * d77 + k9))) := hw83
                have hP : va_P G.1 pCl (mW G h0 a (upd (upd (upd (upd F 0 0) 44 (nI fd)) 116 en) 119 uc) B) _ := mW_to (F := F) (l1 := [(0, 0), (44, (nI fd)), (116, en), (119, uc)]) (l2 := [(0, 0), (44, (nI fd)), (116, en), (119, uc)]) (V := [0, (nI fd), en, uc, 0, (nI fd), en, uc]) rfl rfl (show (updA B 31 (B 31)) = B from updsA_eq2 (F := B) (l1 := [(31, (B 31))]) (l2 := []) (V := [(B 31)]) rfl rfl) hP
                have hD : va_D A (mW G h0 a (upd (upd (upd (upd F 0 0) 44 (nI fd)) 116 en) 119 uc) B) := mW_D hD
                refine W.widen (k := 0) (n := 0) (Nat.le_of_ble_eq_true rfl) (Nat.le_of_ble_eq_true rfl) ?_
                refine W.eq (g2 := F0 m 107 ls [.int ((B 31) (40 * d77 + k9))]) rfl ?_
                refine lv_if_eq (tgt := 123) hx hb dX12_thrown_107 (by decide) (fun c85 => ?_) (fun c85 => ?_)
                · refine lv_iinc (v := (nI (f2 + 1))) (lv' := [(4, .int (nI (f2 + 1))), (3, .int (nI q9)), (2, .int (nI k9)), (1, .int (nI (x9 + 2))), (0, .ref h0)]) hx hb dX12_thrown_123 hl (k := 0) rfl (nI_1 f2) (by decide) rfl (fun ls hl => ?_)
                  refine lv_goto (tgt := 84) hx hb dX12_thrown_126 (by decide) ?_
                  have hP : va_P G.1 pCl (mW G h0 a (upd (upd (upd (upd F 0 0) 44 (nI fd)) 116 en) 119 uc) B) _ := hP
                  have hD : va_D A (mW G h0 a (upd (upd (upd (upd F 0 0) 44 (nI fd)) 116 en) 119 uc) B) := mW_D hD
                  exact ih_f (f2 + 1) _ _ _ (by have z : ¬ f2 = f0 := (fun z => own_not e78 (by omega) (fun q => c46 (e42.symm.trans q)) (by rw [← hw31]; exact c85) (z ▸ hf1)); omega) (by omega) hP hD hS (lv_sub hl [0, 1, 2, 3, 4] rfl)
                · refine lv_aload_n hx hb dX12_thrown_110 rfl (lv_at hl 4 rfl) ?_
                  refine r_get (v := .ref (a 53)) hx hb hown hq hE hP 89 171 tFX12_89 (by decide) pw_1484 rfl dX12_thrown_111 ?_
                  refine lv_iload hx hb dX12_thrown_114 (lv_at hl 0 rfl) ?_
                  refine r_ldi (f := (B 53)) (j := f2) hx hb hE hP 53 (ma_53 G a _) rfl (by omega) (by decide) dX12_thrown_116 ?_
                  refine lv_iload_n hx hb dX12_thrown_117 rfl (lv_at hl 3 rfl) ?_
                  refine lv_iconst (v := 2) hx hb dX12_thrown_118 (by decide) ?_
                  refine lv_isub hx hb dX12_thrown_119 ?_
                  refine lv_topi (fun x86 e87 => ?_)
                  obtain rfl : x86 = nI ((x9 + 2) - 2) := e87.trans (nI_subN (a := 2) (b := (x9 + 2)) (by omega))
                  refine lv_icmp_eq (tgt := 129) hx hb dX12_thrown_120 (by decide) (fun c88 => ?_) (fun c88 => ?_)
                  · refine lv_aload_n hx hb dX12_thrown_129 rfl (lv_at hl 4 rfl) ?_
                    refine r_get (v := .ref (a 60)) hx hb hown hq hE hP 96 193 tFX12_96 (by decide) pw_1492 rfl dX12_thrown_130 ?_
                    refine lv_aload_n hx hb dX12_thrown_133 rfl (lv_at hl 4 rfl) ?_
                    refine r_get (v := .ref (a 58)) hx hb hown hq hE hP 94 187 tFX12_94 (by decide) pw_1490 rfl dX12_thrown_134 ?_
                    refine lv_aload_n hx hb dX12_thrown_137 rfl (lv_at hl 4 rfl) ?_
                    refine r_get (v := .int uc) hx hb hown hq hE hP 119 766 tFX12_119 (by decide) pw_2033 rfl dX12_thrown_138 ?_
                    refine lv_topi (fun x89 e90 => ?_)
                    obtain rfl : x89 = nI u9 := e90.trans hu1
                    refine lv_iconst (v := 1) hx hb dX12_thrown_141 (by decide) ?_
                    refine lv_isub hx hb dX12_thrown_142 ?_
                    refine lv_topi (fun x91 e92 => ?_)
                    obtain rfl : x91 = nI (u9 - 1) := e92.trans (nI_subN (a := 1) (b := u9) (by omega))
                    refine r_ldi (f := (B 58)) (j := (u9 - 1)) hx hb hE hP 58 (ma_58 G a _) rfl (by omega) (by decide) dX12_thrown_143 ?_
                    refine lv_topi (fun x93 e94 => ?_)
                    obtain rfl : x93 = nI p9 := e94.trans hp1
                    refine lv_iload_n hx hb dX12_thrown_144 rfl (lv_at hl 3 rfl) ?_
                    refine lv_iadd hx hb dX12_thrown_145 ?_
                    refine lv_topi (fun x95 e96 => ?_)
                    obtain rfl : x95 = nI (p9 + (x9 + 2)) := e96.trans (nI_add (p9) ((x9 + 2)))
                    refine lv_iconst (v := 2) hx hb dX12_thrown_146 (by decide) ?_
                    refine lv_isub hx hb dX12_thrown_147 ?_
                    refine lv_topi (fun x97 e98 => ?_)
                    obtain rfl : x97 = nI ((p9 + (x9 + 2)) - 2) := e98.trans (nI_subN (a := 2) (b := (p9 + (x9 + 2))) (by omega))
                    refine r_ldi (f := (B 60)) (j := ((p9 + (x9 + 2)) - 2)) hx hb hE hP 60 (ma_60 G a _) rfl (by omega) (by decide) dX12_thrown_148 ?_
                    refine lv_istore (lv' := [(5, .int ((B 60) ((p9 + (x9 + 2)) - 2))), (4, .int (nI f2)), (3, .int (nI q9)), (2, .int (nI k9)), (1, .int (nI (x9 + 2))), (0, .ref h0)]) hx hb dX12_thrown_149 hl (by decide) rfl (fun ls hl => ?_)
                    refine lv_aload_n hx hb dX12_thrown_151 rfl (lv_at hl 5 rfl) ?_
                    refine lv_aload_n hx hb dX12_thrown_152 rfl (lv_at hl 5 rfl) ?_
                    refine r_get (v := .ref (a 21)) hx hb hown hq hE hP 30 75 tFX12_30 (by decide) pw_1452 rfl dX12_thrown_153 ?_
                    refine lv_aload_n hx hb dX12_thrown_156 rfl (lv_at hl 5 rfl) ?_
                    refine r_get (v := .ref (a 35)) hx hb hown hq hE hP 48 117 tFX12_48 (by decide) pw_1466 rfl dX12_thrown_157 ?_
                    refine lv_iload hx hb dX12_thrown_160 (lv_at hl 1 rfl) ?_
                    refine r_ldi (f := (B 35)) (j := f2) hx hb hE hP 35 (ma_35 G a _) rfl (by omega) (by decide) dX12_thrown_162 ?_
                    obtain ⟨-, -, y9, ey9, hy9⟩ := hPg.ps.2.1 f2 (by omega)
                    refine lv_topi (fun x99 e100 => ?_)
                    obtain rfl : x99 = nI y9 := e100.trans ((congrFun hw35 _).trans ey9)
                    refine r_ldi (f := (B 21)) (j := y9) hx hb hE hP 21 (ma_21 G a _) rfl (by omega) (by decide) dX12_thrown_163 ?_
                    obtain ⟨t9, et9, -, -, ht9, -⟩ := (hPg.ty y9 (by omega)).tc (by omega)
                    refine lv_topi (fun x101 e102 => ?_)
                    obtain rfl : x101 = nI t9 := e102.trans ((congrFun hw21 _).trans et9)
                    have hP : va_P G.1 pCl (mW G h0 a (upd (upd (upd (upd F 0 0) 44 (nI fd)) 116 en) 119 uc) B) _ := hP
                    have hD : va_D A (mW G h0 a (upd (upd (upd (upd F 0 0) 44 (nI fd)) 116 en) 119 uc) B) := mW_D hD
                    refine pc_V0 (G := G) (As := [.int (nI t9)]) (rest := []) hx hb hml hown hq hE hX pX0_al hP hD hS hA hl.1 (R_isReference l G h0 a (upd (upd (upd (upd F 0 0) 44 (nI fd)) 116 en) 119 uc) B t9 (by omega)) (gV pw_1783 pw_1784 pw_1785 pw_1523 pw_1779) hV_X12_isReference 0 9 rfl rfl rfl rfl (Nat.le_of_ble_eq_true rfl) dX12_thrown_164 ⟨Nat.le_of_ble_eq_true rfl, Nat.le_of_ble_eq_true rfl⟩ ⟨Nat.le_of_ble_eq_true rfl, Nat.le_of_ble_eq_true rfl⟩ (fun v105 u103 H locs hw104 hP hD hS => ?_)
                    obtain ⟨r106, rfl⟩ : ∃ z, z = u103 := ⟨_, rfl⟩
                    obtain ⟨hw104, h107, h108, h109⟩ := hw104
                    replace h107 : r106 ≤ 1 := h107
                    replace h108 : 3 * r106 ≤ t9 := h108
                    replace h109 : t9 ≤ 2 + 9000 * r106 := h109
                    obtain rfl : v105 = some (.int (nI r106)) := hw104
                    have hP : va_P G.1 pCl (mW G h0 a (upd (upd (upd (upd F 0 0) 44 (nI fd)) 116 en) 119 uc) B) _ := hP
                    have hD : va_D A (mW G h0 a (upd (upd (upd (upd F 0 0) 44 (nI fd)) 116 en) 119 uc) B) := mW_D hD
                    refine W.widen (k := 0) (n := 0) (Nat.le_of_ble_eq_true rfl) (Nat.le_of_ble_eq_true rfl) ?_
                    refine W.eq (g2 := F0 m 167 ls [.int (nI r106)]) rfl ?_
                    refine lv_if_eq (tgt := 183) hx hb dX12_thrown_167 (by decide) (fun c110 => ?_) (fun c110 => ?_)
                    · have n111 : r106 = 0 := (nI_eq (a := r106) (b := 0) (by omega) (by omega)).mp c110
                      refine lv_iload hx hb dX12_thrown_183 (lv_at hl 0 rfl) ?_
                      have hP : va_P G.1 pCl (mW G h0 a (upd (upd (upd (upd F 0 0) 44 (nI fd)) 116 en) 119 uc) B) _ := hP
                      have hD : va_D A (mW G h0 a (upd (upd (upd (upd F 0 0) 44 (nI fd)) 116 en) 119 uc) B) := mW_D hD
                      exact W.iret (v := ((B 60) ((p9 + (x9 + 2)) - 2))) hx hb hr (fun t9 ht9 hW9 => ⟨⟨_, ((B 60) ((p9 + (x9 + 2)) - 2)), rfl, rfl, by rw [ht9]; exact hP, hD⟩, hS.F ht9⟩) hS.2.2 dX12_thrown_185
                    · have n112 : ¬ (r106 = 0) := fun h9 => c110 ((nI_eq (a := r106) (b := 0) (by omega) (by omega)).mpr h9)
                      refine lv_iload hx hb dX12_thrown_170 (lv_at hl 0 rfl) ?_
                      refine lv_if_ne (tgt := 179) hx hb dX12_thrown_172 (by decide) (fun c113 => ?_) (fun c113 => ?_)
                      · refine lv_iconst (v := 1) hx hb dX12_thrown_179 (by decide) ?_
                        refine lv_goto (tgt := 185) hx hb dX12_thrown_180 (by decide) ?_
                        have hP : va_P G.1 pCl (mW G h0 a (upd (upd (upd (upd F 0 0) 44 (nI fd)) 116 en) 119 uc) B) _ := hP
                        have hD : va_D A (mW G h0 a (upd (upd (upd (upd F 0 0) 44 (nI fd)) 116 en) 119 uc) B) := mW_D hD
                        exact W.iret (v := 1) hx hb hr (fun t9 ht9 hW9 => ⟨⟨_, (1 : Int32), rfl, rfl, by rw [ht9]; exact hP, hD⟩, hS.F ht9⟩) hS.2.2 dX12_thrown_185
                      · refine lv_iconst (v := 0) hx hb dX12_thrown_175 (by decide) ?_
                        refine lv_goto (tgt := 185) hx hb dX12_thrown_176 (by decide) ?_
                        have hP : va_P G.1 pCl (mW G h0 a (upd (upd (upd (upd F 0 0) 44 (nI fd)) 116 en) 119 uc) B) _ := hP
                        have hD : va_D A (mW G h0 a (upd (upd (upd (upd F 0 0) 44 (nI fd)) 116 en) 119 uc) B) := mW_D hD
                        exact W.iret (v := 0) hx hb hr (fun t9 ht9 hW9 => ⟨⟨_, (0 : Int32), rfl, rfl, by rw [ht9]; exact hP, hD⟩, hS.F ht9⟩) hS.2.2 dX12_thrown_185
                  · refine lv_iinc (v := (nI (f2 + 1))) (lv' := [(4, .int (nI (f2 + 1))), (3, .int (nI q9)), (2, .int (nI k9)), (1, .int (nI (x9 + 2))), (0, .ref h0)]) hx hb dX12_thrown_123 hl (k := 0) rfl (nI_1 f2) (by decide) rfl (fun ls hl => ?_)
                    refine lv_goto (tgt := 84) hx hb dX12_thrown_126 (by decide) ?_
                    have hP : va_P G.1 pCl (mW G h0 a (upd (upd (upd (upd F 0 0) 44 (nI fd)) 116 en) 119 uc) B) _ := hP
                    have hD : va_D A (mW G h0 a (upd (upd (upd (upd F 0 0) 44 (nI fd)) 116 en) 119 uc) B) := mW_D hD
                    exact ih_f (f2 + 1) _ _ _ (by have z : ¬ f2 = f0 := (fun z => c88 (by rw [z, hPg.pl f0 hf0, hf2]; rfl)); omega) (by omega) hP hD hS (lv_sub hl [0, 1, 2, 3, 4] rfl)
          have hP : va_P G.1 pCl (mW G h0 a (upd (upd (upd (upd F 0 0) 44 (nI fd)) 116 en) 119 uc) B) _ := hP
          have hD : va_D A (mW G h0 a (upd (upd (upd (upd F 0 0) 44 (nI fd)) 116 en) 119 uc) B) := mW_D hD
          exact loop_f (f0 + 1) 0 _ _ _ (by omega) (by omega) hP hD hS (lv_sub hl [0, 1, 2, 4, 3] rfl)
        · have n114 : ¬ (((x9 + 2) - 2) < q9) := fun h9 => c39 ((nI_ltI (a := ((x9 + 2) - 2)) (b := q9) (by omega) (by omega)).mpr h9)
          refine lv_iload_n hx hb dX12_thrown_62 rfl (lv_at hl 3 rfl) ?_
          refine lv_if_ne (tgt := 70) hx hb dX12_thrown_63 (by decide) (fun c115 => ?_) (fun c115 => ?_)
          · have n116 : ¬ ((x9 + 2) = 0) := fun h9 => c115 ((nI_eq (a := (x9 + 2)) (b := 0) (by omega) (by omega)).mpr h9)
            refine lv_iload_n hx hb dX12_thrown_70 rfl (lv_at hl 3 rfl) ?_
            refine lv_iconst (v := 1) hx hb dX12_thrown_71 (by decide) ?_
            refine lv_icmp_ne (tgt := 79) hx hb dX12_thrown_72 (by decide) (fun c117 => ?_) (fun c117 => ?_)
            · have n118 : ¬ ((x9 + 2) = 1) := fun h9 => c117 ((nI_eq (a := (x9 + 2)) (b := 1) (by omega) (by omega)).mpr h9)
              refine lv_iconst (v := (-1)) hx hb dX12_thrown_79 (by decide) ?_
              have hP : va_P G.1 pCl (mW G h0 a (upd (upd (upd (upd F 0 0) 44 (nI fd)) 116 en) 119 uc) B) _ := hP
              have hD : va_D A (mW G h0 a (upd (upd (upd (upd F 0 0) 44 (nI fd)) 116 en) 119 uc) B) := mW_D hD
              exact W.iret (v := (-1)) hx hb hr (fun t9 ht9 hW9 => ⟨⟨_, ((-1) : Int32), rfl, rfl, by rw [ht9]; exact hP, hD⟩, hS.F ht9⟩) hS.2.2 dX12_thrown_80
            · have n119 : (x9 + 2) = 1 := (nI_eq (a := (x9 + 2)) (b := 1) (by omega) (by omega)).mp c117
              refine lv_iload_n hx hb dX12_thrown_75 rfl (lv_at hl 0 rfl) ?_
              refine lv_goto (tgt := 80) hx hb dX12_thrown_76 (by decide) ?_
              have hP : va_P G.1 pCl (mW G h0 a (upd (upd (upd (upd F 0 0) 44 (nI fd)) 116 en) 119 uc) B) _ := hP
              have hD : va_D A (mW G h0 a (upd (upd (upd (upd F 0 0) 44 (nI fd)) 116 en) 119 uc) B) := mW_D hD
              exact W.iret (v := (nI q9)) hx hb hr (fun t9 ht9 hW9 => ⟨⟨_, (nI q9), rfl, rfl, by rw [ht9]; exact hP, hD⟩, hS.F ht9⟩) hS.2.2 dX12_thrown_80
          · have n120 : (x9 + 2) = 0 := (nI_eq (a := (x9 + 2)) (b := 0) (by omega) (by omega)).mp c115
            refine lv_iload_n hx hb dX12_thrown_66 rfl (lv_at hl 1 rfl) ?_
            refine lv_goto (tgt := 80) hx hb dX12_thrown_67 (by decide) ?_
            have hP : va_P G.1 pCl (mW G h0 a (upd (upd (upd (upd F 0 0) 44 (nI fd)) 116 en) 119 uc) B) _ := hP
            have hD : va_D A (mW G h0 a (upd (upd (upd (upd F 0 0) 44 (nI fd)) 116 en) 119 uc) B) := mW_D hD
            exact W.iret (v := (nI k9)) hx hb hr (fun t9 ht9 hW9 => ⟨⟨_, (nI k9), rfl, rfl, by rw [ht9]; exact hP, hD⟩, hS.F ht9⟩) hS.2.2 dX12_thrown_80
  · refine lv_iconst (v := (-1)) hx hb dX12_thrown_13 (by decide) ?_
    have hP : va_P G.1 pCl (mW G h0 a (upd (upd (upd (upd F 0 0) 44 (nI fd)) 116 en) 119 uc) B) _ := mW_to (F := F) (l1 := [(44, (nI fd)), (116, en), (119, uc), (0, 0)]) (l2 := [(0, 0), (44, (nI fd)), (116, en), (119, uc)]) (V := [(nI fd), en, uc, 0, 0, (nI fd), en, uc]) rfl rfl rfl hP
    have hD : va_D A (mW G h0 a (upd (upd (upd (upd F 0 0) 44 (nI fd)) 116 en) 119 uc) B) := mW_D hD
    exact W.iret (v := (-1)) hx hb hr (fun t9 ht9 hW9 => ⟨⟨_, ((-1) : Int32), rfl, rfl, by rw [ht9]; exact hP, hD⟩, hS.F ht9⟩) hS.2.2 dX12_thrown_14
