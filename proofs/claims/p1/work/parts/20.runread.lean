theorem rkE_0 {x y : Int32} : rk x y = if x < 0 ∨ 20000 < x ∨ y < 10 ∨ 3000 < y then 1 else 2 := by
  unfold rk isin
  by_cases h1 : x < 0 ∨ 20000 < x
  · rw [if_pos h1, if_pos rfl, if_pos (h1.elim Or.inl (fun h => Or.inr (Or.inl h)))]
  · rw [if_neg h1, if_neg (by decide)]
    by_cases h2 : y < 10 ∨ 3000 < y
    · rw [if_pos h2, if_pos rfl, if_pos (Or.inr (Or.inr h2))]
    · rw [if_neg h2, if_neg (by decide), if_neg]
      intro h
      rcases h with h | h | h
      · exact h1 (Or.inl h)
      · exact h1 (Or.inr h)
      · exact h2 h
/-- the class of what run throws without a program -/
def rkE (x y : Int32) : String := if rk x y = 1 then eIA else eIS
theorem rkE_p {x y : Int32} (h : rk x y = 1) : rkE x y = eIA := if_pos h
theorem rkE_n {x y : Int32} (h : ¬ rk x y = 1) : rkE x y = eIS := if_neg h
theorem rk_2 {x y : Int32} (h : ¬ rk x y = 1) : rk x y = 2 := by
  rw [rkE_0] at h ⊢
  by_cases q : x < 0 ∨ 20000 < x ∨ y < 10 ∨ 3000 < y
  · rw [if_pos q] at h; exact absurd rfl h
  · rw [if_neg q]
theorem rkE_1 {x y : Int32} (h : x < 0 ∨ 20000 < x ∨ y < 10 ∨ 3000 < y) : eIA = rkE x y := by
  rw [rkE_p]
  rw [rkE_0, if_pos h]
theorem rkE_2 {x y : Int32} (h1 : ¬ x < 0) (h2 : ¬ 20000 < x) (h3 : ¬ y < 10) (h4 : y ≤ 3000) : eIS = rkE x y := by
  rw [rkE_n]
  rw [rkE_0, if_neg]
  · decide
  · intro h
    rcases h with h | h | h | h
    · exact h1 h
    · exact h2 h
    · exact h3 h
    · exact absurd h4 (Int32.not_le.mpr h)
theorem dX11_run_0 : decode cX11_run 0 = .ok (.iload_n 1, 1) := by decide +kernel
theorem dX11_run_1 : decode cX11_run 1 = .ok (.ifCond .lt 23, 3) := by decide +kernel
theorem dX11_run_24 : decode cX11_run 24 = .ok (.new 166, 3) := by decide +kernel
theorem dX11_run_27 : decode cX11_run 27 = .ok (.dup, 1) := by decide +kernel
theorem dX11_run_28 : decode cX11_run 28 = .ok (.ldc 168, 2) := by decide +kernel
theorem dX11_run_30 : decode cX11_run 30 = .ok (.invokespecial 170, 3) := by decide +kernel
theorem dX11_run_33 : decode cX11_run 33 = .ok (.athrow, 1) := by decide +kernel
theorem dX11_run_4 : decode cX11_run 4 = .ok (.iload_n 1, 1) := by decide +kernel
theorem dX11_run_5 : decode cX11_run 5 = .ok (.sipush 20000, 3) := by decide +kernel
theorem dX11_run_8 : decode cX11_run 8 = .ok (.if_icmp .gt 16, 3) := by decide +kernel
theorem dX11_run_11 : decode cX11_run 11 = .ok (.iload_n 2, 1) := by decide +kernel
theorem dX11_run_12 : decode cX11_run 12 = .ok (.bipush 10, 2) := by decide +kernel
theorem dX11_run_14 : decode cX11_run 14 = .ok (.if_icmp .lt 10, 3) := by decide +kernel
theorem dX11_run_17 : decode cX11_run 17 = .ok (.iload_n 2, 1) := by decide +kernel
theorem dX11_run_18 : decode cX11_run 18 = .ok (.sipush 3000, 3) := by decide +kernel
theorem dX11_run_21 : decode cX11_run 21 = .ok (.if_icmp .le 13, 3) := by decide +kernel
theorem dX11_run_34 : decode cX11_run 34 = .ok (.aload_n 0, 1) := by decide +kernel
theorem dX11_run_35 : decode cX11_run 35 = .ok (.getfield 69, 3) := by decide +kernel
theorem dX11_run_38 : decode cX11_run 38 = .ok (.ifnonnull 13, 3) := by decide +kernel
theorem dX11_run_41 : decode cX11_run 41 = .ok (.new 86, 3) := by decide +kernel
theorem dX11_run_44 : decode cX11_run 44 = .ok (.dup, 1) := by decide +kernel
theorem dX11_run_45 : decode cX11_run 45 = .ok (.ldc 173, 2) := by decide +kernel
theorem dX11_run_47 : decode cX11_run 47 = .ok (.invokespecial 175, 3) := by decide +kernel
theorem dX11_run_50 : decode cX11_run 50 = .ok (.athrow, 1) := by decide +kernel
set_option maxHeartbeats 1000000 in
set_option maxRecDepth 100000 in
/-- run without a program: it throws -/
theorem c_runX (l : Launch) (G : pT) (h0 : Nat) (k1 : Nat) (k2 : Nat) (k3 : Nat) (k4 : Nat) (k5 : Nat) (k6 : Nat) (x : Int32) (y : Int32) (hl0 : l.stackTraces = false) : PX l G pX0 yX11_run cX11_run 3 (some .int) ({ frames := 6, cells := 1, slots := 6, locals := 90 }) [.ref h0, .int x, .int y] [(h0, .inr (8, [.ref k1, .int 0, .ref k2, .ref k3, .ref k4, .ref k5, .ref k6, .null]))] (rkE x y) (fun (u : Unit) => []) := by
  intro sz
  refine vx_ofW (cc := cX11_run) (maxL := 3) (ret := (some .int)) (by decide) rfl ?_
  intro p e s m args below meth c s₁ B hml hnt hv
  obtain ⟨rfl, hsz, hP, hD0, hE, hX⟩ := hv
  have hx := B.exec
  have hb := B.bytes
  have hr := B.returns
  have hts := atoms_spec (ws := Cond.code yX11_run cX11_run 3 (some .int) :: pw) B.pre
  have hq : ∀ w ∈ pw, w.before _ s = true := fun w h => hts w (List.mem_cons_of_mem _ h)
  have hown : s.vm.findClass RX11 = some m.cls := findClass_of_methodNamed B.named
  have hlocks := B.notSynchronized
  subst hsz
  have hD := hD0.self (sz := s.heap.size)
  have hA : ∀ q : Nat, s.heap.size ≤ q → va_A [(h0, .inr (8, [.ref k1, .int 0, .ref k2, .ref k3, .ref k4, .ref k5, .ref k6, .null]))] s.heap.size q := fun q h => Or.inr h
  have hP : va_P G.1 pCl [(h0, .inr (8, [.ref k1, .int 0, .ref k2, .ref k3, .ref k4, .ref k5, .ref k6, .null]))] s.heap := hP
  generalize va_A [(h0, .inr (8, [.ref k1, .int 0, .ref k2, .ref k3, .ref k4, .ref k5, .ref k6, .null]))] s.heap.size = A at hD hE hA ⊢
  have hS : va_S A s.heap s.heap [] := va_S.rf
  have hl := lv_entry ([.ref h0, .int x, .int y]) (n := 3) (Nat.le_of_ble_eq_true rfl)
  rw [lg_entry_eq]
  generalize (lg_sl ([.ref h0, .int x, .int y]) ++ List.replicate (3 - (lg_sl ([.ref h0, .int x, .int y])).length) Slot.unset).toArray = ls at hl ⊢
  have hl : lv_has ls 3 [(0, .ref h0), (1, .int x), (2, .int y)] := hl
  refine lv_iload_n hx hb dX11_run_0 rfl (lv_at hl 1 rfl) ?_
  refine lv_if_lt (tgt := 24) hx hb dX11_run_1 (by decide) (fun c1 => ?_) (fun c1 => ?_)
  · refine px_throw (cls := eIA) () hx hb hl0 hown hq hE (rkE_1 (Or.inl c1)) xf_IA pw_41 pw_669 (hE.2.2.1 13 (by decide)) xw_1 xb_1 hE.pc.2.1 xg_1 hnt hlocks hml hl.1 hP hD hS [] (by decide) rfl rfl dX11_run_24 dX11_run_27 dX11_run_28 dX11_run_30 dX11_run_33 (Nat.le_of_ble_eq_true rfl) (Nat.le_of_ble_eq_true rfl) (Nat.le_of_ble_eq_true rfl) (Nat.le_of_ble_eq_true rfl) (Nat.le_of_ble_eq_true rfl) (Nat.le_of_ble_eq_true rfl)
  · refine lv_iload_n hx hb dX11_run_4 rfl (lv_at hl 1 rfl) ?_
    refine lv_sipush (v := 20000) hx hb dX11_run_5 (by decide) ?_
    refine lv_icmp_gt (tgt := 24) hx hb dX11_run_8 (by decide) (fun c2 => ?_) (fun c2 => ?_)
    · refine px_throw (cls := eIA) () hx hb hl0 hown hq hE (rkE_1 (Or.inr (Or.inl c2))) xf_IA pw_41 pw_669 (hE.2.2.1 13 (by decide)) xw_1 xb_1 hE.pc.2.1 xg_1 hnt hlocks hml hl.1 hP hD hS [] (by decide) rfl rfl dX11_run_24 dX11_run_27 dX11_run_28 dX11_run_30 dX11_run_33 (Nat.le_of_ble_eq_true rfl) (Nat.le_of_ble_eq_true rfl) (Nat.le_of_ble_eq_true rfl) (Nat.le_of_ble_eq_true rfl) (Nat.le_of_ble_eq_true rfl) (Nat.le_of_ble_eq_true rfl)
    · refine lv_iload_n hx hb dX11_run_11 rfl (lv_at hl 2 rfl) ?_
      refine lv_bipush (v := 10) hx hb dX11_run_12 (by decide) ?_
      refine lv_icmp_lt (tgt := 24) hx hb dX11_run_14 (by decide) (fun c3 => ?_) (fun c3 => ?_)
      · refine px_throw (cls := eIA) () hx hb hl0 hown hq hE (rkE_1 (Or.inr (Or.inr (Or.inl c3)))) xf_IA pw_41 pw_669 (hE.2.2.1 13 (by decide)) xw_1 xb_1 hE.pc.2.1 xg_1 hnt hlocks hml hl.1 hP hD hS [] (by decide) rfl rfl dX11_run_24 dX11_run_27 dX11_run_28 dX11_run_30 dX11_run_33 (Nat.le_of_ble_eq_true rfl) (Nat.le_of_ble_eq_true rfl) (Nat.le_of_ble_eq_true rfl) (Nat.le_of_ble_eq_true rfl) (Nat.le_of_ble_eq_true rfl) (Nat.le_of_ble_eq_true rfl)
      · refine lv_iload_n hx hb dX11_run_17 rfl (lv_at hl 2 rfl) ?_
        refine lv_sipush (v := 3000) hx hb dX11_run_18 (by decide) ?_
        refine lv_icmp_le (tgt := 34) hx hb dX11_run_21 (by decide) (fun c4 => ?_) (fun c4 => ?_)
        · refine lv_aload_n hx hb dX11_run_34 rfl (lv_at hl 0 rfl) ?_
          refine va_get (D := G.1) (ci := 8) (v := .null) (C := RX11) (T := TX11) (N := 8) hx hb hq pin_wsX110 hown hE.1.1 hP 0 rfl rfl 7 (by decide) (hq _ pw_21) (fun _ h9 => h9) rfl dX11_run_35 ?_
          refine lv_ifnonnullN hx hb dX11_run_38 ?_
          refine px_throw (cls := eIS) () hx hb hl0 hown hq hE (rkE_2 c1 c2 c3 c4) xf_IS pw_42 pw_638 (hE.2.2.1 14 (by decide)) xw_2 xb_2 hE.pc.1 xg_2 hnt hlocks hml hl.1 hP hD hS [] (by decide) rfl rfl dX11_run_41 dX11_run_44 dX11_run_45 dX11_run_47 dX11_run_50 (Nat.le_of_ble_eq_true rfl) (Nat.le_of_ble_eq_true rfl) (Nat.le_of_ble_eq_true rfl) (Nat.le_of_ble_eq_true rfl) (Nat.le_of_ble_eq_true rfl) (Nat.le_of_ble_eq_true rfl)
        · refine px_throw (cls := eIA) () hx hb hl0 hown hq hE (rkE_1 (Or.inr (Or.inr (Or.inr (Int32.not_le.mp c4))))) xf_IA pw_41 pw_669 (hE.2.2.1 13 (by decide)) xw_1 xb_1 hE.pc.2.1 xg_1 hnt hlocks hml hl.1 hP hD hS [] (by decide) rfl rfl dX11_run_24 dX11_run_27 dX11_run_28 dX11_run_30 dX11_run_33 (Nat.le_of_ble_eq_true rfl) (Nat.le_of_ble_eq_true rfl) (Nat.le_of_ble_eq_true rfl) (Nat.le_of_ble_eq_true rfl) (Nat.le_of_ble_eq_true rfl) (Nat.le_of_ble_eq_true rfl)
theorem dL_run_0 : decode cL_run 0 = .ok (.aload_n 3, 1) := by decide +kernel
theorem dL_run_1 : decode cL_run 1 = .ok (.iconst 0, 1) := by decide +kernel
theorem dL_run_2 : decode cL_run 2 = .ok (.aload_n 0, 1) := by decide +kernel
theorem dL_run_3 : decode cL_run 3 = .ok (.iload_n 1, 1) := by decide +kernel
theorem dL_run_4 : decode cL_run 4 = .ok (.iload_n 2, 1) := by decide +kernel
theorem dL_run_5 : decode cL_run 5 = .ok (.invokevirtual 7, 3) := by decide +kernel
theorem dL_run_13 : decode cL_run 13 = .ok (.astore 4, 2) := by decide +kernel
theorem dL_run_15 : decode cL_run 15 = .ok (.iconst 1, 1) := by decide +kernel
theorem dL_run_16 : decode cL_run 16 = .ok (.ireturn, 1) := by decide +kernel
theorem dL_run_17 : decode cL_run 17 = .ok (.astore 4, 2) := by decide +kernel
theorem dL_run_19 : decode cL_run 19 = .ok (.iconst 2, 1) := by decide +kernel
theorem dL_run_20 : decode cL_run 20 = .ok (.ireturn, 1) := by decide +kernel
theorem hV_X11_run : yX11_run.cls = RX11 ∧ yX11_run.cls ≠ "java/lang/invoke/MethodHandle" ∧ yX11_run.cls ≠ "java/lang/invoke/VarHandle" ∧ (parseMethodDescriptor yX11_run.desc).map (fun d => d.parameters.length) = some 2 := by decide +kernel
set_option maxHeartbeats 1000000 in
set_option maxRecDepth 100000 in
/-- run of the law over a class without a program: which exception it caught -/
theorem c_Lrun (l : Launch) (G : pT) (h0 : Nat) (k1 : Nat) (k2 : Nat) (k3 : Nat) (k4 : Nat) (k5 : Nat) (k6 : Nat) (x : Int32) (y : Int32) (o : Nat) (hl0 : l.stackTraces = false) : PMW l G pX0 yL_run cL_run 5 (some .int) [(0, 10, 13, 13), (0, 10, 17, 15)] ({ frames := 7, cells := 1, slots := 6, locals := 112 }) [.ref h0, .int x, .int y, .ref o] [(h0, .inr (8, [.ref k1, .int 0, .ref k2, .ref k3, .ref k4, .ref k5, .ref k6, .null]))] (fun (v : Option Value) (u : Unit) => v = some (.int (rk x y))) (fun u => []) := by
  intro sz
  refine va_MetW (cc := cL_run) (maxL := 5) (ret := (some .int)) (hh := [(0, 10, 13, 13), (0, 10, 17, 15)]) (by decide) rfl ?_
  intro p e s m args below meth c s₁ B hml hv
  obtain ⟨rfl, hsz, hP, hD0, hE, hX⟩ := hv
  have hx := B.exec
  have hb := B.bytes
  have hr := B.returns
  have hts := atoms_spec (ws := Cond.codeWith yL_run cL_run 5 (some .int) [(0, 10, 13, 13), (0, 10, 17, 15)] :: pw) B.pre
  have htab := vx_table (x := yL_run) B (hts _ List.mem_cons_self)
  have hq : ∀ w ∈ pw, w.before _ s = true := fun w h => hts w (List.mem_cons_of_mem _ h)
  have hown : s.vm.findClass RL = some m.cls := findClass_of_methodNamed B.named
  have hlocks := B.notSynchronized
  subst hsz
  have hD := hD0.self (sz := s.heap.size)
  have hA : ∀ q : Nat, s.heap.size ≤ q → va_A [(h0, .inr (8, [.ref k1, .int 0, .ref k2, .ref k3, .ref k4, .ref k5, .ref k6, .null]))] s.heap.size q := fun q h => Or.inr h
  have hP : va_P G.1 pCl [(h0, .inr (8, [.ref k1, .int 0, .ref k2, .ref k3, .ref k4, .ref k5, .ref k6, .null]))] s.heap := hP
  generalize va_A [(h0, .inr (8, [.ref k1, .int 0, .ref k2, .ref k3, .ref k4, .ref k5, .ref k6, .null]))] s.heap.size = A at hD hE hA ⊢
  have hS : va_S A s.heap s.heap [] := va_S.rf
  have hl := lv_entry ([.ref h0, .int x, .int y, .ref o]) (n := 5) (Nat.le_of_ble_eq_true rfl)
  rw [lg_entry_eq]
  generalize (lg_sl ([.ref h0, .int x, .int y, .ref o]) ++ List.replicate (5 - (lg_sl ([.ref h0, .int x, .int y, .ref o])).length) Slot.unset).toArray = ls at hl ⊢
  have hl : lv_has ls 5 [(0, .ref h0), (1, .int x), (2, .int y), (3, .ref o)] := hl
  refine lv_aload_n hx hb dL_run_0 rfl (lv_at hl 3 rfl) ?_
  refine lv_iconst (v := 0) hx hb dL_run_1 (by decide) ?_
  refine lv_aload_n hx hb dL_run_2 rfl (lv_at hl 0 rfl) ?_
  refine lv_iload_n hx hb dL_run_3 rfl (lv_at hl 1 rfl) ?_
  refine lv_iload_n hx hb dL_run_4 rfl (lv_at hl 2 rfl) ?_
  refine px_V (G := G) (As := [.int x, .int y]) (rest := [.int 0, .ref o]) (wr := []) hx hb hml hown hq hE hX pX0_al hP hD hS hA hl.1 (c_runX l G h0 k1 k2 k3 k4 k5 k6 x y hl0) (gV pw_332 pw_405 pw_406 pw_370 pw_404) hV_X11_run 0 8 rfl rfl rfl [0] [] rfl rfl (by decide) (by decide) (by decide) rfl (Nat.le_of_ble_eq_true rfl) dL_run_5 ⟨Nat.le_of_ble_eq_true rfl, Nat.le_of_ble_eq_true rfl⟩ ⟨Nat.le_of_ble_eq_true rfl, Nat.le_of_ble_eq_true rfl⟩ (fun u1 ce4 q5 H locs hP hD hS hc6 hv7 hf8 => ?_)
  have hP : va_P G.1 pCl [] H := hP
  have hD : va_D A [] := hD
  by_cases hk : rk x y = 1
  · rw [rkE_p hk] at hf8
    refine vx_catch (own := RL) (name := eIA) (E := eIA) hown [] ⟨0, 10, 13, 13⟩ [⟨0, 10, 17, 15⟩] (htab.trans rfl) (fun z hz => nomatch hz) (by decide) (by decide) (hq _ pw_676) hE.pc.2.1.use hc6 hv7 hf8 ?_
    refine W.eq (g2 := F0 m 13 ls [.ref q5]) rfl ?_
    refine lv_astore (lv' := [(4, .ref q5), (0, .ref h0), (1, .int x), (2, .int y), (3, .ref o)]) hx hb dL_run_13 hl (by decide) rfl (fun ls hl => ?_)
    refine lv_iconst (v := 1) hx hb dL_run_15 (by decide) ?_
    refine W.widen (k := 1) (n := 6) (Nat.le_of_ble_eq_true rfl) (Nat.le_of_ble_eq_true rfl) ?_
    exact W.iret (v := 1) hx hb hr (fun t ht hW => ⟨⟨_, (), rfl, (by rw [hk]), by rw [ht]; exact hP.sub [] rfl, hD.sub [] (by decide) rfl⟩, hS.F ht⟩) hS.2.2 dL_run_16
  · rw [rkE_n hk] at hf8
    refine vx_catch (own := RL) (name := eIS) (E := eIS) hown [⟨0, 10, 13, 13⟩] ⟨0, 10, 17, 15⟩ [] (htab.trans rfl) (fun z hz => Or.inr (by rw [List.mem_singleton.mp hz]; exact ⟨by decide, eIA, hq _ pw_676, hE.pc.2.2.1⟩)) (by decide) (by decide) (hq _ pw_677) hE.pc.1.use hc6 hv7 hf8 ?_
    refine W.eq (g2 := F0 m 17 ls [.ref q5]) rfl ?_
    refine lv_astore (lv' := [(4, .ref q5), (0, .ref h0), (1, .int x), (2, .int y), (3, .ref o)]) hx hb dL_run_17 hl (by decide) rfl (fun ls hl => ?_)
    refine lv_iconst (v := 2) hx hb dL_run_19 (by decide) ?_
    refine W.widen (k := 1) (n := 6) (Nat.le_of_ble_eq_true rfl) (Nat.le_of_ble_eq_true rfl) ?_
    exact W.iret (v := 2) hx hb hr (fun t ht hW => ⟨⟨_, (), rfl, (by rw [rk_2 hk]), by rw [ht]; exact hP.sub [] rfl, hD.sub [] (by decide) rfl⟩, hS.F ht⟩) hS.2.2 dL_run_20
theorem dX11_read_0 : decode cX11_read 0 = .ok (.aload_n 0, 1) := by decide +kernel
theorem dX11_read_1 : decode cX11_read 1 = .ok (.getfield 16, 3) := by decide +kernel
theorem dX11_read_4 : decode cX11_read 4 = .ok (.aload_n 0, 1) := by decide +kernel
theorem dX11_read_5 : decode cX11_read 5 = .ok (.getfield 9, 3) := by decide +kernel
theorem dX11_read_8 : decode cX11_read 8 = .ok (.aload_n 0, 1) := by decide +kernel
theorem dX11_read_9 : decode cX11_read 9 = .ok (.getfield 54, 3) := by decide +kernel
theorem dX11_read_12 : decode cX11_read 12 = .ok (.invokevirtual 62, 3) := by decide +kernel
theorem dX11_read_15 : decode cX11_read 15 = .ok (.aload_n 0, 1) := by decide +kernel
theorem dX11_read_16 : decode cX11_read 16 = .ok (.iconst 0, 1) := by decide +kernel
theorem dX11_read_17 : decode cX11_read 17 = .ok (.putfield 54, 3) := by decide +kernel
theorem dX11_read_20 : decode cX11_read 20 = .ok (.aload_n 0, 1) := by decide +kernel
theorem dX11_read_21 : decode cX11_read 21 = .ok (.getfield 50, 3) := by decide +kernel
theorem dX11_read_24 : decode cX11_read 24 = .ok (.invokevirtual 66, 3) := by decide +kernel
theorem dX11_read_27 : decode cX11_read 27 = .ok (.aload_n 0, 1) := by decide +kernel
theorem dX11_read_28 : decode cX11_read 28 = .ok (.aconst_null, 1) := by decide +kernel
theorem dX11_read_29 : decode cX11_read 29 = .ok (.putfield 69, 3) := by decide +kernel
theorem dX11_read_32 : decode cX11_read 32 = .ok (.new 73, 3) := by decide +kernel
theorem dX11_read_35 : decode cX11_read 35 = .ok (.dup, 1) := by decide +kernel
theorem dX11_read_36 : decode cX11_read 36 = .ok (.aload_n 0, 1) := by decide +kernel
theorem dX11_read_37 : decode cX11_read 37 = .ok (.getfield 16, 3) := by decide +kernel
theorem dX11_read_40 : decode cX11_read 40 = .ok (.invokespecial 75, 3) := by decide +kernel
theorem dX11_read_43 : decode cX11_read 43 = .ok (.astore_n 1, 1) := by decide +kernel
theorem dX11_read_44 : decode cX11_read 44 = .ok (.aload_n 0, 1) := by decide +kernel
theorem dX11_read_45 : decode cX11_read 45 = .ok (.getfield 32, 3) := by decide +kernel
theorem dX11_read_48 : decode cX11_read 48 = .ok (.aload_n 1, 1) := by decide +kernel
theorem dX11_read_49 : decode cX11_read 49 = .ok (.invokevirtual 76, 3) := by decide +kernel
theorem dX11_read_52 : decode cX11_read 52 = .ok (.aload_n 1, 1) := by decide +kernel
theorem dX11_read_53 : decode cX11_read 53 = .ok (.invokevirtual 80, 3) := by decide +kernel
theorem dX11_read_67 : decode cX11_read 67 = .ok (.astore_n 2, 1) := by decide +kernel
theorem dX11_read_68 : decode cX11_read 68 = .ok (.aload_n 0, 1) := by decide +kernel
theorem dX11_read_69 : decode cX11_read 69 = .ok (.getfield 16, 3) := by decide +kernel
theorem dX11_read_72 : decode cX11_read 72 = .ok (.getfield 88, 3) := by decide +kernel
theorem dX11_read_75 : decode cX11_read 75 = .ok (.ireturn, 1) := by decide +kernel
theorem hV_X10_split : yX10_split.cls = RX10 ∧ yX10_split.cls ≠ "java/lang/invoke/MethodHandle" ∧ yX10_split.cls ≠ "java/lang/invoke/VarHandle" ∧ (parseMethodDescriptor yX10_split.desc).map (fun d => d.parameters.length) = some 2 := by decide +kernel
theorem hV_X5_clear : yX5_clear.cls = RX5 ∧ yX5_clear.cls ≠ "java/lang/invoke/MethodHandle" ∧ yX5_clear.cls ≠ "java/lang/invoke/VarHandle" ∧ (parseMethodDescriptor yX5_clear.desc).map (fun d => d.parameters.length) = some 0 := by decide +kernel
theorem hS_X9_init : yX9_init.cls ≠ "java/lang/invoke/MethodHandle" ∧ yX9_init.cls ≠ "java/lang/invoke/VarHandle" ∧ (parseMethodDescriptor yX9_init.desc).map (fun d => d.parameters.length) = some 1 := by decide +kernel
theorem hV_X8_parse : yX8_parse.cls = RX8 ∧ yX8_parse.cls ≠ "java/lang/invoke/MethodHandle" ∧ yX8_parse.cls ≠ "java/lang/invoke/VarHandle" ∧ (parseMethodDescriptor yX8_parse.desc).map (fun d => d.parameters.length) = some 1 := by decide +kernel
theorem hV_X9_judgeNames : yX9_judgeNames.cls = RX9 ∧ yX9_judgeNames.cls ≠ "java/lang/invoke/MethodHandle" ∧ yX9_judgeNames.cls ≠ "java/lang/invoke/VarHandle" ∧ (parseMethodDescriptor yX9_judgeNames.desc).map (fun d => d.parameters.length) = some 0 := by decide +kernel
set_option maxHeartbeats 1000000 in
set_option maxRecDepth 100000 in
/-- read of an empty tape: fault 9 at 0 -/
theorem c_read (l : Launch) (G : pT) (h0 : Nat) (k1 : Nat) (k2 : Nat) (k3 : Nat) (k4 : Nat) (k5 : Nat) (k6 : Nat) (t1 : Nat) (t2 : Nat) (t3 : Nat) (t4 : Nat) (t5 : Nat) (t6 : Nat) (t7 : Nat) (t8 : Nat) (t9 : Nat) (t10 : Nat) (m1 : Nat) (m2 : Nat) (m3 : Nat) (m4 : Nat) (m5 : Nat) (m6 : Nat) (m7 : Nat) (ft : Nat → Int32) (fb : Nat → Int32) (f7 : Nat → Int32) (f8 : Nat → Int32) (f9 : Nat → Int32) (f10 : Nat → Int32) (fm : Nat → Int32) (hl0 : l.stackTraces = false) : PMW l G pX0 yX11_read cX11_read 3 (some .int) [(44, 64, 67, 86)] ({ frames := 8, cells := 39, slots := 226, locals := 166 }) [.ref h0] [(h0, .inr (8, [.ref k1, .int 0, .ref k2, .ref k3, .ref k4, .ref k5, .ref k6, .null])), (k1, .inl (G.2.1 1, 5000, .inl ft)), (k2, .inr (7, [.ref t1, .int 220, .int 0, .ref t2, .ref t3, .ref t4, .ref t5, .ref t6, .int 0, .ref t7, .ref t8, .ref t9, .ref t10, .int 0, .int 0])), (t1, .inl (G.2.1 1, 5220, .inl fb)), (t7, .inl (G.2.1 0, 2540, .inl f7)), (t8, .inl (G.2.1 0, 2540, .inl f8)), (t9, .inl (G.2.1 0, 2540, .inl f9)), (t10, .inl (G.2.1 0, 256, .inl f10)), (k4, .inr (5, [.ref k2, .null, .int 0, .int 0, .int 0])), (k6, .inr (4, [.ref m1, .ref m2, .ref m3, .ref m4, .ref m5, .int 0, .ref m6, .ref m7, .null, .null, .int 0, .int 0, .int 0, .int 0, .long 0, .int 0, .int 0, .int 0, .int 0])), (m7, .inl (G.2.1 0, 12, .inl fm))] (fun (v : Option Value) (u : Unit) => v = some (.int 9)) (fun u => []) := by
  intro sz
  refine va_MetW (cc := cX11_read) (maxL := 3) (ret := (some .int)) (hh := [(44, 64, 67, 86)]) (by decide) rfl ?_
  intro p e s m args below meth c s₁ B hml hv
  obtain ⟨rfl, hsz, hP, hD0, hE, hX⟩ := hv
  have hx := B.exec
  have hb := B.bytes
  have hr := B.returns
  have hts := atoms_spec (ws := Cond.codeWith yX11_read cX11_read 3 (some .int) [(44, 64, 67, 86)] :: pw) B.pre
  have htab := vx_table (x := yX11_read) B (hts _ List.mem_cons_self)
  have hq : ∀ w ∈ pw, w.before _ s = true := fun w h => hts w (List.mem_cons_of_mem _ h)
  have hown : s.vm.findClass RX11 = some m.cls := findClass_of_methodNamed B.named
  have hlocks := B.notSynchronized
  subst hsz
  have hD := hD0.self (sz := s.heap.size)
  have hA : ∀ q : Nat, s.heap.size ≤ q → va_A [(h0, .inr (8, [.ref k1, .int 0, .ref k2, .ref k3, .ref k4, .ref k5, .ref k6, .null])), (k1, .inl (G.2.1 1, 5000, .inl ft)), (k2, .inr (7, [.ref t1, .int 220, .int 0, .ref t2, .ref t3, .ref t4, .ref t5, .ref t6, .int 0, .ref t7, .ref t8, .ref t9, .ref t10, .int 0, .int 0])), (t1, .inl (G.2.1 1, 5220, .inl fb)), (t7, .inl (G.2.1 0, 2540, .inl f7)), (t8, .inl (G.2.1 0, 2540, .inl f8)), (t9, .inl (G.2.1 0, 2540, .inl f9)), (t10, .inl (G.2.1 0, 256, .inl f10)), (k4, .inr (5, [.ref k2, .null, .int 0, .int 0, .int 0])), (k6, .inr (4, [.ref m1, .ref m2, .ref m3, .ref m4, .ref m5, .int 0, .ref m6, .ref m7, .null, .null, .int 0, .int 0, .int 0, .int 0, .long 0, .int 0, .int 0, .int 0, .int 0])), (m7, .inl (G.2.1 0, 12, .inl fm))] s.heap.size q := fun q h => Or.inr h
  have hP : va_P G.1 pCl [(h0, .inr (8, [.ref k1, .int 0, .ref k2, .ref k3, .ref k4, .ref k5, .ref k6, .null])), (k1, .inl (G.2.1 1, 5000, .inl ft)), (k2, .inr (7, [.ref t1, .int 220, .int 0, .ref t2, .ref t3, .ref t4, .ref t5, .ref t6, .int 0, .ref t7, .ref t8, .ref t9, .ref t10, .int 0, .int 0])), (t1, .inl (G.2.1 1, 5220, .inl fb)), (t7, .inl (G.2.1 0, 2540, .inl f7)), (t8, .inl (G.2.1 0, 2540, .inl f8)), (t9, .inl (G.2.1 0, 2540, .inl f9)), (t10, .inl (G.2.1 0, 256, .inl f10)), (k4, .inr (5, [.ref k2, .null, .int 0, .int 0, .int 0])), (k6, .inr (4, [.ref m1, .ref m2, .ref m3, .ref m4, .ref m5, .int 0, .ref m6, .ref m7, .null, .null, .int 0, .int 0, .int 0, .int 0, .long 0, .int 0, .int 0, .int 0, .int 0])), (m7, .inl (G.2.1 0, 12, .inl fm))] s.heap := hP
  generalize va_A [(h0, .inr (8, [.ref k1, .int 0, .ref k2, .ref k3, .ref k4, .ref k5, .ref k6, .null])), (k1, .inl (G.2.1 1, 5000, .inl ft)), (k2, .inr (7, [.ref t1, .int 220, .int 0, .ref t2, .ref t3, .ref t4, .ref t5, .ref t6, .int 0, .ref t7, .ref t8, .ref t9, .ref t10, .int 0, .int 0])), (t1, .inl (G.2.1 1, 5220, .inl fb)), (t7, .inl (G.2.1 0, 2540, .inl f7)), (t8, .inl (G.2.1 0, 2540, .inl f8)), (t9, .inl (G.2.1 0, 2540, .inl f9)), (t10, .inl (G.2.1 0, 256, .inl f10)), (k4, .inr (5, [.ref k2, .null, .int 0, .int 0, .int 0])), (k6, .inr (4, [.ref m1, .ref m2, .ref m3, .ref m4, .ref m5, .int 0, .ref m6, .ref m7, .null, .null, .int 0, .int 0, .int 0, .int 0, .long 0, .int 0, .int 0, .int 0, .int 0])), (m7, .inl (G.2.1 0, 12, .inl fm))] s.heap.size = A at hD hE hA ⊢
  have hS : va_S A s.heap s.heap [] := va_S.rf
  have hl := lv_entry ([.ref h0]) (n := 3) (Nat.le_of_ble_eq_true rfl)
  rw [lg_entry_eq]
  generalize (lg_sl ([.ref h0]) ++ List.replicate (3 - (lg_sl ([.ref h0])).length) Slot.unset).toArray = ls at hl ⊢
  have hl : lv_has ls 3 [(0, .ref h0)] := hl
  refine lv_aload_n hx hb dX11_read_0 rfl (lv_at hl 0 rfl) ?_
  refine va_get (D := G.1) (ci := 8) (v := .ref k2) (C := RX11) (T := TX11) (N := 8) hx hb hq pin_wsX110 hown hE.1.1 hP 0 rfl rfl 2 (by decide) (hq _ pw_4) (fun _ h9 => h9) rfl dX11_read_1 ?_
  refine lv_aload_n hx hb dX11_read_4 rfl (lv_at hl 0 rfl) ?_
  refine va_get (D := G.1) (ci := 8) (v := .ref k1) (C := RX11) (T := TX11) (N := 8) hx hb hq pin_wsX110 hown hE.1.1 hP 0 rfl rfl 0 (by decide) (hq _ pw_1) (fun _ h9 => h9) rfl dX11_read_5 ?_
  refine lv_aload_n hx hb dX11_read_8 rfl (lv_at hl 0 rfl) ?_
  refine va_get (D := G.1) (ci := 8) (v := .int 0) (C := RX11) (T := TX11) (N := 8) hx hb hq pin_wsX110 hown hE.1.1 hP 0 rfl rfl 1 (by decide) (hq _ pw_17) (fun _ h9 => h9) rfl dX11_read_9 ?_
  refine pc_V (G := G) (As := [.ref k1, .int 0]) (rest := []) (wr := [(h0, .inr (8, [.ref k1, .int 0, .ref k2, .ref k3, .ref k4, .ref k5, .ref k6, .null])), (k4, .inr (5, [.ref k2, .null, .int 0, .int 0, .int 0])), (k6, .inr (4, [.ref m1, .ref m2, .ref m3, .ref m4, .ref m5, .int 0, .ref m6, .ref m7, .null, .null, .int 0, .int 0, .int 0, .int 0, .long 0, .int 0, .int 0, .int 0, .int 0])), (m7, .inl (G.2.1 0, 12, .inl fm))]) hx hb hml hown hq hE hX pX0_al hP hD hS hA hl.1 (c_split l G k2 t1 t2 t3 t4 t5 t6 t7 t8 t9 t10 k1 ft fb f7 f8 f9 f10) (gV pw_19 pw_429 pw_430 pw_424 pw_428) hV_X10_split 2 7 rfl rfl rfl [2, 1, 3, 4, 5, 6, 7] [0, 8, 9, 10] rfl rfl (by decide) (by decide) (by decide) rfl (Nat.le_of_ble_eq_true rfl) dX11_read_12 ⟨Nat.le_of_ble_eq_true rfl, Nat.le_of_ble_eq_true rfl⟩ ⟨Nat.le_of_ble_eq_true rfl, Nat.le_of_ble_eq_true rfl⟩ (fun v3 u1 H locs hw2 hP hD hS => ?_)
  obtain rfl : v3 = none := hw2
  have hP : va_P G.1 pCl [(h0, .inr (8, [.ref k1, .int 0, .ref k2, .ref k3, .ref k4, .ref k5, .ref k6, .null])), (k4, .inr (5, [.ref k2, .null, .int 0, .int 0, .int 0])), (k6, .inr (4, [.ref m1, .ref m2, .ref m3, .ref m4, .ref m5, .int 0, .ref m6, .ref m7, .null, .null, .int 0, .int 0, .int 0, .int 0, .long 0, .int 0, .int 0, .int 0, .int 0])), (m7, .inl (G.2.1 0, 12, .inl fm)), (k2, .inr (7, [.ref t1, .int 220, .int 0, .ref t2, .ref t3, .ref t4, .ref t5, .ref t6, .int 0, .ref t7, .ref t8, .ref t9, .ref t10, .int u1, .int 0]))] H := hP
  have hD : va_D A [(h0, .inr (8, [.ref k1, .int 0, .ref k2, .ref k3, .ref k4, .ref k5, .ref k6, .null])), (k4, .inr (5, [.ref k2, .null, .int 0, .int 0, .int 0])), (k6, .inr (4, [.ref m1, .ref m2, .ref m3, .ref m4, .ref m5, .int 0, .ref m6, .ref m7, .null, .null, .int 0, .int 0, .int 0, .int 0, .long 0, .int 0, .int 0, .int 0, .int 0])), (m7, .inl (G.2.1 0, 12, .inl fm)), (k2, .inr (7, [.ref t1, .int 220, .int 0, .ref t2, .ref t3, .ref t4, .ref t5, .ref t6, .int 0, .ref t7, .ref t8, .ref t9, .ref t10, .int u1, .int 0]))] := hD
  refine W.widen (k := 0) (n := 0) (Nat.le_of_ble_eq_true rfl) (Nat.le_of_ble_eq_true rfl) ?_
  refine W.eq (g2 := F0 m 15 ls []) rfl ?_
  refine lv_aload_n hx hb dX11_read_15 rfl (lv_at hl 0 rfl) ?_
  refine lv_iconst (v := 0) hx hb dX11_read_16 (by decide) ?_
  refine va_put (D := G.1) (ci := 8) (v := .int 0) (ty := .int) (C := RX11) (T := TX11) (N := 8) hx hb hq pin_wsX110 tyX11 tyX11_ok nmX11 hown hE.1.1 hP hD hS 0 rfl rfl 1 (by decide) (hq _ pw_17) (fun _ h9 => h9) rfl (by decide +kernel) rfl rfl (Nat.le_of_ble_eq_true rfl) dX11_read_17 (fun H locs hP hD hS => ?_)
  have hP : va_P G.1 pCl [(h0, .inr (8, [.ref k1, .int 0, .ref k2, .ref k3, .ref k4, .ref k5, .ref k6, .null])), (k4, .inr (5, [.ref k2, .null, .int 0, .int 0, .int 0])), (k6, .inr (4, [.ref m1, .ref m2, .ref m3, .ref m4, .ref m5, .int 0, .ref m6, .ref m7, .null, .null, .int 0, .int 0, .int 0, .int 0, .long 0, .int 0, .int 0, .int 0, .int 0])), (m7, .inl (G.2.1 0, 12, .inl fm)), (k2, .inr (7, [.ref t1, .int 220, .int 0, .ref t2, .ref t3, .ref t4, .ref t5, .ref t6, .int 0, .ref t7, .ref t8, .ref t9, .ref t10, .int u1, .int 0]))] H := hP
  have hD : va_D A [(h0, .inr (8, [.ref k1, .int 0, .ref k2, .ref k3, .ref k4, .ref k5, .ref k6, .null])), (k4, .inr (5, [.ref k2, .null, .int 0, .int 0, .int 0])), (k6, .inr (4, [.ref m1, .ref m2, .ref m3, .ref m4, .ref m5, .int 0, .ref m6, .ref m7, .null, .null, .int 0, .int 0, .int 0, .int 0, .long 0, .int 0, .int 0, .int 0, .int 0])), (m7, .inl (G.2.1 0, 12, .inl fm)), (k2, .inr (7, [.ref t1, .int 220, .int 0, .ref t2, .ref t3, .ref t4, .ref t5, .ref t6, .int 0, .ref t7, .ref t8, .ref t9, .ref t10, .int u1, .int 0]))] := hD
  refine lv_aload_n hx hb dX11_read_20 rfl (lv_at hl 0 rfl) ?_
  refine va_get (D := G.1) (ci := 8) (v := .ref k6) (C := RX11) (T := TX11) (N := 8) hx hb hq pin_wsX110 hown hE.1.1 hP 0 rfl rfl 6 (by decide) (hq _ pw_16) (fun _ h9 => h9) rfl dX11_read_21 ?_
  refine pc_V (G := G) (As := []) (rest := []) (wr := [(h0, .inr (8, [.ref k1, .int 0, .ref k2, .ref k3, .ref k4, .ref k5, .ref k6, .null])), (k4, .inr (5, [.ref k2, .null, .int 0, .int 0, .int 0])), (k2, .inr (7, [.ref t1, .int 220, .int 0, .ref t2, .ref t3, .ref t4, .ref t5, .ref t6, .int 0, .ref t7, .ref t8, .ref t9, .ref t10, .int u1, .int 0]))]) hx hb hml hown hq hE hX pX0_al hP hD hS hA hl.1 (c_clear l G k6 m1 m2 m3 m4 m5 m6 m7 fm) (gV pw_20 pw_477 pw_478 pw_463 pw_476) hV_X5_clear 2 4 rfl rfl rfl [2, 3] [0, 1, 4] rfl rfl (by decide) (by decide) (by decide) rfl (Nat.le_of_ble_eq_true rfl) dX11_read_24 ⟨Nat.le_of_ble_eq_true rfl, Nat.le_of_ble_eq_true rfl⟩ ⟨Nat.le_of_ble_eq_true rfl, Nat.le_of_ble_eq_true rfl⟩ (fun v6 u4 H locs hw5 hP hD hS => ?_)
  obtain rfl : v6 = none := hw5
  have hP : va_P G.1 pCl [(h0, .inr (8, [.ref k1, .int 0, .ref k2, .ref k3, .ref k4, .ref k5, .ref k6, .null])), (k4, .inr (5, [.ref k2, .null, .int 0, .int 0, .int 0])), (k2, .inr (7, [.ref t1, .int 220, .int 0, .ref t2, .ref t3, .ref t4, .ref t5, .ref t6, .int 0, .ref t7, .ref t8, .ref t9, .ref t10, .int u1, .int 0])), (k6, .inr (4, [.ref m1, .ref m2, .ref m3, .ref m4, .ref m5, .int 0, .ref m6, .ref m7, .null, .null, .int 0, .int 0, .int 0, .int 0, .long 0, .int 0, .int 0, .int 0, .int 0])), (m7, .inl (G.2.1 0, 12, .inl (u4.2.1 0)))] H := hP
  have hD : va_D A [(h0, .inr (8, [.ref k1, .int 0, .ref k2, .ref k3, .ref k4, .ref k5, .ref k6, .null])), (k4, .inr (5, [.ref k2, .null, .int 0, .int 0, .int 0])), (k2, .inr (7, [.ref t1, .int 220, .int 0, .ref t2, .ref t3, .ref t4, .ref t5, .ref t6, .int 0, .ref t7, .ref t8, .ref t9, .ref t10, .int u1, .int 0])), (k6, .inr (4, [.ref m1, .ref m2, .ref m3, .ref m4, .ref m5, .int 0, .ref m6, .ref m7, .null, .null, .int 0, .int 0, .int 0, .int 0, .long 0, .int 0, .int 0, .int 0, .int 0])), (m7, .inl (G.2.1 0, 12, .inl (u4.2.1 0)))] := hD
  generalize u4.2.1 0 = f11 at hP hD
  refine W.widen (k := 0) (n := 0) (Nat.le_of_ble_eq_true rfl) (Nat.le_of_ble_eq_true rfl) ?_
  refine W.eq (g2 := F0 m 27 ls []) rfl ?_
  refine lv_aload_n hx hb dX11_read_27 rfl (lv_at hl 0 rfl) ?_
  refine lv_null hx hb dX11_read_28 ?_
  refine va_put (D := G.1) (ci := 8) (v := .null) (ty := (.object "JinjaTongue$Program")) (C := RX11) (T := TX11) (N := 8) hx hb hq pin_wsX110 tyX11 tyX11_ok nmX11 hown hE.1.1 hP hD hS 0 rfl rfl 7 (by decide) (hq _ pw_21) (fun _ h9 => h9) rfl (by decide +kernel) rfl rfl (Nat.le_of_ble_eq_true rfl) dX11_read_29 (fun H locs hP hD hS => ?_)
  have hP : va_P G.1 pCl [(h0, .inr (8, [.ref k1, .int 0, .ref k2, .ref k3, .ref k4, .ref k5, .ref k6, .null])), (k4, .inr (5, [.ref k2, .null, .int 0, .int 0, .int 0])), (k2, .inr (7, [.ref t1, .int 220, .int 0, .ref t2, .ref t3, .ref t4, .ref t5, .ref t6, .int 0, .ref t7, .ref t8, .ref t9, .ref t10, .int u1, .int 0])), (k6, .inr (4, [.ref m1, .ref m2, .ref m3, .ref m4, .ref m5, .int 0, .ref m6, .ref m7, .null, .null, .int 0, .int 0, .int 0, .int 0, .long 0, .int 0, .int 0, .int 0, .int 0])), (m7, .inl (G.2.1 0, 12, .inl f11))] H := hP
  have hD : va_D A [(h0, .inr (8, [.ref k1, .int 0, .ref k2, .ref k3, .ref k4, .ref k5, .ref k6, .null])), (k4, .inr (5, [.ref k2, .null, .int 0, .int 0, .int 0])), (k2, .inr (7, [.ref t1, .int 220, .int 0, .ref t2, .ref t3, .ref t4, .ref t5, .ref t6, .int 0, .ref t7, .ref t8, .ref t9, .ref t10, .int u1, .int 0])), (k6, .inr (4, [.ref m1, .ref m2, .ref m3, .ref m4, .ref m5, .int 0, .ref m6, .ref m7, .null, .null, .int 0, .int 0, .int 0, .int 0, .long 0, .int 0, .int 0, .int 0, .int 0])), (m7, .inl (G.2.1 0, 12, .inl f11))] := hD
  refine va_new (ci := 6) (fs := [.null, .null, .int 0, .null, .int 0]) (C := RX9) (T := TX9) (N := 5) hx hb hq pin_wsX90 tyX9 tyX9_ok hown (hq _ pw_22) (hq _ pw_667) (hq _ pw_481) hE.1.1 hP hD hS hA rfl nw_X9 (Nat.le_of_ble_eq_true rfl) (Nat.le_of_ble_eq_true rfl) dX11_read_32 (fun q12 H hP hD hS => ?_)
  have hP : va_P G.1 pCl [(h0, .inr (8, [.ref k1, .int 0, .ref k2, .ref k3, .ref k4, .ref k5, .ref k6, .null])), (k4, .inr (5, [.ref k2, .null, .int 0, .int 0, .int 0])), (k2, .inr (7, [.ref t1, .int 220, .int 0, .ref t2, .ref t3, .ref t4, .ref t5, .ref t6, .int 0, .ref t7, .ref t8, .ref t9, .ref t10, .int u1, .int 0])), (k6, .inr (4, [.ref m1, .ref m2, .ref m3, .ref m4, .ref m5, .int 0, .ref m6, .ref m7, .null, .null, .int 0, .int 0, .int 0, .int 0, .long 0, .int 0, .int 0, .int 0, .int 0])), (m7, .inl (G.2.1 0, 12, .inl f11)), (q12, .inr (6, [.null, .null, .int 0, .null, .int 0]))] H := hP
  have hD : va_D A [(h0, .inr (8, [.ref k1, .int 0, .ref k2, .ref k3, .ref k4, .ref k5, .ref k6, .null])), (k4, .inr (5, [.ref k2, .null, .int 0, .int 0, .int 0])), (k2, .inr (7, [.ref t1, .int 220, .int 0, .ref t2, .ref t3, .ref t4, .ref t5, .ref t6, .int 0, .ref t7, .ref t8, .ref t9, .ref t10, .int u1, .int 0])), (k6, .inr (4, [.ref m1, .ref m2, .ref m3, .ref m4, .ref m5, .int 0, .ref m6, .ref m7, .null, .null, .int 0, .int 0, .int 0, .int 0, .long 0, .int 0, .int 0, .int 0, .int 0])), (m7, .inl (G.2.1 0, 12, .inl f11)), (q12, .inr (6, [.null, .null, .int 0, .null, .int 0]))] := hD
  refine W.widen (k := 1) (n := 5) (Nat.le_of_ble_eq_true rfl) (Nat.le_of_ble_eq_true rfl) ?_
  refine lv_dup hx hb dX11_read_35 rfl ?_
  refine lv_aload_n hx hb dX11_read_36 rfl (lv_at hl 0 rfl) ?_
  refine va_get (D := G.1) (ci := 8) (v := .ref k2) (C := RX11) (T := TX11) (N := 8) hx hb hq pin_wsX110 hown hE.1.1 hP 0 rfl rfl 2 (by decide) (hq _ pw_4) (fun _ h9 => h9) rfl dX11_read_37 ?_
  refine pc_I (G := G) (As := [.ref k2]) (rest := [.ref q12]) (wr := [(h0, .inr (8, [.ref k1, .int 0, .ref k2, .ref k3, .ref k4, .ref k5, .ref k6, .null])), (k4, .inr (5, [.ref k2, .null, .int 0, .int 0, .int 0])), (k2, .inr (7, [.ref t1, .int 220, .int 0, .ref t2, .ref t3, .ref t4, .ref t5, .ref t6, .int 0, .ref t7, .ref t8, .ref t9, .ref t10, .int u1, .int 0])), (k6, .inr (4, [.ref m1, .ref m2, .ref m3, .ref m4, .ref m5, .int 0, .ref m6, .ref m7, .null, .null, .int 0, .int 0, .int 0, .int 0, .long 0, .int 0, .int 0, .int 0, .int 0])), (m7, .inl (G.2.1 0, 12, .inl f11))]) hx hb hml hown hq hE hX pX0_al hP hD hS hA hl.1 (c_Program_init l G q12 k2) pw_23 pw_480 pw_481 pw_479 rfl hS_X9_init [5] [0, 1, 2, 3, 4] rfl rfl (by decide) (by decide) (by decide) rfl (Nat.le_of_ble_eq_true rfl) dX11_read_40 ⟨Nat.le_of_ble_eq_true rfl, Nat.le_of_ble_eq_true rfl⟩ ⟨Nat.le_of_ble_eq_true rfl, Nat.le_of_ble_eq_true rfl⟩ (fun v15 u13 H locs hw14 hP hD hS => ?_)
  obtain rfl : v15 = none := hw14
  have hP : va_P G.1 pCl [(h0, .inr (8, [.ref k1, .int 0, .ref k2, .ref k3, .ref k4, .ref k5, .ref k6, .null])), (k4, .inr (5, [.ref k2, .null, .int 0, .int 0, .int 0])), (k2, .inr (7, [.ref t1, .int 220, .int 0, .ref t2, .ref t3, .ref t4, .ref t5, .ref t6, .int 0, .ref t7, .ref t8, .ref t9, .ref t10, .int u1, .int 0])), (k6, .inr (4, [.ref m1, .ref m2, .ref m3, .ref m4, .ref m5, .int 0, .ref m6, .ref m7, .null, .null, .int 0, .int 0, .int 0, .int 0, .long 0, .int 0, .int 0, .int 0, .int 0])), (m7, .inl (G.2.1 0, 12, .inl f11)), (q12, .inr (6, [.ref k2, .ref u13.2.2.1, .int 7, .ref u13.2.2.2, .int 2147483647])), (u13.2.2.1, .inl (G.2.1 4, 37, .inr (.inr (.inr (.inr (dcl u13.1)))))), ((u13.1 0), .inr (2, [.int 0, .int 29, .int (-1), .int 0, .int (-1), .int 0, .int 0, .ref (u13.2.1 0), .ref (u13.2.1 1), .null, .long 0, .ref (u13.2.1 2), .ref (u13.2.1 3)])), ((u13.1 1), .inr (2, [.int 1, .int 30, .int (-1), .int 0, .int (-1), .int 0, .int 0, .ref (u13.2.1 4), .ref (u13.2.1 5), .null, .long 0, .ref (u13.2.1 6), .ref (u13.2.1 7)])), ((u13.1 2), .inr (2, [.int 2, .int 31, .int (-1), .int 0, .int (-1), .int 0, .int 0, .ref (u13.2.1 8), .ref (u13.2.1 9), .null, .long 0, .ref (u13.2.1 10), .ref (u13.2.1 11)])), ((u13.1 3), .inr (2, [.int 3, .int 32, .int (-1), .int 0, .int (-1), .int 0, .int 0, .ref (u13.2.1 12), .ref (u13.2.1 13), .null, .long 0, .ref (u13.2.1 14), .ref (u13.2.1 15)])), ((u13.1 4), .inr (2, [.int 4, .int 33, .int (-1), .int 0, .int (-1), .int 0, .int 0, .ref (u13.2.1 16), .ref (u13.2.1 17), .null, .long 0, .ref (u13.2.1 18), .ref (u13.2.1 19)])), ((u13.1 5), .inr (2, [.int 5, .int 34, .int (-1), .int 0, .int (-1), .int 0, .int 0, .ref (u13.2.1 20), .ref (u13.2.1 21), .null, .long 0, .ref (u13.2.1 22), .ref (u13.2.1 23)])), ((u13.1 6), .inr (2, [.int 6, .int 35, .int (-1), .int 0, .int (-1), .int 0, .int 0, .ref (u13.2.1 24), .ref (u13.2.1 25), .null, .long 0, .ref (u13.2.1 26), .ref (u13.2.1 27)]))] H := hP
  have hD : va_D A [(h0, .inr (8, [.ref k1, .int 0, .ref k2, .ref k3, .ref k4, .ref k5, .ref k6, .null])), (k4, .inr (5, [.ref k2, .null, .int 0, .int 0, .int 0])), (k2, .inr (7, [.ref t1, .int 220, .int 0, .ref t2, .ref t3, .ref t4, .ref t5, .ref t6, .int 0, .ref t7, .ref t8, .ref t9, .ref t10, .int u1, .int 0])), (k6, .inr (4, [.ref m1, .ref m2, .ref m3, .ref m4, .ref m5, .int 0, .ref m6, .ref m7, .null, .null, .int 0, .int 0, .int 0, .int 0, .long 0, .int 0, .int 0, .int 0, .int 0])), (m7, .inl (G.2.1 0, 12, .inl f11)), (q12, .inr (6, [.ref k2, .ref u13.2.2.1, .int 7, .ref u13.2.2.2, .int 2147483647])), (u13.2.2.1, .inl (G.2.1 4, 37, .inr (.inr (.inr (.inr (dcl u13.1)))))), ((u13.1 0), .inr (2, [.int 0, .int 29, .int (-1), .int 0, .int (-1), .int 0, .int 0, .ref (u13.2.1 0), .ref (u13.2.1 1), .null, .long 0, .ref (u13.2.1 2), .ref (u13.2.1 3)])), ((u13.1 1), .inr (2, [.int 1, .int 30, .int (-1), .int 0, .int (-1), .int 0, .int 0, .ref (u13.2.1 4), .ref (u13.2.1 5), .null, .long 0, .ref (u13.2.1 6), .ref (u13.2.1 7)])), ((u13.1 2), .inr (2, [.int 2, .int 31, .int (-1), .int 0, .int (-1), .int 0, .int 0, .ref (u13.2.1 8), .ref (u13.2.1 9), .null, .long 0, .ref (u13.2.1 10), .ref (u13.2.1 11)])), ((u13.1 3), .inr (2, [.int 3, .int 32, .int (-1), .int 0, .int (-1), .int 0, .int 0, .ref (u13.2.1 12), .ref (u13.2.1 13), .null, .long 0, .ref (u13.2.1 14), .ref (u13.2.1 15)])), ((u13.1 4), .inr (2, [.int 4, .int 33, .int (-1), .int 0, .int (-1), .int 0, .int 0, .ref (u13.2.1 16), .ref (u13.2.1 17), .null, .long 0, .ref (u13.2.1 18), .ref (u13.2.1 19)])), ((u13.1 5), .inr (2, [.int 5, .int 34, .int (-1), .int 0, .int (-1), .int 0, .int 0, .ref (u13.2.1 20), .ref (u13.2.1 21), .null, .long 0, .ref (u13.2.1 22), .ref (u13.2.1 23)])), ((u13.1 6), .inr (2, [.int 6, .int 35, .int (-1), .int 0, .int (-1), .int 0, .int 0, .ref (u13.2.1 24), .ref (u13.2.1 25), .null, .long 0, .ref (u13.2.1 26), .ref (u13.2.1 27)]))] := hD
  obtain ⟨d, z, g1, g2⟩ := u13
  have hP : va_P G.1 pCl [(h0, .inr (8, [.ref k1, .int 0, .ref k2, .ref k3, .ref k4, .ref k5, .ref k6, .null])), (k4, .inr (5, [.ref k2, .null, .int 0, .int 0, .int 0])), (k2, .inr (7, [.ref t1, .int 220, .int 0, .ref t2, .ref t3, .ref t4, .ref t5, .ref t6, .int 0, .ref t7, .ref t8, .ref t9, .ref t10, .int u1, .int 0])), (k6, .inr (4, [.ref m1, .ref m2, .ref m3, .ref m4, .ref m5, .int 0, .ref m6, .ref m7, .null, .null, .int 0, .int 0, .int 0, .int 0, .long 0, .int 0, .int 0, .int 0, .int 0])), (m7, .inl (G.2.1 0, 12, .inl f11)), (q12, .inr (6, [.ref k2, .ref g1, .int 7, .ref g2, .int 2147483647])), (g1, .inl (G.2.1 4, 37, .inr (.inr (.inr (.inr (dcl d)))))), ((d 0), .inr (2, [.int 0, .int 29, .int (-1), .int 0, .int (-1), .int 0, .int 0, .ref (z 0), .ref (z 1), .null, .long 0, .ref (z 2), .ref (z 3)])), ((d 1), .inr (2, [.int 1, .int 30, .int (-1), .int 0, .int (-1), .int 0, .int 0, .ref (z 4), .ref (z 5), .null, .long 0, .ref (z 6), .ref (z 7)])), ((d 2), .inr (2, [.int 2, .int 31, .int (-1), .int 0, .int (-1), .int 0, .int 0, .ref (z 8), .ref (z 9), .null, .long 0, .ref (z 10), .ref (z 11)])), ((d 3), .inr (2, [.int 3, .int 32, .int (-1), .int 0, .int (-1), .int 0, .int 0, .ref (z 12), .ref (z 13), .null, .long 0, .ref (z 14), .ref (z 15)])), ((d 4), .inr (2, [.int 4, .int 33, .int (-1), .int 0, .int (-1), .int 0, .int 0, .ref (z 16), .ref (z 17), .null, .long 0, .ref (z 18), .ref (z 19)])), ((d 5), .inr (2, [.int 5, .int 34, .int (-1), .int 0, .int (-1), .int 0, .int 0, .ref (z 20), .ref (z 21), .null, .long 0, .ref (z 22), .ref (z 23)])), ((d 6), .inr (2, [.int 6, .int 35, .int (-1), .int 0, .int (-1), .int 0, .int 0, .ref (z 24), .ref (z 25), .null, .long 0, .ref (z 26), .ref (z 27)]))] H := hP
  have hD : va_D A [(h0, .inr (8, [.ref k1, .int 0, .ref k2, .ref k3, .ref k4, .ref k5, .ref k6, .null])), (k4, .inr (5, [.ref k2, .null, .int 0, .int 0, .int 0])), (k2, .inr (7, [.ref t1, .int 220, .int 0, .ref t2, .ref t3, .ref t4, .ref t5, .ref t6, .int 0, .ref t7, .ref t8, .ref t9, .ref t10, .int u1, .int 0])), (k6, .inr (4, [.ref m1, .ref m2, .ref m3, .ref m4, .ref m5, .int 0, .ref m6, .ref m7, .null, .null, .int 0, .int 0, .int 0, .int 0, .long 0, .int 0, .int 0, .int 0, .int 0])), (m7, .inl (G.2.1 0, 12, .inl f11)), (q12, .inr (6, [.ref k2, .ref g1, .int 7, .ref g2, .int 2147483647])), (g1, .inl (G.2.1 4, 37, .inr (.inr (.inr (.inr (dcl d)))))), ((d 0), .inr (2, [.int 0, .int 29, .int (-1), .int 0, .int (-1), .int 0, .int 0, .ref (z 0), .ref (z 1), .null, .long 0, .ref (z 2), .ref (z 3)])), ((d 1), .inr (2, [.int 1, .int 30, .int (-1), .int 0, .int (-1), .int 0, .int 0, .ref (z 4), .ref (z 5), .null, .long 0, .ref (z 6), .ref (z 7)])), ((d 2), .inr (2, [.int 2, .int 31, .int (-1), .int 0, .int (-1), .int 0, .int 0, .ref (z 8), .ref (z 9), .null, .long 0, .ref (z 10), .ref (z 11)])), ((d 3), .inr (2, [.int 3, .int 32, .int (-1), .int 0, .int (-1), .int 0, .int 0, .ref (z 12), .ref (z 13), .null, .long 0, .ref (z 14), .ref (z 15)])), ((d 4), .inr (2, [.int 4, .int 33, .int (-1), .int 0, .int (-1), .int 0, .int 0, .ref (z 16), .ref (z 17), .null, .long 0, .ref (z 18), .ref (z 19)])), ((d 5), .inr (2, [.int 5, .int 34, .int (-1), .int 0, .int (-1), .int 0, .int 0, .ref (z 20), .ref (z 21), .null, .long 0, .ref (z 22), .ref (z 23)])), ((d 6), .inr (2, [.int 6, .int 35, .int (-1), .int 0, .int (-1), .int 0, .int 0, .ref (z 24), .ref (z 25), .null, .long 0, .ref (z 26), .ref (z 27)]))] := hD
  refine W.widen (k := 38) (n := 220) (Nat.le_of_ble_eq_true rfl) (Nat.le_of_ble_eq_true rfl) ?_
  refine W.eq (g2 := F0 m 43 ls [.ref q12]) rfl ?_
  refine lv_astore_n (lv' := [(1, .ref q12), (0, .ref h0)]) hx hb dX11_read_43 rfl hl (by decide) rfl (fun ls hl => ?_)
  refine lv_aload_n hx hb dX11_read_44 rfl (lv_at hl 1 rfl) ?_
  refine va_get (D := G.1) (ci := 8) (v := .ref k4) (C := RX11) (T := TX11) (N := 8) hx hb hq pin_wsX110 hown hE.1.1 hP 0 rfl rfl 4 (by decide) (hq _ pw_10) (fun _ h9 => h9) rfl dX11_read_45 ?_
  refine lv_aload_n hx hb dX11_read_48 rfl (lv_at hl 0 rfl) ?_
  refine pc_V (G := G) (As := [.ref q12]) (rest := []) (wr := [(h0, .inr (8, [.ref k1, .int 0, .ref k2, .ref k3, .ref k4, .ref k5, .ref k6, .null])), (k6, .inr (4, [.ref m1, .ref m2, .ref m3, .ref m4, .ref m5, .int 0, .ref m6, .ref m7, .null, .null, .int 0, .int 0, .int 0, .int 0, .long 0, .int 0, .int 0, .int 0, .int 0])), (m7, .inl (G.2.1 0, 12, .inl f11)), (q12, .inr (6, [.ref k2, .ref g1, .int 7, .ref g2, .int 2147483647])), (g1, .inl (G.2.1 4, 37, .inr (.inr (.inr (.inr (dcl d)))))), ((d 0), .inr (2, [.int 0, .int 29, .int (-1), .int 0, .int (-1), .int 0, .int 0, .ref (z 0), .ref (z 1), .null, .long 0, .ref (z 2), .ref (z 3)])), ((d 1), .inr (2, [.int 1, .int 30, .int (-1), .int 0, .int (-1), .int 0, .int 0, .ref (z 4), .ref (z 5), .null, .long 0, .ref (z 6), .ref (z 7)])), ((d 2), .inr (2, [.int 2, .int 31, .int (-1), .int 0, .int (-1), .int 0, .int 0, .ref (z 8), .ref (z 9), .null, .long 0, .ref (z 10), .ref (z 11)])), ((d 3), .inr (2, [.int 3, .int 32, .int (-1), .int 0, .int (-1), .int 0, .int 0, .ref (z 12), .ref (z 13), .null, .long 0, .ref (z 14), .ref (z 15)])), ((d 4), .inr (2, [.int 4, .int 33, .int (-1), .int 0, .int (-1), .int 0, .int 0, .ref (z 16), .ref (z 17), .null, .long 0, .ref (z 18), .ref (z 19)])), ((d 5), .inr (2, [.int 5, .int 34, .int (-1), .int 0, .int (-1), .int 0, .int 0, .ref (z 20), .ref (z 21), .null, .long 0, .ref (z 22), .ref (z 23)])), ((d 6), .inr (2, [.int 6, .int 35, .int (-1), .int 0, .int (-1), .int 0, .int 0, .ref (z 24), .ref (z 25), .null, .long 0, .ref (z 26), .ref (z 27)]))]) hx hb hml hown hq hE hX pX0_al hP hD hS hA hl.1 (c_parse l G k4 k2 t1 t2 t3 t4 t5 t6 t7 t8 t9 t10 u1 q12) (gV pw_24 pw_453 pw_454 pw_451 pw_452) hV_X8_parse 1 5 rfl rfl rfl [1, 2] [0, 3, 4, 5, 6, 7, 8, 9, 10, 11, 12, 13] rfl rfl (by decide) (by decide) (by decide) rfl (Nat.le_of_ble_eq_true rfl) dX11_read_49 ⟨Nat.le_of_ble_eq_true rfl, Nat.le_of_ble_eq_true rfl⟩ ⟨Nat.le_of_ble_eq_true rfl, Nat.le_of_ble_eq_true rfl⟩ (fun v18 u16 H locs hw17 hP hD hS => ?_)
  obtain rfl : v18 = none := hw17
  have hP : va_P G.1 pCl [(h0, .inr (8, [.ref k1, .int 0, .ref k2, .ref k3, .ref k4, .ref k5, .ref k6, .null])), (k6, .inr (4, [.ref m1, .ref m2, .ref m3, .ref m4, .ref m5, .int 0, .ref m6, .ref m7, .null, .null, .int 0, .int 0, .int 0, .int 0, .long 0, .int 0, .int 0, .int 0, .int 0])), (m7, .inl (G.2.1 0, 12, .inl f11)), (q12, .inr (6, [.ref k2, .ref g1, .int 7, .ref g2, .int 2147483647])), (g1, .inl (G.2.1 4, 37, .inr (.inr (.inr (.inr (dcl d)))))), ((d 0), .inr (2, [.int 0, .int 29, .int (-1), .int 0, .int (-1), .int 0, .int 0, .ref (z 0), .ref (z 1), .null, .long 0, .ref (z 2), .ref (z 3)])), ((d 1), .inr (2, [.int 1, .int 30, .int (-1), .int 0, .int (-1), .int 0, .int 0, .ref (z 4), .ref (z 5), .null, .long 0, .ref (z 6), .ref (z 7)])), ((d 2), .inr (2, [.int 2, .int 31, .int (-1), .int 0, .int (-1), .int 0, .int 0, .ref (z 8), .ref (z 9), .null, .long 0, .ref (z 10), .ref (z 11)])), ((d 3), .inr (2, [.int 3, .int 32, .int (-1), .int 0, .int (-1), .int 0, .int 0, .ref (z 12), .ref (z 13), .null, .long 0, .ref (z 14), .ref (z 15)])), ((d 4), .inr (2, [.int 4, .int 33, .int (-1), .int 0, .int (-1), .int 0, .int 0, .ref (z 16), .ref (z 17), .null, .long 0, .ref (z 18), .ref (z 19)])), ((d 5), .inr (2, [.int 5, .int 34, .int (-1), .int 0, .int (-1), .int 0, .int 0, .ref (z 20), .ref (z 21), .null, .long 0, .ref (z 22), .ref (z 23)])), ((d 6), .inr (2, [.int 6, .int 35, .int (-1), .int 0, .int (-1), .int 0, .int 0, .ref (z 24), .ref (z 25), .null, .long 0, .ref (z 26), .ref (z 27)])), (k2, .inr (7, [.ref t1, .int 220, .int 0, .ref t2, .ref t3, .ref t4, .ref t5, .ref t6, .int 0, .ref t7, .ref t8, .ref t9, .ref t10, .int u1, .int 0]))] H := hP
  have hD : va_D A [(h0, .inr (8, [.ref k1, .int 0, .ref k2, .ref k3, .ref k4, .ref k5, .ref k6, .null])), (k6, .inr (4, [.ref m1, .ref m2, .ref m3, .ref m4, .ref m5, .int 0, .ref m6, .ref m7, .null, .null, .int 0, .int 0, .int 0, .int 0, .long 0, .int 0, .int 0, .int 0, .int 0])), (m7, .inl (G.2.1 0, 12, .inl f11)), (q12, .inr (6, [.ref k2, .ref g1, .int 7, .ref g2, .int 2147483647])), (g1, .inl (G.2.1 4, 37, .inr (.inr (.inr (.inr (dcl d)))))), ((d 0), .inr (2, [.int 0, .int 29, .int (-1), .int 0, .int (-1), .int 0, .int 0, .ref (z 0), .ref (z 1), .null, .long 0, .ref (z 2), .ref (z 3)])), ((d 1), .inr (2, [.int 1, .int 30, .int (-1), .int 0, .int (-1), .int 0, .int 0, .ref (z 4), .ref (z 5), .null, .long 0, .ref (z 6), .ref (z 7)])), ((d 2), .inr (2, [.int 2, .int 31, .int (-1), .int 0, .int (-1), .int 0, .int 0, .ref (z 8), .ref (z 9), .null, .long 0, .ref (z 10), .ref (z 11)])), ((d 3), .inr (2, [.int 3, .int 32, .int (-1), .int 0, .int (-1), .int 0, .int 0, .ref (z 12), .ref (z 13), .null, .long 0, .ref (z 14), .ref (z 15)])), ((d 4), .inr (2, [.int 4, .int 33, .int (-1), .int 0, .int (-1), .int 0, .int 0, .ref (z 16), .ref (z 17), .null, .long 0, .ref (z 18), .ref (z 19)])), ((d 5), .inr (2, [.int 5, .int 34, .int (-1), .int 0, .int (-1), .int 0, .int 0, .ref (z 20), .ref (z 21), .null, .long 0, .ref (z 22), .ref (z 23)])), ((d 6), .inr (2, [.int 6, .int 35, .int (-1), .int 0, .int (-1), .int 0, .int 0, .ref (z 24), .ref (z 25), .null, .long 0, .ref (z 26), .ref (z 27)])), (k2, .inr (7, [.ref t1, .int 220, .int 0, .ref t2, .ref t3, .ref t4, .ref t5, .ref t6, .int 0, .ref t7, .ref t8, .ref t9, .ref t10, .int u1, .int 0]))] := hD
  refine W.widen (k := 38) (n := 220) (Nat.le_of_ble_eq_true rfl) (Nat.le_of_ble_eq_true rfl) ?_
  refine W.eq (g2 := F0 m 52 ls []) rfl ?_
  refine lv_aload_n hx hb dX11_read_52 rfl (lv_at hl 0 rfl) ?_
  refine px_V (G := G) (As := []) (rest := []) (wr := [(h0, .inr (8, [.ref k1, .int 0, .ref k2, .ref k3, .ref k4, .ref k5, .ref k6, .null])), (k6, .inr (4, [.ref m1, .ref m2, .ref m3, .ref m4, .ref m5, .int 0, .ref m6, .ref m7, .null, .null, .int 0, .int 0, .int 0, .int 0, .long 0, .int 0, .int 0, .int 0, .int 0])), (m7, .inl (G.2.1 0, 12, .inl f11))]) hx hb hml hown hq hE hX pX0_al hP hD hS hA hl.1 (c_judgeNames l G q12 g1 g2 d z k2 t1 t2 t3 t4 t5 t6 t7 t8 t9 t10 u1 hl0) (gV pw_25 pw_483 pw_484 pw_481 pw_482) hV_X9_judgeNames 3 6 rfl rfl rfl [3, 4, 5, 6, 7, 8, 9, 10, 11, 12] [0, 1, 2] rfl rfl (by decide) (by decide) (by decide) rfl (Nat.le_of_ble_eq_true rfl) dX11_read_53 ⟨Nat.le_of_ble_eq_true rfl, Nat.le_of_ble_eq_true rfl⟩ ⟨Nat.le_of_ble_eq_true rfl, Nat.le_of_ble_eq_true rfl⟩ (fun u19 ce22 q23 H locs hP hD hS hc24 hv25 hf26 => ?_)
  have hP : va_P G.1 pCl [(h0, .inr (8, [.ref k1, .int 0, .ref k2, .ref k3, .ref k4, .ref k5, .ref k6, .null])), (k6, .inr (4, [.ref m1, .ref m2, .ref m3, .ref m4, .ref m5, .int 0, .ref m6, .ref m7, .null, .null, .int 0, .int 0, .int 0, .int 0, .long 0, .int 0, .int 0, .int 0, .int 0])), (m7, .inl (G.2.1 0, 12, .inl f11)), (k2, .inr (7, [.ref t1, .int 220, .int 0, .ref t2, .ref t3, .ref t4, .ref t5, .ref t6, .int 0, .ref t7, .ref t8, .ref t9, .ref t10, .int u1, .int 9]))] H := hP
  have hD : va_D A [(h0, .inr (8, [.ref k1, .int 0, .ref k2, .ref k3, .ref k4, .ref k5, .ref k6, .null])), (k6, .inr (4, [.ref m1, .ref m2, .ref m3, .ref m4, .ref m5, .int 0, .ref m6, .ref m7, .null, .null, .int 0, .int 0, .int 0, .int 0, .long 0, .int 0, .int 0, .int 0, .int 0])), (m7, .inl (G.2.1 0, 12, .inl f11)), (k2, .inr (7, [.ref t1, .int 220, .int 0, .ref t2, .ref t3, .ref t4, .ref t5, .ref t6, .int 0, .ref t7, .ref t8, .ref t9, .ref t10, .int u1, .int 9]))] := hD
  refine vx_catch (own := RX11) (name := eIS) (E := eIS) hown [] ⟨44, 64, 67, 86⟩ [] (htab.trans rfl) (fun z hz => nomatch hz) (by decide) (by decide) (hq _ pw_42) hE.pc.1.use hc24 hv25 hf26 ?_
  refine W.widen (k := 39) (n := 226) (Nat.le_of_ble_eq_true rfl) (Nat.le_of_ble_eq_true rfl) ?_
  refine W.eq (g2 := F0 m 67 ls [.ref q23]) rfl ?_
  refine lv_astore_n (lv' := [(2, .ref q23), (1, .ref q12), (0, .ref h0)]) hx hb dX11_read_67 rfl hl (by decide) rfl (fun ls hl => ?_)
  refine lv_aload_n hx hb dX11_read_68 rfl (lv_at hl 2 rfl) ?_
  refine va_get (D := G.1) (ci := 8) (v := .ref k2) (C := RX11) (T := TX11) (N := 8) hx hb hq pin_wsX110 hown hE.1.1 hP 0 rfl rfl 2 (by decide) (hq _ pw_4) (fun _ h9 => h9) rfl dX11_read_69 ?_
  refine va_get (D := G.1) (ci := 7) (v := .int 9) (C := RX10) (T := TX10) (N := 15) hx hb hq pin_wsX100 hown hE.1.1 hP 3 rfl rfl 14 (by decide) (hq _ pw_26) (fun _ h9 => h9) rfl dX11_read_72 ?_
  refine W.widen (k := 39) (n := 226) (Nat.le_of_ble_eq_true rfl) (Nat.le_of_ble_eq_true rfl) ?_
  exact W.iret (v := 9) hx hb hr (fun t ht hW => ⟨⟨_, (), rfl, rfl, by rw [ht]; exact hP.sub [] rfl, hD.sub [] (by decide) rfl⟩, hS.F ht⟩) hS.2.2 dX11_read_75
