theorem dX12_waitsFor_0 : decode cX12_waitsFor 0 = .ok (.aload_n 0, 1) := by decide +kernel
theorem dX12_waitsFor_1 : decode cX12_waitsFor 1 = .ok (.getfield 224, 3) := by decide +kernel
theorem dX12_waitsFor_4 : decode cX12_waitsFor 4 = .ok (.aload_n 0, 1) := by decide +kernel
theorem dX12_waitsFor_5 : decode cX12_waitsFor 5 = .ok (.getfield 713, 3) := by decide +kernel
theorem dX12_waitsFor_8 : decode cX12_waitsFor 8 = .ok (.iload_n 2, 1) := by decide +kernel
theorem dX12_waitsFor_9 : decode cX12_waitsFor 9 = .ok (.iastore, 1) := by decide +kernel
theorem dX12_waitsFor_10 : decode cX12_waitsFor 10 = .ok (.aload_n 0, 1) := by decide +kernel
theorem dX12_waitsFor_11 : decode cX12_waitsFor 11 = .ok (.getfield 227, 3) := by decide +kernel
theorem dX12_waitsFor_14 : decode cX12_waitsFor 14 = .ok (.aload_n 0, 1) := by decide +kernel
theorem dX12_waitsFor_15 : decode cX12_waitsFor 15 = .ok (.getfield 713, 3) := by decide +kernel
theorem dX12_waitsFor_18 : decode cX12_waitsFor 18 = .ok (.iload_n 3, 1) := by decide +kernel
theorem dX12_waitsFor_19 : decode cX12_waitsFor 19 = .ok (.iastore, 1) := by decide +kernel
theorem dX12_waitsFor_20 : decode cX12_waitsFor 20 = .ok (.aload_n 0, 1) := by decide +kernel
theorem dX12_waitsFor_21 : decode cX12_waitsFor 21 = .ok (.getfield 230, 3) := by decide +kernel
theorem dX12_waitsFor_24 : decode cX12_waitsFor 24 = .ok (.aload_n 0, 1) := by decide +kernel
theorem dX12_waitsFor_25 : decode cX12_waitsFor 25 = .ok (.getfield 713, 3) := by decide +kernel
theorem dX12_waitsFor_28 : decode cX12_waitsFor 28 = .ok (.iload 4, 2) := by decide +kernel
theorem dX12_waitsFor_30 : decode cX12_waitsFor 30 = .ok (.bastore, 1) := by decide +kernel
theorem dX12_waitsFor_31 : decode cX12_waitsFor 31 = .ok (.aload_n 0, 1) := by decide +kernel
theorem dX12_waitsFor_32 : decode cX12_waitsFor 32 = .ok (.dup, 1) := by decide +kernel
theorem dX12_waitsFor_33 : decode cX12_waitsFor 33 = .ok (.getfield 713, 3) := by decide +kernel
theorem dX12_waitsFor_36 : decode cX12_waitsFor 36 = .ok (.iconst 1, 1) := by decide +kernel
theorem dX12_waitsFor_37 : decode cX12_waitsFor 37 = .ok (.iadd, 1) := by decide +kernel
theorem dX12_waitsFor_38 : decode cX12_waitsFor 38 = .ok (.putfield 713, 3) := by decide +kernel
theorem dX12_waitsFor_41 : decode cX12_waitsFor 41 = .ok (.aload_n 0, 1) := by decide +kernel
theorem dX12_waitsFor_42 : decode cX12_waitsFor 42 = .ok (.getfield 202, 3) := by decide +kernel
theorem dX12_waitsFor_45 : decode cX12_waitsFor 45 = .ok (.aload_n 0, 1) := by decide +kernel
theorem dX12_waitsFor_46 : decode cX12_waitsFor 46 = .ok (.getfield 707, 3) := by decide +kernel
theorem dX12_waitsFor_49 : decode cX12_waitsFor 49 = .ok (.iconst 1, 1) := by decide +kernel
theorem dX12_waitsFor_50 : decode cX12_waitsFor 50 = .ok (.isub, 1) := by decide +kernel
theorem dX12_waitsFor_51 : decode cX12_waitsFor 51 = .ok (.aload_n 0, 1) := by decide +kernel
theorem dX12_waitsFor_52 : decode cX12_waitsFor 52 = .ok (.getfield 65, 3) := by decide +kernel
theorem dX12_waitsFor_55 : decode cX12_waitsFor 55 = .ok (.iload_n 1, 1) := by decide +kernel
theorem dX12_waitsFor_56 : decode cX12_waitsFor 56 = .ok (.iaload, 1) := by decide +kernel
theorem dX12_waitsFor_57 : decode cX12_waitsFor 57 = .ok (.iastore, 1) := by decide +kernel
theorem dX12_waitsFor_58 : decode cX12_waitsFor 58 = .ok (.aload_n 0, 1) := by decide +kernel
theorem dX12_waitsFor_59 : decode cX12_waitsFor 59 = .ok (.aload_n 0, 1) := by decide +kernel
theorem dX12_waitsFor_60 : decode cX12_waitsFor 60 = .ok (.getfield 53, 3) := by decide +kernel
theorem dX12_waitsFor_63 : decode cX12_waitsFor 63 = .ok (.iload_n 1, 1) := by decide +kernel
theorem dX12_waitsFor_64 : decode cX12_waitsFor 64 = .ok (.iaload, 1) := by decide +kernel
theorem dX12_waitsFor_65 : decode cX12_waitsFor 65 = .ok (.invokevirtual 794, 3) := by decide +kernel
theorem dX12_waitsFor_68 : decode cX12_waitsFor 68 = .ok (.return_, 1) := by decide +kernel
set_option maxHeartbeats 2000000 in
set_option maxRecDepth 100000 in
/-- waitsFor(p, kind, value, isReference) -/
theorem R_waitsFor (l : Launch) (G : pT) (h0 : Nat) (a : Nat → Nat) (F : Nat → Int32) (B : Nat → Nat → Int32) (n9 : Nat) (op : Nat) (wn : Nat) (b9 : Nat) (kd : Int32) (x : Int32) (wk : Nat → Int32) (wv : Nat → Int32) (wf : Nat → Int32) (csc : Nat → Int32) (hn9 : n9 < 12000) (hop : 1 ≤ op ∧ op ≤ 100) (hwn : wn < 2100) (hb9 : b9 ≤ 1) : PM l G pX0 yX12_waitsFor cX12_waitsFor 5 none ({ frames := 3, cells := 0, slots := 0, locals := 81 }) [.ref h0, .int (nI n9), .int kd, .int x, .int (nI b9)] (mW G h0 a (upd (upd F 102 (nI op)) 115 (nI wn)) (updA (updA (updA (updA B 63 csc) 70 wk) 71 wv) 72 wf)) (fun (v : Option Value) (u : (Nat → Int32)) => v = none ∧ (u = upd wf wn (nI b9))) (fun u => (mW G h0 a (upd (upd (upd (upd F 102 (nI op)) 115 (nI (wn + 1))) 125 (B 14 n9)) 126 1) (updA (updA (updA (updA B 63 (upd csc (op - 1) (B 18 n9))) 70 (upd wk wn kd)) 71 (upd wv wn x)) 72 u))) := by
  intro sz
  refine Met.ofW (cc := cX12_waitsFor) (maxL := 5) (ret := none) (by decide) rfl ?_
  intro p e s m args below meth c s₁ B9 hml hv
  obtain ⟨rfl, hsz, hP, hD0, hE, hX⟩ := hv
  have hx := B9.exec
  have hb := B9.bytes
  have hr := B9.returns
  have hts := atoms_spec (ws := Cond.code yX12_waitsFor cX12_waitsFor 5 none :: pw) B9.pre
  have hq : ∀ w ∈ pw, w.before _ s = true := fun w h => hts w (List.mem_cons_of_mem _ h)
  have hown : s.vm.findClass RX12 = some m.cls := findClass_of_methodNamed B9.named
  have hlocks := B9.notSynchronized
  subst hsz
  have hD := hD0.self (sz := s.heap.size)
  have hA : ∀ q : Nat, s.heap.size ≤ q → va_A (mW G h0 a (upd (upd F 102 (nI op)) 115 (nI wn)) (updA (updA (updA (updA B 63 csc) 70 wk) 71 wv) 72 wf)) s.heap.size q := fun q h => Or.inr h
  have hP : va_P G.1 pCl (mW G h0 a (upd (upd F 102 (nI op)) 115 (nI wn)) (updA (updA (updA (updA B 63 csc) 70 wk) 71 wv) 72 wf)) s.heap := hP
  generalize va_A (mW G h0 a (upd (upd F 102 (nI op)) 115 (nI wn)) (updA (updA (updA (updA B 63 csc) 70 wk) 71 wv) 72 wf)) s.heap.size = A at hD hE hA ⊢
  have hS : va_S A s.heap s.heap [] := va_S.rf
  have hl := lv_entry ([.ref h0, .int (nI n9), .int kd, .int x, .int (nI b9)]) (n := 5) (Nat.le_of_ble_eq_true rfl)
  rw [lg_entry_eq]
  generalize (lg_sl ([.ref h0, .int (nI n9), .int kd, .int x, .int (nI b9)]) ++ List.replicate (5 - (lg_sl ([.ref h0, .int (nI n9), .int kd, .int x, .int (nI b9)])).length) Slot.unset).toArray = ls at hl ⊢
  have hl : lv_has ls 5 [(0, .ref h0), (1, .int (nI n9)), (2, .int kd), (3, .int x), (4, .int (nI b9))] := hl
  refine lv_aload_n hx hb dX12_waitsFor_0 rfl (lv_at hl 0 rfl) ?_
  refine r_get (v := .ref (a 70)) hx hb hown hq hE hP 112 224 tFX12_112 (by decide) pw_1503 rfl dX12_waitsFor_1 ?_
  refine lv_aload_n hx hb dX12_waitsFor_4 rfl (lv_at hl 0 rfl) ?_
  refine r_get (v := .int (nI wn)) hx hb hown hq hE hP 115 713 tFX12_115 (by decide) pw_1970 rfl dX12_waitsFor_5 ?_
  refine lv_iload_n hx hb dX12_waitsFor_8 rfl (lv_at hl 2 rfl) ?_
  refine r_sti (f := wk) (j := wn) hx hb hE hP hD hS 70 (ma_70 G a _) rfl (mas_70 G a _) (by omega) (by decide) dX12_waitsFor_9 (fun H locs hP hD hS => ?_)
  refine lv_aload_n hx hb dX12_waitsFor_10 rfl (lv_at hl 0 rfl) ?_
  refine r_get (v := .ref (a 71)) hx hb hown hq hE hP 113 227 tFX12_113 (by decide) pw_1504 rfl dX12_waitsFor_11 ?_
  refine lv_aload_n hx hb dX12_waitsFor_14 rfl (lv_at hl 0 rfl) ?_
  refine r_get (v := .int (nI wn)) hx hb hown hq hE hP 115 713 tFX12_115 (by decide) pw_1970 rfl dX12_waitsFor_15 ?_
  refine lv_iload_n hx hb dX12_waitsFor_18 rfl (lv_at hl 3 rfl) ?_
  refine r_sti (f := wv) (j := wn) hx hb hE hP hD hS 71 (ma_71 G a _) rfl (mas_71 G a _) (by omega) (by decide) dX12_waitsFor_19 (fun H locs hP hD hS => ?_)
  refine lv_aload_n hx hb dX12_waitsFor_20 rfl (lv_at hl 0 rfl) ?_
  refine r_get (v := .ref (a 72)) hx hb hown hq hE hP 114 230 tFX12_114 (by decide) pw_1505 rfl dX12_waitsFor_21 ?_
  refine lv_aload_n hx hb dX12_waitsFor_24 rfl (lv_at hl 0 rfl) ?_
  refine r_get (v := .int (nI wn)) hx hb hown hq hE hP 115 713 tFX12_115 (by decide) pw_1970 rfl dX12_waitsFor_25 ?_
  refine lv_iload hx hb dX12_waitsFor_28 (lv_at hl 4 rfl) ?_
  refine r_stz (f := wf) (j := wn) hx hb hE hP hD hS 72 (ma_72 G a _) rfl (mas_72 G a _) (by omega) (by decide) dX12_waitsFor_30 (fun H locs hP hD hS => ?_)
  refine lv_aload_n hx hb dX12_waitsFor_31 rfl (lv_at hl 0 rfl) ?_
  refine lv_dup hx hb dX12_waitsFor_32 rfl ?_
  refine r_get (v := .int (nI wn)) hx hb hown hq hE hP 115 713 tFX12_115 (by decide) pw_1970 rfl dX12_waitsFor_33 ?_
  refine lv_iconst (v := 1) hx hb dX12_waitsFor_36 (by decide) ?_
  refine lv_iadd hx hb dX12_waitsFor_37 ?_
  refine lv_topi (fun x1 e2 => ?_)
  obtain rfl : x1 = nI (wn + 1) := e2.trans (nI_add (wn) (1))
  refine r_put (v := (nI (wn + 1))) (ty := .int) hx hb hown hq hE hP hD hS 115 713 tFX12_115 (by decide) pw_1970 (by decide) rfl rfl (ms_115 a _ _) dX12_waitsFor_38 (fun H locs hP hD hS => ?_)
  refine lv_aload_n hx hb dX12_waitsFor_41 rfl (lv_at hl 0 rfl) ?_
  refine r_get (v := .ref (a 63)) hx hb hown hq hE hP 104 202 tFX12_104 (by decide) pw_1495 rfl dX12_waitsFor_42 ?_
  refine lv_aload_n hx hb dX12_waitsFor_45 rfl (lv_at hl 0 rfl) ?_
  refine r_get (v := .int (nI op)) hx hb hown hq hE hP 102 707 tFX12_102 (by decide) pw_1969 rfl dX12_waitsFor_46 ?_
  refine lv_iconst (v := 1) hx hb dX12_waitsFor_49 (by decide) ?_
  refine lv_isub hx hb dX12_waitsFor_50 ?_
  refine lv_topi (fun x3 e4 => ?_)
  obtain rfl : x3 = nI (op - 1) := e4.trans (nI_subN (a := 1) (b := op) (by omega))
  refine lv_aload_n hx hb dX12_waitsFor_51 rfl (lv_at hl 0 rfl) ?_
  refine r_get (v := .ref (a 18)) hx hb hown hq hE hP 26 65 tFX12_26 (by decide) pw_1448 rfl dX12_waitsFor_52 ?_
  refine lv_iload_n hx hb dX12_waitsFor_55 rfl (lv_at hl 1 rfl) ?_
  refine r_ldi (f := (B 18)) (j := n9) hx hb hE hP 18 (ma_18 G a _) rfl (by omega) (by decide) dX12_waitsFor_56 ?_
  refine r_sti (f := csc) (j := (op - 1)) hx hb hE hP hD hS 63 (ma_63 G a _) rfl (mas_63 G a _) (by omega) (by decide) dX12_waitsFor_57 (fun H locs hP hD hS => ?_)
  refine lv_aload_n hx hb dX12_waitsFor_58 rfl (lv_at hl 0 rfl) ?_
  refine lv_aload_n hx hb dX12_waitsFor_59 rfl (lv_at hl 0 rfl) ?_
  refine r_get (v := .ref (a 14)) hx hb hown hq hE hP 22 53 tFX12_22 (by decide) pw_1444 rfl dX12_waitsFor_60 ?_
  refine lv_iload_n hx hb dX12_waitsFor_63 rfl (lv_at hl 1 rfl) ?_
  refine r_ldi (f := (B 14)) (j := n9) hx hb hE hP 14 (ma_14 G a _) rfl (by omega) (by decide) dX12_waitsFor_64 ?_
  have hP : va_P G.1 pCl (mW G h0 a (upd (upd F 102 (nI op)) 115 (nI (wn + 1))) (updA (updA (updA (updA B 63 (upd csc (op - 1) ((B 18) n9))) 70 (upd wk wn kd)) 71 (upd wv wn x)) 72 (upd wf wn (vp_nar .boolean (nI b9))))) _ := mW_to (F := F) (l1 := [(102, (nI op)), (115, (nI wn)), (115, (nI (wn + 1)))]) (l2 := [(102, (nI op)), (115, (nI (wn + 1)))]) (V := [(nI op), (nI (wn + 1)), (nI (wn + 1)), (nI op), (nI (wn + 1))]) rfl rfl (show (updA (updA (updA (updA (updA (updA (updA (updA B 63 csc) 70 wk) 71 wv) 72 wf) 70 (upd wk wn kd)) 71 (upd wv wn x)) 72 (upd wf wn (vp_nar .boolean (nI b9)))) 63 (upd csc (op - 1) ((B 18) n9))) = (updA (updA (updA (updA B 63 (upd csc (op - 1) ((B 18) n9))) 70 (upd wk wn kd)) 71 (upd wv wn x)) 72 (upd wf wn (vp_nar .boolean (nI b9)))) from updsA_eq2 (F := B) (l1 := [(63, csc), (70, wk), (71, wv), (72, wf), (70, (upd wk wn kd)), (71, (upd wv wn x)), (72, (upd wf wn (vp_nar .boolean (nI b9)))), (63, (upd csc (op - 1) ((B 18) n9)))]) (l2 := [(63, (upd csc (op - 1) ((B 18) n9))), (70, (upd wk wn kd)), (71, (upd wv wn x)), (72, (upd wf wn (vp_nar .boolean (nI b9))))]) (V := [(upd csc (op - 1) ((B 18) n9)), (upd wk wn kd), (upd wv wn x), (upd wf wn (vp_nar .boolean (nI b9))), (upd wk wn kd), (upd wv wn x), (upd wf wn (vp_nar .boolean (nI b9))), (upd csc (op - 1) ((B 18) n9)), (upd csc (op - 1) ((B 18) n9)), (upd wk wn kd), (upd wv wn x), (upd wf wn (vp_nar .boolean (nI b9)))]) rfl rfl) hP
  have hD : va_D A (mW G h0 a (upd (upd F 102 (nI op)) 115 (nI (wn + 1))) (updA (updA (updA (updA B 63 (upd csc (op - 1) ((B 18) n9))) 70 (upd wk wn kd)) 71 (upd wv wn x)) 72 (upd wf wn (vp_nar .boolean (nI b9))))) := mW_D hD
  refine pc_V0 (G := G) (As := [.int ((B 14) n9)]) (rest := []) hx hb hml hown hq hE hX pX0_al hP hD hS hA hl.1 (R_begin l G h0 a (upd (upd F 102 (nI op)) 115 (nI (wn + 1))) (updA (updA (updA (updA B 63 (upd csc (op - 1) ((B 18) n9))) 70 (upd wk wn kd)) 71 (upd wv wn x)) 72 (upd wf wn (vp_nar .boolean (nI b9)))) ((B 14) n9)) (gV pw_2016 pw_2017 pw_2018 pw_1523 pw_2002) hV_X12_begin 0 9 rfl rfl rfl rfl (Nat.le_of_ble_eq_true rfl) dX12_waitsFor_65 ⟨Nat.le_of_ble_eq_true rfl, Nat.le_of_ble_eq_true rfl⟩ ⟨Nat.le_of_ble_eq_true rfl, Nat.le_of_ble_eq_true rfl⟩ (fun v7 u5 H locs hw6 hP hD hS => ?_)
  obtain rfl : v7 = none := hw6
  have hP : va_P G.1 pCl (mW G h0 a (upd (upd (upd (upd F 102 (nI op)) 115 (nI (wn + 1))) 125 ((B 14) n9)) 126 1) (updA (updA (updA (updA B 63 (upd csc (op - 1) ((B 18) n9))) 70 (upd wk wn kd)) 71 (upd wv wn x)) 72 (upd wf wn (vp_nar .boolean (nI b9))))) _ := hP
  have hD : va_D A (mW G h0 a (upd (upd (upd (upd F 102 (nI op)) 115 (nI (wn + 1))) 125 ((B 14) n9)) 126 1) (updA (updA (updA (updA B 63 (upd csc (op - 1) ((B 18) n9))) 70 (upd wk wn kd)) 71 (upd wv wn x)) 72 (upd wf wn (vp_nar .boolean (nI b9))))) := mW_D hD
  refine W.widen (k := 0) (n := 0) (Nat.le_of_ble_eq_true rfl) (Nat.le_of_ble_eq_true rfl) ?_
  refine W.eq (g2 := F0 m 68 ls []) rfl ?_
  have hz8 : (upd wf wn (vp_nar .boolean (nI b9))) = upd wf wn (nI b9) := (by rw [vp_bit hb9])
  have hP : va_P G.1 pCl (mW G h0 a (upd (upd (upd (upd F 102 (nI op)) 115 (nI (wn + 1))) 125 (B 14 n9)) 126 1) (updA (updA (updA (updA B 63 (upd csc (op - 1) (B 18 n9))) 70 (upd wk wn kd)) 71 (upd wv wn x)) 72 (upd wf wn (vp_nar .boolean (nI b9))))) _ := mW_to (F := F) (l1 := [(102, (nI op)), (115, (nI (wn + 1))), (125, ((B 14) n9)), (126, 1)]) (l2 := [(102, (nI op)), (115, (nI (wn + 1))), (125, (B 14 n9)), (126, 1)]) (V := [(nI op), (nI (wn + 1)), (B 14 n9), 1, (nI op), (nI (wn + 1)), (B 14 n9), 1]) rfl rfl (show (updA (updA (updA (updA B 63 (upd csc (op - 1) ((B 18) n9))) 70 (upd wk wn kd)) 71 (upd wv wn x)) 72 (upd wf wn (vp_nar .boolean (nI b9)))) = (updA (updA (updA (updA B 63 (upd csc (op - 1) (B 18 n9))) 70 (upd wk wn kd)) 71 (upd wv wn x)) 72 (upd wf wn (vp_nar .boolean (nI b9)))) from updsA_eq2 (F := B) (l1 := [(63, (upd csc (op - 1) ((B 18) n9))), (70, (upd wk wn kd)), (71, (upd wv wn x)), (72, (upd wf wn (vp_nar .boolean (nI b9))))]) (l2 := [(63, (upd csc (op - 1) (B 18 n9))), (70, (upd wk wn kd)), (71, (upd wv wn x)), (72, (upd wf wn (vp_nar .boolean (nI b9))))]) (V := [(upd csc (op - 1) (B 18 n9)), (upd wk wn kd), (upd wv wn x), (upd wf wn (vp_nar .boolean (nI b9))), (upd csc (op - 1) (B 18 n9)), (upd wk wn kd), (upd wv wn x), (upd wf wn (vp_nar .boolean (nI b9)))]) rfl rfl) hP
  have hD : va_D A (mW G h0 a (upd (upd (upd (upd F 102 (nI op)) 115 (nI (wn + 1))) 125 (B 14 n9)) 126 1) (updA (updA (updA (updA B 63 (upd csc (op - 1) (B 18 n9))) 70 (upd wk wn kd)) 71 (upd wv wn x)) 72 (upd wf wn (vp_nar .boolean (nI b9))))) := mW_D hD
  exact W.vret hx hb hr (fun t9 ht9 hW9 => ⟨⟨_, (upd wf wn (vp_nar .boolean (nI b9))), rfl, ⟨rfl, hz8⟩, by rw [ht9]; exact hP, hD⟩, hS.F ht9⟩) hS.2.2 dX12_waitsFor_68
theorem dX12_returns_0 : decode cX12_returns 0 = .ok (.aload_n 0, 1) := by decide +kernel
theorem dX12_returns_1 : decode cX12_returns 1 = .ok (.dup, 1) := by decide +kernel
theorem dX12_returns_2 : decode cX12_returns 2 = .ok (.getfield 707, 3) := by decide +kernel
theorem dX12_returns_5 : decode cX12_returns 5 = .ok (.iconst 1, 1) := by decide +kernel
theorem dX12_returns_6 : decode cX12_returns 6 = .ok (.isub, 1) := by decide +kernel
theorem dX12_returns_7 : decode cX12_returns 7 = .ok (.putfield 707, 3) := by decide +kernel
theorem dX12_returns_10 : decode cX12_returns 10 = .ok (.aload_n 0, 1) := by decide +kernel
theorem dX12_returns_11 : decode cX12_returns 11 = .ok (.aload_n 0, 1) := by decide +kernel
theorem dX12_returns_12 : decode cX12_returns 12 = .ok (.getfield 205, 3) := by decide +kernel
theorem dX12_returns_15 : decode cX12_returns 15 = .ok (.aload_n 0, 1) := by decide +kernel
theorem dX12_returns_16 : decode cX12_returns 16 = .ok (.getfield 707, 3) := by decide +kernel
theorem dX12_returns_19 : decode cX12_returns 19 = .ok (.iaload, 1) := by decide +kernel
theorem dX12_returns_20 : decode cX12_returns 20 = .ok (.putfield 698, 3) := by decide +kernel
theorem dX12_returns_23 : decode cX12_returns 23 = .ok (.aload_n 0, 1) := by decide +kernel
theorem dX12_returns_24 : decode cX12_returns 24 = .ok (.getfield 208, 3) := by decide +kernel
theorem dX12_returns_27 : decode cX12_returns 27 = .ok (.aload_n 0, 1) := by decide +kernel
theorem dX12_returns_28 : decode cX12_returns 28 = .ok (.getfield 707, 3) := by decide +kernel
theorem dX12_returns_31 : decode cX12_returns 31 = .ok (.iaload, 1) := by decide +kernel
theorem dX12_returns_32 : decode cX12_returns 32 = .ok (.istore_n 3, 1) := by decide +kernel
theorem dX12_returns_33 : decode cX12_returns 33 = .ok (.iload_n 3, 1) := by decide +kernel
theorem dX12_returns_34 : decode cX12_returns 34 = .ok (.iconst (-1), 1) := by decide +kernel
theorem dX12_returns_35 : decode cX12_returns 35 = .ok (.if_icmp .ne 14, 3) := by decide +kernel
theorem dX12_returns_38 : decode cX12_returns 38 = .ok (.aload_n 0, 1) := by decide +kernel
theorem dX12_returns_39 : decode cX12_returns 39 = .ok (.iconst 0, 1) := by decide +kernel
theorem dX12_returns_40 : decode cX12_returns 40 = .ok (.putfield 233, 3) := by decide +kernel
theorem dX12_returns_43 : decode cX12_returns 43 = .ok (.aload_n 0, 1) := by decide +kernel
theorem dX12_returns_44 : decode cX12_returns 44 = .ok (.iload_n 1, 1) := by decide +kernel
theorem dX12_returns_45 : decode cX12_returns 45 = .ok (.putfield 763, 3) := by decide +kernel
theorem dX12_returns_48 : decode cX12_returns 48 = .ok (.return_, 1) := by decide +kernel
theorem dX12_returns_49 : decode cX12_returns 49 = .ok (.aload_n 0, 1) := by decide +kernel
theorem dX12_returns_50 : decode cX12_returns 50 = .ok (.getfield 62, 3) := by decide +kernel
theorem dX12_returns_53 : decode cX12_returns 53 = .ok (.iload_n 3, 1) := by decide +kernel
theorem dX12_returns_54 : decode cX12_returns 54 = .ok (.iaload, 1) := by decide +kernel
theorem dX12_returns_55 : decode cX12_returns 55 = .ok (.ifCond .eq 9, 3) := by decide +kernel
theorem dX12_returns_64 : decode cX12_returns 64 = .ok (.aload_n 0, 1) := by decide +kernel
theorem dX12_returns_65 : decode cX12_returns 65 = .ok (.iload_n 3, 1) := by decide +kernel
theorem dX12_returns_66 : decode cX12_returns 66 = .ok (.invokevirtual 760, 3) := by decide +kernel
theorem dX12_returns_69 : decode cX12_returns 69 = .ok (.return_, 1) := by decide +kernel
theorem dX12_returns_58 : decode cX12_returns 58 = .ok (.aload_n 0, 1) := by decide +kernel
theorem dX12_returns_59 : decode cX12_returns 59 = .ok (.iload_n 1, 1) := by decide +kernel
theorem dX12_returns_60 : decode cX12_returns 60 = .ok (.iload_n 2, 1) := by decide +kernel
theorem dX12_returns_61 : decode cX12_returns 61 = .ok (.invokevirtual 757, 3) := by decide +kernel
set_option maxHeartbeats 2000000 in
set_option maxRecDepth 100000 in
/-- returns(value, isReference) -/
theorem R_returns (l : Launch) (G : pT) (h0 : Nat) (a : Nat → Nat) (F : Nat → Int32) (B : Nat → Nat → Int32) (op : Nat) (b9 : Nat) (tb : Nat) (x : Int32) (en : Int32) (rs0 : Int32) (nw : Int32) (isn : Int32) (stk : Nat → Int32) (rfr : Nat → Int32) (hop : 1 ≤ op ∧ op ≤ 100) (hb9 : b9 ≤ 1) (hcv : B 64 (op - 1) = nI tb) (htb : tb < 40000) (hcn : B 65 (op - 1) = -1 ∨ ∃ n : Nat, n < 12000 ∧ B 65 (op - 1) = nI n) : PM l G pX0 yX12_returns cX12_returns 4 none ({ frames := 3, cells := 0, slots := 0, locals := 82 }) [.ref h0, .int x, .int (nI b9)] (mW G h0 a (upd (upd (upd (upd (upd F 102 (nI op)) 116 en) 118 rs0) 125 nw) 126 isn) (updA (updA B 68 stk) 69 rfr)) (fun (v : Option Value) (u : Nat × Int32 × Int32 × Int32 × Int32 × (Nat → Int32) × (Nat → Int32)) => v = none ∧ (If (B 65 (op - 1) = -1) (u.2.1 = 0 ∧ u.2.2.1 = x ∧ u.2.2.2.2.2.1 = stk ∧ u.2.2.2.2.2.2 = rfr ∧ u.1 = tb)) ∧ (∀ n : Nat, n < 12000 → B 65 (op - 1) = nI n → u.2.1 = en ∧ u.2.2.2.1 = nI n ∧ u.2.2.2.2.1 = 0 ∧ ((B 17 n = 0 ∧ u.1 = tb ∧ u.2.2.2.2.2.1 = stk ∧ u.2.2.2.2.2.2 = rfr) ∨ (¬ B 17 n = 0 ∧ u.1 = tb + 1 ∧ u.2.2.2.2.2.1 = upd stk tb x ∧ u.2.2.2.2.2.2 = upd rfr tb (nI b9))))) (fun u => (mW G h0 a (upd (upd (upd (upd (upd (upd F 102 (nI (op - 1))) 111 (nI u.1)) 116 u.2.1) 118 u.2.2.1) 125 u.2.2.2.1) 126 u.2.2.2.2.1) (updA (updA B 68 u.2.2.2.2.2.1) 69 u.2.2.2.2.2.2))) := by
  intro sz
  refine Met.ofW (cc := cX12_returns) (maxL := 4) (ret := none) (by decide) rfl ?_
  intro p e s m args below meth c s₁ B9 hml hv
  obtain ⟨rfl, hsz, hP, hD0, hE, hX⟩ := hv
  have hx := B9.exec
  have hb := B9.bytes
  have hr := B9.returns
  have hts := atoms_spec (ws := Cond.code yX12_returns cX12_returns 4 none :: pw) B9.pre
  have hq : ∀ w ∈ pw, w.before _ s = true := fun w h => hts w (List.mem_cons_of_mem _ h)
  have hown : s.vm.findClass RX12 = some m.cls := findClass_of_methodNamed B9.named
  have hlocks := B9.notSynchronized
  subst hsz
  have hD := hD0.self (sz := s.heap.size)
  have hA : ∀ q : Nat, s.heap.size ≤ q → va_A (mW G h0 a (upd (upd (upd (upd (upd F 102 (nI op)) 116 en) 118 rs0) 125 nw) 126 isn) (updA (updA B 68 stk) 69 rfr)) s.heap.size q := fun q h => Or.inr h
  have hP : va_P G.1 pCl (mW G h0 a (upd (upd (upd (upd (upd F 102 (nI op)) 116 en) 118 rs0) 125 nw) 126 isn) (updA (updA B 68 stk) 69 rfr)) s.heap := hP
  generalize va_A (mW G h0 a (upd (upd (upd (upd (upd F 102 (nI op)) 116 en) 118 rs0) 125 nw) 126 isn) (updA (updA B 68 stk) 69 rfr)) s.heap.size = A at hD hE hA ⊢
  have hS : va_S A s.heap s.heap [] := va_S.rf
  have hl := lv_entry ([.ref h0, .int x, .int (nI b9)]) (n := 4) (Nat.le_of_ble_eq_true rfl)
  rw [lg_entry_eq]
  generalize (lg_sl ([.ref h0, .int x, .int (nI b9)]) ++ List.replicate (4 - (lg_sl ([.ref h0, .int x, .int (nI b9)])).length) Slot.unset).toArray = ls at hl ⊢
  have hl : lv_has ls 4 [(0, .ref h0), (1, .int x), (2, .int (nI b9))] := hl
  refine lv_aload_n hx hb dX12_returns_0 rfl (lv_at hl 0 rfl) ?_
  refine lv_dup hx hb dX12_returns_1 rfl ?_
  refine r_get (v := .int (nI op)) hx hb hown hq hE hP 102 707 tFX12_102 (by decide) pw_1969 rfl dX12_returns_2 ?_
  refine lv_iconst (v := 1) hx hb dX12_returns_5 (by decide) ?_
  refine lv_isub hx hb dX12_returns_6 ?_
  refine lv_topi (fun x1 e2 => ?_)
  obtain rfl : x1 = nI (op - 1) := e2.trans (nI_subN (a := 1) (b := op) (by omega))
  refine r_put (v := (nI (op - 1))) (ty := .int) hx hb hown hq hE hP hD hS 102 707 tFX12_102 (by decide) pw_1969 (by decide) rfl rfl (ms_102 a _ _) dX12_returns_7 (fun H locs hP hD hS => ?_)
  refine lv_aload_n hx hb dX12_returns_10 rfl (lv_at hl 0 rfl) ?_
  refine lv_aload_n hx hb dX12_returns_11 rfl (lv_at hl 0 rfl) ?_
  refine r_get (v := .ref (a 64)) hx hb hown hq hE hP 105 205 tFX12_105 (by decide) pw_1496 rfl dX12_returns_12 ?_
  refine lv_aload_n hx hb dX12_returns_15 rfl (lv_at hl 0 rfl) ?_
  refine r_get (v := .int (nI (op - 1))) hx hb hown hq hE hP 102 707 tFX12_102 (by decide) pw_1969 rfl dX12_returns_16 ?_
  refine r_ldi (f := (B 64)) (j := (op - 1)) hx hb hE hP 64 (ma_64 G a _) rfl (by omega) (by decide) dX12_returns_19 ?_
  refine lv_topi (fun x3 e4 => ?_)
  obtain rfl : x3 = nI tb := e4.trans hcv
  refine r_put (v := (nI tb)) (ty := .int) hx hb hown hq hE hP hD hS 111 698 tFX12_111 (by decide) pw_1964 (by decide) rfl rfl (ms_111 a _ _) dX12_returns_20 (fun H locs hP hD hS => ?_)
  refine lv_aload_n hx hb dX12_returns_23 rfl (lv_at hl 0 rfl) ?_
  refine r_get (v := .ref (a 65)) hx hb hown hq hE hP 106 208 tFX12_106 (by decide) pw_1497 rfl dX12_returns_24 ?_
  refine lv_aload_n hx hb dX12_returns_27 rfl (lv_at hl 0 rfl) ?_
  refine r_get (v := .int (nI (op - 1))) hx hb hown hq hE hP 102 707 tFX12_102 (by decide) pw_1969 rfl dX12_returns_28 ?_
  refine r_ldi (f := (B 65)) (j := (op - 1)) hx hb hE hP 65 (ma_65 G a _) rfl (by omega) (by decide) dX12_returns_31 ?_
  rcases hcn with e5 | ⟨n6, h7, e8⟩
  · refine lv_topi (fun x9 e10 => ?_)
    obtain rfl : x9 = (-1) := e10.trans e5
    refine lv_istore_n (lv' := [(3, .int (-1)), (0, .ref h0), (1, .int x), (2, .int (nI b9))]) hx hb dX12_returns_32 rfl hl (by decide) rfl (fun ls hl => ?_)
    refine lv_iload_n hx hb dX12_returns_33 rfl (lv_at hl 0 rfl) ?_
    refine lv_iconst (v := (-1)) hx hb dX12_returns_34 (by decide) ?_
    refine lv_icmp_ne (tgt := 49) hx hb dX12_returns_35 (by decide) (fun c11 => absurd c11 (by decide)) (fun c11 => ?_)
    refine lv_aload_n hx hb dX12_returns_38 rfl (lv_at hl 1 rfl) ?_
    refine lv_iconst (v := 0) hx hb dX12_returns_39 (by decide) ?_
    refine r_put (v := 0) (ty := .int) hx hb hown hq hE hP hD hS 116 233 tFX12_116 (by decide) pw_1506 (by decide) rfl rfl (ms_116 a _ _) dX12_returns_40 (fun H locs hP hD hS => ?_)
    refine lv_aload_n hx hb dX12_returns_43 rfl (lv_at hl 1 rfl) ?_
    refine lv_iload_n hx hb dX12_returns_44 rfl (lv_at hl 2 rfl) ?_
    refine r_put (v := x) (ty := .int) hx hb hown hq hE hP hD hS 118 763 tFX12_118 (by decide) pw_2022 (by decide) rfl rfl (ms_118 a _ _) dX12_returns_45 (fun H locs hP hD hS => ?_)
    have hz12 : If (B 65 (op - 1) = -1) ((0 : Int32) = 0 ∧ x = x ∧ stk = stk ∧ rfr = rfr ∧ tb = tb) := (fun _ => ⟨rfl, rfl, rfl, rfl, rfl⟩)
    have hz13 : ∀ n : Nat, n < 12000 → B 65 (op - 1) = nI n → (0 : Int32) = en ∧ nw = nI n ∧ isn = 0 ∧ ((B 17 n = 0 ∧ tb = tb ∧ stk = stk ∧ rfr = rfr) ∨ (¬ B 17 n = 0 ∧ tb = tb + 1 ∧ stk = upd stk tb x ∧ rfr = upd rfr tb (nI b9))) := (fun n h e => absurd (e5.symm.trans e).symm (nI_m1 (by omega)))
    have hP : va_P G.1 pCl (mW G h0 a (upd (upd (upd (upd (upd (upd F 102 (nI (op - 1))) 111 (nI tb)) 116 (0 : Int32)) 118 x) 125 nw) 126 isn) (updA (updA B 68 stk) 69 rfr)) _ := mW_to (F := F) (l1 := [(102, (nI op)), (116, en), (118, rs0), (125, nw), (126, isn), (102, (nI (op - 1))), (111, (nI tb)), (116, 0), (118, x)]) (l2 := [(102, (nI (op - 1))), (111, (nI tb)), (116, (0 : Int32)), (118, x), (125, nw), (126, isn)]) (V := [(nI (op - 1)), (0 : Int32), x, nw, isn, (nI (op - 1)), (nI tb), (0 : Int32), x, (nI (op - 1)), (nI tb), (0 : Int32), x, nw, isn]) rfl rfl rfl hP
    have hD : va_D A (mW G h0 a (upd (upd (upd (upd (upd (upd F 102 (nI (op - 1))) 111 (nI tb)) 116 (0 : Int32)) 118 x) 125 nw) 126 isn) (updA (updA B 68 stk) 69 rfr)) := mW_D hD
    exact W.vret hx hb hr (fun t9 ht9 hW9 => ⟨⟨_, (tb, (0 : Int32), x, nw, isn, stk, rfr), rfl, ⟨rfl, hz12, hz13⟩, by rw [ht9]; exact hP, hD⟩, hS.F ht9⟩) hS.2.2 dX12_returns_48
  · refine lv_topi (fun x14 e15 => ?_)
    obtain rfl : x14 = nI n6 := e15.trans e8
    refine lv_istore_n (lv' := [(3, .int (nI n6)), (0, .ref h0), (1, .int x), (2, .int (nI b9))]) hx hb dX12_returns_32 rfl hl (by decide) rfl (fun ls hl => ?_)
    refine lv_iload_n hx hb dX12_returns_33 rfl (lv_at hl 0 rfl) ?_
    refine lv_iconst (v := (-1)) hx hb dX12_returns_34 (by decide) ?_
    refine lv_icmp_ne (tgt := 49) hx hb dX12_returns_35 (by decide) (fun c16 => ?_) (fun c16 => absurd c16 (nI_m1 (by omega)))
    refine lv_aload_n hx hb dX12_returns_49 rfl (lv_at hl 1 rfl) ?_
    refine r_get (v := .ref (a 17)) hx hb hown hq hE hP 25 62 tFX12_25 (by decide) pw_1447 rfl dX12_returns_50 ?_
    refine lv_iload_n hx hb dX12_returns_53 rfl (lv_at hl 0 rfl) ?_
    refine r_ldi (f := (B 17)) (j := n6) hx hb hE hP 17 (ma_17 G a _) rfl (by omega) (by decide) dX12_returns_54 ?_
    refine lv_if_eq (tgt := 64) hx hb dX12_returns_55 (by decide) (fun c17 => ?_) (fun c17 => ?_)
    · refine lv_aload_n hx hb dX12_returns_64 rfl (lv_at hl 1 rfl) ?_
      refine lv_iload_n hx hb dX12_returns_65 rfl (lv_at hl 0 rfl) ?_
      have hP : va_P G.1 pCl (mW G h0 a (upd (upd (upd (upd (upd (upd F 102 (nI (op - 1))) 111 (nI tb)) 116 en) 118 rs0) 125 nw) 126 isn) (updA (updA B 68 stk) 69 rfr)) _ := mW_to (F := F) (l1 := [(102, (nI op)), (116, en), (118, rs0), (125, nw), (126, isn), (102, (nI (op - 1))), (111, (nI tb))]) (l2 := [(102, (nI (op - 1))), (111, (nI tb)), (116, en), (118, rs0), (125, nw), (126, isn)]) (V := [(nI (op - 1)), en, rs0, nw, isn, (nI (op - 1)), (nI tb), (nI (op - 1)), (nI tb), en, rs0, nw, isn]) rfl rfl rfl hP
      have hD : va_D A (mW G h0 a (upd (upd (upd (upd (upd (upd F 102 (nI (op - 1))) 111 (nI tb)) 116 en) 118 rs0) 125 nw) 126 isn) (updA (updA B 68 stk) 69 rfr)) := mW_D hD
      refine pc_V0 (G := G) (As := [.int (nI n6)]) (rest := []) hx hb hml hown hq hE hX pX0_al hP hD hS hA hl.1 (R_comesToEnd l G h0 a (upd (upd (upd (upd (upd (upd F 102 (nI (op - 1))) 111 (nI tb)) 116 en) 118 rs0) 125 nw) 126 isn) (updA (updA B 68 stk) 69 rfr) (nI n6)) (gV pw_2010 pw_2011 pw_2012 pw_1523 pw_2005) hV_X12_comesToEnd 0 9 rfl rfl rfl rfl (Nat.le_of_ble_eq_true rfl) dX12_returns_66 ⟨Nat.le_of_ble_eq_true rfl, Nat.le_of_ble_eq_true rfl⟩ ⟨Nat.le_of_ble_eq_true rfl, Nat.le_of_ble_eq_true rfl⟩ (fun v20 u18 H locs hw19 hP hD hS => ?_)
      obtain rfl : v20 = none := hw19
      have hP : va_P G.1 pCl (mW G h0 a (upd (upd (upd (upd (upd (upd F 102 (nI (op - 1))) 111 (nI tb)) 116 en) 118 rs0) 125 (nI n6)) 126 0) (updA (updA B 68 stk) 69 rfr)) _ := mW_to (F := F) (l1 := [(102, (nI (op - 1))), (111, (nI tb)), (116, en), (118, rs0), (125, nw), (126, isn), (125, (nI n6)), (126, 0)]) (l2 := [(102, (nI (op - 1))), (111, (nI tb)), (116, en), (118, rs0), (125, (nI n6)), (126, 0)]) (V := [(nI (op - 1)), (nI tb), en, rs0, (nI n6), 0, (nI n6), 0, (nI (op - 1)), (nI tb), en, rs0, (nI n6), 0]) rfl rfl rfl hP
      have hD : va_D A (mW G h0 a (upd (upd (upd (upd (upd (upd F 102 (nI (op - 1))) 111 (nI tb)) 116 en) 118 rs0) 125 (nI n6)) 126 0) (updA (updA B 68 stk) 69 rfr)) := mW_D hD
      refine W.widen (k := 0) (n := 0) (Nat.le_of_ble_eq_true rfl) (Nat.le_of_ble_eq_true rfl) ?_
      refine W.eq (g2 := F0 m 69 ls []) rfl ?_
      have hz21 : If (B 65 (op - 1) = -1) (en = 0 ∧ rs0 = x ∧ stk = stk ∧ rfr = rfr ∧ tb = tb) := (fun e => absurd (e8.symm.trans e) (nI_m1 (by omega)))
      have hz22 : ∀ n : Nat, n < 12000 → B 65 (op - 1) = nI n → en = en ∧ (nI n6) = nI n ∧ (0 : Int32) = 0 ∧ ((B 17 n = 0 ∧ tb = tb ∧ stk = stk ∧ rfr = rfr) ∨ (¬ B 17 n = 0 ∧ tb = tb + 1 ∧ stk = upd stk tb x ∧ rfr = upd rfr tb (nI b9))) := (fun n h e => by have z : n6 = n := (nI_eq (by omega) (by omega)).mp (e8.symm.trans e); subst z; exact ⟨rfl, rfl, rfl, Or.inl ⟨c17, rfl, rfl, rfl⟩⟩)
      have hP : va_P G.1 pCl (mW G h0 a (upd (upd (upd (upd (upd (upd F 102 (nI (op - 1))) 111 (nI tb)) 116 en) 118 rs0) 125 (nI n6)) 126 (0 : Int32)) (updA (updA B 68 stk) 69 rfr)) _ := hP
      have hD : va_D A (mW G h0 a (upd (upd (upd (upd (upd (upd F 102 (nI (op - 1))) 111 (nI tb)) 116 en) 118 rs0) 125 (nI n6)) 126 (0 : Int32)) (updA (updA B 68 stk) 69 rfr)) := mW_D hD
      exact W.vret hx hb hr (fun t9 ht9 hW9 => ⟨⟨_, (tb, en, rs0, (nI n6), (0 : Int32), stk, rfr), rfl, ⟨rfl, hz21, hz22⟩, by rw [ht9]; exact hP, hD⟩, hS.F ht9⟩) hS.2.2 dX12_returns_69
    · refine lv_aload_n hx hb dX12_returns_58 rfl (lv_at hl 1 rfl) ?_
      refine lv_iload_n hx hb dX12_returns_59 rfl (lv_at hl 2 rfl) ?_
      refine lv_iload_n hx hb dX12_returns_60 rfl (lv_at hl 3 rfl) ?_
      have hP : va_P G.1 pCl (mW G h0 a (upd (upd (upd (upd (upd (upd (upd F 102 (nI (op - 1))) 111 (nI tb)) 116 en) 118 rs0) 125 nw) 126 isn) 111 (nI tb)) (updA (updA (updA (updA B 68 stk) 69 rfr) 68 stk) 69 rfr)) _ := mW_to (F := F) (l1 := [(102, (nI op)), (116, en), (118, rs0), (125, nw), (126, isn), (102, (nI (op - 1))), (111, (nI tb))]) (l2 := [(102, (nI (op - 1))), (111, (nI tb)), (116, en), (118, rs0), (125, nw), (126, isn), (111, (nI tb))]) (V := [(nI (op - 1)), en, rs0, nw, isn, (nI (op - 1)), (nI tb), (nI (op - 1)), (nI tb), en, rs0, nw, isn, (nI tb)]) rfl rfl (show (updA (updA B 68 stk) 69 rfr) = (updA (updA (updA (updA B 68 stk) 69 rfr) 68 stk) 69 rfr) from updsA_eq2 (F := B) (l1 := [(68, stk), (69, rfr)]) (l2 := [(68, stk), (69, rfr), (68, stk), (69, rfr)]) (V := [stk, rfr, stk, rfr, stk, rfr]) rfl rfl) hP
      have hD : va_D A (mW G h0 a (upd (upd (upd (upd (upd (upd (upd F 102 (nI (op - 1))) 111 (nI tb)) 116 en) 118 rs0) 125 nw) 126 isn) 111 (nI tb)) (updA (updA (updA (updA B 68 stk) 69 rfr) 68 stk) 69 rfr)) := mW_D hD
      refine pc_V0 (G := G) (As := [.int x, .int (nI b9)]) (rest := []) hx hb hml hown hq hE hX pX0_al hP hD hS hA hl.1 (R_push l G h0 a (upd (upd (upd (upd (upd (upd F 102 (nI (op - 1))) 111 (nI tb)) 116 en) 118 rs0) 125 nw) 126 isn) (updA (updA B 68 stk) 69 rfr) x b9 tb stk rfr (by omega) (by omega)) (gV pw_2007 pw_2008 pw_2009 pw_1523 pw_1963) hV_X12_push 0 9 rfl rfl rfl rfl (Nat.le_of_ble_eq_true rfl) dX12_returns_61 ⟨Nat.le_of_ble_eq_true rfl, Nat.le_of_ble_eq_true rfl⟩ ⟨Nat.le_of_ble_eq_true rfl, Nat.le_of_ble_eq_true rfl⟩ (fun v25 u23 H locs hw24 hP hD hS => ?_)
      obtain ⟨rf26, rfl⟩ : ∃ z, z = u23 := ⟨_, rfl⟩
      obtain ⟨hw24, h27⟩ := hw24
      replace h27 : rf26 = upd rfr tb (nI b9) := h27
      obtain rfl : v25 = none := hw24
      have hP : va_P G.1 pCl (mW G h0 a (upd (upd (upd (upd (upd (upd F 102 (nI (op - 1))) 111 (nI (tb + 1))) 116 en) 118 rs0) 125 nw) 126 isn) (updA (updA B 68 (upd stk tb x)) 69 rf26)) _ := mW_to (F := F) (l1 := [(102, (nI (op - 1))), (111, (nI tb)), (116, en), (118, rs0), (125, nw), (126, isn), (111, (nI (tb + 1)))]) (l2 := [(102, (nI (op - 1))), (111, (nI (tb + 1))), (116, en), (118, rs0), (125, nw), (126, isn)]) (V := [(nI (op - 1)), (nI (tb + 1)), en, rs0, nw, isn, (nI (tb + 1)), (nI (op - 1)), (nI (tb + 1)), en, rs0, nw, isn]) rfl rfl (show (updA (updA (updA (updA B 68 stk) 69 rfr) 68 (upd stk tb x)) 69 rf26) = (updA (updA B 68 (upd stk tb x)) 69 rf26) from updsA_eq2 (F := B) (l1 := [(68, stk), (69, rfr), (68, (upd stk tb x)), (69, rf26)]) (l2 := [(68, (upd stk tb x)), (69, rf26)]) (V := [(upd stk tb x), rf26, (upd stk tb x), rf26, (upd stk tb x), rf26]) rfl rfl) hP
      have hD : va_D A (mW G h0 a (upd (upd (upd (upd (upd (upd F 102 (nI (op - 1))) 111 (nI (tb + 1))) 116 en) 118 rs0) 125 nw) 126 isn) (updA (updA B 68 (upd stk tb x)) 69 rf26)) := mW_D hD
      refine W.widen (k := 0) (n := 0) (Nat.le_of_ble_eq_true rfl) (Nat.le_of_ble_eq_true rfl) ?_
      refine W.eq (g2 := F0 m 64 ls []) rfl ?_
      refine lv_aload_n hx hb dX12_returns_64 rfl (lv_at hl 1 rfl) ?_
      refine lv_iload_n hx hb dX12_returns_65 rfl (lv_at hl 0 rfl) ?_
      have hP : va_P G.1 pCl (mW G h0 a (upd (upd (upd (upd (upd (upd F 102 (nI (op - 1))) 111 (nI (tb + 1))) 116 en) 118 rs0) 125 nw) 126 isn) (updA (updA B 68 (upd stk tb x)) 69 rf26)) _ := hP
      have hD : va_D A (mW G h0 a (upd (upd (upd (upd (upd (upd F 102 (nI (op - 1))) 111 (nI (tb + 1))) 116 en) 118 rs0) 125 nw) 126 isn) (updA (updA B 68 (upd stk tb x)) 69 rf26)) := mW_D hD
      refine pc_V0 (G := G) (As := [.int (nI n6)]) (rest := []) hx hb hml hown hq hE hX pX0_al hP hD hS hA hl.1 (R_comesToEnd l G h0 a (upd (upd (upd (upd (upd (upd F 102 (nI (op - 1))) 111 (nI (tb + 1))) 116 en) 118 rs0) 125 nw) 126 isn) (updA (updA B 68 (upd stk tb x)) 69 rf26) (nI n6)) (gV pw_2010 pw_2011 pw_2012 pw_1523 pw_2005) hV_X12_comesToEnd 0 9 rfl rfl rfl rfl (Nat.le_of_ble_eq_true rfl) dX12_returns_66 ⟨Nat.le_of_ble_eq_true rfl, Nat.le_of_ble_eq_true rfl⟩ ⟨Nat.le_of_ble_eq_true rfl, Nat.le_of_ble_eq_true rfl⟩ (fun v30 u28 H locs hw29 hP hD hS => ?_)
      obtain rfl : v30 = none := hw29
      have hP : va_P G.1 pCl (mW G h0 a (upd (upd (upd (upd (upd (upd F 102 (nI (op - 1))) 111 (nI (tb + 1))) 116 en) 118 rs0) 125 (nI n6)) 126 0) (updA (updA B 68 (upd stk tb x)) 69 rf26)) _ := mW_to (F := F) (l1 := [(102, (nI (op - 1))), (111, (nI (tb + 1))), (116, en), (118, rs0), (125, nw), (126, isn), (125, (nI n6)), (126, 0)]) (l2 := [(102, (nI (op - 1))), (111, (nI (tb + 1))), (116, en), (118, rs0), (125, (nI n6)), (126, 0)]) (V := [(nI (op - 1)), (nI (tb + 1)), en, rs0, (nI n6), 0, (nI n6), 0, (nI (op - 1)), (nI (tb + 1)), en, rs0, (nI n6), 0]) rfl rfl rfl hP
      have hD : va_D A (mW G h0 a (upd (upd (upd (upd (upd (upd F 102 (nI (op - 1))) 111 (nI (tb + 1))) 116 en) 118 rs0) 125 (nI n6)) 126 0) (updA (updA B 68 (upd stk tb x)) 69 rf26)) := mW_D hD
      refine W.widen (k := 0) (n := 0) (Nat.le_of_ble_eq_true rfl) (Nat.le_of_ble_eq_true rfl) ?_
      refine W.eq (g2 := F0 m 69 ls []) rfl ?_
      have hz31 : If (B 65 (op - 1) = -1) (en = 0 ∧ rs0 = x ∧ (upd stk tb x) = stk ∧ rf26 = rfr ∧ (tb + 1) = tb) := (fun e => absurd (e8.symm.trans e) (nI_m1 (by omega)))
      have hz32 : ∀ n : Nat, n < 12000 → B 65 (op - 1) = nI n → en = en ∧ (nI n6) = nI n ∧ (0 : Int32) = 0 ∧ ((B 17 n = 0 ∧ (tb + 1) = tb ∧ (upd stk tb x) = stk ∧ rf26 = rfr) ∨ (¬ B 17 n = 0 ∧ (tb + 1) = tb + 1 ∧ (upd stk tb x) = upd stk tb x ∧ rf26 = upd rfr tb (nI b9))) := (fun n h e => by have z : n6 = n := (nI_eq (by omega) (by omega)).mp (e8.symm.trans e); subst z; exact ⟨rfl, rfl, rfl, Or.inr ⟨c17, rfl, rfl, h27⟩⟩)
      have hP : va_P G.1 pCl (mW G h0 a (upd (upd (upd (upd (upd (upd F 102 (nI (op - 1))) 111 (nI (tb + 1))) 116 en) 118 rs0) 125 (nI n6)) 126 (0 : Int32)) (updA (updA B 68 (upd stk tb x)) 69 rf26)) _ := hP
      have hD : va_D A (mW G h0 a (upd (upd (upd (upd (upd (upd F 102 (nI (op - 1))) 111 (nI (tb + 1))) 116 en) 118 rs0) 125 (nI n6)) 126 (0 : Int32)) (updA (updA B 68 (upd stk tb x)) 69 rf26)) := mW_D hD
      exact W.vret hx hb hr (fun t9 ht9 hW9 => ⟨⟨_, ((tb + 1), en, rs0, (nI n6), (0 : Int32), (upd stk tb x), rf26), rfl, ⟨rfl, hz31, hz32⟩, by rw [ht9]; exact hP, hD⟩, hS.F ht9⟩) hS.2.2 dX12_returns_69
theorem dX12_catcher_0 : decode cX12_catcher 0 = .ok (.aload_n 0, 1) := by decide +kernel
theorem dX12_catcher_1 : decode cX12_catcher 1 = .ok (.iload_n 2, 1) := by decide +kernel
theorem dX12_catcher_2 : decode cX12_catcher 2 = .ok (.invokevirtual 745, 3) := by decide +kernel
theorem dX12_catcher_5 : decode cX12_catcher 5 = .ok (.istore_n 3, 1) := by decide +kernel
theorem dX12_catcher_6 : decode cX12_catcher 6 = .ok (.aload_n 0, 1) := by decide +kernel
theorem dX12_catcher_7 : decode cX12_catcher 7 = .ok (.getfield 50, 3) := by decide +kernel
theorem dX12_catcher_10 : decode cX12_catcher 10 = .ok (.iload_n 1, 1) := by decide +kernel
theorem dX12_catcher_11 : decode cX12_catcher 11 = .ok (.iaload, 1) := by decide +kernel
theorem dX12_catcher_12 : decode cX12_catcher 12 = .ok (.istore 4, 2) := by decide +kernel
theorem dX12_catcher_14 : decode cX12_catcher 14 = .ok (.iload 4, 2) := by decide +kernel
theorem dX12_catcher_16 : decode cX12_catcher 16 = .ok (.iconst (-1), 1) := by decide +kernel
theorem dX12_catcher_17 : decode cX12_catcher 17 = .ok (.if_icmp .eq 44, 3) := by decide +kernel
theorem dX12_catcher_61 : decode cX12_catcher 61 = .ok (.iconst (-1), 1) := by decide +kernel
theorem dX12_catcher_62 : decode cX12_catcher 62 = .ok (.ireturn, 1) := by decide +kernel
theorem dX12_catcher_20 : decode cX12_catcher 20 = .ok (.aload_n 0, 1) := by decide +kernel
theorem dX12_catcher_21 : decode cX12_catcher 21 = .ok (.getfield 53, 3) := by decide +kernel
theorem dX12_catcher_24 : decode cX12_catcher 24 = .ok (.iload 4, 2) := by decide +kernel
theorem dX12_catcher_26 : decode cX12_catcher 26 = .ok (.iaload, 1) := by decide +kernel
theorem dX12_catcher_27 : decode cX12_catcher 27 = .ok (.iload_n 3, 1) := by decide +kernel
theorem dX12_catcher_28 : decode cX12_catcher 28 = .ok (.if_icmp .eq 18, 3) := by decide +kernel
theorem dX12_catcher_46 : decode cX12_catcher 46 = .ok (.iload 4, 2) := by decide +kernel
theorem dX12_catcher_48 : decode cX12_catcher 48 = .ok (.ireturn, 1) := by decide +kernel
theorem dX12_catcher_31 : decode cX12_catcher 31 = .ok (.aload_n 0, 1) := by decide +kernel
theorem dX12_catcher_32 : decode cX12_catcher 32 = .ok (.aload_n 0, 1) := by decide +kernel
theorem dX12_catcher_33 : decode cX12_catcher 33 = .ok (.getfield 53, 3) := by decide +kernel
theorem dX12_catcher_36 : decode cX12_catcher 36 = .ok (.iload 4, 2) := by decide +kernel
theorem dX12_catcher_38 : decode cX12_catcher 38 = .ok (.iaload, 1) := by decide +kernel
theorem dX12_catcher_39 : decode cX12_catcher 39 = .ok (.iload_n 3, 1) := by decide +kernel
theorem dX12_catcher_40 : decode cX12_catcher 40 = .ok (.invokevirtual 518, 3) := by decide +kernel
theorem dX12_catcher_43 : decode cX12_catcher 43 = .ok (.ifCond .eq 6, 3) := by decide +kernel
theorem dX12_catcher_49 : decode cX12_catcher 49 = .ok (.aload_n 0, 1) := by decide +kernel
theorem dX12_catcher_50 : decode cX12_catcher 50 = .ok (.getfield 59, 3) := by decide +kernel
theorem dX12_catcher_53 : decode cX12_catcher 53 = .ok (.iload 4, 2) := by decide +kernel
theorem dX12_catcher_55 : decode cX12_catcher 55 = .ok (.iaload, 1) := by decide +kernel
theorem dX12_catcher_56 : decode cX12_catcher 56 = .ok (.istore 4, 2) := by decide +kernel
theorem dX12_catcher_58 : decode cX12_catcher 58 = .ok (.goto (-44), 3) := by decide +kernel
set_option maxHeartbeats 2000000 in
set_option maxRecDepth 100000 in
/-- catcher(p, v) -/
theorem R_catcher (l : Launch) (G : pT) (h0 : Nat) (a : Nat → Nat) (F : Nat → Int32) (B : Nat → Nat → Int32) (n9 : Nat) (x : Nat) (kc : Nat) (dc : Nat) (nd : Nat) (hn9 : n9 < nd) (hnd : nd ≤ 12000) (hdc : dc ≤ 37) (hx9 : 1 ≤ x ∧ (x ≤ 3000 ∨ (4001 ≤ x ∧ x ≤ 4006))) (hcl : clF (B 55) x = nI kc) (hkc : kc < dc) (hbi : bitsM (B 31)) (hln : lnRow (B 16) nd) (hv13 : B 13 n9 = -1 ∨ ∃ q : Nat, B 13 n9 = nI q ∧ q < nd) (hct : ∀ z c : Nat, c < nd → itr (B 16) (B 13 n9) z = nI c → ∃ d : Nat, d < dc ∧ B 14 c = nI d) : PM l G pX0 yX12_catcher cX12_catcher 5 (some .int) ({ frames := 3, cells := 0, slots := 0, locals := 82 }) [.ref h0, .int (nI n9), .int (nI x)] (mW G h0 a F B) (fun (v : Option Value) (u : Int32) => v = some (.int u) ∧ (u = -1 ∨ ∃ z c d : Nat, u = nI c ∧ c < nd ∧ itr (B 16) (B 13 n9) z = nI c ∧ B 14 c = nI d ∧ d < dc ∧ (d = kc ∨ B 31 (40 * d + kc) = 1))) (fun u => (mW G h0 a F B)) := by
  intro sz
  refine Met.ofW (cc := cX12_catcher) (maxL := 5) (ret := (some .int)) (by decide) rfl ?_
  intro p e s m args below meth c s₁ B9 hml hv
  obtain ⟨rfl, hsz, hP, hD0, hE, hX⟩ := hv
  have hx := B9.exec
  have hb := B9.bytes
  have hr := B9.returns
  have hts := atoms_spec (ws := Cond.code yX12_catcher cX12_catcher 5 (some .int) :: pw) B9.pre
  have hq : ∀ w ∈ pw, w.before _ s = true := fun w h => hts w (List.mem_cons_of_mem _ h)
  have hown : s.vm.findClass RX12 = some m.cls := findClass_of_methodNamed B9.named
  have hlocks := B9.notSynchronized
  subst hsz
  have hD := hD0.self (sz := s.heap.size)
  have hA : ∀ q : Nat, s.heap.size ≤ q → va_A (mW G h0 a F B) s.heap.size q := fun q h => Or.inr h
  have hP : va_P G.1 pCl (mW G h0 a F B) s.heap := hP
  generalize va_A (mW G h0 a F B) s.heap.size = A at hD hE hA ⊢
  have hS : va_S A s.heap s.heap [] := va_S.rf
  have hl := lv_entry ([.ref h0, .int (nI n9), .int (nI x)]) (n := 5) (Nat.le_of_ble_eq_true rfl)
  rw [lg_entry_eq]
  generalize (lg_sl ([.ref h0, .int (nI n9), .int (nI x)]) ++ List.replicate (5 - (lg_sl ([.ref h0, .int (nI n9), .int (nI x)])).length) Slot.unset).toArray = ls at hl ⊢
  have hl : lv_has ls 5 [(0, .ref h0), (1, .int (nI n9)), (2, .int (nI x))] := hl
  refine lv_aload_n hx hb dX12_catcher_0 rfl (lv_at hl 0 rfl) ?_
  refine lv_iload_n hx hb dX12_catcher_1 rfl (lv_at hl 2 rfl) ?_
  have hP : va_P G.1 pCl (mW G h0 a F (updA B 55 (B 55))) _ := hP
  have hD : va_D A (mW G h0 a F (updA B 55 (B 55))) := mW_D hD
  refine pc_V0 (G := G) (As := [.int (nI x)]) (rest := []) hx hb hml hown hq hE hX pX0_al hP hD hS hA hl.1 (R_classOf l G h0 a F B x (B 55) hx9) (gV pw_1995 pw_1996 pw_1997 pw_1523 pw_1994) hV_X12_classOf 0 9 rfl rfl rfl rfl (Nat.le_of_ble_eq_true rfl) dX12_catcher_2 ⟨Nat.le_of_ble_eq_true rfl, Nat.le_of_ble_eq_true rfl⟩ ⟨Nat.le_of_ble_eq_true rfl, Nat.le_of_ble_eq_true rfl⟩ (fun v3 u1 H locs hw2 hP hD hS => ?_)
  obtain rfl : v3 = some (.int (clF (B 55) x)) := hw2
  have hP : va_P G.1 pCl (mW G h0 a F B) _ := hP
  have hD : va_D A (mW G h0 a F B) := mW_D hD
  refine W.widen (k := 0) (n := 0) (Nat.le_of_ble_eq_true rfl) (Nat.le_of_ble_eq_true rfl) ?_
  refine W.eq (g2 := F0 m 5 ls [.int (clF (B 55) x)]) rfl ?_
  refine lv_topi (fun x4 e5 => ?_)
  obtain rfl : x4 = nI kc := e5.trans hcl
  refine lv_istore_n (lv' := [(3, .int (nI kc)), (0, .ref h0), (1, .int (nI n9)), (2, .int (nI x))]) hx hb dX12_catcher_5 rfl hl (by decide) rfl (fun ls hl => ?_)
  refine lv_aload_n hx hb dX12_catcher_6 rfl (lv_at hl 1 rfl) ?_
  refine r_get (v := .ref (a 13)) hx hb hown hq hE hP 21 50 tFX12_21 (by decide) pw_1443 rfl dX12_catcher_7 ?_
  refine lv_iload_n hx hb dX12_catcher_10 rfl (lv_at hl 2 rfl) ?_
  refine r_ldi (f := (B 13)) (j := n9) hx hb hE hP 13 (ma_13 G a _) rfl (by omega) (by decide) dX12_catcher_11 ?_
  refine lv_istore (lv' := [(4, .int ((B 13) n9)), (3, .int (nI kc)), (0, .ref h0), (1, .int (nI n9)), (2, .int (nI x))]) hx hb dX12_catcher_12 hl (by decide) rfl (fun ls hl => ?_)
  have loop_o : ∀ (n_o : Nat) (zq2 : Nat) (H : Heap) (locs : List Loc) (ls : Array Slot), zq2 ≤ nd → nd + 1 ≤ zq2 + n_o → va_P G.1 pCl (mW G h0 a F B) H → va_D A (mW G h0 a F B) → va_S A s.heap H locs → lv_has ls 5 [(4, .int (itr (B 16) (B 13 n9) zq2)), (3, .int (nI kc)), (2, .int (nI x)), (1, .int (nI n9)), (0, .ref h0)] → W p l e (headSpec (Cond.code yX12_catcher cX12_catcher 5 (some .int) :: pw) ({ frames := 3, cells := 0, slots := 0, locals := 82 } : Room)).room s m ([.ref h0, .int (nI n9), .int (nI x)] : List Value).toArray below meth c H locs 0 0 (MQ below (pQ G A (fun (v : Option Value) (u : Int32) => v = some (.int u) ∧ (u = -1 ∨ ∃ z c d : Nat, u = nI c ∧ c < nd ∧ itr (B 16) (B 13 n9) z = nI c ∧ B 14 c = nI d ∧ d < dc ∧ (d = kc ∨ B 31 (40 * d + kc) = 1))) (fun u => (mW G h0 a F B))) ([.ref h0, .int (nI n9), .int (nI x)] : List Value).toArray s ({ frames := 3, cells := 0, slots := 0, locals := 82 } : Room).cells ({ frames := 3, cells := 0, slots := 0, locals := 82 } : Room).slots A) (F0 m 14 ls []) := by
    intro n_o
    induction n_o with
    | zero => intro zq2 H locs ls hk_o hn_o; omega
    | succ n_o ih_o =>
      intro zq2 H locs ls hk_o hn_o hP hD hS hl
      refine lv_iload hx hb dX12_catcher_14 (lv_at hl 0 rfl) ?_
      refine lv_iconst (v := (-1)) hx hb dX12_catcher_16 (by decide) ?_
      refine lv_icmp_eq (tgt := 61) hx hb dX12_catcher_17 (by decide) (fun c6 => ?_) (fun c6 => ?_)
      · refine lv_iconst (v := (-1)) hx hb dX12_catcher_61 (by decide) ?_
        have hz7 : ((-1) : Int32) = -1 ∨ ∃ z c d : Nat, ((-1) : Int32) = nI c ∧ c < nd ∧ itr (B 16) (B 13 n9) z = nI c ∧ B 14 c = nI d ∧ d < dc ∧ (d = kc ∨ B 31 (40 * d + kc) = 1) := (Or.inl rfl)
        have hP : va_P G.1 pCl (mW G h0 a F B) _ := hP
        have hD : va_D A (mW G h0 a F B) := mW_D hD
        exact W.iret (v := (-1)) hx hb hr (fun t9 ht9 hW9 => ⟨⟨_, ((-1) : Int32), rfl, ⟨rfl, hz7⟩, by rw [ht9]; exact hP, hD⟩, hS.F ht9⟩) hS.2.2 dX12_catcher_62
      · obtain ⟨c8, e9, h10, h11⟩ := (itr_ln hln hv13 (by omega) zq2).resolve_left c6
        rw [e9] at hl
        obtain ⟨d12, h13, e14⟩ := hct zq2 c8 h11 e9
        refine lv_aload_n hx hb dX12_catcher_20 rfl (lv_at hl 4 rfl) ?_
        refine r_get (v := .ref (a 14)) hx hb hown hq hE hP 22 53 tFX12_22 (by decide) pw_1444 rfl dX12_catcher_21 ?_
        refine lv_iload hx hb dX12_catcher_24 (lv_at hl 0 rfl) ?_
        refine r_ldi (f := (B 14)) (j := c8) hx hb hE hP 14 (ma_14 G a _) rfl (by omega) (by decide) dX12_catcher_26 ?_
        refine lv_topi (fun x15 e16 => ?_)
        obtain rfl : x15 = nI d12 := e16.trans e14
        refine lv_iload_n hx hb dX12_catcher_27 rfl (lv_at hl 1 rfl) ?_
        refine lv_icmp_eq (tgt := 46) hx hb dX12_catcher_28 (by decide) (fun c17 => ?_) (fun c17 => ?_)
        · have n18 : d12 = kc := (nI_eq (a := d12) (b := kc) (by omega) (by omega)).mp c17
          refine lv_iload hx hb dX12_catcher_46 (lv_at hl 0 rfl) ?_
          have hz19 : (nI c8) = -1 ∨ ∃ z c d : Nat, (nI c8) = nI c ∧ c < nd ∧ itr (B 16) (B 13 n9) z = nI c ∧ B 14 c = nI d ∧ d < dc ∧ (d = kc ∨ B 31 (40 * d + kc) = 1) := (Or.inr ⟨zq2, c8, d12, rfl, h11, e9, e14, by omega, (Or.inl (by omega))⟩)
          have hP : va_P G.1 pCl (mW G h0 a F B) _ := hP
          have hD : va_D A (mW G h0 a F B) := mW_D hD
          exact W.iret (v := (nI c8)) hx hb hr (fun t9 ht9 hW9 => ⟨⟨_, (nI c8), rfl, ⟨rfl, hz19⟩, by rw [ht9]; exact hP, hD⟩, hS.F ht9⟩) hS.2.2 dX12_catcher_48
        · have n20 : ¬ (d12 = kc) := fun h9 => c17 ((nI_eq (a := d12) (b := kc) (by omega) (by omega)).mpr h9)
          refine lv_aload_n hx hb dX12_catcher_31 rfl (lv_at hl 4 rfl) ?_
          refine lv_aload_n hx hb dX12_catcher_32 rfl (lv_at hl 4 rfl) ?_
          refine r_get (v := .ref (a 14)) hx hb hown hq hE hP 22 53 tFX12_22 (by decide) pw_1444 rfl dX12_catcher_33 ?_
          refine lv_iload hx hb dX12_catcher_36 (lv_at hl 0 rfl) ?_
          refine r_ldi (f := (B 14)) (j := c8) hx hb hE hP 14 (ma_14 G a _) rfl (by omega) (by decide) dX12_catcher_38 ?_
          refine lv_topi (fun x21 e22 => ?_)
          obtain rfl : x21 = nI d12 := e22.trans e14
          refine lv_iload_n hx hb dX12_catcher_39 rfl (lv_at hl 1 rfl) ?_
          have hP : va_P G.1 pCl (mW G h0 a F (updA B 31 (B 31))) _ := hP
          have hD : va_D A (mW G h0 a F (updA B 31 (B 31))) := mW_D hD
          refine pc_V0 (G := G) (As := [.int (nI d12), .int (nI kc)]) (rest := []) hx hb hml hown hq hE hX pX0_al hP hD hS hA hl.1 (R_isAbove l G h0 a F B d12 kc (B 31) (by omega) hbi) (gV pw_1772 pw_1773 pw_1774 pw_1523 pw_1760) hV_X12_isAbove 0 9 rfl rfl rfl rfl (Nat.le_of_ble_eq_true rfl) dX12_catcher_40 ⟨Nat.le_of_ble_eq_true rfl, Nat.le_of_ble_eq_true rfl⟩ ⟨Nat.le_of_ble_eq_true rfl, Nat.le_of_ble_eq_true rfl⟩ (fun v25 u23 H locs hw24 hP hD hS => ?_)
          obtain rfl : v25 = some (.int ((B 31) (40 * d12 + kc))) := hw24
          have hP : va_P G.1 pCl (mW G h0 a F B) _ := hP
          have hD : va_D A (mW G h0 a F B) := mW_D hD
          refine W.widen (k := 0) (n := 0) (Nat.le_of_ble_eq_true rfl) (Nat.le_of_ble_eq_true rfl) ?_
          refine W.eq (g2 := F0 m 43 ls [.int ((B 31) (40 * d12 + kc))]) rfl ?_
          refine lv_if_eq (tgt := 49) hx hb dX12_catcher_43 (by decide) (fun c26 => ?_) (fun c26 => ?_)
          · refine lv_aload_n hx hb dX12_catcher_49 rfl (lv_at hl 4 rfl) ?_
            refine r_get (v := .ref (a 16)) hx hb hown hq hE hP 24 59 tFX12_24 (by decide) pw_1446 rfl dX12_catcher_50 ?_
            refine lv_iload hx hb dX12_catcher_53 (lv_at hl 0 rfl) ?_
            refine r_ldi (f := (B 16)) (j := c8) hx hb hE hP 16 (ma_16 G a _) rfl (by omega) (by decide) dX12_catcher_55 ?_
            refine lv_topi (fun x27 e28 => ?_)
            obtain rfl : x27 = itr (B 16) (B 13 n9) (zq2 + 1) := e28.trans (itr_s e9 (by omega)).symm
            refine lv_istore (lv' := [(4, .int (itr (B 16) (B 13 n9) (zq2 + 1))), (3, .int (nI kc)), (2, .int (nI x)), (1, .int (nI n9)), (0, .ref h0)]) hx hb dX12_catcher_56 hl (by decide) rfl (fun ls hl => ?_)
            refine lv_goto (tgt := 14) hx hb dX12_catcher_58 (by decide) ?_
            have hP : va_P G.1 pCl (mW G h0 a F B) _ := hP
            have hD : va_D A (mW G h0 a F B) := mW_D hD
            exact ih_o (zq2 + 1) _ _ _ (by omega) (by omega) hP hD hS (lv_sub hl [0, 1, 2, 3, 4] rfl)
          · refine lv_iload hx hb dX12_catcher_46 (lv_at hl 0 rfl) ?_
            have hz29 : (nI c8) = -1 ∨ ∃ z c d : Nat, (nI c8) = nI c ∧ c < nd ∧ itr (B 16) (B 13 n9) z = nI c ∧ B 14 c = nI d ∧ d < dc ∧ (d = kc ∨ B 31 (40 * d + kc) = 1) := (Or.inr ⟨zq2, c8, d12, rfl, h11, e9, e14, by omega, (Or.inr (bitsM.one hbi (by omega) c26))⟩)
            have hP : va_P G.1 pCl (mW G h0 a F B) _ := hP
            have hD : va_D A (mW G h0 a F B) := mW_D hD
            exact W.iret (v := (nI c8)) hx hb hr (fun t9 ht9 hW9 => ⟨⟨_, (nI c8), rfl, ⟨rfl, hz29⟩, by rw [ht9]; exact hP, hD⟩, hS.F ht9⟩) hS.2.2 dX12_catcher_48
  have hP : va_P G.1 pCl (mW G h0 a F B) _ := hP
  have hD : va_D A (mW G h0 a F B) := mW_D hD
  exact loop_o (nd + 1) 0 _ _ _ (by omega) (by omega) hP hD hS (lv_sub hl [0, 1, 4, 3, 2] rfl)
