theorem dX12_above_0 : decode cX12_above 0 = .ok (.aload_n 0, 1) := by decide +kernel
theorem dX12_above_1 : decode cX12_above 1 = .ok (.iconst 0, 1) := by decide +kernel
theorem dX12_above_2 : decode cX12_above 2 = .ok (.putfield 252, 3) := by decide +kernel
theorem dX12_above_5 : decode cX12_above 5 = .ok (.aload_n 0, 1) := by decide +kernel
theorem dX12_above_6 : decode cX12_above 6 = .ok (.getfield 649, 3) := by decide +kernel
theorem dX12_above_9 : decode cX12_above 9 = .ok (.ifCond .eq 31, 3) := by decide +kernel
theorem dX12_above_40 : decode cX12_above 40 = .ok (.iconst (-1), 1) := by decide +kernel
theorem dX12_above_41 : decode cX12_above 41 = .ok (.goto 22, 3) := by decide +kernel
theorem dX12_above_63 : decode cX12_above 63 = .ok (.ireturn, 1) := by decide +kernel
theorem dX12_above_12 : decode cX12_above 12 = .ok (.iload_n 1, 1) := by decide +kernel
theorem dX12_above_13 : decode cX12_above 13 = .ok (.iconst 0, 1) := by decide +kernel
theorem dX12_above_14 : decode cX12_above 14 = .ok (.aload_n 0, 1) := by decide +kernel
theorem dX12_above_15 : decode cX12_above 15 = .ok (.getfield 384, 3) := by decide +kernel
theorem dX12_above_18 : decode cX12_above 18 = .ok (.iconst 1, 1) := by decide +kernel
theorem dX12_above_19 : decode cX12_above 19 = .ok (.isub, 1) := by decide +kernel
theorem dX12_above_20 : decode cX12_above 20 = .ok (.invokestatic 261, 3) := by decide +kernel
theorem dX12_above_23 : decode cX12_above 23 = .ok (.ifCond .eq 17, 3) := by decide +kernel
theorem dX12_above_26 : decode cX12_above 26 = .ok (.iload_n 2, 1) := by decide +kernel
theorem dX12_above_27 : decode cX12_above 27 = .ok (.iconst 0, 1) := by decide +kernel
theorem dX12_above_28 : decode cX12_above 28 = .ok (.aload_n 0, 1) := by decide +kernel
theorem dX12_above_29 : decode cX12_above 29 = .ok (.getfield 384, 3) := by decide +kernel
theorem dX12_above_32 : decode cX12_above 32 = .ok (.iconst 1, 1) := by decide +kernel
theorem dX12_above_33 : decode cX12_above 33 = .ok (.isub, 1) := by decide +kernel
theorem dX12_above_34 : decode cX12_above 34 = .ok (.invokestatic 261, 3) := by decide +kernel
theorem dX12_above_37 : decode cX12_above 37 = .ok (.ifCond .ne 7, 3) := by decide +kernel
theorem dX12_above_44 : decode cX12_above 44 = .ok (.iload_n 1, 1) := by decide +kernel
theorem dX12_above_45 : decode cX12_above 45 = .ok (.iload_n 2, 1) := by decide +kernel
theorem dX12_above_46 : decode cX12_above 46 = .ok (.if_icmp .eq 12, 3) := by decide +kernel
theorem dX12_above_58 : decode cX12_above 58 = .ok (.iconst 1, 1) := by decide +kernel
theorem dX12_above_59 : decode cX12_above 59 = .ok (.goto 4, 3) := by decide +kernel
theorem dX12_above_49 : decode cX12_above 49 = .ok (.aload_n 0, 1) := by decide +kernel
theorem dX12_above_50 : decode cX12_above 50 = .ok (.iload_n 1, 1) := by decide +kernel
theorem dX12_above_51 : decode cX12_above 51 = .ok (.iload_n 2, 1) := by decide +kernel
theorem dX12_above_52 : decode cX12_above 52 = .ok (.invokevirtual 518, 3) := by decide +kernel
theorem dX12_above_55 : decode cX12_above 55 = .ok (.ifCond .eq 7, 3) := by decide +kernel
theorem dX12_above_62 : decode cX12_above 62 = .ok (.iconst 0, 1) := by decide +kernel
set_option maxHeartbeats 20000000 in
set_option maxRecDepth 100000 in
/-- above(k, lower) -/
theorem R_above (l : Launch) (G : pT) (h0 : Nat) (a : Nat → Nat) (F : Nat → Int32) (B : Nat → Nat → Int32) (Xs : Nat → Nat → Int32) (gh : Nat → Nat → Nat) (nd : Nat) (T : Nat) (nm : Nat) (wr : Nat) (lz : Nat) (dc : Nat) (fd : Nat) (md : Nat) (pr : Nat) (bk : Nat) (M : MTb) (hp : Int32) (kq : Int32) (wq : Int32) (hpg : If (¬ hp = 0) (Pg Xs B gh nd T nm wr lz dc fd md pr bk M)) : PM l G pX0 yX12_above cX12_above 3 (some .int) ({ frames := 3, cells := 0, slots := 0, locals := 82 }) [.ref h0, .int kq, .int wq] (mW G h0 a (upd (upd (upd (upd (upd F 35 (nI dc)) 44 (nI fd)) 49 (nI md)) 59 (nI bk)) 82 hp) B) (fun (v : Option Value) (u : Int32) => v = some (.int u)) (fun u => (mW G h0 a (upd (upd (upd (upd (upd (upd F 0 0) 35 (nI dc)) 44 (nI fd)) 49 (nI md)) 59 (nI bk)) 82 hp) B)) := by
  intro sz
  refine Met.ofW (cc := cX12_above) (maxL := 3) (ret := (some .int)) (by decide) rfl ?_
  intro p e s m args below meth c s₁ B9 hml hv
  obtain ⟨rfl, hsz, hP, hD0, hE, hX⟩ := hv
  have hx := B9.exec
  have hb := B9.bytes
  have hr := B9.returns
  have hts := atoms_spec (ws := Cond.code yX12_above cX12_above 3 (some .int) :: pw) B9.pre
  have hq : ∀ w ∈ pw, w.before _ s = true := fun w h => hts w (List.mem_cons_of_mem _ h)
  have hown : s.vm.findClass RX12 = some m.cls := findClass_of_methodNamed B9.named
  have hlocks := B9.notSynchronized
  subst hsz
  have hD := hD0.self (sz := s.heap.size)
  have hA : ∀ q : Nat, s.heap.size ≤ q → va_A (mW G h0 a (upd (upd (upd (upd (upd F 35 (nI dc)) 44 (nI fd)) 49 (nI md)) 59 (nI bk)) 82 hp) B) s.heap.size q := fun q h => Or.inr h
  have hP : va_P G.1 pCl (mW G h0 a (upd (upd (upd (upd (upd F 35 (nI dc)) 44 (nI fd)) 49 (nI md)) 59 (nI bk)) 82 hp) B) s.heap := hP
  generalize va_A (mW G h0 a (upd (upd (upd (upd (upd F 35 (nI dc)) 44 (nI fd)) 49 (nI md)) 59 (nI bk)) 82 hp) B) s.heap.size = A at hD hE hA ⊢
  have hS : va_S A s.heap s.heap [] := va_S.rf
  have hl := lv_entry ([.ref h0, .int kq, .int wq]) (n := 3) (Nat.le_of_ble_eq_true rfl)
  rw [lg_entry_eq]
  generalize (lg_sl ([.ref h0, .int kq, .int wq]) ++ List.replicate (3 - (lg_sl ([.ref h0, .int kq, .int wq])).length) Slot.unset).toArray = ls at hl ⊢
  have hl : lv_has ls 3 [(0, .ref h0), (1, .int kq), (2, .int wq)] := hl
  refine lv_aload_n hx hb dX12_above_0 rfl (lv_at hl 0 rfl) ?_
  refine lv_iconst (v := 0) hx hb dX12_above_1 (by decide) ?_
  refine r_put (v := 0) (ty := .int) hx hb hown hq hE hP hD hS 0 252 tFX12_0 (by decide) pw_1515 (by decide) rfl rfl (ms_0 a _ _) dX12_above_2 (fun H locs hP hD hS => ?_)
  refine lv_aload_n hx hb dX12_above_5 rfl (lv_at hl 0 rfl) ?_
  refine r_get (v := .int hp) hx hb hown hq hE hP 82 649 tFX12_82 (by decide) pw_1922 rfl dX12_above_6 ?_
  refine lv_if_eq (tgt := 40) hx hb dX12_above_9 (by decide) (fun c1 => ?_) (fun c1 => ?_)
  · refine lv_iconst (v := (-1)) hx hb dX12_above_40 (by decide) ?_
    refine lv_goto (tgt := 63) hx hb dX12_above_41 (by decide) ?_
    have hP : va_P G.1 pCl (mW G h0 a (upd (upd (upd (upd (upd (upd F 0 0) 35 (nI dc)) 44 (nI fd)) 49 (nI md)) 59 (nI bk)) 82 hp) B) _ := mW_to (F := F) (l1 := [(35, (nI dc)), (44, (nI fd)), (49, (nI md)), (59, (nI bk)), (82, hp), (0, 0)]) (l2 := [(0, 0), (35, (nI dc)), (44, (nI fd)), (49, (nI md)), (59, (nI bk)), (82, hp)]) (V := [(nI dc), (nI fd), (nI md), (nI bk), hp, 0, 0, (nI dc), (nI fd), (nI md), (nI bk), hp]) rfl rfl rfl hP
    have hD : va_D A (mW G h0 a (upd (upd (upd (upd (upd (upd F 0 0) 35 (nI dc)) 44 (nI fd)) 49 (nI md)) 59 (nI bk)) 82 hp) B) := mW_D hD
    exact W.iret (v := (-1)) hx hb hr (fun t9 ht9 hW9 => ⟨⟨_, ((-1) : Int32), rfl, rfl, by rw [ht9]; exact hP, hD⟩, hS.F ht9⟩) hS.2.2 dX12_above_63
  · have hPg := hpg c1
    have hbd := hPg.bd
    have hw31 : B 31 = Xs 31 := hPg.row 31 (by omega) (by omega) (by omega) (by omega) (by omega)
    have hfb := hPg.ab.1
    refine lv_iload_n hx hb dX12_above_12 rfl (lv_at hl 1 rfl) ?_
    refine lv_iconst (v := 0) hx hb dX12_above_13 (by decide) ?_
    refine lv_aload_n hx hb dX12_above_14 rfl (lv_at hl 0 rfl) ?_
    refine r_get (v := .int (nI dc)) hx hb hown hq hE hP 35 384 tFX12_35 (by decide) pw_1732 rfl dX12_above_15 ?_
    refine lv_iconst (v := 1) hx hb dX12_above_18 (by decide) ?_
    refine lv_isub hx hb dX12_above_19 ?_
    refine lv_topi (fun x2 e3 => ?_)
    refine pc_SN (G := G) (As := [.int kq, .int 0, .int x2]) (rest := []) hx hb hml hown hq hE hX pX0_al hP hS hA hl.1 (s_in l G kq 0 x2) (gS pw_1521 pw_1522 pw_1523 pw_1513) hS_X12_in rfl (Nat.le_of_ble_eq_true rfl) dX12_above_20 ⟨Nat.le_of_ble_eq_true rfl, Nat.le_of_ble_eq_true rfl⟩ ⟨Nat.le_of_ble_eq_true rfl, Nat.le_of_ble_eq_true rfl⟩ (fun v6 u4 H locs hw5 hP hS => ?_)
    obtain rfl : v6 = some (.int (isin kq 0 x2)) := hw5
    refine W.widen (k := 0) (n := 0) (Nat.le_of_ble_eq_true rfl) (Nat.le_of_ble_eq_true rfl) ?_
    refine W.eq (g2 := F0 m 23 ls [.int (isin kq 0 x2)]) rfl ?_
    refine lv_if_eq (tgt := 40) hx hb dX12_above_23 (by decide) (fun c7 => ?_) (fun c7 => ?_)
    · refine lv_iconst (v := (-1)) hx hb dX12_above_40 (by decide) ?_
      refine lv_goto (tgt := 63) hx hb dX12_above_41 (by decide) ?_
      have hP : va_P G.1 pCl (mW G h0 a (upd (upd (upd (upd (upd (upd F 0 0) 35 (nI dc)) 44 (nI fd)) 49 (nI md)) 59 (nI bk)) 82 hp) B) _ := mW_to (F := F) (l1 := [(35, (nI dc)), (44, (nI fd)), (49, (nI md)), (59, (nI bk)), (82, hp), (0, 0)]) (l2 := [(0, 0), (35, (nI dc)), (44, (nI fd)), (49, (nI md)), (59, (nI bk)), (82, hp)]) (V := [(nI dc), (nI fd), (nI md), (nI bk), hp, 0, 0, (nI dc), (nI fd), (nI md), (nI bk), hp]) rfl rfl rfl hP
      have hD : va_D A (mW G h0 a (upd (upd (upd (upd (upd (upd F 0 0) 35 (nI dc)) 44 (nI fd)) 49 (nI md)) 59 (nI bk)) 82 hp) B) := mW_D hD
      exact W.iret (v := (-1)) hx hb hr (fun t9 ht9 hW9 => ⟨⟨_, ((-1) : Int32), rfl, rfl, by rw [ht9]; exact hP, hD⟩, hS.F ht9⟩) hS.2.2 dX12_above_63
    · rw [e3] at c7
      obtain ⟨k9, hkk9, hlk9⟩ := isin_m (n := dc) (by omega) c7
      rw [hkk9] at hl
      refine lv_iload_n hx hb dX12_above_26 rfl (lv_at hl 2 rfl) ?_
      refine lv_iconst (v := 0) hx hb dX12_above_27 (by decide) ?_
      refine lv_aload_n hx hb dX12_above_28 rfl (lv_at hl 0 rfl) ?_
      refine r_get (v := .int (nI dc)) hx hb hown hq hE hP 35 384 tFX12_35 (by decide) pw_1732 rfl dX12_above_29 ?_
      refine lv_iconst (v := 1) hx hb dX12_above_32 (by decide) ?_
      refine lv_isub hx hb dX12_above_33 ?_
      refine lv_topi (fun x8 e9 => ?_)
      refine pc_SN (G := G) (As := [.int wq, .int 0, .int x8]) (rest := []) hx hb hml hown hq hE hX pX0_al hP hS hA hl.1 (s_in l G wq 0 x8) (gS pw_1521 pw_1522 pw_1523 pw_1513) hS_X12_in rfl (Nat.le_of_ble_eq_true rfl) dX12_above_34 ⟨Nat.le_of_ble_eq_true rfl, Nat.le_of_ble_eq_true rfl⟩ ⟨Nat.le_of_ble_eq_true rfl, Nat.le_of_ble_eq_true rfl⟩ (fun v12 u10 H locs hw11 hP hS => ?_)
      obtain rfl : v12 = some (.int (isin wq 0 x8)) := hw11
      refine W.widen (k := 0) (n := 0) (Nat.le_of_ble_eq_true rfl) (Nat.le_of_ble_eq_true rfl) ?_
      refine W.eq (g2 := F0 m 37 ls [.int (isin wq 0 x8)]) rfl ?_
      refine lv_if_ne (tgt := 44) hx hb dX12_above_37 (by decide) (fun c13 => ?_) (fun c13 => ?_)
      · rw [e9] at c13
        obtain ⟨j9, hkj9, hlj9⟩ := isin_m (n := dc) (by omega) c13
        rw [hkj9] at hl
        refine lv_iload_n hx hb dX12_above_44 rfl (lv_at hl 1 rfl) ?_
        refine lv_iload_n hx hb dX12_above_45 rfl (lv_at hl 2 rfl) ?_
        refine lv_icmp_eq (tgt := 58) hx hb dX12_above_46 (by decide) (fun c14 => ?_) (fun c14 => ?_)
        · have n15 : k9 = j9 := (nI_eq (a := k9) (b := j9) (by omega) (by omega)).mp c14
          refine lv_iconst (v := 1) hx hb dX12_above_58 (by decide) ?_
          refine lv_goto (tgt := 63) hx hb dX12_above_59 (by decide) ?_
          have hP : va_P G.1 pCl (mW G h0 a (upd (upd (upd (upd (upd (upd F 0 0) 35 (nI dc)) 44 (nI fd)) 49 (nI md)) 59 (nI bk)) 82 hp) B) _ := mW_to (F := F) (l1 := [(35, (nI dc)), (44, (nI fd)), (49, (nI md)), (59, (nI bk)), (82, hp), (0, 0)]) (l2 := [(0, 0), (35, (nI dc)), (44, (nI fd)), (49, (nI md)), (59, (nI bk)), (82, hp)]) (V := [(nI dc), (nI fd), (nI md), (nI bk), hp, 0, 0, (nI dc), (nI fd), (nI md), (nI bk), hp]) rfl rfl rfl hP
          have hD : va_D A (mW G h0 a (upd (upd (upd (upd (upd (upd F 0 0) 35 (nI dc)) 44 (nI fd)) 49 (nI md)) 59 (nI bk)) 82 hp) B) := mW_D hD
          exact W.iret (v := 1) hx hb hr (fun t9 ht9 hW9 => ⟨⟨_, (1 : Int32), rfl, rfl, by rw [ht9]; exact hP, hD⟩, hS.F ht9⟩) hS.2.2 dX12_above_63
        · have n16 : ¬ (k9 = j9) := fun h9 => c14 ((nI_eq (a := k9) (b := j9) (by omega) (by omega)).mpr h9)
          refine lv_aload_n hx hb dX12_above_49 rfl (lv_at hl 0 rfl) ?_
          refine lv_iload_n hx hb dX12_above_50 rfl (lv_at hl 1 rfl) ?_
          refine lv_iload_n hx hb dX12_above_51 rfl (lv_at hl 2 rfl) ?_
          have hP : va_P G.1 pCl (mW G h0 a (upd (upd (upd (upd (upd (upd F 0 0) 35 (nI dc)) 44 (nI fd)) 49 (nI md)) 59 (nI bk)) 82 hp) (updA B 31 (B 31))) _ := mW_to (F := F) (l1 := [(35, (nI dc)), (44, (nI fd)), (49, (nI md)), (59, (nI bk)), (82, hp), (0, 0)]) (l2 := [(0, 0), (35, (nI dc)), (44, (nI fd)), (49, (nI md)), (59, (nI bk)), (82, hp)]) (V := [(nI dc), (nI fd), (nI md), (nI bk), hp, 0, 0, (nI dc), (nI fd), (nI md), (nI bk), hp]) rfl rfl (show B = (updA B 31 (B 31)) from updsA_eq2 (F := B) (l1 := []) (l2 := [(31, (B 31))]) (V := [(B 31)]) rfl rfl) hP
          have hD : va_D A (mW G h0 a (upd (upd (upd (upd (upd (upd F 0 0) 35 (nI dc)) 44 (nI fd)) 49 (nI md)) 59 (nI bk)) 82 hp) (updA B 31 (B 31))) := mW_D hD
          refine pc_V0 (G := G) (As := [.int (nI k9), .int (nI j9)]) (rest := []) hx hb hml hown hq hE hX pX0_al hP hD hS hA hl.1 (R_isAbove l G h0 a (upd (upd (upd (upd (upd (upd F 0 0) 35 (nI dc)) 44 (nI fd)) 49 (nI md)) 59 (nI bk)) 82 hp) B k9 j9 (B 31) (by omega) (by show ∀ i : Nat, i < 1600 → B 31 i = 0 ∨ B 31 i = 1; rw [hw31]; exact hfb)) (gV pw_1772 pw_1773 pw_1774 pw_1523 pw_1760) hV_X12_isAbove 0 9 rfl rfl rfl rfl (Nat.le_of_ble_eq_true rfl) dX12_above_52 ⟨Nat.le_of_ble_eq_true rfl, Nat.le_of_ble_eq_true rfl⟩ ⟨Nat.le_of_ble_eq_true rfl, Nat.le_of_ble_eq_true rfl⟩ (fun v19 u17 H locs hw18 hP hD hS => ?_)
          obtain rfl : v19 = some (.int ((B 31) (40 * k9 + j9))) := hw18
          have hP : va_P G.1 pCl (mW G h0 a (upd (upd (upd (upd (upd (upd F 0 0) 35 (nI dc)) 44 (nI fd)) 49 (nI md)) 59 (nI bk)) 82 hp) B) _ := mW_to (F := F) (l1 := [(0, 0), (35, (nI dc)), (44, (nI fd)), (49, (nI md)), (59, (nI bk)), (82, hp)]) (l2 := [(0, 0), (35, (nI dc)), (44, (nI fd)), (49, (nI md)), (59, (nI bk)), (82, hp)]) (V := [0, (nI dc), (nI fd), (nI md), (nI bk), hp, 0, (nI dc), (nI fd), (nI md), (nI bk), hp]) rfl rfl (show (updA B 31 (B 31)) = B from updsA_eq2 (F := B) (l1 := [(31, (B 31))]) (l2 := []) (V := [(B 31)]) rfl rfl) hP
          have hD : va_D A (mW G h0 a (upd (upd (upd (upd (upd (upd F 0 0) 35 (nI dc)) 44 (nI fd)) 49 (nI md)) 59 (nI bk)) 82 hp) B) := mW_D hD
          refine W.widen (k := 0) (n := 0) (Nat.le_of_ble_eq_true rfl) (Nat.le_of_ble_eq_true rfl) ?_
          refine W.eq (g2 := F0 m 55 ls [.int ((B 31) (40 * k9 + j9))]) rfl ?_
          refine lv_if_eq (tgt := 62) hx hb dX12_above_55 (by decide) (fun c20 => ?_) (fun c20 => ?_)
          · refine lv_iconst (v := 0) hx hb dX12_above_62 (by decide) ?_
            have hP : va_P G.1 pCl (mW G h0 a (upd (upd (upd (upd (upd (upd F 0 0) 35 (nI dc)) 44 (nI fd)) 49 (nI md)) 59 (nI bk)) 82 hp) B) _ := hP
            have hD : va_D A (mW G h0 a (upd (upd (upd (upd (upd (upd F 0 0) 35 (nI dc)) 44 (nI fd)) 49 (nI md)) 59 (nI bk)) 82 hp) B) := mW_D hD
            exact W.iret (v := 0) hx hb hr (fun t9 ht9 hW9 => ⟨⟨_, (0 : Int32), rfl, rfl, by rw [ht9]; exact hP, hD⟩, hS.F ht9⟩) hS.2.2 dX12_above_63
          · refine lv_iconst (v := 1) hx hb dX12_above_58 (by decide) ?_
            refine lv_goto (tgt := 63) hx hb dX12_above_59 (by decide) ?_
            have hP : va_P G.1 pCl (mW G h0 a (upd (upd (upd (upd (upd (upd F 0 0) 35 (nI dc)) 44 (nI fd)) 49 (nI md)) 59 (nI bk)) 82 hp) B) _ := hP
            have hD : va_D A (mW G h0 a (upd (upd (upd (upd (upd (upd F 0 0) 35 (nI dc)) 44 (nI fd)) 49 (nI md)) 59 (nI bk)) 82 hp) B) := mW_D hD
            exact W.iret (v := 1) hx hb hr (fun t9 ht9 hW9 => ⟨⟨_, (1 : Int32), rfl, rfl, by rw [ht9]; exact hP, hD⟩, hS.F ht9⟩) hS.2.2 dX12_above_63
      · refine lv_iconst (v := (-1)) hx hb dX12_above_40 (by decide) ?_
        refine lv_goto (tgt := 63) hx hb dX12_above_41 (by decide) ?_
        have hP : va_P G.1 pCl (mW G h0 a (upd (upd (upd (upd (upd (upd F 0 0) 35 (nI dc)) 44 (nI fd)) 49 (nI md)) 59 (nI bk)) 82 hp) B) _ := mW_to (F := F) (l1 := [(35, (nI dc)), (44, (nI fd)), (49, (nI md)), (59, (nI bk)), (82, hp), (0, 0)]) (l2 := [(0, 0), (35, (nI dc)), (44, (nI fd)), (49, (nI md)), (59, (nI bk)), (82, hp)]) (V := [(nI dc), (nI fd), (nI md), (nI bk), hp, 0, 0, (nI dc), (nI fd), (nI md), (nI bk), hp]) rfl rfl rfl hP
        have hD : va_D A (mW G h0 a (upd (upd (upd (upd (upd (upd F 0 0) 35 (nI dc)) 44 (nI fd)) 49 (nI md)) 59 (nI bk)) 82 hp) B) := mW_D hD
        exact W.iret (v := (-1)) hx hb hr (fun t9 ht9 hW9 => ⟨⟨_, ((-1) : Int32), rfl, rfl, by rw [ht9]; exact hP, hD⟩, hS.F ht9⟩) hS.2.2 dX12_above_63
theorem dX12_letter_0 : decode cX12_letter 0 = .ok (.aload_n 0, 1) := by decide +kernel
theorem dX12_letter_1 : decode cX12_letter 1 = .ok (.iconst 0, 1) := by decide +kernel
theorem dX12_letter_2 : decode cX12_letter 2 = .ok (.putfield 252, 3) := by decide +kernel
theorem dX12_letter_5 : decode cX12_letter 5 = .ok (.aload_n 0, 1) := by decide +kernel
theorem dX12_letter_6 : decode cX12_letter 6 = .ok (.getfield 649, 3) := by decide +kernel
theorem dX12_letter_9 : decode cX12_letter 9 = .ok (.ifCond .eq 36, 3) := by decide +kernel
theorem dX12_letter_45 : decode cX12_letter 45 = .ok (.iconst (-1), 1) := by decide +kernel
theorem dX12_letter_46 : decode cX12_letter 46 = .ok (.ireturn, 1) := by decide +kernel
theorem dX12_letter_12 : decode cX12_letter 12 = .ok (.iload_n 1, 1) := by decide +kernel
theorem dX12_letter_13 : decode cX12_letter 13 = .ok (.iconst 0, 1) := by decide +kernel
theorem dX12_letter_14 : decode cX12_letter 14 = .ok (.aload_n 0, 1) := by decide +kernel
theorem dX12_letter_15 : decode cX12_letter 15 = .ok (.getfield 384, 3) := by decide +kernel
theorem dX12_letter_18 : decode cX12_letter 18 = .ok (.iconst 1, 1) := by decide +kernel
theorem dX12_letter_19 : decode cX12_letter 19 = .ok (.isub, 1) := by decide +kernel
theorem dX12_letter_20 : decode cX12_letter 20 = .ok (.invokestatic 261, 3) := by decide +kernel
theorem dX12_letter_23 : decode cX12_letter 23 = .ok (.ifCond .eq 22, 3) := by decide +kernel
theorem dX12_letter_26 : decode cX12_letter 26 = .ok (.iload_n 2, 1) := by decide +kernel
theorem dX12_letter_27 : decode cX12_letter 27 = .ok (.ifCond .lt 18, 3) := by decide +kernel
theorem dX12_letter_30 : decode cX12_letter 30 = .ok (.iload_n 2, 1) := by decide +kernel
theorem dX12_letter_31 : decode cX12_letter 31 = .ok (.aload_n 0, 1) := by decide +kernel
theorem dX12_letter_32 : decode cX12_letter 32 = .ok (.getfield 31, 3) := by decide +kernel
theorem dX12_letter_35 : decode cX12_letter 35 = .ok (.aload_n 0, 1) := by decide +kernel
theorem dX12_letter_36 : decode cX12_letter 36 = .ok (.getfield 84, 3) := by decide +kernel
theorem dX12_letter_39 : decode cX12_letter 39 = .ok (.iload_n 1, 1) := by decide +kernel
theorem dX12_letter_40 : decode cX12_letter 40 = .ok (.iaload, 1) := by decide +kernel
theorem dX12_letter_41 : decode cX12_letter 41 = .ok (.iaload, 1) := by decide +kernel
theorem dX12_letter_42 : decode cX12_letter 42 = .ok (.if_icmp .lt 5, 3) := by decide +kernel
theorem dX12_letter_47 : decode cX12_letter 47 = .ok (.aload_n 0, 1) := by decide +kernel
theorem dX12_letter_48 : decode cX12_letter 48 = .ok (.getfield 34, 3) := by decide +kernel
theorem dX12_letter_51 : decode cX12_letter 51 = .ok (.aload_n 0, 1) := by decide +kernel
theorem dX12_letter_52 : decode cX12_letter 52 = .ok (.getfield 28, 3) := by decide +kernel
theorem dX12_letter_55 : decode cX12_letter 55 = .ok (.aload_n 0, 1) := by decide +kernel
theorem dX12_letter_56 : decode cX12_letter 56 = .ok (.getfield 84, 3) := by decide +kernel
theorem dX12_letter_59 : decode cX12_letter 59 = .ok (.iload_n 1, 1) := by decide +kernel
theorem dX12_letter_60 : decode cX12_letter 60 = .ok (.iaload, 1) := by decide +kernel
theorem dX12_letter_61 : decode cX12_letter 61 = .ok (.iaload, 1) := by decide +kernel
theorem dX12_letter_62 : decode cX12_letter 62 = .ok (.iload_n 2, 1) := by decide +kernel
theorem dX12_letter_63 : decode cX12_letter 63 = .ok (.iadd, 1) := by decide +kernel
theorem dX12_letter_64 : decode cX12_letter 64 = .ok (.baload, 1) := by decide +kernel
theorem dX12_letter_65 : decode cX12_letter 65 = .ok (.ireturn, 1) := by decide +kernel
set_option maxHeartbeats 20000000 in
set_option maxRecDepth 100000 in
/-- letter(k, i) -/
theorem R_letter (l : Launch) (G : pT) (h0 : Nat) (a : Nat → Nat) (F : Nat → Int32) (B : Nat → Nat → Int32) (Xs : Nat → Nat → Int32) (gh : Nat → Nat → Nat) (nd : Nat) (T : Nat) (nm : Nat) (wr : Nat) (lz : Nat) (dc : Nat) (fd : Nat) (md : Nat) (pr : Nat) (bk : Nat) (M : MTb) (hp : Int32) (kq : Int32) (wq : Int32) (us : Nat) (hpg : If (¬ hp = 0) (Pg Xs B gh nd T nm wr lz dc fd md pr bk M)) (hnm : If (¬ hp = 0) (rNm nm us (B 6) (B 7))) (hus : us ≤ 5040) : PM l G pX0 yX12_letter cX12_letter 3 (some .int) ({ frames := 3, cells := 0, slots := 0, locals := 82 }) [.ref h0, .int kq, .int wq] (mW G h0 a (upd (upd (upd (upd (upd F 35 (nI dc)) 44 (nI fd)) 49 (nI md)) 59 (nI bk)) 82 hp) B) (fun (v : Option Value) (u : Int32) => v = some (.int u)) (fun u => (mW G h0 a (upd (upd (upd (upd (upd (upd F 0 0) 35 (nI dc)) 44 (nI fd)) 49 (nI md)) 59 (nI bk)) 82 hp) B)) := by
  intro sz
  refine Met.ofW (cc := cX12_letter) (maxL := 3) (ret := (some .int)) (by decide) rfl ?_
  intro p e s m args below meth c s₁ B9 hml hv
  obtain ⟨rfl, hsz, hP, hD0, hE, hX⟩ := hv
  have hx := B9.exec
  have hb := B9.bytes
  have hr := B9.returns
  have hts := atoms_spec (ws := Cond.code yX12_letter cX12_letter 3 (some .int) :: pw) B9.pre
  have hq : ∀ w ∈ pw, w.before _ s = true := fun w h => hts w (List.mem_cons_of_mem _ h)
  have hown : s.vm.findClass RX12 = some m.cls := findClass_of_methodNamed B9.named
  have hlocks := B9.notSynchronized
  subst hsz
  have hD := hD0.self (sz := s.heap.size)
  have hA : ∀ q : Nat, s.heap.size ≤ q → va_A (mW G h0 a (upd (upd (upd (upd (upd F 35 (nI dc)) 44 (nI fd)) 49 (nI md)) 59 (nI bk)) 82 hp) B) s.heap.size q := fun q h => Or.inr h
  have hP : va_P G.1 pCl (mW G h0 a (upd (upd (upd (upd (upd F 35 (nI dc)) 44 (nI fd)) 49 (nI md)) 59 (nI bk)) 82 hp) B) s.heap := hP
  generalize va_A (mW G h0 a (upd (upd (upd (upd (upd F 35 (nI dc)) 44 (nI fd)) 49 (nI md)) 59 (nI bk)) 82 hp) B) s.heap.size = A at hD hE hA ⊢
  have hS : va_S A s.heap s.heap [] := va_S.rf
  have hl := lv_entry ([.ref h0, .int kq, .int wq]) (n := 3) (Nat.le_of_ble_eq_true rfl)
  rw [lg_entry_eq]
  generalize (lg_sl ([.ref h0, .int kq, .int wq]) ++ List.replicate (3 - (lg_sl ([.ref h0, .int kq, .int wq])).length) Slot.unset).toArray = ls at hl ⊢
  have hl : lv_has ls 3 [(0, .ref h0), (1, .int kq), (2, .int wq)] := hl
  refine lv_aload_n hx hb dX12_letter_0 rfl (lv_at hl 0 rfl) ?_
  refine lv_iconst (v := 0) hx hb dX12_letter_1 (by decide) ?_
  refine r_put (v := 0) (ty := .int) hx hb hown hq hE hP hD hS 0 252 tFX12_0 (by decide) pw_1515 (by decide) rfl rfl (ms_0 a _ _) dX12_letter_2 (fun H locs hP hD hS => ?_)
  refine lv_aload_n hx hb dX12_letter_5 rfl (lv_at hl 0 rfl) ?_
  refine r_get (v := .int hp) hx hb hown hq hE hP 82 649 tFX12_82 (by decide) pw_1922 rfl dX12_letter_6 ?_
  refine lv_if_eq (tgt := 45) hx hb dX12_letter_9 (by decide) (fun c1 => ?_) (fun c1 => ?_)
  · refine lv_iconst (v := (-1)) hx hb dX12_letter_45 (by decide) ?_
    have hP : va_P G.1 pCl (mW G h0 a (upd (upd (upd (upd (upd (upd F 0 0) 35 (nI dc)) 44 (nI fd)) 49 (nI md)) 59 (nI bk)) 82 hp) B) _ := mW_to (F := F) (l1 := [(35, (nI dc)), (44, (nI fd)), (49, (nI md)), (59, (nI bk)), (82, hp), (0, 0)]) (l2 := [(0, 0), (35, (nI dc)), (44, (nI fd)), (49, (nI md)), (59, (nI bk)), (82, hp)]) (V := [(nI dc), (nI fd), (nI md), (nI bk), hp, 0, 0, (nI dc), (nI fd), (nI md), (nI bk), hp]) rfl rfl rfl hP
    have hD : va_D A (mW G h0 a (upd (upd (upd (upd (upd (upd F 0 0) 35 (nI dc)) 44 (nI fd)) 49 (nI md)) 59 (nI bk)) 82 hp) B) := mW_D hD
    exact W.iret (v := (-1)) hx hb hr (fun t9 ht9 hW9 => ⟨⟨_, ((-1) : Int32), rfl, rfl, by rw [ht9]; exact hP, hD⟩, hS.F ht9⟩) hS.2.2 dX12_letter_46
  · have hPg := hpg c1
    have hbd := hPg.bd
    have hw24 : B 24 = Xs 24 := hPg.row 24 (by omega) (by omega) (by omega) (by omega) (by omega)
    have hw6 : B 6 = Xs 6 := hPg.row 6 (by omega) (by omega) (by omega) (by omega) (by omega)
    have hw7 : B 7 = Xs 7 := hPg.row 7 (by omega) (by omega) (by omega) (by omega) (by omega)
    have hfb := hPg.ab.1
    refine lv_iload_n hx hb dX12_letter_12 rfl (lv_at hl 1 rfl) ?_
    refine lv_iconst (v := 0) hx hb dX12_letter_13 (by decide) ?_
    refine lv_aload_n hx hb dX12_letter_14 rfl (lv_at hl 0 rfl) ?_
    refine r_get (v := .int (nI dc)) hx hb hown hq hE hP 35 384 tFX12_35 (by decide) pw_1732 rfl dX12_letter_15 ?_
    refine lv_iconst (v := 1) hx hb dX12_letter_18 (by decide) ?_
    refine lv_isub hx hb dX12_letter_19 ?_
    refine lv_topi (fun x2 e3 => ?_)
    refine pc_SN (G := G) (As := [.int kq, .int 0, .int x2]) (rest := []) hx hb hml hown hq hE hX pX0_al hP hS hA hl.1 (s_in l G kq 0 x2) (gS pw_1521 pw_1522 pw_1523 pw_1513) hS_X12_in rfl (Nat.le_of_ble_eq_true rfl) dX12_letter_20 ⟨Nat.le_of_ble_eq_true rfl, Nat.le_of_ble_eq_true rfl⟩ ⟨Nat.le_of_ble_eq_true rfl, Nat.le_of_ble_eq_true rfl⟩ (fun v6 u4 H locs hw5 hP hS => ?_)
    obtain rfl : v6 = some (.int (isin kq 0 x2)) := hw5
    refine W.widen (k := 0) (n := 0) (Nat.le_of_ble_eq_true rfl) (Nat.le_of_ble_eq_true rfl) ?_
    refine W.eq (g2 := F0 m 23 ls [.int (isin kq 0 x2)]) rfl ?_
    refine lv_if_eq (tgt := 45) hx hb dX12_letter_23 (by decide) (fun c7 => ?_) (fun c7 => ?_)
    · refine lv_iconst (v := (-1)) hx hb dX12_letter_45 (by decide) ?_
      have hP : va_P G.1 pCl (mW G h0 a (upd (upd (upd (upd (upd (upd F 0 0) 35 (nI dc)) 44 (nI fd)) 49 (nI md)) 59 (nI bk)) 82 hp) B) _ := mW_to (F := F) (l1 := [(35, (nI dc)), (44, (nI fd)), (49, (nI md)), (59, (nI bk)), (82, hp), (0, 0)]) (l2 := [(0, 0), (35, (nI dc)), (44, (nI fd)), (49, (nI md)), (59, (nI bk)), (82, hp)]) (V := [(nI dc), (nI fd), (nI md), (nI bk), hp, 0, 0, (nI dc), (nI fd), (nI md), (nI bk), hp]) rfl rfl rfl hP
      have hD : va_D A (mW G h0 a (upd (upd (upd (upd (upd (upd F 0 0) 35 (nI dc)) 44 (nI fd)) 49 (nI md)) 59 (nI bk)) 82 hp) B) := mW_D hD
      exact W.iret (v := (-1)) hx hb hr (fun t9 ht9 hW9 => ⟨⟨_, ((-1) : Int32), rfl, rfl, by rw [ht9]; exact hP, hD⟩, hS.F ht9⟩) hS.2.2 dX12_letter_46
    · rw [e3] at c7
      obtain ⟨k9, hkk9, hlk9⟩ := isin_m (n := dc) (by omega) c7
      rw [hkk9] at hl
      refine lv_iload_n hx hb dX12_letter_26 rfl (lv_at hl 2 rfl) ?_
      refine lv_if_lt (tgt := 45) hx hb dX12_letter_27 (by decide) (fun c8 => ?_) (fun c8 => ?_)
      · refine lv_iconst (v := (-1)) hx hb dX12_letter_45 (by decide) ?_
        have hP : va_P G.1 pCl (mW G h0 a (upd (upd (upd (upd (upd (upd F 0 0) 35 (nI dc)) 44 (nI fd)) 49 (nI md)) 59 (nI bk)) 82 hp) B) _ := mW_to (F := F) (l1 := [(35, (nI dc)), (44, (nI fd)), (49, (nI md)), (59, (nI bk)), (82, hp), (0, 0)]) (l2 := [(0, 0), (35, (nI dc)), (44, (nI fd)), (49, (nI md)), (59, (nI bk)), (82, hp)]) (V := [(nI dc), (nI fd), (nI md), (nI bk), hp, 0, 0, (nI dc), (nI fd), (nI md), (nI bk), hp]) rfl rfl rfl hP
        have hD : va_D A (mW G h0 a (upd (upd (upd (upd (upd (upd F 0 0) 35 (nI dc)) 44 (nI fd)) 49 (nI md)) 59 (nI bk)) 82 hp) B) := mW_D hD
        exact W.iret (v := (-1)) hx hb hr (fun t9 ht9 hW9 => ⟨⟨_, ((-1) : Int32), rfl, rfl, by rw [ht9]; exact hP, hD⟩, hS.F ht9⟩) hS.2.2 dX12_letter_46
      · obtain ⟨i9, hki, hli⟩ := nI_nn2 c8
        rw [hki] at hl
        refine lv_iload_n hx hb dX12_letter_30 rfl (lv_at hl 2 rfl) ?_
        refine lv_aload_n hx hb dX12_letter_31 rfl (lv_at hl 0 rfl) ?_
        refine r_get (v := .ref (a 7)) hx hb hown hq hE hP 11 31 tFX12_11 (by decide) pw_1437 rfl dX12_letter_32 ?_
        refine lv_aload_n hx hb dX12_letter_35 rfl (lv_at hl 0 rfl) ?_
        refine r_get (v := .ref (a 24)) hx hb hown hq hE hP 36 84 tFX12_36 (by decide) pw_1455 rfl dX12_letter_36 ?_
        refine lv_iload_n hx hb dX12_letter_39 rfl (lv_at hl 1 rfl) ?_
        refine r_ldi (f := (B 24)) (j := k9) hx hb hE hP 24 (ma_24 G a _) rfl (by omega) (by decide) dX12_letter_40 ?_
        obtain ⟨-, ⟨n9, en9, hn9⟩, -⟩ := hPg.ps.1 k9 (by omega)
        obtain ⟨p9, q9, ep9, eq9, hpq⟩ := hnm (fun q => absurd q (by assumption)) n9 (by omega)
        refine lv_topi (fun x9 e10 => ?_)
        obtain rfl : x9 = nI n9 := e10.trans ((congrFun hw24 _).trans en9)
        refine r_ldi (f := (B 7)) (j := n9) hx hb hE hP 7 (ma_7 G a _) rfl (by omega) (by decide) dX12_letter_41 ?_
        refine lv_topi (fun x11 e12 => ?_)
        obtain rfl : x11 = nI q9 := e12.trans eq9
        refine lv_icmp_lt (tgt := 47) hx hb dX12_letter_42 (by decide) (fun c13 => ?_) (fun c13 => ?_)
        · have n14 : i9 < q9 := (nI_ltI (a := i9) (b := q9) (by omega) (by omega)).mp c13
          refine lv_aload_n hx hb dX12_letter_47 rfl (lv_at hl 0 rfl) ?_
          refine r_get (v := .ref (a 8)) hx hb hown hq hE hP 12 34 tFX12_12 (by decide) pw_1438 rfl dX12_letter_48 ?_
          refine lv_aload_n hx hb dX12_letter_51 rfl (lv_at hl 0 rfl) ?_
          refine r_get (v := .ref (a 6)) hx hb hown hq hE hP 10 28 tFX12_10 (by decide) pw_1436 rfl dX12_letter_52 ?_
          refine lv_aload_n hx hb dX12_letter_55 rfl (lv_at hl 0 rfl) ?_
          refine r_get (v := .ref (a 24)) hx hb hown hq hE hP 36 84 tFX12_36 (by decide) pw_1455 rfl dX12_letter_56 ?_
          refine lv_iload_n hx hb dX12_letter_59 rfl (lv_at hl 1 rfl) ?_
          refine r_ldi (f := (B 24)) (j := k9) hx hb hE hP 24 (ma_24 G a _) rfl (by omega) (by decide) dX12_letter_60 ?_
          refine lv_topi (fun x15 e16 => ?_)
          obtain rfl : x15 = nI n9 := e16.trans ((congrFun hw24 _).trans en9)
          refine r_ldi (f := (B 6)) (j := n9) hx hb hE hP 6 (ma_6 G a _) rfl (by omega) (by decide) dX12_letter_61 ?_
          refine lv_topi (fun x17 e18 => ?_)
          obtain rfl : x17 = nI p9 := e18.trans ep9
          refine lv_iload_n hx hb dX12_letter_62 rfl (lv_at hl 2 rfl) ?_
          refine lv_iadd hx hb dX12_letter_63 ?_
          refine lv_topi (fun x19 e20 => ?_)
          obtain rfl : x19 = nI (p9 + i9) := e20.trans (nI_add (p9) (i9))
          refine r_ldb (f := (B 8)) (j := (p9 + i9)) hx hb hE hP 8 (ma_8 G a _) rfl (by omega) (by decide) dX12_letter_64 ?_
          have hP : va_P G.1 pCl (mW G h0 a (upd (upd (upd (upd (upd (upd F 0 0) 35 (nI dc)) 44 (nI fd)) 49 (nI md)) 59 (nI bk)) 82 hp) B) _ := mW_to (F := F) (l1 := [(35, (nI dc)), (44, (nI fd)), (49, (nI md)), (59, (nI bk)), (82, hp), (0, 0)]) (l2 := [(0, 0), (35, (nI dc)), (44, (nI fd)), (49, (nI md)), (59, (nI bk)), (82, hp)]) (V := [(nI dc), (nI fd), (nI md), (nI bk), hp, 0, 0, (nI dc), (nI fd), (nI md), (nI bk), hp]) rfl rfl rfl hP
          have hD : va_D A (mW G h0 a (upd (upd (upd (upd (upd (upd F 0 0) 35 (nI dc)) 44 (nI fd)) 49 (nI md)) 59 (nI bk)) 82 hp) B) := mW_D hD
          exact W.iret (v := ((B 8) (p9 + i9))) hx hb hr (fun t9 ht9 hW9 => ⟨⟨_, ((B 8) (p9 + i9)), rfl, rfl, by rw [ht9]; exact hP, hD⟩, hS.F ht9⟩) hS.2.2 dX12_letter_65
        · have n21 : ¬ (i9 < q9) := fun h9 => c13 ((nI_ltI (a := i9) (b := q9) (by omega) (by omega)).mpr h9)
          refine lv_iconst (v := (-1)) hx hb dX12_letter_45 (by decide) ?_
          have hP : va_P G.1 pCl (mW G h0 a (upd (upd (upd (upd (upd (upd F 0 0) 35 (nI dc)) 44 (nI fd)) 49 (nI md)) 59 (nI bk)) 82 hp) B) _ := mW_to (F := F) (l1 := [(35, (nI dc)), (44, (nI fd)), (49, (nI md)), (59, (nI bk)), (82, hp), (0, 0)]) (l2 := [(0, 0), (35, (nI dc)), (44, (nI fd)), (49, (nI md)), (59, (nI bk)), (82, hp)]) (V := [(nI dc), (nI fd), (nI md), (nI bk), hp, 0, 0, (nI dc), (nI fd), (nI md), (nI bk), hp]) rfl rfl rfl hP
          have hD : va_D A (mW G h0 a (upd (upd (upd (upd (upd (upd F 0 0) 35 (nI dc)) 44 (nI fd)) 49 (nI md)) 59 (nI bk)) 82 hp) B) := mW_D hD
          exact W.iret (v := (-1)) hx hb hr (fun t9 ht9 hW9 => ⟨⟨_, ((-1) : Int32), rfl, rfl, by rw [ht9]; exact hP, hD⟩, hS.F ht9⟩) hS.2.2 dX12_letter_46
theorem dX12_called_0 : decode cX12_called 0 = .ok (.aload_n 0, 1) := by decide +kernel
theorem dX12_called_1 : decode cX12_called 1 = .ok (.iconst 0, 1) := by decide +kernel
theorem dX12_called_2 : decode cX12_called 2 = .ok (.putfield 252, 3) := by decide +kernel
theorem dX12_called_5 : decode cX12_called 5 = .ok (.aload_n 0, 1) := by decide +kernel
theorem dX12_called_6 : decode cX12_called 6 = .ok (.getfield 649, 3) := by decide +kernel
theorem dX12_called_9 : decode cX12_called 9 = .ok (.ifCond .eq 58, 3) := by decide +kernel
theorem dX12_called_67 : decode cX12_called 67 = .ok (.iconst (-1), 1) := by decide +kernel
theorem dX12_called_68 : decode cX12_called 68 = .ok (.ireturn, 1) := by decide +kernel
theorem dX12_called_12 : decode cX12_called 12 = .ok (.iload_n 1, 1) := by decide +kernel
theorem dX12_called_13 : decode cX12_called 13 = .ok (.iconst 0, 1) := by decide +kernel
theorem dX12_called_14 : decode cX12_called 14 = .ok (.aload_n 0, 1) := by decide +kernel
theorem dX12_called_15 : decode cX12_called 15 = .ok (.getfield 384, 3) := by decide +kernel
theorem dX12_called_18 : decode cX12_called 18 = .ok (.iconst 1, 1) := by decide +kernel
theorem dX12_called_19 : decode cX12_called 19 = .ok (.isub, 1) := by decide +kernel
theorem dX12_called_20 : decode cX12_called 20 = .ok (.invokestatic 261, 3) := by decide +kernel
theorem dX12_called_23 : decode cX12_called 23 = .ok (.ifCond .eq 44, 3) := by decide +kernel
theorem dX12_called_26 : decode cX12_called 26 = .ok (.aload_n 0, 1) := by decide +kernel
theorem dX12_called_27 : decode cX12_called 27 = .ok (.getfield 90, 3) := by decide +kernel
theorem dX12_called_30 : decode cX12_called 30 = .ok (.iload_n 1, 1) := by decide +kernel
theorem dX12_called_31 : decode cX12_called 31 = .ok (.iconst 0, 1) := by decide +kernel
theorem dX12_called_32 : decode cX12_called 32 = .ok (.aload_n 0, 1) := by decide +kernel
theorem dX12_called_33 : decode cX12_called 33 = .ok (.getfield 384, 3) := by decide +kernel
theorem dX12_called_36 : decode cX12_called 36 = .ok (.iconst 1, 1) := by decide +kernel
theorem dX12_called_37 : decode cX12_called 37 = .ok (.isub, 1) := by decide +kernel
theorem dX12_called_38 : decode cX12_called 38 = .ok (.invokestatic 261, 3) := by decide +kernel
theorem dX12_called_41 : decode cX12_called 41 = .ok (.ifCond .eq 7, 3) := by decide +kernel
theorem dX12_called_44 : decode cX12_called 44 = .ok (.iload_n 1, 1) := by decide +kernel
theorem dX12_called_45 : decode cX12_called 45 = .ok (.goto 4, 3) := by decide +kernel
theorem dX12_called_49 : decode cX12_called 49 = .ok (.baload, 1) := by decide +kernel
theorem dX12_called_50 : decode cX12_called 50 = .ok (.ifCond .ne 17, 3) := by decide +kernel
theorem dX12_called_53 : decode cX12_called 53 = .ok (.iload_n 2, 1) := by decide +kernel
theorem dX12_called_54 : decode cX12_called 54 = .ok (.iconst 0, 1) := by decide +kernel
theorem dX12_called_55 : decode cX12_called 55 = .ok (.aload_n 0, 1) := by decide +kernel
theorem dX12_called_56 : decode cX12_called 56 = .ok (.getfield 422, 3) := by decide +kernel
theorem dX12_called_59 : decode cX12_called 59 = .ok (.iconst 1, 1) := by decide +kernel
theorem dX12_called_60 : decode cX12_called 60 = .ok (.isub, 1) := by decide +kernel
theorem dX12_called_61 : decode cX12_called 61 = .ok (.invokestatic 261, 3) := by decide +kernel
theorem dX12_called_64 : decode cX12_called 64 = .ok (.ifCond .ne 5, 3) := by decide +kernel
theorem dX12_called_69 : decode cX12_called 69 = .ok (.iconst 0, 1) := by decide +kernel
theorem dX12_called_70 : decode cX12_called 70 = .ok (.istore_n 3, 1) := by decide +kernel
theorem dX12_called_71 : decode cX12_called 71 = .ok (.aload_n 0, 1) := by decide +kernel
theorem dX12_called_72 : decode cX12_called 72 = .ok (.getfield 144, 3) := by decide +kernel
theorem dX12_called_75 : decode cX12_called 75 = .ok (.iload_n 3, 1) := by decide +kernel
theorem dX12_called_76 : decode cX12_called 76 = .ok (.iaload, 1) := by decide +kernel
theorem dX12_called_77 : decode cX12_called 77 = .ok (.iload_n 2, 1) := by decide +kernel
theorem dX12_called_78 : decode cX12_called 78 = .ok (.if_icmp .eq 9, 3) := by decide +kernel
theorem dX12_called_87 : decode cX12_called 87 = .ok (.aload_n 0, 1) := by decide +kernel
theorem dX12_called_88 : decode cX12_called 88 = .ok (.iload_n 1, 1) := by decide +kernel
theorem dX12_called_89 : decode cX12_called 89 = .ok (.aload_n 0, 1) := by decide +kernel
theorem dX12_called_90 : decode cX12_called 90 = .ok (.getfield 123, 3) := by decide +kernel
theorem dX12_called_93 : decode cX12_called 93 = .ok (.iload_n 3, 1) := by decide +kernel
theorem dX12_called_94 : decode cX12_called 94 = .ok (.iaload, 1) := by decide +kernel
theorem dX12_called_95 : decode cX12_called 95 = .ok (.invokevirtual 515, 3) := by decide +kernel
theorem dX12_called_98 : decode cX12_called 98 = .ok (.istore 4, 2) := by decide +kernel
theorem dX12_called_100 : decode cX12_called 100 = .ok (.iload 4, 2) := by decide +kernel
theorem dX12_called_102 : decode cX12_called 102 = .ok (.iconst (-1), 1) := by decide +kernel
theorem dX12_called_103 : decode cX12_called 103 = .ok (.if_icmp .ne 7, 3) := by decide +kernel
theorem dX12_called_110 : decode cX12_called 110 = .ok (.aload_n 0, 1) := by decide +kernel
theorem dX12_called_111 : decode cX12_called 111 = .ok (.getfield 144, 3) := by decide +kernel
theorem dX12_called_114 : decode cX12_called 114 = .ok (.iload 4, 2) := by decide +kernel
theorem dX12_called_116 : decode cX12_called 116 = .ok (.iaload, 1) := by decide +kernel
theorem dX12_called_117 : decode cX12_called 117 = .ok (.ireturn, 1) := by decide +kernel
theorem dX12_called_106 : decode cX12_called 106 = .ok (.iconst (-1), 1) := by decide +kernel
theorem dX12_called_107 : decode cX12_called 107 = .ok (.goto 10, 3) := by decide +kernel
theorem dX12_called_81 : decode cX12_called 81 = .ok (.iinc 3 1, 3) := by decide +kernel
theorem dX12_called_84 : decode cX12_called 84 = .ok (.goto (-13), 3) := by decide +kernel
set_option maxHeartbeats 20000000 in
set_option maxRecDepth 100000 in
/-- called(k, m) -/
theorem R_called (l : Launch) (G : pT) (h0 : Nat) (a : Nat → Nat) (F : Nat → Int32) (B : Nat → Nat → Int32) (Xs : Nat → Nat → Int32) (gh : Nat → Nat → Nat) (nd : Nat) (T : Nat) (nm : Nat) (wr : Nat) (lz : Nat) (dc : Nat) (fd : Nat) (md : Nat) (pr : Nat) (bk : Nat) (M : MTb) (hp : Int32) (kq : Int32) (wq : Int32) (hpg : If (¬ hp = 0) (Pg Xs B gh nd T nm wr lz dc fd md pr bk M)) : PM l G pX0 yX12_called cX12_called 5 (some .int) ({ frames := 3, cells := 0, slots := 0, locals := 84 }) [.ref h0, .int kq, .int wq] (mW G h0 a (upd (upd (upd (upd (upd F 35 (nI dc)) 44 (nI fd)) 49 (nI md)) 59 (nI bk)) 82 hp) B) (fun (v : Option Value) (u : Int32) => v = some (.int u)) (fun u => (mW G h0 a (upd (upd (upd (upd (upd (upd F 0 0) 35 (nI dc)) 44 (nI fd)) 49 (nI md)) 59 (nI bk)) 82 hp) B)) := by
  intro sz
  refine Met.ofW (cc := cX12_called) (maxL := 5) (ret := (some .int)) (by decide) rfl ?_
  intro p e s m args below meth c s₁ B9 hml hv
  obtain ⟨rfl, hsz, hP, hD0, hE, hX⟩ := hv
  have hx := B9.exec
  have hb := B9.bytes
  have hr := B9.returns
  have hts := atoms_spec (ws := Cond.code yX12_called cX12_called 5 (some .int) :: pw) B9.pre
  have hq : ∀ w ∈ pw, w.before _ s = true := fun w h => hts w (List.mem_cons_of_mem _ h)
  have hown : s.vm.findClass RX12 = some m.cls := findClass_of_methodNamed B9.named
  have hlocks := B9.notSynchronized
  subst hsz
  have hD := hD0.self (sz := s.heap.size)
  have hA : ∀ q : Nat, s.heap.size ≤ q → va_A (mW G h0 a (upd (upd (upd (upd (upd F 35 (nI dc)) 44 (nI fd)) 49 (nI md)) 59 (nI bk)) 82 hp) B) s.heap.size q := fun q h => Or.inr h
  have hP : va_P G.1 pCl (mW G h0 a (upd (upd (upd (upd (upd F 35 (nI dc)) 44 (nI fd)) 49 (nI md)) 59 (nI bk)) 82 hp) B) s.heap := hP
  generalize va_A (mW G h0 a (upd (upd (upd (upd (upd F 35 (nI dc)) 44 (nI fd)) 49 (nI md)) 59 (nI bk)) 82 hp) B) s.heap.size = A at hD hE hA ⊢
  have hS : va_S A s.heap s.heap [] := va_S.rf
  have hl := lv_entry ([.ref h0, .int kq, .int wq]) (n := 5) (Nat.le_of_ble_eq_true rfl)
  rw [lg_entry_eq]
  generalize (lg_sl ([.ref h0, .int kq, .int wq]) ++ List.replicate (5 - (lg_sl ([.ref h0, .int kq, .int wq])).length) Slot.unset).toArray = ls at hl ⊢
  have hl : lv_has ls 5 [(0, .ref h0), (1, .int kq), (2, .int wq)] := hl
  refine lv_aload_n hx hb dX12_called_0 rfl (lv_at hl 0 rfl) ?_
  refine lv_iconst (v := 0) hx hb dX12_called_1 (by decide) ?_
  refine r_put (v := 0) (ty := .int) hx hb hown hq hE hP hD hS 0 252 tFX12_0 (by decide) pw_1515 (by decide) rfl rfl (ms_0 a _ _) dX12_called_2 (fun H locs hP hD hS => ?_)
  refine lv_aload_n hx hb dX12_called_5 rfl (lv_at hl 0 rfl) ?_
  refine r_get (v := .int hp) hx hb hown hq hE hP 82 649 tFX12_82 (by decide) pw_1922 rfl dX12_called_6 ?_
  refine lv_if_eq (tgt := 67) hx hb dX12_called_9 (by decide) (fun c1 => ?_) (fun c1 => ?_)
  · refine lv_iconst (v := (-1)) hx hb dX12_called_67 (by decide) ?_
    have hP : va_P G.1 pCl (mW G h0 a (upd (upd (upd (upd (upd (upd F 0 0) 35 (nI dc)) 44 (nI fd)) 49 (nI md)) 59 (nI bk)) 82 hp) B) _ := mW_to (F := F) (l1 := [(35, (nI dc)), (44, (nI fd)), (49, (nI md)), (59, (nI bk)), (82, hp), (0, 0)]) (l2 := [(0, 0), (35, (nI dc)), (44, (nI fd)), (49, (nI md)), (59, (nI bk)), (82, hp)]) (V := [(nI dc), (nI fd), (nI md), (nI bk), hp, 0, 0, (nI dc), (nI fd), (nI md), (nI bk), hp]) rfl rfl rfl hP
    have hD : va_D A (mW G h0 a (upd (upd (upd (upd (upd (upd F 0 0) 35 (nI dc)) 44 (nI fd)) 49 (nI md)) 59 (nI bk)) 82 hp) B) := mW_D hD
    exact W.iret (v := (-1)) hx hb hr (fun t9 ht9 hW9 => ⟨⟨_, ((-1) : Int32), rfl, rfl, by rw [ht9]; exact hP, hD⟩, hS.F ht9⟩) hS.2.2 dX12_called_68
  · have hPg := hpg c1
    have hbd := hPg.bd
    have hw24 : B 24 = Xs 24 := hPg.row 24 (by omega) (by omega) (by omega) (by omega) (by omega)
    have hw26 : B 26 = Xs 26 := hPg.row 26 (by omega) (by omega) (by omega) (by omega) (by omega)
    have hw29 : B 29 = Xs 29 := hPg.row 29 (by omega) (by omega) (by omega) (by omega) (by omega)
    have hw36 : B 36 = Xs 36 := hPg.row 36 (by omega) (by omega) (by omega) (by omega) (by omega)
    have hw37 : B 37 = Xs 37 := hPg.row 37 (by omega) (by omega) (by omega) (by omega) (by omega)
    have hw44 : B 44 = Xs 44 := hPg.row 44 (by omega) (by omega) (by omega) (by omega) (by omega)
    have hfb := hPg.ab.1
    refine lv_iload_n hx hb dX12_called_12 rfl (lv_at hl 1 rfl) ?_
    refine lv_iconst (v := 0) hx hb dX12_called_13 (by decide) ?_
    refine lv_aload_n hx hb dX12_called_14 rfl (lv_at hl 0 rfl) ?_
    refine r_get (v := .int (nI dc)) hx hb hown hq hE hP 35 384 tFX12_35 (by decide) pw_1732 rfl dX12_called_15 ?_
    refine lv_iconst (v := 1) hx hb dX12_called_18 (by decide) ?_
    refine lv_isub hx hb dX12_called_19 ?_
    refine lv_topi (fun x2 e3 => ?_)
    refine pc_SN (G := G) (As := [.int kq, .int 0, .int x2]) (rest := []) hx hb hml hown hq hE hX pX0_al hP hS hA hl.1 (s_in l G kq 0 x2) (gS pw_1521 pw_1522 pw_1523 pw_1513) hS_X12_in rfl (Nat.le_of_ble_eq_true rfl) dX12_called_20 ⟨Nat.le_of_ble_eq_true rfl, Nat.le_of_ble_eq_true rfl⟩ ⟨Nat.le_of_ble_eq_true rfl, Nat.le_of_ble_eq_true rfl⟩ (fun v6 u4 H locs hw5 hP hS => ?_)
    obtain rfl : v6 = some (.int (isin kq 0 x2)) := hw5
    refine W.widen (k := 0) (n := 0) (Nat.le_of_ble_eq_true rfl) (Nat.le_of_ble_eq_true rfl) ?_
    refine W.eq (g2 := F0 m 23 ls [.int (isin kq 0 x2)]) rfl ?_
    refine lv_if_eq (tgt := 67) hx hb dX12_called_23 (by decide) (fun c7 => ?_) (fun c7 => ?_)
    · refine lv_iconst (v := (-1)) hx hb dX12_called_67 (by decide) ?_
      have hP : va_P G.1 pCl (mW G h0 a (upd (upd (upd (upd (upd (upd F 0 0) 35 (nI dc)) 44 (nI fd)) 49 (nI md)) 59 (nI bk)) 82 hp) B) _ := mW_to (F := F) (l1 := [(35, (nI dc)), (44, (nI fd)), (49, (nI md)), (59, (nI bk)), (82, hp), (0, 0)]) (l2 := [(0, 0), (35, (nI dc)), (44, (nI fd)), (49, (nI md)), (59, (nI bk)), (82, hp)]) (V := [(nI dc), (nI fd), (nI md), (nI bk), hp, 0, 0, (nI dc), (nI fd), (nI md), (nI bk), hp]) rfl rfl rfl hP
      have hD : va_D A (mW G h0 a (upd (upd (upd (upd (upd (upd F 0 0) 35 (nI dc)) 44 (nI fd)) 49 (nI md)) 59 (nI bk)) 82 hp) B) := mW_D hD
      exact W.iret (v := (-1)) hx hb hr (fun t9 ht9 hW9 => ⟨⟨_, ((-1) : Int32), rfl, rfl, by rw [ht9]; exact hP, hD⟩, hS.F ht9⟩) hS.2.2 dX12_called_68
    · rw [e3] at c7
      obtain ⟨k9, hkk9, hlk9⟩ := isin_m (n := dc) (by omega) c7
      rw [hkk9] at hl
      refine lv_aload_n hx hb dX12_called_26 rfl (lv_at hl 0 rfl) ?_
      refine r_get (v := .ref (a 26)) hx hb hown hq hE hP 38 90 tFX12_38 (by decide) pw_1457 rfl dX12_called_27 ?_
      refine lv_iload_n hx hb dX12_called_30 rfl (lv_at hl 1 rfl) ?_
      refine lv_iconst (v := 0) hx hb dX12_called_31 (by decide) ?_
      refine lv_aload_n hx hb dX12_called_32 rfl (lv_at hl 0 rfl) ?_
      refine r_get (v := .int (nI dc)) hx hb hown hq hE hP 35 384 tFX12_35 (by decide) pw_1732 rfl dX12_called_33 ?_
      refine lv_iconst (v := 1) hx hb dX12_called_36 (by decide) ?_
      refine lv_isub hx hb dX12_called_37 ?_
      refine lv_topi (fun x8 e9 => ?_)
      refine pc_SN (G := G) (As := [.int (nI k9), .int 0, .int x8]) (rest := [.ref (a 26)]) hx hb hml hown hq hE hX pX0_al hP hS hA hl.1 (s_in l G (nI k9) 0 x8) (gS pw_1521 pw_1522 pw_1523 pw_1513) hS_X12_in rfl (Nat.le_of_ble_eq_true rfl) dX12_called_38 ⟨Nat.le_of_ble_eq_true rfl, Nat.le_of_ble_eq_true rfl⟩ ⟨Nat.le_of_ble_eq_true rfl, Nat.le_of_ble_eq_true rfl⟩ (fun v12 u10 H locs hw11 hP hS => ?_)
      obtain rfl : v12 = some (.int (isin (nI k9) 0 x8)) := hw11
      refine W.widen (k := 0) (n := 0) (Nat.le_of_ble_eq_true rfl) (Nat.le_of_ble_eq_true rfl) ?_
      refine W.eq (g2 := F0 m 41 ls [.int (isin (nI k9) 0 x8), .ref (a 26)]) rfl ?_
      refine lv_topi (fun x13 e14 => ?_)
      obtain rfl : x13 = 1 := e14.trans (by rw [e9]; exact isin_k (by omega))
      refine lv_if_eq (tgt := 48) hx hb dX12_called_41 (by decide) (fun c15 => absurd c15 (by decide)) (fun c15 => ?_)
      refine lv_iload_n hx hb dX12_called_44 rfl (lv_at hl 1 rfl) ?_
      refine lv_goto (tgt := 49) hx hb dX12_called_45 (by decide) ?_
      refine r_ldz (f := (B 26)) (j := k9) hx hb hE hP 26 (ma_26 G a _) rfl (by omega) (by decide) dX12_called_49 ?_
      refine lv_if_ne (tgt := 67) hx hb dX12_called_50 (by decide) (fun c16 => ?_) (fun c16 => ?_)
      · refine lv_iconst (v := (-1)) hx hb dX12_called_67 (by decide) ?_
        have hP : va_P G.1 pCl (mW G h0 a (upd (upd (upd (upd (upd (upd F 0 0) 35 (nI dc)) 44 (nI fd)) 49 (nI md)) 59 (nI bk)) 82 hp) B) _ := mW_to (F := F) (l1 := [(35, (nI dc)), (44, (nI fd)), (49, (nI md)), (59, (nI bk)), (82, hp), (0, 0)]) (l2 := [(0, 0), (35, (nI dc)), (44, (nI fd)), (49, (nI md)), (59, (nI bk)), (82, hp)]) (V := [(nI dc), (nI fd), (nI md), (nI bk), hp, 0, 0, (nI dc), (nI fd), (nI md), (nI bk), hp]) rfl rfl rfl hP
        have hD : va_D A (mW G h0 a (upd (upd (upd (upd (upd (upd F 0 0) 35 (nI dc)) 44 (nI fd)) 49 (nI md)) 59 (nI bk)) 82 hp) B) := mW_D hD
        exact W.iret (v := (-1)) hx hb hr (fun t9 ht9 hW9 => ⟨⟨_, ((-1) : Int32), rfl, rfl, by rw [ht9]; exact hP, hD⟩, hS.F ht9⟩) hS.2.2 dX12_called_68
      · refine lv_iload_n hx hb dX12_called_53 rfl (lv_at hl 2 rfl) ?_
        refine lv_iconst (v := 0) hx hb dX12_called_54 (by decide) ?_
        refine lv_aload_n hx hb dX12_called_55 rfl (lv_at hl 0 rfl) ?_
        refine r_get (v := .int (nI bk)) hx hb hown hq hE hP 59 422 tFX12_59 (by decide) pw_1724 rfl dX12_called_56 ?_
        refine lv_iconst (v := 1) hx hb dX12_called_59 (by decide) ?_
        refine lv_isub hx hb dX12_called_60 ?_
        refine lv_topi (fun x17 e18 => ?_)
        refine pc_SN (G := G) (As := [.int wq, .int 0, .int x17]) (rest := []) hx hb hml hown hq hE hX pX0_al hP hS hA hl.1 (s_in l G wq 0 x17) (gS pw_1521 pw_1522 pw_1523 pw_1513) hS_X12_in rfl (Nat.le_of_ble_eq_true rfl) dX12_called_61 ⟨Nat.le_of_ble_eq_true rfl, Nat.le_of_ble_eq_true rfl⟩ ⟨Nat.le_of_ble_eq_true rfl, Nat.le_of_ble_eq_true rfl⟩ (fun v21 u19 H locs hw20 hP hS => ?_)
        obtain rfl : v21 = some (.int (isin wq 0 x17)) := hw20
        refine W.widen (k := 0) (n := 0) (Nat.le_of_ble_eq_true rfl) (Nat.le_of_ble_eq_true rfl) ?_
        refine W.eq (g2 := F0 m 64 ls [.int (isin wq 0 x17)]) rfl ?_
        refine lv_if_ne (tgt := 69) hx hb dX12_called_64 (by decide) (fun c22 => ?_) (fun c22 => ?_)
        · rw [e18] at c22
          obtain ⟨j9, hkj9, hlj9⟩ := isin_m (n := bk) (by omega) c22
          rw [hkj9] at hl
          obtain ⟨m0, hm0, em0⟩ := hPg.ps.2.2.2.2.1 j9 (by omega)
          refine lv_iconst (v := 0) hx hb dX12_called_69 (by decide) ?_
          refine lv_istore_n (lv' := [(3, .int 0), (0, .ref h0), (1, .int (nI k9)), (2, .int (nI j9))]) hx hb dX12_called_70 rfl hl (by decide) rfl (fun ls hl => ?_)
          have loop_o : ∀ (n_o : Nat) (o2 : Nat) (H : Heap) (locs : List Loc) (ls : Array Slot), o2 ≤ m0 → m0 + 1 ≤ o2 + n_o → va_P G.1 pCl (mW G h0 a (upd (upd (upd (upd (upd (upd F 0 0) 35 (nI dc)) 44 (nI fd)) 49 (nI md)) 59 (nI bk)) 82 hp) B) H → va_D A (mW G h0 a (upd (upd (upd (upd (upd (upd F 0 0) 35 (nI dc)) 44 (nI fd)) 49 (nI md)) 59 (nI bk)) 82 hp) B) → va_S A s.heap H locs → lv_has ls 5 [(3, .int (nI o2)), (2, .int (nI j9)), (1, .int (nI k9)), (0, .ref h0)] → W p l e (headSpec (Cond.code yX12_called cX12_called 5 (some .int) :: pw) ({ frames := 3, cells := 0, slots := 0, locals := 84 } : Room)).room s m ([.ref h0, .int kq, .int wq] : List Value).toArray below meth c H locs 0 0 (MQ below (pQ G A (fun (v : Option Value) (u : Int32) => v = some (.int u)) (fun u => (mW G h0 a (upd (upd (upd (upd (upd (upd F 0 0) 35 (nI dc)) 44 (nI fd)) 49 (nI md)) 59 (nI bk)) 82 hp) B))) ([.ref h0, .int kq, .int wq] : List Value).toArray s ({ frames := 3, cells := 0, slots := 0, locals := 84 } : Room).cells ({ frames := 3, cells := 0, slots := 0, locals := 84 } : Room).slots A) (F0 m 71 ls []) := by
            intro n_o
            induction n_o with
            | zero => intro o2 H locs ls hk_o hn_o; omega
            | succ n_o ih_o =>
              intro o2 H locs ls hk_o hn_o hP hD hS hl
              refine lv_aload_n hx hb dX12_called_71 rfl (lv_at hl 3 rfl) ?_
              refine r_get (v := .ref (a 44)) hx hb hown hq hE hP 58 144 tFX12_58 (by decide) pw_1475 rfl dX12_called_72 ?_
              refine lv_iload_n hx hb dX12_called_75 rfl (lv_at hl 0 rfl) ?_
              refine r_ldi (f := (B 44)) (j := o2) hx hb hE hP 44 (ma_44 G a _) rfl (by omega) (by decide) dX12_called_76 ?_
              refine lv_iload_n hx hb dX12_called_77 rfl (lv_at hl 1 rfl) ?_
              refine lv_icmp_eq (tgt := 87) hx hb dX12_called_78 (by decide) (fun c23 => ?_) (fun c23 => ?_)
              · refine lv_aload_n hx hb dX12_called_87 rfl (lv_at hl 3 rfl) ?_
                refine lv_iload_n hx hb dX12_called_88 rfl (lv_at hl 2 rfl) ?_
                refine lv_aload_n hx hb dX12_called_89 rfl (lv_at hl 3 rfl) ?_
                refine r_get (v := .ref (a 37)) hx hb hown hq hE hP 51 123 tFX12_51 (by decide) pw_1468 rfl dX12_called_90 ?_
                refine lv_iload_n hx hb dX12_called_93 rfl (lv_at hl 0 rfl) ?_
                refine r_ldi (f := (B 37)) (j := o2) hx hb hE hP 37 (ma_37 G a _) rfl (by omega) (by decide) dX12_called_94 ?_
                have hP : va_P G.1 pCl (mW G h0 a (upd (upd (upd (upd (upd (upd (upd F 0 0) 35 (nI dc)) 44 (nI fd)) 49 (nI md)) 59 (nI bk)) 82 hp) 49 (nI md)) (updA (updA (updA B 29 (B 29)) 36 (B 36)) 37 (B 37))) _ := mW_to (F := F) (l1 := [(0, 0), (35, (nI dc)), (44, (nI fd)), (49, (nI md)), (59, (nI bk)), (82, hp)]) (l2 := [(0, 0), (35, (nI dc)), (44, (nI fd)), (49, (nI md)), (59, (nI bk)), (82, hp), (49, (nI md))]) (V := [0, (nI dc), (nI fd), (nI md), (nI bk), hp, 0, (nI dc), (nI fd), (nI md), (nI bk), hp, (nI md)]) rfl rfl (show B = (updA (updA (updA B 29 (B 29)) 36 (B 36)) 37 (B 37)) from updsA_eq2 (F := B) (l1 := []) (l2 := [(29, (B 29)), (36, (B 36)), (37, (B 37))]) (V := [(B 29), (B 36), (B 37)]) rfl rfl) hP
                have hD : va_D A (mW G h0 a (upd (upd (upd (upd (upd (upd (upd F 0 0) 35 (nI dc)) 44 (nI fd)) 49 (nI md)) 59 (nI bk)) 82 hp) 49 (nI md)) (updA (updA (updA B 29 (B 29)) 36 (B 36)) 37 (B 37))) := mW_D hD
                refine pc_V0 (G := G) (As := [.int (nI k9), .int ((B 37) o2)]) (rest := []) hx hb hml hown hq hE hX pX0_al hP hD hS hA hl.1 (R_methodOf l G h0 a (upd (upd (upd (upd (upd (upd F 0 0) 35 (nI dc)) 44 (nI fd)) 49 (nI md)) 59 (nI bk)) 82 hp) B k9 dc md ((B 37) o2) (B 36) (B 37) (B 29) (by omega) (by omega) (by omega) (by show Rk (B 29) dc; rw [hw29]; exact hPg.1.1.2.2.2.1)) (gV pw_1769 pw_1770 pw_1771 pw_1523 pw_1767) hV_X12_methodOf 0 9 rfl rfl rfl rfl (Nat.le_of_ble_eq_true rfl) dX12_called_95 ⟨Nat.le_of_ble_eq_true rfl, Nat.le_of_ble_eq_true rfl⟩ ⟨Nat.le_of_ble_eq_true rfl, Nat.le_of_ble_eq_true rfl⟩ (fun v26 u24 H locs hw25 hP hD hS => ?_)
                obtain rfl : v26 = some (.int (mthF (B 36) (B 37) (B 29) md ((B 37) o2) 40 k9)) := hw25
                have hP : va_P G.1 pCl (mW G h0 a (upd (upd (upd (upd (upd (upd F 0 0) 35 (nI dc)) 44 (nI fd)) 49 (nI md)) 59 (nI bk)) 82 hp) B) _ := mW_to (F := F) (l1 := [(0, 0), (35, (nI dc)), (44, (nI fd)), (49, (nI md)), (59, (nI bk)), (82, hp), (49, (nI md))]) (l2 := [(0, 0), (35, (nI dc)), (44, (nI fd)), (49, (nI md)), (59, (nI bk)), (82, hp)]) (V := [0, (nI dc), (nI fd), (nI md), (nI bk), hp, (nI md), 0, (nI dc), (nI fd), (nI md), (nI bk), hp]) rfl rfl (show (updA (updA (updA B 29 (B 29)) 36 (B 36)) 37 (B 37)) = B from updsA_eq2 (F := B) (l1 := [(29, (B 29)), (36, (B 36)), (37, (B 37))]) (l2 := []) (V := [(B 29), (B 36), (B 37)]) rfl rfl) hP
                have hD : va_D A (mW G h0 a (upd (upd (upd (upd (upd (upd F 0 0) 35 (nI dc)) 44 (nI fd)) 49 (nI md)) 59 (nI bk)) 82 hp) B) := mW_D hD
                refine W.widen (k := 0) (n := 0) (Nat.le_of_ble_eq_true rfl) (Nat.le_of_ble_eq_true rfl) ?_
                refine W.eq (g2 := F0 m 98 ls [.int (mthF (B 36) (B 37) (B 29) md ((B 37) o2) 40 k9)]) rfl ?_
                refine lv_topi (fun x27 e28 => ?_)
                have hgr := mth_or (f := B 36) (g := B 37) (ds := B 29) (x := B 37 o2) (md := md) 40 k9
                refine lv_istore (lv' := [(4, .int x27), (3, .int (nI o2)), (2, .int (nI j9)), (1, .int (nI k9)), (0, .ref h0)]) hx hb dX12_called_98 hl (by decide) rfl (fun ls hl => ?_)
                refine lv_iload hx hb dX12_called_100 (lv_at hl 0 rfl) ?_
                refine lv_iconst (v := (-1)) hx hb dX12_called_102 (by decide) ?_
                refine lv_icmp_ne (tgt := 110) hx hb dX12_called_103 (by decide) (fun c29 => ?_) (fun c29 => ?_)
                · obtain ⟨m9, hm9, hm8, -⟩ := hgr.resolve_left (fun q => c29 (e28.trans q))
                  have hg8 : x27 = nI m9 := e28.trans hm9
                  rw [hg8] at hl
                  refine lv_aload_n hx hb dX12_called_110 rfl (lv_at hl 4 rfl) ?_
                  refine r_get (v := .ref (a 44)) hx hb hown hq hE hP 58 144 tFX12_58 (by decide) pw_1475 rfl dX12_called_111 ?_
                  refine lv_iload hx hb dX12_called_114 (lv_at hl 0 rfl) ?_
                  refine r_ldi (f := (B 44)) (j := m9) hx hb hE hP 44 (ma_44 G a _) rfl (by omega) (by decide) dX12_called_116 ?_
                  have hP : va_P G.1 pCl (mW G h0 a (upd (upd (upd (upd (upd (upd F 0 0) 35 (nI dc)) 44 (nI fd)) 49 (nI md)) 59 (nI bk)) 82 hp) B) _ := hP
                  have hD : va_D A (mW G h0 a (upd (upd (upd (upd (upd (upd F 0 0) 35 (nI dc)) 44 (nI fd)) 49 (nI md)) 59 (nI bk)) 82 hp) B) := mW_D hD
                  exact W.iret (v := ((B 44) m9)) hx hb hr (fun t9 ht9 hW9 => ⟨⟨_, ((B 44) m9), rfl, rfl, by rw [ht9]; exact hP, hD⟩, hS.F ht9⟩) hS.2.2 dX12_called_117
                · refine lv_iconst (v := (-1)) hx hb dX12_called_106 (by decide) ?_
                  refine lv_goto (tgt := 117) hx hb dX12_called_107 (by decide) ?_
                  have hP : va_P G.1 pCl (mW G h0 a (upd (upd (upd (upd (upd (upd F 0 0) 35 (nI dc)) 44 (nI fd)) 49 (nI md)) 59 (nI bk)) 82 hp) B) _ := hP
                  have hD : va_D A (mW G h0 a (upd (upd (upd (upd (upd (upd F 0 0) 35 (nI dc)) 44 (nI fd)) 49 (nI md)) 59 (nI bk)) 82 hp) B) := mW_D hD
                  exact W.iret (v := (-1)) hx hb hr (fun t9 ht9 hW9 => ⟨⟨_, ((-1) : Int32), rfl, rfl, by rw [ht9]; exact hP, hD⟩, hS.F ht9⟩) hS.2.2 dX12_called_117
              · refine lv_iinc (v := (nI (o2 + 1))) (lv' := [(3, .int (nI (o2 + 1))), (2, .int (nI j9)), (1, .int (nI k9)), (0, .ref h0)]) hx hb dX12_called_81 hl (k := 0) rfl (nI_1 o2) (by decide) rfl (fun ls hl => ?_)
                refine lv_goto (tgt := 71) hx hb dX12_called_84 (by decide) ?_
                have hP : va_P G.1 pCl (mW G h0 a (upd (upd (upd (upd (upd (upd F 0 0) 35 (nI dc)) 44 (nI fd)) 49 (nI md)) 59 (nI bk)) 82 hp) B) _ := hP
                have hD : va_D A (mW G h0 a (upd (upd (upd (upd (upd (upd F 0 0) 35 (nI dc)) 44 (nI fd)) 49 (nI md)) 59 (nI bk)) 82 hp) B) := mW_D hD
                exact ih_o (o2 + 1) _ _ _ (by have z : ¬ o2 = m0 := (fun z => c23 (by rw [hw44, z]; exact em0)); omega) (by omega) hP hD hS (lv_sub hl [0, 1, 2, 3] rfl)
          have hP : va_P G.1 pCl (mW G h0 a (upd (upd (upd (upd (upd (upd F 0 0) 35 (nI dc)) 44 (nI fd)) 49 (nI md)) 59 (nI bk)) 82 hp) B) _ := mW_to (F := F) (l1 := [(35, (nI dc)), (44, (nI fd)), (49, (nI md)), (59, (nI bk)), (82, hp), (0, 0)]) (l2 := [(0, 0), (35, (nI dc)), (44, (nI fd)), (49, (nI md)), (59, (nI bk)), (82, hp)]) (V := [(nI dc), (nI fd), (nI md), (nI bk), hp, 0, 0, (nI dc), (nI fd), (nI md), (nI bk), hp]) rfl rfl rfl hP
          have hD : va_D A (mW G h0 a (upd (upd (upd (upd (upd (upd F 0 0) 35 (nI dc)) 44 (nI fd)) 49 (nI md)) 59 (nI bk)) 82 hp) B) := mW_D hD
          exact loop_o (m0 + 1) 0 _ _ _ (by omega) (by omega) hP hD hS (lv_sub hl [0, 3, 2, 1] rfl)
        · refine lv_iconst (v := (-1)) hx hb dX12_called_67 (by decide) ?_
          have hP : va_P G.1 pCl (mW G h0 a (upd (upd (upd (upd (upd (upd F 0 0) 35 (nI dc)) 44 (nI fd)) 49 (nI md)) 59 (nI bk)) 82 hp) B) _ := mW_to (F := F) (l1 := [(35, (nI dc)), (44, (nI fd)), (49, (nI md)), (59, (nI bk)), (82, hp), (0, 0)]) (l2 := [(0, 0), (35, (nI dc)), (44, (nI fd)), (49, (nI md)), (59, (nI bk)), (82, hp)]) (V := [(nI dc), (nI fd), (nI md), (nI bk), hp, 0, 0, (nI dc), (nI fd), (nI md), (nI bk), hp]) rfl rfl rfl hP
          have hD : va_D A (mW G h0 a (upd (upd (upd (upd (upd (upd F 0 0) 35 (nI dc)) 44 (nI fd)) 49 (nI md)) 59 (nI bk)) 82 hp) B) := mW_D hD
          exact W.iret (v := (-1)) hx hb hr (fun t9 ht9 hW9 => ⟨⟨_, ((-1) : Int32), rfl, rfl, by rw [ht9]; exact hP, hD⟩, hS.F ht9⟩) hS.2.2 dX12_called_68
