theorem LyB.lists {G : pT} {K : PK} {g : Nat → Nat → Nat} {rk f8 f9 it : Nat → Nat} {er : Nat → Option Nat} {ax pq dr ml nd nm cp s k d : Nat} (h : LyB G K g rk f8 f9 er ax pq dr ml nd nm cp it s k) (hk : k < nd) (he : er k = some d) (hd : K.1 d = 4) : ∃ (ll lk cl ck : Nat) (il ik : Nat → Nat), K.2.2.1 11 d = some ll ∧ g 3 ll = 4 ∧ g 4 ll = d ∧ LsC G K ll 1 0 il cl ∧ cl ≤ 10 ∧ K.2.2.1 12 d = some lk ∧ g 3 lk = 5 ∧ g 4 lk = d ∧ LsC G K lk 3 0 ik ck ∧ ck ≤ 10 := by
  obtain ⟨_, _, ⟨x, x1, x2, x3, x4⟩, ⟨y, y1, y2, y3, y4⟩, _⟩ := h.1.2.2.1 d hd
  obtain ⟨z1, z2⟩ := h.2.2.2.2.2 k hk (Nat.le_refl _) d (by rw [h.2.2.2.2.1]; exact he)
  rw [x1] at z1
  rw [y1] at z2
  obtain ⟨n1, i1, c1, a1, _, a3⟩ := h.1.2.1 x x2
  obtain ⟨n2, i2, c2, b1, _, b3⟩ := h.1.2.1 y y2
  have e1 : n1 = 0 := (szL_of a1).symm.trans z1
  have e2 : n2 = 0 := (szL_of b1).symm.trans z2
  subst e1; subst e2
  rw [x3] at a1
  rw [y3] at b1
  exact ⟨x, y, c1, c2, i1, i2, x1, x3, x4, a1, by omega, y1, y3, y4, b1, by omega⟩
theorem sumN_pre {ff : Nat → Nat} {n k : Nat} (hk : k ≤ n) : sumN ff k ≤ sumN ff n := by
  induction n with
  | zero => have e : k = 0 := by omega
            rw [e]; exact Nat.le_refl _
  | succ n ih =>
    by_cases e : k = n + 1
    · rw [e]; exact Nat.le_refl _
    · have a := ih (by omega)
      show sumN ff k ≤ sumN ff n + ff n
      omega
theorem LyB.cast {G : pT} {K : PK} {g : Nat → Nat → Nat} {rk f8 f9 it : Nat → Nat} {er : Nat → Option Nat} {ax pq dr ml nd nm cp s k k2 : Nat} (hk : k = k2) (h : LyB G K g rk f8 f9 er ax pq dr ml nd nm cp it s k) : LyB G K g rk f8 f9 er ax pq dr ml nd nm cp it s k2 := by subst hk; exact h
theorem dX9_layOut_0 : decode cX9_layOut 0 = .ok (.iconst 0, 1) := by decide +kernel
theorem dX9_layOut_1 : decode cX9_layOut 1 = .ok (.istore_n 1, 1) := by decide +kernel
theorem dX9_layOut_2 : decode cX9_layOut 2 = .ok (.iload_n 1, 1) := by decide +kernel
theorem dX9_layOut_3 : decode cX9_layOut 3 = .ok (.aload_n 0, 1) := by decide +kernel
theorem dX9_layOut_4 : decode cX9_layOut 4 = .ok (.getfield 33, 3) := by decide +kernel
theorem dX9_layOut_7 : decode cX9_layOut 7 = .ok (.if_icmp .ge 117, 3) := by decide +kernel
theorem dX9_layOut_124 : decode cX9_layOut 124 = .ok (.return_, 1) := by decide +kernel
theorem dX9_layOut_10 : decode cX9_layOut 10 = .ok (.aload_n 0, 1) := by decide +kernel
theorem dX9_layOut_11 : decode cX9_layOut 11 = .ok (.getfield 17, 3) := by decide +kernel
theorem dX9_layOut_14 : decode cX9_layOut 14 = .ok (.iload_n 1, 1) := by decide +kernel
theorem dX9_layOut_15 : decode cX9_layOut 15 = .ok (.aaload, 1) := by decide +kernel
theorem dX9_layOut_16 : decode cX9_layOut 16 = .ok (.astore_n 2, 1) := by decide +kernel
theorem dX9_layOut_17 : decode cX9_layOut 17 = .ok (.aload_n 0, 1) := by decide +kernel
theorem dX9_layOut_18 : decode cX9_layOut 18 = .ok (.aload_n 2, 1) := by decide +kernel
theorem dX9_layOut_19 : decode cX9_layOut 19 = .ok (.invokevirtual 209, 3) := by decide +kernel
theorem dX9_layOut_22 : decode cX9_layOut 22 = .ok (.aload_n 0, 1) := by decide +kernel
theorem dX9_layOut_23 : decode cX9_layOut 23 = .ok (.aload_n 2, 1) := by decide +kernel
theorem dX9_layOut_24 : decode cX9_layOut 24 = .ok (.aload_n 2, 1) := by decide +kernel
theorem dX9_layOut_25 : decode cX9_layOut 25 = .ok (.invokevirtual 212, 3) := by decide +kernel
theorem dX9_layOut_28 : decode cX9_layOut 28 = .ok (.iconst 0, 1) := by decide +kernel
theorem dX9_layOut_29 : decode cX9_layOut 29 = .ok (.istore_n 3, 1) := by decide +kernel
theorem dX9_layOut_30 : decode cX9_layOut 30 = .ok (.iload_n 3, 1) := by decide +kernel
theorem dX9_layOut_31 : decode cX9_layOut 31 = .ok (.aload_n 0, 1) := by decide +kernel
theorem dX9_layOut_32 : decode cX9_layOut 32 = .ok (.getfield 33, 3) := by decide +kernel
theorem dX9_layOut_35 : decode cX9_layOut 35 = .ok (.if_icmp .ge 29, 3) := by decide +kernel
theorem dX9_layOut_64 : decode cX9_layOut 64 = .ok (.iconst 0, 1) := by decide +kernel
theorem dX9_layOut_65 : decode cX9_layOut 65 = .ok (.istore_n 3, 1) := by decide +kernel
theorem dX9_layOut_66 : decode cX9_layOut 66 = .ok (.iload_n 3, 1) := by decide +kernel
theorem dX9_layOut_67 : decode cX9_layOut 67 = .ok (.aload_n 2, 1) := by decide +kernel
theorem dX9_layOut_68 : decode cX9_layOut 68 = .ok (.getfield 141, 3) := by decide +kernel
theorem dX9_layOut_71 : decode cX9_layOut 71 = .ok (.invokevirtual 45, 3) := by decide +kernel
theorem dX9_layOut_74 : decode cX9_layOut 74 = .ok (.if_icmp .ge 44, 3) := by decide +kernel
theorem dX9_layOut_118 : decode cX9_layOut 118 = .ok (.iinc 1 1, 3) := by decide +kernel
theorem dX9_layOut_121 : decode cX9_layOut 121 = .ok (.goto (-119), 3) := by decide +kernel
theorem dX9_layOut_77 : decode cX9_layOut 77 = .ok (.aload_n 2, 1) := by decide +kernel
theorem dX9_layOut_78 : decode cX9_layOut 78 = .ok (.getfield 141, 3) := by decide +kernel
theorem dX9_layOut_81 : decode cX9_layOut 81 = .ok (.iload_n 3, 1) := by decide +kernel
theorem dX9_layOut_82 : decode cX9_layOut 82 = .ok (.invokevirtual 48, 3) := by decide +kernel
theorem dX9_layOut_85 : decode cX9_layOut 85 = .ok (.checkcast 52, 3) := by decide +kernel
theorem dX9_layOut_88 : decode cX9_layOut 88 = .ok (.aload_n 0, 1) := by decide +kernel
theorem dX9_layOut_89 : decode cX9_layOut 89 = .ok (.getfield 9, 3) := by decide +kernel
theorem dX9_layOut_92 : decode cX9_layOut 92 = .ok (.aload_n 2, 1) := by decide +kernel
theorem dX9_layOut_93 : decode cX9_layOut 93 = .ok (.getfield 141, 3) := by decide +kernel
theorem dX9_layOut_96 : decode cX9_layOut 96 = .ok (.iload_n 3, 1) := by decide +kernel
theorem dX9_layOut_97 : decode cX9_layOut 97 = .ok (.invokevirtual 48, 3) := by decide +kernel
theorem dX9_layOut_100 : decode cX9_layOut 100 = .ok (.checkcast 52, 3) := by decide +kernel
theorem dX9_layOut_103 : decode cX9_layOut 103 = .ok (.getfield 191, 3) := by decide +kernel
theorem dX9_layOut_106 : decode cX9_layOut 106 = .ok (.invokevirtual 194, 3) := by decide +kernel
theorem dX9_layOut_109 : decode cX9_layOut 109 = .ok (.putfield 215, 3) := by decide +kernel
theorem dX9_layOut_112 : decode cX9_layOut 112 = .ok (.iinc 3 1, 3) := by decide +kernel
theorem dX9_layOut_115 : decode cX9_layOut 115 = .ok (.goto (-49), 3) := by decide +kernel
theorem dX9_layOut_38 : decode cX9_layOut 38 = .ok (.aload_n 0, 1) := by decide +kernel
theorem dX9_layOut_39 : decode cX9_layOut 39 = .ok (.iload_n 3, 1) := by decide +kernel
theorem dX9_layOut_40 : decode cX9_layOut 40 = .ok (.iload_n 1, 1) := by decide +kernel
theorem dX9_layOut_41 : decode cX9_layOut 41 = .ok (.invokevirtual 65, 3) := by decide +kernel
theorem dX9_layOut_44 : decode cX9_layOut 44 = .ok (.ifCond .eq 14, 3) := by decide +kernel
theorem dX9_layOut_58 : decode cX9_layOut 58 = .ok (.iinc 3 1, 3) := by decide +kernel
theorem dX9_layOut_61 : decode cX9_layOut 61 = .ok (.goto (-31), 3) := by decide +kernel
theorem dX9_layOut_47 : decode cX9_layOut 47 = .ok (.aload_n 0, 1) := by decide +kernel
theorem dX9_layOut_48 : decode cX9_layOut 48 = .ok (.aload_n 2, 1) := by decide +kernel
theorem dX9_layOut_49 : decode cX9_layOut 49 = .ok (.aload_n 0, 1) := by decide +kernel
theorem dX9_layOut_50 : decode cX9_layOut 50 = .ok (.getfield 17, 3) := by decide +kernel
theorem dX9_layOut_53 : decode cX9_layOut 53 = .ok (.iload_n 3, 1) := by decide +kernel
theorem dX9_layOut_54 : decode cX9_layOut 54 = .ok (.aaload, 1) := by decide +kernel
theorem dX9_layOut_55 : decode cX9_layOut 55 = .ok (.invokevirtual 212, 3) := by decide +kernel
theorem hV_X9_layFields : yX9_layFields.cls = RX9 ∧ yX9_layFields.cls ≠ "java/lang/invoke/MethodHandle" ∧ yX9_layFields.cls ≠ "java/lang/invoke/VarHandle" ∧ (parseMethodDescriptor yX9_layFields.desc).map (fun d => d.parameters.length) = some 1 := by decide +kernel
theorem hV_X9_learnMethods : yX9_learnMethods.cls = RX9 ∧ yX9_learnMethods.cls ≠ "java/lang/invoke/MethodHandle" ∧ yX9_learnMethods.cls ≠ "java/lang/invoke/VarHandle" ∧ (parseMethodDescriptor yX9_learnMethods.desc).map (fun d => d.parameters.length) = some 2 := by decide +kernel
set_option maxHeartbeats 60000000 in
set_option maxRecDepth 100000 in
theorem G_layOut (l : Launch) (G : pT) (h0 : Nat) (a : Nat → Nat) (F : Nat → Int32) (R : Nat → Value) (Z : Int64) (B : Nat → Nat → Int32) (J : Nat → Nat → Int64) (K : PK) (w : va_W) (pq : Nat) (dr : Nat) (ml : Nat) (nd : Nat) (nm : Nat) (cp : Nat) (it : Nat → Nat) (s9 : Nat) (sz : Nat) (u9 : Nat) (rk : Nat → Nat) (f8 : Nat → Nat) (f9 : Nat → Nat) (er : Nat → Option Nat) (g : Nat → Nat → Nat) (hsz : sz ≤ 5000) (hly : LyB G K g rk f8 f9 er (a 1) pq dr ml nd nm cp it s9 0) (hs9 : s9 ≤ 5000) (hu9 : u9 = 80 + 8 * s9) (hO : OKP G h0 a (upd F 2 (nI sz)) R Z B J K w) (hl0 : l.stackTraces = false) : PBn l G pX0 yX9_layOut cX9_layOut 4 none ({ frames := 9, cells := (37 * s9 + 5), slots := (37 * u9 + 15 * s9 + 2000), locals := 214 }) [.ref pq] w (fun (v : Option Value) (u : va_W × (PK)) => v = none ∧ (LyB G u.2 g rk f8 f9 er (a 1) pq dr ml nd nm cp it s9 nd) ∧ (OKP G h0 a (upd F 2 (nI sz)) R Z B J u.2 u.1)) (fun u => u.1) (fun (u : va_W × (PK)) => (37 * s9)) (fun (u : va_W × (PK)) => (37 * u9)) (fun (u : va_W × (Nat → Int32) × (Nat → Value) × (Nat → Nat → Int32)) => ThQ G h0 a (upd F 2 (nI sz)) R Z B J u) (fun u => u.1) := by
  intro sz
  refine vx_ofW (cc := cX9_layOut) (maxL := 4) (ret := none) (by decide) rfl ?_
  intro p e s m args below meth c s₁ B9 hml hnt hv
  obtain ⟨rfl, hsz, hP, hD0, hE, hX⟩ := hv
  have hx := B9.exec
  have hb := B9.bytes
  have hr := B9.returns
  have hts := atoms_spec (ws := Cond.code yX9_layOut cX9_layOut 4 none :: pw) B9.pre
  have hq : ∀ w ∈ pw, w.before _ s = true := fun w h => hts w (List.mem_cons_of_mem _ h)
  have hown : s.vm.findClass RX9 = some m.cls := findClass_of_methodNamed B9.named
  have hlocks := B9.notSynchronized
  subst hsz
  have hD := hD0.self (sz := s.heap.size)
  have hA : ∀ q : Nat, s.heap.size ≤ q → va_A w s.heap.size q := fun q h => Or.inr h
  generalize va_A w s.heap.size = A at hD hE hA ⊢
  have hS : va_S A s.heap s.heap [] := va_S.rf
  have hl := lv_entry ([.ref pq]) (n := 4) (Nat.le_of_ble_eq_true rfl)
  rw [lg_entry_eq]
  generalize (lg_sl ([.ref pq]) ++ List.replicate (4 - (lg_sl ([.ref pq])).length) Slot.unset).toArray = ls at hl ⊢
  have hl : lv_has ls 4 [(0, .ref pq)] := hl
  have hsm := LyB.sum hly
  have hpx := hly.2.1.1
  have hp1 := hpx.1
  have hp2 := hpx.2.1
  have hp3 := hpx.2.2.1
  have hp4 := hpx.2.2.2.1
  have hp5 := hpx.2.2.2.2.1
  have hp6 := hpx.2.2.2.2.2.1
  have hp8 := hpx.2.2.2.2.2.2.2.1
  have hp9 := hpx.2.2.2.2.2.2.2.2
  refine lv_iconst (v := 0) hx hb dX9_layOut_0 (by decide) ?_
  refine lv_istore_n (lv' := [(1, .int 0), (0, .ref pq)]) hx hb dX9_layOut_1 rfl hl (by decide) rfl (fun ls hl => ?_)
  have loop_2 : ∀ (n_2 : Nat) (i2 : Nat) (K2 : PK) (H : Heap) (locs : List Loc) (ls : Array Slot) (w : va_W), i2 ≤ nd → nd + 1 ≤ i2 + n_2 → (LyB G K2 g rk f8 f9 er (a 1) pq dr ml nd nm cp it s9 i2) → va_P G.1 pCl w H → va_D A w → va_S A s.heap H locs → OKP G h0 a (upd F 2 (nI sz)) R Z B J K2 w → lv_has ls 4 [(1, .int (nI i2)), (0, .ref pq)] → W p l e (headSpec (Cond.code yX9_layOut cX9_layOut 4 none :: pw) ({ frames := 9, cells := (37 * s9 + 5), slots := (37 * u9 + 15 * s9 + 2000), locals := 214 } : Room)).room s m ([.ref pq] : List Value).toArray below meth c H locs (i2 * s9) (i2 * u9) (vx_MQ below (pQn G A (fun (v : Option Value) (u : va_W × (PK)) => v = none ∧ (LyB G u.2 g rk f8 f9 er (a 1) pq dr ml nd nm cp it s9 nd) ∧ (OKP G h0 a (upd F 2 (nI sz)) R Z B J u.2 u.1)) (fun u => u.1) (fun (u : va_W × (PK)) => (37 * s9)) (fun (u : va_W × (PK)) => (37 * u9))) (pXX G A (fun (u : va_W × (Nat → Int32) × (Nat → Value) × (Nat → Nat → Int32)) => ThQ G h0 a (upd F 2 (nI sz)) R Z B J u) (fun u => u.1)) ([.ref pq] : List Value).toArray s ({ frames := 9, cells := (37 * s9 + 5), slots := (37 * u9 + 15 * s9 + 2000), locals := 214 } : Room).cells ({ frames := 9, cells := (37 * s9 + 5), slots := (37 * u9 + 15 * s9 + 2000), locals := 214 } : Room).slots A) (F0 m 2 ls []) := by
    intro n_2
    induction n_2 with
    | zero => intro i2 K2 H locs ls w hk_2 hn_2; omega
    | succ n_2 ih_2 =>
      intro i2 K2 H locs ls w hk_2 hn_2 hly2 hP hD hS hO hl
      have hpx := hly2.2.1.1
      have hp1 := hpx.1
      have hp2 := hpx.2.1
      have hp3 := hpx.2.2.1
      have hp4 := hpx.2.2.2.1
      have hp5 := hpx.2.2.2.2.1
      have hp6 := hpx.2.2.2.2.2.1
      have hp8 := hpx.2.2.2.2.2.2.2.1
      have hp9 := hpx.2.2.2.2.2.2.2.2
      refine lv_iload_n hx hb dX9_layOut_2 rfl (lv_at hl 0 rfl) ?_
      refine lv_aload_n hx hb dX9_layOut_3 rfl (lv_at hl 1 rfl) ?_
      refine p_get (v := .int (nI nd)) (C := RX9) (Tc := TX9) (N := 5) (ci := 6) hx hb hq pin_wsX90 hown hE hP hO (by rw [hp1]; decide) (rep_7 hp1) rfl 2 (by decide) (hq _ pw_14) (fun _ h9 => h9) (congrArg (fun z => some (Value.int z)) hp8) dX9_layOut_4 ?_
      refine lv_icmp_ge (tgt := 124) hx hb dX9_layOut_7 (by decide) (fun c1 => ?_) (fun c1 => ?_)
      · have n2 : nd ≤ i2 := (nI_leI (a := nd) (b := i2) (by omega) (by omega)).mp c1
        refine W_size (fun hz1 hz2 => ?_)
        refine vx_ret ?_
        have hmx1 : i2 * s9 ≤ 37 * s9 := Nat.mul_le_mul_right _ (by omega)
        have hmx2 : i2 * u9 ≤ 37 * u9 := Nat.mul_le_mul_right _ (by omega)
        have hz3 : LyB G K2 g rk f8 f9 er (a 1) pq dr ml nd nm cp it s9 nd := (LyB.cast (by omega) hly2)
        have hO : OKP G h0 a (upd F 2 (nI sz)) R Z B J K2 w := hO.to rfl
        refine W.widen (k := (37 * s9 + 5)) (n := (37 * u9 + 15 * s9 + 2000)) (by omega) (by omega) ?_
        have hzz1 : H.size ≤ s.heap.size + ((37 * s9)) := (by have z : (i2 * s9) ≤ (37 * s9) := (by omega); omega)
        have hzz2 : hSl H ≤ hSl s.heap + ((37 * u9)) := (by have z : (i2 * u9) ≤ (37 * u9) := (by omega); omega)
        exact W.vret hx hb hr (fun t99 ht99 hW99 => ⟨⟨_, (w, K2), rfl, ⟨rfl, hz3, hO⟩, by rw [ht99]; exact hP, hD, by rw [ht99]; exact hzz1, by rw [ht99]; exact hzz2⟩, hS.F ht99⟩) hS.2.2 dX9_layOut_124
      · have n4 : ¬ (nd ≤ i2) := fun h9 => c1 ((nI_leI (a := nd) (b := i2) (by omega) (by omega)).mpr h9)
        refine lv_aload_n hx hb dX9_layOut_10 rfl (lv_at hl 1 rfl) ?_
        refine p_get (v := .ref dr) (C := RX9) (Tc := TX9) (N := 5) (ci := 6) hx hb hq pin_wsX90 hown hE hP hO (by rw [hp1]; decide) (rep_7 hp1) rfl 1 (by decide) (hq _ pw_15) (fun _ h9 => h9) (congrArg (fun z => some (va_rf z)) hp3) dX9_layOut_11 ?_
        refine lv_iload_n hx hb dX9_layOut_14 rfl (lv_at hl 0 rfl) ?_
        refine p_ald8 hx hb hE hP hO hp4 (vp_in_nI (by omega) (by omega)) dX9_layOut_15 ?_
        rw [nI_clamp (show i2 < 2 ^ 31 by omega)]
        obtain ⟨dA, heA, htA, hnA, hgA⟩ := hly2.2.1.2.1 i2 (by omega)
        have hrA : er i2 = some dA := by rw [← hly2.2.2.2.2.1]; exact heA
        rw [heA]
        refine W.eq (g2 := F0 m 16 ls [.ref dA]) rfl ?_
        obtain ⟨ll, lk, cl0, ck0, il0, ik0, hl1, hl2, hl3, hl4, hl5, hk1, hk2, hk3, hk4, hk5⟩ := LyB.lists hly2 (by omega) hrA htA
        have hmx1 : i2 * s9 ≤ 36 * s9 := Nat.mul_le_mul_right _ (by omega)
        have hmx2 : i2 * u9 ≤ 36 * u9 := Nat.mul_le_mul_right _ (by omega)
        have hft := sumN_term (ff := f9) (n := nd) (j := i2) (by omega)
        refine lv_astore_n (lv' := [(2, .ref dA), (1, .int (nI i2)), (0, .ref pq)]) hx hb dX9_layOut_16 rfl hl (by decide) rfl (fun ls hl => ?_)
        refine lv_aload_n hx hb dX9_layOut_17 rfl (lv_at hl 2 rfl) ?_
        refine lv_aload_n hx hb dX9_layOut_18 rfl (lv_at hl 0 rfl) ?_
        have hO : OKP G h0 a (upd F 2 (nI sz)) R Z B J K2 w := hO.to rfl
        obtain ⟨qr8, hqr9⟩ := p_recv hO (by rw [hp1]; decide) (rep_7 hp1)
        refine pn_V0 (G := G) (As := [.ref dA]) (rest := []) hx hb hml hown hq hE hX pX0_al hP hD hS hA hl.1 (G_layFields l G h0 a (upd F 2 (nI sz)) R Z B J K2 w pq dr ml nd nm cp it s9 dA i2 ll lk cl0 ck0 il0 ik0 rk f8 f9 er g (LyB.up hly2) (by omega) hrA htA hl1 hl2 hl3 hl4 hl5 hk4 hk2 hk1 hs9 hO hl0) (gV pw_1180 pw_1181 pw_1182 pw_106 pw_1174) hV_X9_layFields qr8 6 hqr9 rfl rfl rfl (Nat.le_of_ble_eq_true rfl) dX9_layOut_19 ⟨(by show (i2 * s9) + (s9 / 2 + 1) ≤ (37 * s9 + 5); omega), (by show (i2 * u9) + (60 + 5 * s9) ≤ (37 * u9 + 15 * s9 + 2000); omega)⟩ ⟨Nat.le_of_ble_eq_true rfl, Nat.le_of_ble_eq_true rfl⟩ (fun v7 u5 H locs hw6 hP hD hS => ?_) (fun ux ce9 q9 H9 locs9 hux hP9 hD9 hS9 hce hcv hcl => pb_out ux (ThQ.up Thx.rfl RhX.rfl hux) hnt hlocks hce hcv hcl hP9 hD9 hS9 (by show (i2 * s9) + (s9 / 2 + 1) ≤ (37 * s9 + 5); omega) (by show (i2 * u9) + (60 + 5 * s9) ≤ (37 * u9 + 15 * s9 + 2000); omega))
        obtain ⟨w, K10, nl11, cl12, it13⟩ := u5
        obtain ⟨hw6, h14, h15, h16, h17, h18, h19, h20, h21, hO⟩ := hw6
        have h14 : LyB G K10 g rk f8 f9 er (a 1) pq dr ml nd nm cp it s9 (i2 + 1) := h14
        have h15 : LsC G K10 ll 1 nl11 it13 cl12 := h15
        have h16 : 2 * nl11 ≤ s9 := h16
        have h17 : cl12 ≤ 10 + 2 * nl11 := h17
        have h18 : LsC G K10 lk 3 0 ik0 ck0 := h18
        have h19 : K10.1 dA = 4 := h19
        have h20 : K10.2.2.1 12 dA = some lk := h20
        have h21 : cl0 ≤ cl12 := h21
        obtain rfl : v7 = none := hw6
        have hO : OKP G h0 a (upd F 2 (nI sz)) R Z B J K10 w := hO.to rfl
        refine W.widen (k := ((i2 * s9) + nl11)) (n := ((i2 * u9) + (4 * (cl12 - cl0)))) (by show (i2 * s9) + nl11 ≤ ((i2 * s9) + nl11); omega) (by show (i2 * u9) + (4 * (cl12 - cl0)) ≤ ((i2 * u9) + (4 * (cl12 - cl0))); omega) ?_
        refine W.eq (g2 := F0 m 22 ls []) rfl ?_
        have hpy := h14.2.1.1
        have hp1 := hpy.1
        have hp2 := hpy.2.1
        have hp3 := hpy.2.2.1
        have hp4 := hpy.2.2.2.1
        have hp5 := hpy.2.2.2.2.1
        have hp6 := hpy.2.2.2.2.2.1
        have hp8 := hpy.2.2.2.2.2.2.2.1
        have hp9 := hpy.2.2.2.2.2.2.2.2
        refine lv_aload_n hx hb dX9_layOut_22 rfl (lv_at hl 2 rfl) ?_
        refine lv_aload_n hx hb dX9_layOut_23 rfl (lv_at hl 0 rfl) ?_
        refine lv_aload_n hx hb dX9_layOut_24 rfl (lv_at hl 0 rfl) ?_
        have hO : OKP G h0 a (upd F 2 (nI sz)) R Z B J K10 w := hO.to rfl
        obtain ⟨qr25, hqr26⟩ := p_recv hO (by rw [hp1]; decide) (rep_7 hp1)
        refine pn_V0 (G := G) (As := [.ref dA, .ref dA]) (rest := []) hx hb hml hown hq hE hX pX0_al hP hD hS hA hl.1 (G_learn l G h0 a (upd F 2 (nI sz)) R Z B J K10 w pq dr ml nd nm cp it s9 dA i2 lk 0 ck0 dA i2 ik0 rk f8 f9 er g h14 h18 (by omega) h19 h20 (by omega) hrA hk2 hk3 hs9 h19 (by omega) hrA (by omega) hO hl0) (gV pw_1183 pw_1184 pw_1185 pw_106 pw_1178) hV_X9_learnMethods qr25 6 hqr26 rfl rfl rfl (Nat.le_of_ble_eq_true rfl) dX9_layOut_25 ⟨(by show ((i2 * s9) + nl11) + (f9 i2 + 1) ≤ (37 * s9 + 5); omega), (by show ((i2 * u9) + (4 * (cl12 - cl0))) + (10 * 0 + 500) ≤ (37 * u9 + 15 * s9 + 2000); omega)⟩ ⟨Nat.le_of_ble_eq_true rfl, Nat.le_of_ble_eq_true rfl⟩ (fun v24 u22 H locs hw23 hP hD hS => ?_) (fun ux ce9 q9 H9 locs9 hux hP9 hD9 hS9 hce hcv hcl => pb_out ux (ThQ.up Thx.rfl RhX.rfl hux) hnt hlocks hce hcv hcl hP9 hD9 hS9 (by show ((i2 * s9) + nl11) + (f9 i2 + 1) ≤ (37 * s9 + 5); omega) (by show ((i2 * u9) + (4 * (cl12 - cl0))) + (10 * 0 + 500) ≤ (37 * u9 + 15 * s9 + 2000); omega))
        obtain ⟨w, K27, nk28, ck29, itk30⟩ := u22
        obtain ⟨hw23, h31, h32, h33, h34, h35, h36, h37, h38, hO⟩ := hw23
        have h31 : LyB G K27 g rk f8 f9 er (a 1) pq dr ml nd nm cp it s9 (i2 + 1) := h31
        have h32 : LsC G K27 lk 3 nk28 itk30 ck29 := h32
        have h33 : ck29 ≤ 10 + 2 * nk28 := h33
        have h34 : K27.1 dA = 4 := h34
        have h35 : K27.2.2.1 12 dA = some lk := h35
        have h36 : nk28 ≤ 0 + f9 i2 ∧ 0 ≤ nk28 := h36
        have h37 : K27.1 dA = 4 := h37
        have h38 : ck0 ≤ ck29 := h38
        obtain rfl : v24 = none := hw23
        have hO : OKP G h0 a (upd F 2 (nI sz)) R Z B J K27 w := hO.to rfl
        refine W.widen (k := (((i2 * s9) + nl11) + (nk28 - 0))) (n := (((i2 * u9) + (4 * (cl12 - cl0))) + (4 * (ck29 - ck0)))) (by show ((i2 * s9) + nl11) + (nk28 - 0) ≤ (((i2 * s9) + nl11) + (nk28 - 0)); omega) (by show ((i2 * u9) + (4 * (cl12 - cl0))) + (4 * (ck29 - ck0)) ≤ (((i2 * u9) + (4 * (cl12 - cl0))) + (4 * (ck29 - ck0))); omega) ?_
        refine W.eq (g2 := F0 m 28 ls []) rfl ?_
        have hpz39 := h31.2.1.1
        have hp1 := hpz39.1
        have hp2 := hpz39.2.1
        have hp3 := hpz39.2.2.1
        have hp4 := hpz39.2.2.2.1
        have hp5 := hpz39.2.2.2.2.1
        have hp6 := hpz39.2.2.2.2.2.1
        have hp8 := hpz39.2.2.2.2.2.2.2.1
        have hp9 := hpz39.2.2.2.2.2.2.2.2
        refine lv_iconst (v := 0) hx hb dX9_layOut_28 (by decide) ?_
        refine lv_istore_n (lv' := [(3, .int 0), (2, .ref dA), (1, .int (nI i2)), (0, .ref pq)]) hx hb dX9_layOut_29 rfl hl (by decide) rfl (fun ls hl => ?_)
        have loop_3 : ∀ (n_3 : Nat) (u3 : Nat) (K3 : PK) (nk3 : Nat) (ck3 : Nat) (itk3 : Nat → Nat) (H : Heap) (locs : List Loc) (ls : Array Slot) (w : va_W), u3 ≤ nd → nd + 1 ≤ u3 + n_3 → (LyB G K3 g rk f8 f9 er (a 1) pq dr ml nd nm cp it s9 (i2 + 1)) → (LsC G K3 lk 3 nk3 itk3 ck3) → (ck3 ≤ 10 + 2 * nk3) → (K3.1 dA = 4) → (K3.2.2.1 12 dA = some lk) → (nk3 ≤ f9 i2 + sumN f9 u3 ∧ ck0 ≤ ck3) → va_P G.1 pCl w H → va_D A w → va_S A s.heap H locs → OKP G h0 a (upd F 2 (nI sz)) R Z B J K3 w → lv_has ls 4 [(3, .int (nI u3)), (2, .ref dA), (1, .int (nI i2)), (0, .ref pq)] → W p l e (headSpec (Cond.code yX9_layOut cX9_layOut 4 none :: pw) ({ frames := 9, cells := (37 * s9 + 5), slots := (37 * u9 + 15 * s9 + 2000), locals := 214 } : Room)).room s m ([.ref pq] : List Value).toArray below meth c H locs (i2 * s9 + s9 / 2 + nk3) (i2 * u9 + 40 + 4 * s9 + 4 * (ck3 - ck0)) (vx_MQ below (pQn G A (fun (v : Option Value) (u : va_W × (PK)) => v = none ∧ (LyB G u.2 g rk f8 f9 er (a 1) pq dr ml nd nm cp it s9 nd) ∧ (OKP G h0 a (upd F 2 (nI sz)) R Z B J u.2 u.1)) (fun u => u.1) (fun (u : va_W × (PK)) => (37 * s9)) (fun (u : va_W × (PK)) => (37 * u9))) (pXX G A (fun (u : va_W × (Nat → Int32) × (Nat → Value) × (Nat → Nat → Int32)) => ThQ G h0 a (upd F 2 (nI sz)) R Z B J u) (fun u => u.1)) ([.ref pq] : List Value).toArray s ({ frames := 9, cells := (37 * s9 + 5), slots := (37 * u9 + 15 * s9 + 2000), locals := 214 } : Room).cells ({ frames := 9, cells := (37 * s9 + 5), slots := (37 * u9 + 15 * s9 + 2000), locals := 214 } : Room).slots A) (F0 m 30 ls []) := by
          intro n_3
          induction n_3 with
          | zero => intro u3 K3 nk3 ck3 itk3 H locs ls w hk_3 hn_3; omega
          | succ n_3 ih_3 =>
            intro u3 K3 nk3 ck3 itk3 H locs ls w hk_3 hn_3 hly3 hlk3 hcb3 hd3 hck3 hn3 hP hD hS hO hl
            have hpx3 := hly3.2.1.1
            have hp1 := hpx3.1
            have hp2 := hpx3.2.1
            have hp3 := hpx3.2.2.1
            have hp4 := hpx3.2.2.2.1
            have hp5 := hpx3.2.2.2.2.1
            have hp6 := hpx3.2.2.2.2.2.1
            have hp8 := hpx3.2.2.2.2.2.2.2.1
            have hp9 := hpx3.2.2.2.2.2.2.2.2
            have hsu := sumN_pre (ff := f9) (n := nd) (k := u3) (by omega)
            refine lv_iload_n hx hb dX9_layOut_30 rfl (lv_at hl 0 rfl) ?_
            refine lv_aload_n hx hb dX9_layOut_31 rfl (lv_at hl 3 rfl) ?_
            refine p_get (v := .int (nI nd)) (C := RX9) (Tc := TX9) (N := 5) (ci := 6) hx hb hq pin_wsX90 hown hE hP hO (by rw [hp1]; decide) (rep_7 hp1) rfl 2 (by decide) (hq _ pw_14) (fun _ h9 => h9) (congrArg (fun z => some (Value.int z)) hp8) dX9_layOut_32 ?_
            refine lv_icmp_ge (tgt := 64) hx hb dX9_layOut_35 (by decide) (fun c40 => ?_) (fun c40 => ?_)
            · have n41 : nd ≤ u3 := (nI_leI (a := nd) (b := u3) (by omega) (by omega)).mp c40
              obtain ⟨lm, hflm, htlm, hrlm, holm⟩ := (hly3.1.2.2.1 dA hd3).2.1
              obtain ⟨nlm, itlm, cplm, hlclm, hnblm, _⟩ := hly3.1.2.1 lm htlm
              rw [hrlm] at hlclm hnblm
              have hlclm : LsC G K3 lm 3 nlm itlm cplm := hlclm
              have hnblm : nlm ≤ 30 := hnblm
              refine lv_iconst (v := 0) hx hb dX9_layOut_64 (by decide) ?_
              refine lv_istore_n (lv' := [(3, .int 0), (2, .ref dA), (1, .int (nI i2)), (0, .ref pq)]) hx hb dX9_layOut_65 rfl hl (by decide) rfl (fun ls hl => ?_)
              have loop_4 : ∀ (n_4 : Nat) (u4 : Nat) (K4 : PK) (H : Heap) (locs : List Loc) (ls : Array Slot) (w : va_W), u4 ≤ nlm → nlm + 1 ≤ u4 + n_4 → (LyB G K4 g rk f8 f9 er (a 1) pq dr ml nd nm cp it s9 (i2 + 1)) → (K4.1 dA = 4) → (K4.2.2.1 9 dA = some lm) → (LsC G K4 lm 3 nlm itlm cplm) → va_P G.1 pCl w H → va_D A w → va_S A s.heap H locs → OKP G h0 a (upd F 2 (nI sz)) R Z B J K4 w → lv_has ls 4 [(3, .int (nI u4)), (2, .ref dA), (1, .int (nI i2)), (0, .ref pq)] → W p l e (headSpec (Cond.code yX9_layOut cX9_layOut 4 none :: pw) ({ frames := 9, cells := (37 * s9 + 5), slots := (37 * u9 + 15 * s9 + 2000), locals := 214 } : Room)).room s m ([.ref pq] : List Value).toArray below meth c H locs (i2 * s9 + s9) (i2 * u9 + u9) (vx_MQ below (pQn G A (fun (v : Option Value) (u : va_W × (PK)) => v = none ∧ (LyB G u.2 g rk f8 f9 er (a 1) pq dr ml nd nm cp it s9 nd) ∧ (OKP G h0 a (upd F 2 (nI sz)) R Z B J u.2 u.1)) (fun u => u.1) (fun (u : va_W × (PK)) => (37 * s9)) (fun (u : va_W × (PK)) => (37 * u9))) (pXX G A (fun (u : va_W × (Nat → Int32) × (Nat → Value) × (Nat → Nat → Int32)) => ThQ G h0 a (upd F 2 (nI sz)) R Z B J u) (fun u => u.1)) ([.ref pq] : List Value).toArray s ({ frames := 9, cells := (37 * s9 + 5), slots := (37 * u9 + 15 * s9 + 2000), locals := 214 } : Room).cells ({ frames := 9, cells := (37 * s9 + 5), slots := (37 * u9 + 15 * s9 + 2000), locals := 214 } : Room).slots A) (F0 m 66 ls []) := by
                intro n_4
                induction n_4 with
                | zero => intro u4 K4 H locs ls w hk_4 hn_4; omega
                | succ n_4 ih_4 =>
                  intro u4 K4 H locs ls w hk_4 hn_4 hly4 hd4 hf4 hlm4 hP hD hS hO hl
                  have hpx4 := hly4.2.1.1
                  have hp1 := hpx4.1
                  have hp2 := hpx4.2.1
                  have hp3 := hpx4.2.2.1
                  have hp4 := hpx4.2.2.2.1
                  have hp5 := hpx4.2.2.2.2.1
                  have hp6 := hpx4.2.2.2.2.2.1
                  have hp8 := hpx4.2.2.2.2.2.2.2.1
                  have hp9 := hpx4.2.2.2.2.2.2.2.2
                  have htm4 := hlm4.1
                  refine lv_iload_n hx hb dX9_layOut_66 rfl (lv_at hl 0 rfl) ?_
                  refine lv_aload_n hx hb dX9_layOut_67 rfl (lv_at hl 1 rfl) ?_
                  refine p_get (v := .ref lm) (C := RX2) (Tc := TX2) (N := 13) (ci := 2) hx hb hq pin_wsX20 hown hE hP hO (by rw [hd4]; decide) (rep_4 hd4) rfl 8 (by decide) (hq _ pw_1093) (fun _ h9 => h9) (congrArg (fun z => some (va_rf z)) hf4) dX9_layOut_68 ?_
                  have hO : OKP G h0 a (upd F 2 (nI sz)) R Z B J K4 w := hO.to rfl
                  obtain ⟨qr45, hqr46⟩ := p_recv hO (by rw [htm4]; decide) (rep_5 htm4)
                  refine pc_V0 (G := G) (As := []) (rest := [.int (nI u4)]) hx hb hml hown hq hE hX pX0_al hP hD hS hA hl.1 (L_size l G h0 a (upd F 2 (nI sz)) R Z B J K4 w lm 3 nlm itlm hlm4.ls hO) (gV pw_516 pw_87 pw_88 pw_32 pw_16) hV_Jx4a65c_size_8abf5 qr45 10 hqr46 rfl rfl rfl (Nat.le_of_ble_eq_true rfl) dX9_layOut_71 ⟨(by show (i2 * s9 + s9) + 0 ≤ (37 * s9 + 5); omega), (by show (i2 * u9 + u9) + 0 ≤ (37 * u9 + 15 * s9 + 2000); omega)⟩ ⟨Nat.le_of_ble_eq_true rfl, Nat.le_of_ble_eq_true rfl⟩ (fun v44 u42 H locs hw43 hP hD hS => ?_)
                  obtain ⟨w, _⟩ := u42
                  obtain ⟨hw43, hO⟩ := hw43
                  obtain rfl : v44 = some (.int (nI nlm)) := hw43
                  have hO : OKP G h0 a (upd F 2 (nI sz)) R Z B J K4 w := hO.to rfl
                  refine W.widen (k := (i2 * s9 + s9)) (n := (i2 * u9 + u9)) (by show (i2 * s9 + s9) + 0 ≤ (i2 * s9 + s9); omega) (by show (i2 * u9 + u9) + 0 ≤ (i2 * u9 + u9); omega) ?_
                  refine W.eq (g2 := F0 m 74 ls [.int (nI nlm), .int (nI u4)]) rfl ?_
                  refine lv_icmp_ge (tgt := 118) hx hb dX9_layOut_74 (by decide) (fun c47 => ?_) (fun c47 => ?_)
                  · have n48 : nlm ≤ u4 := (nI_leI (a := nlm) (b := u4) (by omega) (by omega)).mp c47
                    refine lv_iinc (v := (nI (i2 + 1))) (lv' := [(1, .int (nI (i2 + 1))), (3, .int (nI u4)), (2, .ref dA), (0, .ref pq)]) hx hb dX9_layOut_118 hl (k := 2) rfl (nI_1 i2) (by decide) rfl (fun ls hl => ?_)
                    refine lv_goto (tgt := 2) hx hb dX9_layOut_121 (by decide) ?_
                    have hmu1 : (i2 + 1) * s9 = i2 * s9 + s9 := Nat.succ_mul _ _
                    have hmu2 : (i2 + 1) * u9 = i2 * u9 + u9 := Nat.succ_mul _ _
                    refine W.widen (k := ((i2 + 1) * s9)) (n := ((i2 + 1) * u9)) (by show (i2 * s9 + s9) ≤ _; omega) (by show (i2 * u9 + u9) ≤ _; omega) ?_
                    have hO : OKP G h0 a (upd F 2 (nI sz)) R Z B J K4 w := hO.to rfl
                    exact ih_2 (i2 + 1) K4 _ _ _ _ (by omega) (by omega) hly4 hP hD hS hO (lv_sub hl [0, 3] rfl)
                  · have n49 : ¬ (nlm ≤ u4) := fun h9 => c47 ((nI_leI (a := nlm) (b := u4) (by omega) (by omega)).mpr h9)
                    refine lv_aload_n hx hb dX9_layOut_77 rfl (lv_at hl 1 rfl) ?_
                    refine p_get (v := .ref lm) (C := RX2) (Tc := TX2) (N := 13) (ci := 2) hx hb hq pin_wsX20 hown hE hP hO (by rw [hd4]; decide) (rep_4 hd4) rfl 8 (by decide) (hq _ pw_1093) (fun _ h9 => h9) (congrArg (fun z => some (va_rf z)) hf4) dX9_layOut_78 ?_
                    refine lv_iload_n hx hb dX9_layOut_81 rfl (lv_at hl 0 rfl) ?_
                    have hO : OKP G h0 a (upd F 2 (nI sz)) R Z B J K4 w := hO.to rfl
                    obtain ⟨qr53, hqr54⟩ := p_recv hO (by rw [htm4]; decide) (rep_5 htm4)
                    refine pc_V0 (G := G) (As := [.int (nI u4)]) (rest := []) hx hb hml hown hq hE hX pX0_al hP hD hS hA hl.1 (L_get l G h0 a (upd F 2 (nI sz)) R Z B J K4 w lm 3 nlm itlm u4 hlm4.ls (by omega) hO) (gV pw_517 pw_90 pw_91 pw_32 pw_25) hV_Jx4a65c_get_915e3 qr53 10 hqr54 rfl rfl rfl (Nat.le_of_ble_eq_true rfl) dX9_layOut_82 ⟨(by show (i2 * s9 + s9) + 0 ≤ (37 * s9 + 5); omega), (by show (i2 * u9 + u9) + 0 ≤ (37 * u9 + 15 * s9 + 2000); omega)⟩ ⟨Nat.le_of_ble_eq_true rfl, Nat.le_of_ble_eq_true rfl⟩ (fun v52 u50 H locs hw51 hP hD hS => ?_)
                    obtain ⟨w, _⟩ := u50
                    obtain ⟨hw51, hO⟩ := hw51
                    obtain rfl : v52 = some (.ref (itlm u4)) := hw51
                    have hO : OKP G h0 a (upd F 2 (nI sz)) R Z B J K4 w := hO.to rfl
                    refine W.widen (k := (i2 * s9 + s9)) (n := (i2 * u9 + u9)) (by show (i2 * s9 + s9) + 0 ≤ (i2 * s9 + s9); omega) (by show (i2 * u9 + u9) + 0 ≤ (i2 * u9 + u9); omega) ?_
                    refine W.eq (g2 := F0 m 85 ls [.ref (itlm u4)]) rfl ?_
                    have hf55 : K4.1 (itlm u4) = 3 := hlm4.T (by omega)
                    refine p_cast (C := RX6) (Tc := TX6) (N := 12) (ci := 12) hx hb hown (hq _ pw_515) hE hP hO (by rw [hf55]; decide) (rep_3 hf55) rfl dX9_layOut_85 ?_
                    refine lv_aload_n hx hb dX9_layOut_88 rfl (lv_at hl 3 rfl) ?_
                    refine p_get (v := .ref (a 1)) (C := RX9) (Tc := TX9) (N := 5) (ci := 6) hx hb hq pin_wsX90 hown hE hP hO (by rw [hp1]; decide) (rep_7 hp1) rfl 0 (by decide) (hq _ pw_784) (fun _ h9 => h9) (congrArg (fun z => some (va_rf z)) hp2) dX9_layOut_89 ?_
                    refine lv_aload_n hx hb dX9_layOut_92 rfl (lv_at hl 1 rfl) ?_
                    refine p_get (v := .ref lm) (C := RX2) (Tc := TX2) (N := 13) (ci := 2) hx hb hq pin_wsX20 hown hE hP hO (by rw [hd4]; decide) (rep_4 hd4) rfl 8 (by decide) (hq _ pw_1093) (fun _ h9 => h9) (congrArg (fun z => some (va_rf z)) hf4) dX9_layOut_93 ?_
                    refine lv_iload_n hx hb dX9_layOut_96 rfl (lv_at hl 0 rfl) ?_
                    have hO : OKP G h0 a (upd F 2 (nI sz)) R Z B J K4 w := hO.to rfl
                    obtain ⟨qr59, hqr60⟩ := p_recv hO (by rw [htm4]; decide) (rep_5 htm4)
                    refine pc_V0 (G := G) (As := [.int (nI u4)]) (rest := [.ref (a 1), .ref (itlm u4)]) hx hb hml hown hq hE hX pX0_al hP hD hS hA hl.1 (L_get l G h0 a (upd F 2 (nI sz)) R Z B J K4 w lm 3 nlm itlm u4 hlm4.ls (by omega) hO) (gV pw_517 pw_90 pw_91 pw_32 pw_25) hV_Jx4a65c_get_915e3 qr59 10 hqr60 rfl rfl rfl (Nat.le_of_ble_eq_true rfl) dX9_layOut_97 ⟨(by show (i2 * s9 + s9) + 0 ≤ (37 * s9 + 5); omega), (by show (i2 * u9 + u9) + 0 ≤ (37 * u9 + 15 * s9 + 2000); omega)⟩ ⟨Nat.le_of_ble_eq_true rfl, Nat.le_of_ble_eq_true rfl⟩ (fun v58 u56 H locs hw57 hP hD hS => ?_)
                    obtain ⟨w, _⟩ := u56
                    obtain ⟨hw57, hO⟩ := hw57
                    obtain rfl : v58 = some (.ref (itlm u4)) := hw57
                    have hO : OKP G h0 a (upd F 2 (nI sz)) R Z B J K4 w := hO.to rfl
                    refine W.widen (k := (i2 * s9 + s9)) (n := (i2 * u9 + u9)) (by show (i2 * s9 + s9) + 0 ≤ (i2 * s9 + s9); omega) (by show (i2 * u9 + u9) + 0 ≤ (i2 * u9 + u9); omega) ?_
                    refine W.eq (g2 := F0 m 100 ls [.ref (itlm u4), .ref (a 1), .ref (itlm u4)]) rfl ?_
                    have hf61 : K4.1 (itlm u4) = 3 := hlm4.T (by omega)
                    refine p_cast (C := RX6) (Tc := TX6) (N := 12) (ci := 12) hx hb hown (hq _ pw_515) hE hP hO (by rw [hf61]; decide) (rep_3 hf61) rfl dX9_layOut_100 ?_
                    refine p_get (v := .int (K4.2.1 8 (itlm u4))) (C := RX6) (Tc := TX6) (N := 12) (ci := 12) hx hb hq pin_wsX60 hown hE hP hO (by rw [hf61]; decide) (rep_3 hf61) rfl 3 (by decide) (hq _ pw_1143) (fun _ h9 => h9) rfl dX9_layOut_103 ?_
                    have hO : OKW G h0 a (upd (upd F 2 (nI sz)) 2 (nI sz)) R Z B J K4.1 (fun q99 x99 => x99 = rep G a K4 q99) w := hO.to rfl
                    obtain ⟨_, qr65, hqr66⟩ := hO.2.1 2 _ (sg_2 G h0 a _ _ _ _ _)
                    refine pc_V0 (G := G) (As := [.int (K4.2.1 8 (itlm u4))]) (rest := [.ref (itlm u4)]) hx hb hml hown hq hE hX pX0_al hP hD hS hA hl.1 (K_typeAt l G h0 a (upd F 2 (nI sz)) R Z B J K4.1 (fun q99 x99 => x99 = rep G a K4 q99) w (K4.2.1 8 (itlm u4)) sz (by omega) hO) (gV pw_1146 pw_93 pw_94 pw_59 pw_36) hV_X10_typeAt qr65 7 hqr66 rfl rfl rfl (Nat.le_of_ble_eq_true rfl) dX9_layOut_106 ⟨(by show (i2 * s9 + s9) + 0 ≤ (37 * s9 + 5); omega), (by show (i2 * u9 + u9) + 0 ≤ (37 * u9 + 15 * s9 + 2000); omega)⟩ ⟨Nat.le_of_ble_eq_true rfl, Nat.le_of_ble_eq_true rfl⟩ (fun v64 u62 H locs hw63 hP hD hS => ?_)
                    obtain ⟨w, r67⟩ := u62
                    obtain ⟨hw63, hO⟩ := hw63
                    obtain rfl : v64 = some (.int r67) := hw63
                    have hO : OKP G h0 a (upd F 2 (nI sz)) R Z B J K4 w := hO.to rfl
                    refine W.widen (k := (i2 * s9 + s9)) (n := (i2 * u9 + u9)) (by show (i2 * s9 + s9) + 0 ≤ (i2 * s9 + s9); omega) (by show (i2 * u9 + u9) + 0 ≤ (i2 * u9 + u9); omega) ?_
                    refine W.eq (g2 := F0 m 109 ls [.int r67, .ref (itlm u4)]) rfl ?_
                    refine p_put (v := .int r67) (ty := .int) (C := RX6) (Tc := TX6) (N := 12) (ci := 12) (K' := (kI K4 10 (itlm u4) r67)) hx hb hq pin_wsX60 tyX6 tyX6_ok nmX6 hown hE hP hD hS hO (by rw [hf61]; decide) (rep_3 hf61) rfl 7 (by decide) (hq _ pw_1179) (fun _ h9 => h9) rfl (by decide +kernel) rfl rfl (Nat.le_of_ble_eq_true rfl) rfl (by rw [rep_3 (show (kI K4 10 (itlm u4) r67).1 (itlm u4) = 3 from hf61), pi_10] <;> rfl) (fun p9 hp9 => rep_kI hp9) dX9_layOut_109 (fun H locs w hP hD hS hO => ?_)
                    obtain ⟨K68, hK69⟩ : ∃ z : PK, z = (kI K4 10 (itlm u4) r67) := ⟨_, rfl⟩
                    rw [← hK69] at hO
                    have hf70 : K68.1 pq = 7 := (by rw [hK69]; exact hp1)
                    have hf71 : K68.2.2.1 18 pq = some (a 1) := (by rw [hK69]; exact hp2)
                    have hf72 : K68.2.2.1 14 pq = some dr := (by rw [hK69]; exact hp3)
                    have hf73 : K68.1 dr = 8 := (by rw [hK69]; exact hp4)
                    have hf74 : K68.2.2.1 15 pq = some ml := (by rw [hK69]; exact hp5)
                    have hf75 : K68.1 ml = 5 := (by rw [hK69]; exact hp6)
                    have hf76 : K68.2.1 24 pq = (nI nd) := (by rw [hK69]; exact (kI_of (by decide)).trans hp8)
                    have hf77 : K68.1 dA = 4 := (by rw [hK69]; exact hd4)
                    have hf78 : K68.2.2.1 9 dA = some lm := (by rw [hK69]; exact hf4)
                    have hf79 : K68.1 lm = 5 := (by rw [hK69]; exact htm4)
                    have hf80 : K68.1 (itlm u4) = 3 := (by rw [hK69]; exact hf61)
                    have hf81 : K68.2.1 10 (itlm u4) = r67 := by rw [hK69]; exact kI_eq
                    have hq82 : LyB G K68 g rk f8 f9 er (a 1) pq dr ml nd nm cp it s9 (i2 + 1) := by rw [hK69]; exact LyB.kI hly4 (Or.inr rfl)
                    have hq83 : LsC G K68 lm 3 nlm itlm cplm := by rw [hK69]; exact LsC.kI (by decide) hlm4
                    have hq84 : K68.2.2.1 9 dA = some lm := by rw [hK69]; exact hf4
                    refine lv_iinc (v := (nI (u4 + 1))) (lv' := [(3, .int (nI (u4 + 1))), (2, .ref dA), (1, .int (nI i2)), (0, .ref pq)]) hx hb dX9_layOut_112 hl (k := 0) rfl (nI_1 u4) (by decide) rfl (fun ls hl => ?_)
                    refine lv_goto (tgt := 66) hx hb dX9_layOut_115 (by decide) ?_
                    refine W.widen (k := (i2 * s9 + s9)) (n := (i2 * u9 + u9)) (by show (i2 * s9 + s9) ≤ _; omega) (by show (i2 * u9 + u9) ≤ _; omega) ?_
                    have hO : OKP G h0 a (upd F 2 (nI sz)) R Z B J K68 w := hO.to rfl
                    exact ih_4 (u4 + 1) K68 _ _ _ _ (by omega) (by omega) hq82 hf77 hq84 hq83 hP hD hS hO (lv_sub hl [0, 1, 2, 3] rfl)
              refine W.widen (k := (i2 * s9 + s9)) (n := (i2 * u9 + u9)) (by show (i2 * s9 + s9 / 2 + nk3) ≤ _; omega) (by show (i2 * u9 + 40 + 4 * s9 + 4 * (ck3 - ck0)) ≤ _; omega) ?_
              have hO : OKP G h0 a (upd F 2 (nI sz)) R Z B J K3 w := hO.to rfl
              exact loop_4 (nlm + 1) 0 K3 _ _ _ _ (by omega) (by omega) hly3 hd3 hflm hlclm hP hD hS hO (lv_sub hl [0, 1, 2, 3] rfl)
            · have n85 : ¬ (nd ≤ u3) := fun h9 => c40 ((nI_leI (a := nd) (b := u3) (by omega) (by omega)).mpr h9)
              refine lv_aload_n hx hb dX9_layOut_38 rfl (lv_at hl 3 rfl) ?_
              refine lv_iload_n hx hb dX9_layOut_39 rfl (lv_at hl 0 rfl) ?_
              refine lv_iload_n hx hb dX9_layOut_40 rfl (lv_at hl 2 rfl) ?_
              have hO : OKP G h0 a (upd F 2 (nI sz)) R Z B J K3 w := hO.to rfl
              obtain ⟨qr89, hqr90⟩ := p_recv hO (by rw [hp1]; decide) (rep_7 hp1)
              refine pc_V0 (G := G) (As := [.int (nI u3), .int (nI i2)]) (rest := []) hx hb hml hown hq hE hX pX0_al hP hD hS hA hl.1 (G_isAbove l G h0 a (upd F 2 (nI sz)) R Z B J K3 w pq dr ml nd (nI u3) (nI i2) g hly3.2.1.1 hly3.2.1.2.1 hO) (gV pw_107 pw_108 pw_109 pw_106 pw_101) hV_X9_isAbove qr89 6 hqr90 rfl rfl rfl (Nat.le_of_ble_eq_true rfl) dX9_layOut_41 ⟨(by show (i2 * s9 + s9 / 2 + nk3) + 0 ≤ (37 * s9 + 5); omega), (by show (i2 * u9 + 40 + 4 * s9 + 4 * (ck3 - ck0)) + 0 ≤ (37 * u9 + 15 * s9 + 2000); omega)⟩ ⟨Nat.le_of_ble_eq_true rfl, Nat.le_of_ble_eq_true rfl⟩ (fun v88 u86 H locs hw87 hP hD hS => ?_)
              obtain ⟨w, r91⟩ := u86
              obtain ⟨hw87, h92, h93, hO⟩ := hw87
              have h92 : r91 ≤ 1 := h92
              have h93 : AbQ K3 dr nd (nI u3) (nI i2) r91 := h93
              obtain rfl : v88 = some (.int (nI r91)) := hw87
              have hO : OKP G h0 a (upd F 2 (nI sz)) R Z B J K3 w := hO.to rfl
              refine W.widen (k := (i2 * s9 + s9 / 2 + nk3)) (n := (i2 * u9 + 40 + 4 * s9 + 4 * (ck3 - ck0))) (by show (i2 * s9 + s9 / 2 + nk3) + 0 ≤ (i2 * s9 + s9 / 2 + nk3); omega) (by show (i2 * u9 + 40 + 4 * s9 + 4 * (ck3 - ck0)) + 0 ≤ (i2 * u9 + 40 + 4 * s9 + 4 * (ck3 - ck0)); omega) ?_
              refine W.eq (g2 := F0 m 44 ls [.int (nI r91)]) rfl ?_
              refine lv_if_eq (tgt := 58) hx hb dX9_layOut_44 (by decide) (fun c94 => ?_) (fun c94 => ?_)
              · have n95 : r91 = 0 := (nI_eq (a := r91) (b := 0) (by omega) (by omega)).mp c94
                have hsx : sumN f9 (u3 + 1) = sumN f9 u3 + f9 u3 := rfl
                have hn96 : nk3 ≤ f9 i2 + sumN f9 (u3 + 1) ∧ ck0 ≤ ck3 := by omega
                refine lv_iinc (v := (nI (u3 + 1))) (lv' := [(3, .int (nI (u3 + 1))), (2, .ref dA), (1, .int (nI i2)), (0, .ref pq)]) hx hb dX9_layOut_58 hl (k := 0) rfl (nI_1 u3) (by decide) rfl (fun ls hl => ?_)
                refine lv_goto (tgt := 30) hx hb dX9_layOut_61 (by decide) ?_
                refine W.widen (k := (i2 * s9 + s9 / 2 + nk3)) (n := (i2 * u9 + 40 + 4 * s9 + 4 * (ck3 - ck0))) (by show (i2 * s9 + s9 / 2 + nk3) ≤ _; omega) (by show (i2 * u9 + 40 + 4 * s9 + 4 * (ck3 - ck0)) ≤ _; omega) ?_
                have hO : OKP G h0 a (upd F 2 (nI sz)) R Z B J K3 w := hO.to rfl
                exact ih_3 (u3 + 1) K3 nk3 ck3 itk3 _ _ _ _ (by omega) (by omega) hly3 hlk3 (by omega) hd3 hck3 hn96 hP hD hS hO (lv_sub hl [0, 1, 2, 3] rfl)
              · have n97 : ¬ (r91 = 0) := fun h9 => c94 ((nI_eq (a := r91) (b := 0) (by omega) (by omega)).mpr h9)
                refine lv_aload_n hx hb dX9_layOut_47 rfl (lv_at hl 3 rfl) ?_
                refine lv_aload_n hx hb dX9_layOut_48 rfl (lv_at hl 1 rfl) ?_
                refine lv_aload_n hx hb dX9_layOut_49 rfl (lv_at hl 3 rfl) ?_
                refine p_get (v := .ref dr) (C := RX9) (Tc := TX9) (N := 5) (ci := 6) hx hb hq pin_wsX90 hown hE hP hO (by rw [hp1]; decide) (rep_7 hp1) rfl 1 (by decide) (hq _ pw_15) (fun _ h9 => h9) (congrArg (fun z => some (va_rf z)) hp3) dX9_layOut_50 ?_
                refine lv_iload_n hx hb dX9_layOut_53 rfl (lv_at hl 0 rfl) ?_
                refine p_ald8 hx hb hE hP hO hp4 (vp_in_nI (by omega) (by omega)) dX9_layOut_54 ?_
                rw [nI_clamp (show u3 < 2 ^ 31 by omega)]
                obtain ⟨dU, heU, htU, hnU, hgU⟩ := hly3.2.1.2.1 u3 (by omega)
                have hrU : er u3 = some dU := by rw [← hly3.2.2.2.2.1]; exact heU
                rw [heU]
                refine W.eq (g2 := F0 m 55 ls [.ref dU, .ref dA, .ref pq]) rfl ?_
                have hsu2 : sumN f9 u3 + f9 u3 ≤ sumN f9 nd := sumN_pre (ff := f9) (k := u3 + 1) (by omega)
                have hO : OKP G h0 a (upd F 2 (nI sz)) R Z B J K3 w := hO.to rfl
                obtain ⟨qr101, hqr102⟩ := p_recv hO (by rw [hp1]; decide) (rep_7 hp1)
                refine pn_V0 (G := G) (As := [.ref dA, .ref dU]) (rest := []) hx hb hml hown hq hE hX pX0_al hP hD hS hA hl.1 (G_learn l G h0 a (upd F 2 (nI sz)) R Z B J K3 w pq dr ml nd nm cp it s9 dA i2 lk nk3 ck3 dU u3 itk3 rk f8 f9 er g hly3 hlk3 (by omega) hd3 hck3 (by omega) hrA hk2 hk3 hs9 htU (by omega) hrU (by omega) hO hl0) (gV pw_1183 pw_1184 pw_1185 pw_106 pw_1178) hV_X9_learnMethods qr101 6 hqr102 rfl rfl rfl (Nat.le_of_ble_eq_true rfl) dX9_layOut_55 ⟨(by show (i2 * s9 + s9 / 2 + nk3) + (f9 u3 + 1) ≤ (37 * s9 + 5); omega), (by show (i2 * u9 + 40 + 4 * s9 + 4 * (ck3 - ck0)) + (10 * nk3 + 500) ≤ (37 * u9 + 15 * s9 + 2000); omega)⟩ ⟨Nat.le_of_ble_eq_true rfl, Nat.le_of_ble_eq_true rfl⟩ (fun v100 u98 H locs hw99 hP hD hS => ?_) (fun ux ce9 q9 H9 locs9 hux hP9 hD9 hS9 hce hcv hcl => pb_out ux (ThQ.up Thx.rfl RhX.rfl hux) hnt hlocks hce hcv hcl hP9 hD9 hS9 (by show (i2 * s9 + s9 / 2 + nk3) + (f9 u3 + 1) ≤ (37 * s9 + 5); omega) (by show (i2 * u9 + 40 + 4 * s9 + 4 * (ck3 - ck0)) + (10 * nk3 + 500) ≤ (37 * u9 + 15 * s9 + 2000); omega))
                obtain ⟨w, K103, nk104, ck105, itk106⟩ := u98
                obtain ⟨hw99, h107, h108, h109, h110, h111, h112, h113, h114, hO⟩ := hw99
                have h107 : LyB G K103 g rk f8 f9 er (a 1) pq dr ml nd nm cp it s9 (i2 + 1) := h107
                have h108 : LsC G K103 lk 3 nk104 itk106 ck105 := h108
                have h109 : ck105 ≤ 10 + 2 * nk104 := h109
                have h110 : K103.1 dA = 4 := h110
                have h111 : K103.2.2.1 12 dA = some lk := h111
                have h112 : nk104 ≤ nk3 + f9 u3 ∧ nk3 ≤ nk104 := h112
                have h113 : K103.1 dU = 4 := h113
                have h114 : ck3 ≤ ck105 := h114
                obtain rfl : v100 = none := hw99
                have hO : OKP G h0 a (upd F 2 (nI sz)) R Z B J K103 w := hO.to rfl
                refine W.widen (k := ((i2 * s9 + s9 / 2 + nk3) + (nk104 - nk3))) (n := ((i2 * u9 + 40 + 4 * s9 + 4 * (ck3 - ck0)) + (4 * (ck105 - ck3)))) (by show (i2 * s9 + s9 / 2 + nk3) + (nk104 - nk3) ≤ ((i2 * s9 + s9 / 2 + nk3) + (nk104 - nk3)); omega) (by show (i2 * u9 + 40 + 4 * s9 + 4 * (ck3 - ck0)) + (4 * (ck105 - ck3)) ≤ ((i2 * u9 + 40 + 4 * s9 + 4 * (ck3 - ck0)) + (4 * (ck105 - ck3))); omega) ?_
                refine W.eq (g2 := F0 m 58 ls []) rfl ?_
                have hpz115 := h107.2.1.1
                have hp1 := hpz115.1
                have hp2 := hpz115.2.1
                have hp3 := hpz115.2.2.1
                have hp4 := hpz115.2.2.2.1
                have hp5 := hpz115.2.2.2.2.1
                have hp6 := hpz115.2.2.2.2.2.1
                have hp8 := hpz115.2.2.2.2.2.2.2.1
                have hp9 := hpz115.2.2.2.2.2.2.2.2
                have hsx : sumN f9 (u3 + 1) = sumN f9 u3 + f9 u3 := rfl
                have hn116 : nk104 ≤ f9 i2 + sumN f9 (u3 + 1) ∧ ck0 ≤ ck105 := by omega
                refine lv_iinc (v := (nI (u3 + 1))) (lv' := [(3, .int (nI (u3 + 1))), (2, .ref dA), (1, .int (nI i2)), (0, .ref pq)]) hx hb dX9_layOut_58 hl (k := 0) rfl (nI_1 u3) (by decide) rfl (fun ls hl => ?_)
                refine lv_goto (tgt := 30) hx hb dX9_layOut_61 (by decide) ?_
                refine W.widen (k := (i2 * s9 + s9 / 2 + nk104)) (n := (i2 * u9 + 40 + 4 * s9 + 4 * (ck105 - ck0))) (by show ((i2 * s9 + s9 / 2 + nk3) + (nk104 - nk3)) ≤ _; omega) (by show ((i2 * u9 + 40 + 4 * s9 + 4 * (ck3 - ck0)) + (4 * (ck105 - ck3))) ≤ _; omega) ?_
                have hO : OKP G h0 a (upd F 2 (nI sz)) R Z B J K103 w := hO.to rfl
                exact ih_3 (u3 + 1) K103 nk104 ck105 itk106 _ _ _ _ (by omega) (by omega) h107 h108 (by omega) h110 h111 hn116 hP hD hS hO (lv_sub hl [0, 1, 2, 3] rfl)
        refine W.widen (k := (i2 * s9 + s9 / 2 + nk28)) (n := (i2 * u9 + 40 + 4 * s9 + 4 * (ck29 - ck0))) (by show (((i2 * s9) + nl11) + (nk28 - 0)) ≤ _; omega) (by show (((i2 * u9) + (4 * (cl12 - cl0))) + (4 * (ck29 - ck0))) ≤ _; omega) ?_
        have hO : OKP G h0 a (upd F 2 (nI sz)) R Z B J K27 w := hO.to rfl
        exact loop_3 (nd + 1) 0 K27 nk28 ck29 itk30 _ _ _ _ (by omega) (by omega) h31 h32 (by omega) h34 h35 (by show nk28 ≤ f9 i2 + 0 ∧ ck0 ≤ ck29; omega) hP hD hS hO (lv_sub hl [0, 1, 2, 3] rfl)
  refine W.widen (k := (0 * s9)) (n := (0 * u9)) (by show 0 ≤ _; omega) (by show 0 ≤ _; omega) ?_
  have hO : OKP G h0 a (upd F 2 (nI sz)) R Z B J K w := hO.to rfl
  exact loop_2 (nd + 1) 0 K _ _ _ _ (by omega) (by omega) hly hP hD hS hO (lv_sub hl [0, 1] rfl)
