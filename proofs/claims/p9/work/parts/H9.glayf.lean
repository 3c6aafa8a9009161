def ChL (K : PK) (rk : Nat → Nat) (er : Nat → Option Nat) (f8 : Nat → Nat) (nd nl i : Nat) (o : Option Nat) : Prop := (∀ h : Nat, o = some h → K.1 h = 4 ∧ (i = 0 ∨ rk h + i ≤ 100) ∧ nl ≤ sumGt f8 (rkx rk er) (rk h) nd ∧ ∃ j : Nat, j < nd ∧ er j = some h) ∧ (o = none → nl ≤ sumN f8 nd)
section LYC
variable {G : pT} {K K1 : PK} {g : Nat → Nat → Nat} {p q d f d0 x ax pq dr ml nd nm cp s n cap k j i nl es v9 : Nat} {it rk f8 f9 it9 : Nat → Nat} {er : Nat → Option Nat} {o : Option Nat} {v : Int32}
theorem ChL.up (hrk : RkO K rk) (hA : DcA K dr nd) (her : K.2.2.2.2.1 dr = er) (hd : K.1 d = 4) (hi : i = 0 ∨ rk d + i ≤ 100) (hn : nl ≤ sumGt f8 (rkx rk er) (rk d) nd + f8 j) (hj : j < nd) (he : er j = some d) (ho : K.2.2.1 10 d = o) : ChL K rk er f8 nd nl (i + 1) o := by
  have hr : rkx rk er j = rk d := by unfold rkx; rw [he]
  refine ⟨fun h hh => ?_, fun hh => ?_⟩
  · subst hh
    obtain ⟨h1, h2, h3⟩ := hrk d h hd ho
    obtain ⟨j2, hj2, e2⟩ := hA h h1
    have z := sumGt_in (ff := f8) hj hr h2
    exact ⟨h1, Or.inr (by omega), by omega, j2, hj2, by rw [← her]; exact e2⟩
  · have z := sumGt_all (ff := f8) hj hr
    omega
theorem LyB.sum (h : LyB G K g rk f8 f9 er ax pq dr ml nd nm cp it s k) : 2 * sumN f8 nd + 5 * sumN f9 nd ≤ s := by
  have h1 := h.2.1.2.2.2.2.1
  have h2 : sumN f8 nd ≤ sumN (fz K dr 8) nd := sumN_le (fun j hj => Nat.le_of_eq (h.2.2.2.1 j hj).1.symm)
  have h3 : sumN f9 nd ≤ sumN (fz K dr 9) nd := sumN_le (fun j hj => Nat.le_of_eq (h.2.2.2.1 j hj).2.symm)
  omega
theorem sumN_term {ff : Nat → Nat} (hj : j < n) : ff j ≤ sumN ff n := by
  induction n with
  | zero => omega
  | succ n ih =>
    show ff j ≤ sumN ff n + ff n
    by_cases e : j = n
    · subst e; omega
    · have a := ih (by omega); omega
theorem LyB.n8 (h : LyB G K g rk f8 f9 er ax pq dr ml nd nm cp it s k) (hj : j < nd) (he : er j = some d) (hl : K.2.2.1 8 d = some x) (hc : LsC G K x es n it9 cap) : n = f8 j := by
  have h1 := (h.2.2.2.1 j hj).1
  unfold fz at h1
  rw [h.2.2.2.2.1, he] at h1
  have h2 : lsz K (K.2.2.1 8 d) = f8 j := h1
  rw [hl] at h2
  exact (szL_of hc).symm.trans h2
theorem LyB.n9 (h : LyB G K g rk f8 f9 er ax pq dr ml nd nm cp it s k) (hj : j < nd) (he : er j = some d) (hl : K.2.2.1 9 d = some x) (hc : LsC G K x es n it9 cap) : n = f9 j := by
  have h1 := (h.2.2.2.1 j hj).2
  unfold fz at h1
  rw [h.2.2.2.2.1, he] at h1
  have h2 : lsz K (K.2.2.1 9 d) = f9 j := h1
  rw [hl] at h2
  exact (szL_of hc).symm.trans h2
theorem LsC.other (ha : AdQ K K1 f) (hf : K.1 f = 5) (hes : ¬ es = 0) (hx : ¬ x = f) (h : LsC G K x es n it9 cap) : LsC G K1 x es n it9 cap := LsC.wx (fun p hp => (ha.1 p hp).1) hes (ha.sm (by rw [h.1]; decide) hx (by rw [h.1]; decide)) (fun e he h17 => ha.2 e (by rw [he]; decide) (fun z => by rw [z, hf] at he; exact absurd he (by decide)) (fun z => hx (Option.some.inj (h17.symm.trans z.2)))) h
theorem LsC.kI {f : Nat} (hf : ¬ 23 = f) (h : LsC G K x es n it9 cap) : LsC G (_root_.Jvm.Pilot.@@N@@.kI K f q v) x es n it9 cap := ⟨h.1, (kI_of hf).trans h.2.1, h.2.2⟩
end LYC
theorem dec_up {m t : Nat} (h : m = t) : nI m + -1 = nI t - 1 := by subst h; exact (Int32.sub_eq_add_neg _ _).symm
theorem dX9_layFields_0 : decode cX9_layFields 0 = .ok (.aload_n 1, 1) := by decide +kernel
theorem dX9_layFields_1 : decode cX9_layFields 1 = .ok (.astore_n 2, 1) := by decide +kernel
theorem dX9_layFields_2 : decode cX9_layFields 2 = .ok (.aload_n 2, 1) := by decide +kernel
theorem dX9_layFields_3 : decode cX9_layFields 3 = .ok (.ifnull 50, 3) := by decide +kernel
theorem dX9_layFields_53 : decode cX9_layFields 53 = .ok (.iconst 0, 1) := by decide +kernel
theorem dX9_layFields_54 : decode cX9_layFields 54 = .ok (.istore_n 2, 1) := by decide +kernel
theorem dX9_layFields_55 : decode cX9_layFields 55 = .ok (.iload_n 2, 1) := by decide +kernel
theorem dX9_layFields_56 : decode cX9_layFields 56 = .ok (.aload_n 1, 1) := by decide +kernel
theorem dX9_layFields_57 : decode cX9_layFields 57 = .ok (.getfield 218, 3) := by decide +kernel
theorem dX9_layFields_60 : decode cX9_layFields 60 = .ok (.invokevirtual 45, 3) := by decide +kernel
theorem dX9_layFields_63 : decode cX9_layFields 63 = .ok (.if_icmp .ge 24, 3) := by decide +kernel
theorem dX9_layFields_87 : decode cX9_layFields 87 = .ok (.return_, 1) := by decide +kernel
theorem dX9_layFields_66 : decode cX9_layFields 66 = .ok (.aload_n 1, 1) := by decide +kernel
theorem dX9_layFields_67 : decode cX9_layFields 67 = .ok (.getfield 218, 3) := by decide +kernel
theorem dX9_layFields_70 : decode cX9_layFields 70 = .ok (.iload_n 2, 1) := by decide +kernel
theorem dX9_layFields_71 : decode cX9_layFields 71 = .ok (.invokevirtual 48, 3) := by decide +kernel
theorem dX9_layFields_74 : decode cX9_layFields 74 = .ok (.checkcast 137, 3) := by decide +kernel
theorem dX9_layFields_77 : decode cX9_layFields 77 = .ok (.iload_n 2, 1) := by decide +kernel
theorem dX9_layFields_78 : decode cX9_layFields 78 = .ok (.putfield 225, 3) := by decide +kernel
theorem dX9_layFields_81 : decode cX9_layFields 81 = .ok (.iinc 2 1, 3) := by decide +kernel
theorem dX9_layFields_84 : decode cX9_layFields 84 = .ok (.goto (-29), 3) := by decide +kernel
theorem dX9_layFields_6 : decode cX9_layFields 6 = .ok (.aload_n 2, 1) := by decide +kernel
theorem dX9_layFields_7 : decode cX9_layFields 7 = .ok (.getfield 134, 3) := by decide +kernel
theorem dX9_layFields_10 : decode cX9_layFields 10 = .ok (.invokevirtual 45, 3) := by decide +kernel
theorem dX9_layFields_13 : decode cX9_layFields 13 = .ok (.iconst 1, 1) := by decide +kernel
theorem dX9_layFields_14 : decode cX9_layFields 14 = .ok (.isub, 1) := by decide +kernel
theorem dX9_layFields_15 : decode cX9_layFields 15 = .ok (.istore_n 3, 1) := by decide +kernel
theorem dX9_layFields_16 : decode cX9_layFields 16 = .ok (.iload_n 3, 1) := by decide +kernel
theorem dX9_layFields_17 : decode cX9_layFields 17 = .ok (.ifCond .lt 28, 3) := by decide +kernel
theorem dX9_layFields_45 : decode cX9_layFields 45 = .ok (.aload_n 2, 1) := by decide +kernel
theorem dX9_layFields_46 : decode cX9_layFields 46 = .ok (.getfield 174, 3) := by decide +kernel
theorem dX9_layFields_49 : decode cX9_layFields 49 = .ok (.astore_n 2, 1) := by decide +kernel
theorem dX9_layFields_50 : decode cX9_layFields 50 = .ok (.goto (-48), 3) := by decide +kernel
theorem dX9_layFields_20 : decode cX9_layFields 20 = .ok (.aload_n 1, 1) := by decide +kernel
theorem dX9_layFields_21 : decode cX9_layFields 21 = .ok (.getfield 218, 3) := by decide +kernel
theorem dX9_layFields_24 : decode cX9_layFields 24 = .ok (.iconst 0, 1) := by decide +kernel
theorem dX9_layFields_25 : decode cX9_layFields 25 = .ok (.aload_n 2, 1) := by decide +kernel
theorem dX9_layFields_26 : decode cX9_layFields 26 = .ok (.getfield 134, 3) := by decide +kernel
theorem dX9_layFields_29 : decode cX9_layFields 29 = .ok (.iload_n 3, 1) := by decide +kernel
theorem dX9_layFields_30 : decode cX9_layFields 30 = .ok (.invokevirtual 48, 3) := by decide +kernel
theorem dX9_layFields_33 : decode cX9_layFields 33 = .ok (.checkcast 137, 3) := by decide +kernel
theorem dX9_layFields_36 : decode cX9_layFields 36 = .ok (.invokevirtual 221, 3) := by decide +kernel
theorem dX9_layFields_39 : decode cX9_layFields 39 = .ok (.iinc 3 (-1), 3) := by decide +kernel
theorem dX9_layFields_42 : decode cX9_layFields 42 = .ok (.goto (-26), 3) := by decide +kernel
theorem hV_Jx4a65c_add_7a177 : yJx4a65c_add_7a177.cls = RJx4a65c ∧ yJx4a65c_add_7a177.cls ≠ "java/lang/invoke/MethodHandle" ∧ yJx4a65c_add_7a177.cls ≠ "java/lang/invoke/VarHandle" ∧ (parseMethodDescriptor yJx4a65c_add_7a177.desc).map (fun d => d.parameters.length) = some 2 := by decide +kernel
set_option maxHeartbeats 40000000 in
set_option maxRecDepth 100000 in
theorem G_layFields (l : Launch) (G : pT) (h0 : Nat) (a : Nat → Nat) (F : Nat → Int32) (R : Nat → Value) (Z : Int64) (B : Nat → Nat → Int32) (J : Nat → Nat → Int64) (K : PK) (w : va_W) (pq : Nat) (dr : Nat) (ml : Nat) (nd : Nat) (nm : Nat) (cp : Nat) (it : Nat → Nat) (s9 : Nat) (d0 : Nat) (k0 : Nat) (ll : Nat) (lk : Nat) (cl0 : Nat) (ck : Nat) (it0 : Nat → Nat) (itk : Nat → Nat) (rk : Nat → Nat) (f8 : Nat → Nat) (f9 : Nat → Nat) (er : Nat → Option Nat) (g : Nat → Nat → Nat) (hly : LyB G K g rk f8 f9 er (a 1) pq dr ml nd nm cp it s9 (k0 + 1)) (hk0 : k0 < nd) (he0 : er k0 = some d0) (hd0 : K.1 d0 = 4) (hll : K.2.2.1 11 d0 = some ll) (hg3 : g 3 ll = 4) (hg4 : g 4 ll = d0) (hlc0 : LsC G K ll 1 0 it0 cl0) (hcl0 : cl0 ≤ 10) (hlk : LsC G K lk 3 0 itk ck) (hgk : g 3 lk = 5) (hck : K.2.2.1 12 d0 = some lk) (hs9 : s9 ≤ 5000) (hO : OKP G h0 a F R Z B J K w) (hl0 : l.stackTraces = false) : PBn l G pX0 yX9_layFields cX9_layFields 4 none ({ frames := 7, cells := (s9 / 2 + 1), slots := (60 + 5 * s9), locals := 171 }) [.ref pq, .ref d0] w (fun (v : Option Value) (u : va_W × (PK × Nat × Nat × (Nat → Nat))) => v = none ∧ (LyB G u.2.1 g rk f8 f9 er (a 1) pq dr ml nd nm cp it s9 (k0 + 1)) ∧ (LsC G u.2.1 ll 1 u.2.2.1 u.2.2.2.2 u.2.2.2.1) ∧ (2 * u.2.2.1 ≤ s9) ∧ (u.2.2.2.1 ≤ 10 + 2 * u.2.2.1) ∧ (LsC G u.2.1 lk 3 0 itk ck) ∧ (u.2.1.1 d0 = 4) ∧ (u.2.1.2.2.1 12 d0 = some lk) ∧ (cl0 ≤ u.2.2.2.1) ∧ (OKP G h0 a F R Z B J u.2.1 u.1)) (fun u => u.1) (fun (u : va_W × (PK × Nat × Nat × (Nat → Nat))) => u.2.2.1) (fun (u : va_W × (PK × Nat × Nat × (Nat → Nat))) => (4 * (u.2.2.2.1 - cl0))) (fun (u : va_W × (Nat → Int32) × (Nat → Value) × (Nat → Nat → Int32)) => ThQ G h0 a F R Z B J u) (fun u => u.1) := by
  intro sz
  refine vx_ofW (cc := cX9_layFields) (maxL := 4) (ret := none) (by decide) rfl ?_
  intro p e s m args below meth c s₁ B9 hml hnt hv
  obtain ⟨rfl, hsz, hP, hD0, hE, hX⟩ := hv
  have hx := B9.exec
  have hb := B9.bytes
  have hr := B9.returns
  have hts := atoms_spec (ws := Cond.code yX9_layFields cX9_layFields 4 none :: pw) B9.pre
  have hq : ∀ w ∈ pw, w.before _ s = true := fun w h => hts w (List.mem_cons_of_mem _ h)
  have hown : s.vm.findClass RX9 = some m.cls := findClass_of_methodNamed B9.named
  have hlocks := B9.notSynchronized
  subst hsz
  have hD := hD0.self (sz := s.heap.size)
  have hA : ∀ q : Nat, s.heap.size ≤ q → va_A w s.heap.size q := fun q h => Or.inr h
  generalize va_A w s.heap.size = A at hD hE hA ⊢
  have hS : va_S A s.heap s.heap [] := va_S.rf
  have hl := lv_entry ([.ref pq, .ref d0]) (n := 4) (Nat.le_of_ble_eq_true rfl)
  rw [lg_entry_eq]
  generalize (lg_sl ([.ref pq, .ref d0]) ++ List.replicate (4 - (lg_sl ([.ref pq, .ref d0])).length) Slot.unset).toArray = ls at hl ⊢
  have hl : lv_has ls 4 [(0, .ref pq), (1, .ref d0)] := hl
  have hsm := LyB.sum hly
  refine lv_aload_n hx hb dX9_layFields_0 rfl (lv_at hl 1 rfl) ?_
  refine lv_astore_n (lv' := [(2, .ref d0), (0, .ref pq), (1, .ref d0)]) hx hb dX9_layFields_1 rfl hl (by decide) rfl (fun ls hl => ?_)
  have loop_2 : ∀ (n_2 : Nat) (i2 : Nat) (K2 : PK) (nl2 : Nat) (cl2 : Nat) (it2 : Nat → Nat) (o2 : Option Nat) (H : Heap) (locs : List Loc) (ls : Array Slot) (w : va_W), i2 ≤ 101 → 101 + 1 ≤ i2 + n_2 → (LyB G K2 g rk f8 f9 er (a 1) pq dr ml nd nm cp it s9 (k0 + 1)) → (LsC G K2 ll 1 nl2 it2 cl2) → (cl2 ≤ 10 + 2 * nl2 ∧ cl0 ≤ cl2) → (LsC G K2 lk 3 0 itk ck) → (K2.1 d0 = 4) → (K2.2.2.1 11 d0 = some ll) → (K2.2.2.1 12 d0 = some lk) → (ChL K2 rk er f8 nd nl2 i2 o2) → va_P G.1 pCl w H → va_D A w → va_S A s.heap H locs → OKP G h0 a F R Z B J K2 w → lv_has ls 4 [(2, va_rf o2), (1, .ref d0), (0, .ref pq)] → W p l e (headSpec (Cond.code yX9_layFields cX9_layFields 4 none :: pw) ({ frames := 7, cells := (s9 / 2 + 1), slots := (60 + 5 * s9), locals := 171 } : Room)).room s m ([.ref pq, .ref d0] : List Value).toArray below meth c H locs nl2 (4 * (cl2 - cl0)) (vx_MQ below (pQn G A (fun (v : Option Value) (u : va_W × (PK × Nat × Nat × (Nat → Nat))) => v = none ∧ (LyB G u.2.1 g rk f8 f9 er (a 1) pq dr ml nd nm cp it s9 (k0 + 1)) ∧ (LsC G u.2.1 ll 1 u.2.2.1 u.2.2.2.2 u.2.2.2.1) ∧ (2 * u.2.2.1 ≤ s9) ∧ (u.2.2.2.1 ≤ 10 + 2 * u.2.2.1) ∧ (LsC G u.2.1 lk 3 0 itk ck) ∧ (u.2.1.1 d0 = 4) ∧ (u.2.1.2.2.1 12 d0 = some lk) ∧ (cl0 ≤ u.2.2.2.1) ∧ (OKP G h0 a F R Z B J u.2.1 u.1)) (fun u => u.1) (fun (u : va_W × (PK × Nat × Nat × (Nat → Nat))) => u.2.2.1) (fun (u : va_W × (PK × Nat × Nat × (Nat → Nat))) => (4 * (u.2.2.2.1 - cl0)))) (pXX G A (fun (u : va_W × (Nat → Int32) × (Nat → Value) × (Nat → Nat → Int32)) => ThQ G h0 a F R Z B J u) (fun u => u.1)) ([.ref pq, .ref d0] : List Value).toArray s ({ frames := 7, cells := (s9 / 2 + 1), slots := (60 + 5 * s9), locals := 171 } : Room).cells ({ frames := 7, cells := (s9 / 2 + 1), slots := (60 + 5 * s9), locals := 171 } : Room).slots A) (F0 m 2 ls []) := by
    intro n_2
    induction n_2 with
    | zero => intro i2 K2 nl2 cl2 it2 o2 H locs ls w hk_2 hn_2; omega
    | succ n_2 ih_2 =>
      intro i2 K2 nl2 cl2 it2 o2 H locs ls w hk_2 hn_2 hly2 hlc2 hcb2 hlk2 hd2 hll2 hck2 hch2 hP hD hS hO hl
      have htl := hlc2.1
      rcases o2 with _ | dH
      · have hl : lv_has ls 4 [(2, .null), (1, .ref d0), (0, .ref pq)] := hl
        refine W.eq (g2 := F0 m 2 ls []) rfl ?_
        have hnn := hch2.2 rfl
        refine lv_aload_nN hx hb dX9_layFields_2 rfl (lv_at hl 0 rfl) ?_
        refine lv_ifnullN (tgt := 53) hx hb dX9_layFields_3 (by decide) ?_
        refine lv_iconst (v := 0) hx hb dX9_layFields_53 (by decide) ?_
        refine lv_istore_n (lv' := [(2, .int 0), (1, .ref d0), (0, .ref pq)]) hx hb dX9_layFields_54 rfl hl (by decide) rfl (fun ls hl => ?_)
        have loop_4 : ∀ (n_4 : Nat) (i4 : Nat) (K4 : PK) (nl4 : Nat) (cl4 : Nat) (it4 : Nat → Nat) (H : Heap) (locs : List Loc) (ls : Array Slot) (w : va_W), i4 ≤ nl2 → nl2 + 1 ≤ i4 + n_4 → (LyB G K4 g rk f8 f9 er (a 1) pq dr ml nd nm cp it s9 (k0 + 1)) → (LsC G K4 ll 1 nl4 it4 cl4) → (cl4 ≤ 10 + 2 * nl4 ∧ cl0 ≤ cl4) → (LsC G K4 lk 3 0 itk ck) → (K4.1 d0 = 4) → (K4.2.2.1 11 d0 = some ll) → (K4.2.2.1 12 d0 = some lk) → (nl4 ≤ sumN f8 nd) → (nl4 = nl2) → va_P G.1 pCl w H → va_D A w → va_S A s.heap H locs → OKP G h0 a F R Z B J K4 w → lv_has ls 4 [(2, .int (nI i4)), (1, .ref d0), (0, .ref pq)] → W p l e (headSpec (Cond.code yX9_layFields cX9_layFields 4 none :: pw) ({ frames := 7, cells := (s9 / 2 + 1), slots := (60 + 5 * s9), locals := 171 } : Room)).room s m ([.ref pq, .ref d0] : List Value).toArray below meth c H locs nl4 (4 * (cl4 - cl0)) (vx_MQ below (pQn G A (fun (v : Option Value) (u : va_W × (PK × Nat × Nat × (Nat → Nat))) => v = none ∧ (LyB G u.2.1 g rk f8 f9 er (a 1) pq dr ml nd nm cp it s9 (k0 + 1)) ∧ (LsC G u.2.1 ll 1 u.2.2.1 u.2.2.2.2 u.2.2.2.1) ∧ (2 * u.2.2.1 ≤ s9) ∧ (u.2.2.2.1 ≤ 10 + 2 * u.2.2.1) ∧ (LsC G u.2.1 lk 3 0 itk ck) ∧ (u.2.1.1 d0 = 4) ∧ (u.2.1.2.2.1 12 d0 = some lk) ∧ (cl0 ≤ u.2.2.2.1) ∧ (OKP G h0 a F R Z B J u.2.1 u.1)) (fun u => u.1) (fun (u : va_W × (PK × Nat × Nat × (Nat → Nat))) => u.2.2.1) (fun (u : va_W × (PK × Nat × Nat × (Nat → Nat))) => (4 * (u.2.2.2.1 - cl0)))) (pXX G A (fun (u : va_W × (Nat → Int32) × (Nat → Value) × (Nat → Nat → Int32)) => ThQ G h0 a F R Z B J u) (fun u => u.1)) ([.ref pq, .ref d0] : List Value).toArray s ({ frames := 7, cells := (s9 / 2 + 1), slots := (60 + 5 * s9), locals := 171 } : Room).cells ({ frames := 7, cells := (s9 / 2 + 1), slots := (60 + 5 * s9), locals := 171 } : Room).slots A) (F0 m 55 ls []) := by
          intro n_4
          induction n_4 with
          | zero => intro i4 K4 nl4 cl4 it4 H locs ls w hk_4 hn_4; omega
          | succ n_4 ih_4 =>
            intro i4 K4 nl4 cl4 it4 H locs ls w hk_4 hn_4 hly4 hlc4 hcb4 hlk4 hd4 hll4 hck4 hnn4 hnl4 hP hD hS hO hl
            have htl := hlc4.1
            refine lv_iload_n hx hb dX9_layFields_55 rfl (lv_at hl 0 rfl) ?_
            refine lv_aload_n hx hb dX9_layFields_56 rfl (lv_at hl 1 rfl) ?_
            refine p_get (v := .ref ll) (C := RX2) (Tc := TX2) (N := 13) (ci := 2) hx hb hq pin_wsX20 hown hE hP hO (by rw [hd4]; decide) (rep_4 hd4) rfl 11 (by decide) (hq _ pw_1169) (fun _ h9 => h9) (congrArg (fun z => some (va_rf z)) hll4) dX9_layFields_57 ?_
            have hO : OKP G h0 a F R Z B J K4 w := hO.to rfl
            obtain ⟨qr4, hqr5⟩ := p_recv hO (by rw [htl]; decide) (rep_5 htl)
            refine pc_V0 (G := G) (As := []) (rest := [.int (nI i4)]) hx hb hml hown hq hE hX pX0_al hP hD hS hA hl.1 (L_size l G h0 a F R Z B J K4 w ll 1 nl4 it4 hlc4.ls hO) (gV pw_516 pw_87 pw_88 pw_32 pw_16) hV_Jx4a65c_size_8abf5 qr4 10 hqr5 rfl rfl rfl (Nat.le_of_ble_eq_true rfl) dX9_layFields_60 ⟨(by show nl4 + 0 ≤ (s9 / 2 + 1); omega), (by show (4 * (cl4 - cl0)) + 0 ≤ (60 + 5 * s9); omega)⟩ ⟨Nat.le_of_ble_eq_true rfl, Nat.le_of_ble_eq_true rfl⟩ (fun v3 u1 H locs hw2 hP hD hS => ?_)
            obtain ⟨w, _⟩ := u1
            obtain ⟨hw2, hO⟩ := hw2
            obtain rfl : v3 = some (.int (nI nl4)) := hw2
            have hO : OKP G h0 a F R Z B J K4 w := hO.to rfl
            refine W.widen (k := nl4) (n := (4 * (cl4 - cl0))) (by show nl4 + 0 ≤ nl4; omega) (by show (4 * (cl4 - cl0)) + 0 ≤ (4 * (cl4 - cl0)); omega) ?_
            refine W.eq (g2 := F0 m 63 ls [.int (nI nl4), .int (nI i4)]) rfl ?_
            refine lv_icmp_ge (tgt := 87) hx hb dX9_layFields_63 (by decide) (fun c6 => ?_) (fun c6 => ?_)
            · have n7 : nl4 ≤ i4 := (nI_leI (a := nl4) (b := i4) (by omega) (by omega)).mp c6
              refine W_size (fun hz1 hz2 => ?_)
              refine vx_ret ?_
              have hz8 : LyB G K4 g rk f8 f9 er (a 1) pq dr ml nd nm cp it s9 (k0 + 1) := hly4
              have hz9 : LsC G K4 ll 1 nl4 it4 cl4 := hlc4
              have hz10 : 2 * nl4 ≤ s9 := (by omega)
              have hz11 : cl4 ≤ 10 + 2 * nl4 := (by omega)
              have hz12 : LsC G K4 lk 3 0 itk ck := hlk4
              have hz13 : K4.1 d0 = 4 := hd4
              have hz14 : K4.2.2.1 12 d0 = some lk := hck4
              have hz15 : cl0 ≤ cl4 := (by omega)
              have hO : OKP G h0 a F R Z B J K4 w := hO.to rfl
              refine W.widen (k := (s9 / 2 + 1)) (n := (60 + 5 * s9)) (by omega) (by omega) ?_
              have hzz1 : H.size ≤ s.heap.size + (nl4) := (by have z : nl4 ≤ nl4 := (by omega); omega)
              have hzz2 : hSl H ≤ hSl s.heap + ((4 * (cl4 - cl0))) := (by have z : (4 * (cl4 - cl0)) ≤ (4 * (cl4 - cl0)) := (by omega); omega)
              exact W.vret hx hb hr (fun t99 ht99 hW99 => ⟨⟨_, (w, (K4, nl4, cl4, it4)), rfl, ⟨rfl, hz8, hz9, hz10, hz11, hz12, hz13, hz14, hz15, hO⟩, by rw [ht99]; exact hP, hD, by rw [ht99]; exact hzz1, by rw [ht99]; exact hzz2⟩, hS.F ht99⟩) hS.2.2 dX9_layFields_87
            · have n16 : ¬ (nl4 ≤ i4) := fun h9 => c6 ((nI_leI (a := nl4) (b := i4) (by omega) (by omega)).mpr h9)
              refine lv_aload_n hx hb dX9_layFields_66 rfl (lv_at hl 1 rfl) ?_
              refine p_get (v := .ref ll) (C := RX2) (Tc := TX2) (N := 13) (ci := 2) hx hb hq pin_wsX20 hown hE hP hO (by rw [hd4]; decide) (rep_4 hd4) rfl 11 (by decide) (hq _ pw_1169) (fun _ h9 => h9) (congrArg (fun z => some (va_rf z)) hll4) dX9_layFields_67 ?_
              refine lv_iload_n hx hb dX9_layFields_70 rfl (lv_at hl 0 rfl) ?_
              have hO : OKP G h0 a F R Z B J K4 w := hO.to rfl
              obtain ⟨qr20, hqr21⟩ := p_recv hO (by rw [htl]; decide) (rep_5 htl)
              refine pc_V0 (G := G) (As := [.int (nI i4)]) (rest := []) hx hb hml hown hq hE hX pX0_al hP hD hS hA hl.1 (L_get l G h0 a F R Z B J K4 w ll 1 nl4 it4 i4 hlc4.ls (by omega) hO) (gV pw_517 pw_90 pw_91 pw_32 pw_25) hV_Jx4a65c_get_915e3 qr20 10 hqr21 rfl rfl rfl (Nat.le_of_ble_eq_true rfl) dX9_layFields_71 ⟨(by show nl4 + 0 ≤ (s9 / 2 + 1); omega), (by show (4 * (cl4 - cl0)) + 0 ≤ (60 + 5 * s9); omega)⟩ ⟨Nat.le_of_ble_eq_true rfl, Nat.le_of_ble_eq_true rfl⟩ (fun v19 u17 H locs hw18 hP hD hS => ?_)
              obtain ⟨w, _⟩ := u17
              obtain ⟨hw18, hO⟩ := hw18
              obtain rfl : v19 = some (.ref (it4 i4)) := hw18
              have hO : OKP G h0 a F R Z B J K4 w := hO.to rfl
              refine W.widen (k := nl4) (n := (4 * (cl4 - cl0))) (by show nl4 + 0 ≤ nl4; omega) (by show (4 * (cl4 - cl0)) + 0 ≤ (4 * (cl4 - cl0)); omega) ?_
              refine W.eq (g2 := F0 m 74 ls [.ref (it4 i4)]) rfl ?_
              have hf22 : K4.1 (it4 i4) = 1 := hlc4.T (by omega)
              refine p_cast (C := RX7) (Tc := TX7) (N := 11) (ci := 13) hx hb hown (hq _ pw_1090) hE hP hO (by rw [hf22]; decide) (rep_1 hf22) rfl dX9_layFields_74 ?_
              refine lv_iload_n hx hb dX9_layFields_77 rfl (lv_at hl 0 rfl) ?_
              refine p_put (v := .int (nI i4)) (ty := .int) (C := RX7) (Tc := TX7) (N := 11) (ci := 13) (K' := (kI K4 5 (it4 i4) (nI i4))) hx hb hq pin_wsX70 tyX7 tyX7_ok nmX7 hown hE hP hD hS hO (by rw [hf22]; decide) (rep_1 hf22) rfl 5 (by decide) (hq _ pw_1170) (fun _ h9 => h9) rfl (by decide +kernel) rfl rfl (Nat.le_of_ble_eq_true rfl) rfl (by rw [rep_1 (show (kI K4 5 (it4 i4) (nI i4)).1 (it4 i4) = 1 from hf22), pi_5] <;> rfl) (fun p9 hp9 => rep_kI hp9) dX9_layFields_78 (fun H locs w hP hD hS hO => ?_)
              obtain ⟨K23, hK24⟩ : ∃ z : PK, z = (kI K4 5 (it4 i4) (nI i4)) := ⟨_, rfl⟩
              rw [← hK24] at hO
              have hf25 : K23.1 d0 = 4 := (by rw [hK24]; exact hd4)
              have hf26 : K23.2.2.1 11 d0 = some ll := (by rw [hK24]; exact hll4)
              have hf27 : K23.1 ll = 5 := (by rw [hK24]; exact htl)
              have hf28 : K23.1 (it4 i4) = 1 := (by rw [hK24]; exact hf22)
              have hf29 : K23.2.1 5 (it4 i4) = (nI i4) := by rw [hK24]; exact kI_eq
              have hq30 : LyB G K23 g rk f8 f9 er (a 1) pq dr ml nd nm cp it s9 (k0 + 1) := by rw [hK24]; exact LyB.kI hly4 (Or.inl rfl)
              have hq31 : LsC G K23 ll 1 nl4 it4 cl4 := by rw [hK24]; exact LsC.kI (by decide) hlc4
              have hq32 : LsC G K23 lk 3 0 itk ck := by rw [hK24]; exact LsC.kI (by decide) hlk4
              have hq33 : K23.2.2.1 12 d0 = some lk := by rw [hK24]; exact hck4
              refine lv_iinc (v := (nI (i4 + 1))) (lv' := [(2, .int (nI (i4 + 1))), (1, .ref d0), (0, .ref pq)]) hx hb dX9_layFields_81 hl (k := 0) rfl (nI_1 i4) (by decide) rfl (fun ls hl => ?_)
              refine lv_goto (tgt := 55) hx hb dX9_layFields_84 (by decide) ?_
              refine W.widen (k := nl4) (n := (4 * (cl4 - cl0))) (by show nl4 ≤ _; omega) (by show (4 * (cl4 - cl0)) ≤ _; omega) ?_
              have hO : OKP G h0 a F R Z B J K23 w := hO.to rfl
              exact ih_4 (i4 + 1) K23 nl4 cl4 it4 _ _ _ _ (by omega) (by omega) hq30 hq31 (by omega) hq32 hf25 hf26 hq33 (by omega) (by omega) hP hD hS hO (lv_sub hl [0, 1, 2] rfl)
        refine W.widen (k := nl2) (n := (4 * (cl2 - cl0))) (by show nl2 ≤ _; omega) (by show (4 * (cl2 - cl0)) ≤ _; omega) ?_
        have hO : OKP G h0 a F R Z B J K2 w := hO.to rfl
        exact loop_4 (nl2 + 1) 0 K2 nl2 cl2 it2 _ _ _ _ (by omega) (by omega) hly2 hlc2 (by omega) hlk2 hd2 hll2 hck2 (by omega) (by omega) hP hD hS hO (lv_sub hl [0, 1, 2] rfl)
      · have hl : lv_has ls 4 [(2, .ref dH), (1, .ref d0), (0, .ref pq)] := hl
        refine W.eq (g2 := F0 m 2 ls []) rfl ?_
        obtain ⟨hcT, hcR, hcN, jL, hjL, heL⟩ := hch2.1 dH rfl
        have hsg := sumGt_le (ff := f8) (rx := rkx rk er) (r := rk dH) (n := nd)
        have hst := sumGt_all (ff := f8) (n := nd) hjL (show rkx rk er jL = rk dH by unfold rkx; rw [heL])
        obtain ⟨lf, hflf, htlf, hrlf, holf⟩ := (hly2.1.2.2.1 dH hcT).1
        obtain ⟨nlf, itlf, cplf, hlclf, hnblf, _⟩ := hly2.1.2.1 lf htlf
        rw [hrlf] at hlclf hnblf
        have hlclf : LsC G K2 lf 1 nlf itlf cplf := hlclf
        have hnblf : nlf ≤ 20 := hnblf
        have hn8 := LyB.n8 hly2 hjL heL hflf hlclf
        refine lv_aload_n hx hb dX9_layFields_2 rfl (lv_at hl 0 rfl) ?_
        refine lv_ifnull hx hb dX9_layFields_3 ?_
        refine lv_aload_n hx hb dX9_layFields_6 rfl (lv_at hl 0 rfl) ?_
        refine p_get (v := .ref lf) (C := RX2) (Tc := TX2) (N := 13) (ci := 2) hx hb hq pin_wsX20 hown hE hP hO (by rw [hcT]; decide) (rep_4 hcT) rfl 7 (by decide) (hq _ pw_1089) (fun _ h9 => h9) (congrArg (fun z => some (va_rf z)) hflf) dX9_layFields_7 ?_
        have hO : OKP G h0 a F R Z B J K2 w := hO.to rfl
        obtain ⟨qr37, hqr38⟩ := p_recv hO (by rw [htlf]; decide) (rep_5 htlf)
        refine pc_V0 (G := G) (As := []) (rest := []) hx hb hml hown hq hE hX pX0_al hP hD hS hA hl.1 (L_size l G h0 a F R Z B J K2 w lf 1 nlf itlf hlclf.ls hO) (gV pw_516 pw_87 pw_88 pw_32 pw_16) hV_Jx4a65c_size_8abf5 qr37 10 hqr38 rfl rfl rfl (Nat.le_of_ble_eq_true rfl) dX9_layFields_10 ⟨(by show nl2 + 0 ≤ (s9 / 2 + 1); omega), (by show (4 * (cl2 - cl0)) + 0 ≤ (60 + 5 * s9); omega)⟩ ⟨Nat.le_of_ble_eq_true rfl, Nat.le_of_ble_eq_true rfl⟩ (fun v36 u34 H locs hw35 hP hD hS => ?_)
        obtain ⟨w, _⟩ := u34
        obtain ⟨hw35, hO⟩ := hw35
        obtain rfl : v36 = some (.int (nI nlf)) := hw35
        have hO : OKP G h0 a F R Z B J K2 w := hO.to rfl
        refine W.widen (k := nl2) (n := (4 * (cl2 - cl0))) (by show nl2 + 0 ≤ nl2; omega) (by show (4 * (cl2 - cl0)) + 0 ≤ (4 * (cl2 - cl0)); omega) ?_
        refine W.eq (g2 := F0 m 13 ls [.int (nI nlf)]) rfl ?_
        refine lv_iconst (v := 1) hx hb dX9_layFields_13 (by decide) ?_
        refine lv_isub hx hb dX9_layFields_14 ?_
        refine lv_topi (fun x39 e40 => ?_)
        refine lv_istore_n (lv' := [(3, .int x39), (2, .ref dH), (1, .ref d0), (0, .ref pq)]) hx hb dX9_layFields_15 rfl hl (by decide) rfl (fun ls hl => ?_)
        have loop_3 : ∀ (n_3 : Nat) (u3 : Nat) (K3 : PK) (nl3 : Nat) (cl3 : Nat) (it3 : Nat → Nat) (x3 : Int32) (H : Heap) (locs : List Loc) (ls : Array Slot) (w : va_W), u3 ≤ nlf → nlf + 1 ≤ u3 + n_3 → (LyB G K3 g rk f8 f9 er (a 1) pq dr ml nd nm cp it s9 (k0 + 1)) → (LsC G K3 ll 1 nl3 it3 cl3) → (cl3 ≤ 10 + 2 * nl3 ∧ cl0 ≤ cl3) → (LsC G K3 lk 3 0 itk ck) → (K3.1 d0 = 4) → (K3.2.2.1 11 d0 = some ll) → (K3.2.2.1 12 d0 = some lk) → (nl3 = nl2 + u3) → (x3 = nI (nlf - u3) - 1) → (K3.1 dH = 4) → (K3.2.2.1 8 dH = some lf) → (LsC G K3 lf 1 nlf itlf cplf) → va_P G.1 pCl w H → va_D A w → va_S A s.heap H locs → OKP G h0 a F R Z B J K3 w → lv_has ls 4 [(3, .int x3), (2, .ref dH), (1, .ref d0), (0, .ref pq)] → W p l e (headSpec (Cond.code yX9_layFields cX9_layFields 4 none :: pw) ({ frames := 7, cells := (s9 / 2 + 1), slots := (60 + 5 * s9), locals := 171 } : Room)).room s m ([.ref pq, .ref d0] : List Value).toArray below meth c H locs nl3 (4 * (cl3 - cl0)) (vx_MQ below (pQn G A (fun (v : Option Value) (u : va_W × (PK × Nat × Nat × (Nat → Nat))) => v = none ∧ (LyB G u.2.1 g rk f8 f9 er (a 1) pq dr ml nd nm cp it s9 (k0 + 1)) ∧ (LsC G u.2.1 ll 1 u.2.2.1 u.2.2.2.2 u.2.2.2.1) ∧ (2 * u.2.2.1 ≤ s9) ∧ (u.2.2.2.1 ≤ 10 + 2 * u.2.2.1) ∧ (LsC G u.2.1 lk 3 0 itk ck) ∧ (u.2.1.1 d0 = 4) ∧ (u.2.1.2.2.1 12 d0 = some lk) ∧ (cl0 ≤ u.2.2.2.1) ∧ (OKP G h0 a F R Z B J u.2.1 u.1)) (fun u => u.1) (fun (u : va_W × (PK × Nat × Nat × (Nat → Nat))) => u.2.2.1) (fun (u : va_W × (PK × Nat × Nat × (Nat → Nat))) => (4 * (u.2.2.2.1 - cl0)))) (pXX G A (fun (u : va_W × (Nat → Int32) × (Nat → Value) × (Nat → Nat → Int32)) => ThQ G h0 a F R Z B J u) (fun u => u.1)) ([.ref pq, .ref d0] : List Value).toArray s ({ frames := 7, cells := (s9 / 2 + 1), slots := (60 + 5 * s9), locals := 171 } : Room).cells ({ frames := 7, cells := (s9 / 2 + 1), slots := (60 + 5 * s9), locals := 171 } : Room).slots A) (F0 m 16 ls []) := by
          intro n_3
          induction n_3 with
          | zero => intro u3 K3 nl3 cl3 it3 x3 H locs ls w hk_3 hn_3; omega
          | succ n_3 ih_3 =>
            intro u3 K3 nl3 cl3 it3 x3 H locs ls w hk_3 hn_3 hly3 hlc3 hcb3 hlk3 hd3 hll3 hck3 hnl3 hx3 hT3 hf3 hlf3 hP hD hS hO hl
            have htl := hlc3.1
            have htf := hlf3.1
            rcases dec_cases (by omega) hx3 with ⟨ht0, hxm⟩ | ⟨m3, ht0, hxm⟩
            · rw [hxm] at hl
              refine lv_iload_n hx hb dX9_layFields_16 rfl (lv_at hl 0 rfl) ?_
              refine lv_if_lt (tgt := 45) hx hb dX9_layFields_17 (by decide) (fun c41 => ?_) (fun c41 => absurd c41 (by decide))
              refine lv_aload_n hx hb dX9_layFields_45 rfl (lv_at hl 1 rfl) ?_
              rcases ho43 : K3.2.2.1 10 dH with _ | o42
              · skip
                refine p_get (v := .null) (C := RX2) (Tc := TX2) (N := 13) (ci := 2) hx hb hq pin_wsX20 hown hE hP hO (by rw [hT3]; decide) (rep_4 hT3) rfl 9 (by decide) (hq _ pw_1138) (fun _ h9 => h9) (congrArg (fun z => some (va_rf z)) ho43) dX9_layFields_46 ?_
                refine lv_astore_nN (lv' := [(2, .null), (3, .int (-1)), (1, .ref d0), (0, .ref pq)]) hx hb dX9_layFields_49 rfl hl (by decide) rfl (fun ls hl => ?_)
                refine lv_goto (tgt := 2) hx hb dX9_layFields_50 (by decide) ?_
                refine W.widen (k := nl3) (n := (4 * (cl3 - cl0))) (by show nl3 ≤ _; omega) (by show (4 * (cl3 - cl0)) ≤ _; omega) ?_
                have hO : OKP G h0 a F R Z B J K3 w := hO.to rfl
                exact ih_2 (i2 + 1) K3 nl3 cl3 it3 none _ _ _ _ (by omega) (by omega) hly3 hlc3 (by omega) hlk3 hd3 hll3 hck3 (ChL.up hly3.2.2.1 hly3.2.1.a hly3.2.2.2.2.1 hT3 hcR (by omega) hjL heL ho43) hP hD hS hO (lv_sub hl [0, 2, 3] rfl)
              · skip
                refine p_get (v := .ref o42) (C := RX2) (Tc := TX2) (N := 13) (ci := 2) hx hb hq pin_wsX20 hown hE hP hO (by rw [hT3]; decide) (rep_4 hT3) rfl 9 (by decide) (hq _ pw_1138) (fun _ h9 => h9) (congrArg (fun z => some (va_rf z)) ho43) dX9_layFields_46 ?_
                refine lv_astore_n (lv' := [(2, .ref o42), (3, .int (-1)), (1, .ref d0), (0, .ref pq)]) hx hb dX9_layFields_49 rfl hl (by decide) rfl (fun ls hl => ?_)
                refine lv_goto (tgt := 2) hx hb dX9_layFields_50 (by decide) ?_
                refine W.widen (k := nl3) (n := (4 * (cl3 - cl0))) (by show nl3 ≤ _; omega) (by show (4 * (cl3 - cl0)) ≤ _; omega) ?_
                have hO : OKP G h0 a F R Z B J K3 w := hO.to rfl
                exact ih_2 (i2 + 1) K3 nl3 cl3 it3 (some o42) _ _ _ _ (by omega) (by omega) hly3 hlc3 (by omega) hlk3 hd3 hll3 hck3 (ChL.up hly3.2.2.1 hly3.2.1.a hly3.2.2.2.2.1 hT3 hcR (by omega) hjL heL ho43) hP hD hS hO (lv_sub hl [0, 2, 3] rfl)
            · rw [hxm] at hl
              refine lv_iload_n hx hb dX9_layFields_16 rfl (lv_at hl 0 rfl) ?_
              refine lv_if_lt (tgt := 45) hx hb dX9_layFields_17 (by decide) (fun c44 => (absurd c44 (nI_pos (by omega)))) (fun c44 => ?_)
              refine lv_aload_n hx hb dX9_layFields_20 rfl (lv_at hl 2 rfl) ?_
              refine p_get (v := .ref ll) (C := RX2) (Tc := TX2) (N := 13) (ci := 2) hx hb hq pin_wsX20 hown hE hP hO (by rw [hd3]; decide) (rep_4 hd3) rfl 11 (by decide) (hq _ pw_1169) (fun _ h9 => h9) (congrArg (fun z => some (va_rf z)) hll3) dX9_layFields_21 ?_
              refine lv_iconst (v := 0) hx hb dX9_layFields_24 (by decide) ?_
              refine lv_aload_n hx hb dX9_layFields_25 rfl (lv_at hl 1 rfl) ?_
              refine p_get (v := .ref lf) (C := RX2) (Tc := TX2) (N := 13) (ci := 2) hx hb hq pin_wsX20 hown hE hP hO (by rw [hT3]; decide) (rep_4 hT3) rfl 7 (by decide) (hq _ pw_1089) (fun _ h9 => h9) (congrArg (fun z => some (va_rf z)) hf3) dX9_layFields_26 ?_
              refine lv_iload_n hx hb dX9_layFields_29 rfl (lv_at hl 0 rfl) ?_
              have hO : OKP G h0 a F R Z B J K3 w := hO.to rfl
              obtain ⟨qr48, hqr49⟩ := p_recv hO (by rw [htf]; decide) (rep_5 htf)
              refine pc_V0 (G := G) (As := [.int (nI m3)]) (rest := [.int 0, .ref ll]) hx hb hml hown hq hE hX pX0_al hP hD hS hA hl.1 (L_get l G h0 a F R Z B J K3 w lf 1 nlf itlf m3 hlf3.ls (by omega) hO) (gV pw_517 pw_90 pw_91 pw_32 pw_25) hV_Jx4a65c_get_915e3 qr48 10 hqr49 rfl rfl rfl (Nat.le_of_ble_eq_true rfl) dX9_layFields_30 ⟨(by show nl3 + 0 ≤ (s9 / 2 + 1); omega), (by show (4 * (cl3 - cl0)) + 0 ≤ (60 + 5 * s9); omega)⟩ ⟨Nat.le_of_ble_eq_true rfl, Nat.le_of_ble_eq_true rfl⟩ (fun v47 u45 H locs hw46 hP hD hS => ?_)
              obtain ⟨w, _⟩ := u45
              obtain ⟨hw46, hO⟩ := hw46
              obtain rfl : v47 = some (.ref (itlf m3)) := hw46
              have hO : OKP G h0 a F R Z B J K3 w := hO.to rfl
              refine W.widen (k := nl3) (n := (4 * (cl3 - cl0))) (by show nl3 + 0 ≤ nl3; omega) (by show (4 * (cl3 - cl0)) + 0 ≤ (4 * (cl3 - cl0)); omega) ?_
              refine W.eq (g2 := F0 m 33 ls [.ref (itlf m3), .int 0, .ref ll]) rfl ?_
              have hf50 : K3.1 (itlf m3) = 1 := hlf3.T (by omega)
              refine p_cast (C := RX7) (Tc := TX7) (N := 11) (ci := 13) hx hb hown (hq _ pw_1090) hE hP hO (by rw [hf50]; decide) (rep_1 hf50) rfl dX9_layFields_33 ?_
              have hO : OKP G h0 a F R Z B J K3 w := hO.to rfl
              obtain ⟨qr54, hqr55⟩ := p_recv hO (by rw [htl]; decide) (rep_5 htl)
              refine pn_V0 (G := G) (As := [.int 0, .ref (itlf m3)]) (rest := []) hx hb hml hown hq hE hX pX0_al hP hD hS hA hl.1 (L_insC l G h0 a F R Z B J K3 w ll nl3 it3 cl3 (itlf m3) hlc3 hf50 (by omega) (by omega) hO hl0) (gV pw_1171 pw_1172 pw_1173 pw_32 pw_1168) hV_Jx4a65c_add_7a177 qr54 10 hqr55 rfl rfl rfl (Nat.le_of_ble_eq_true rfl) dX9_layFields_36 ⟨(by show nl3 + 1 ≤ (s9 / 2 + 1); omega), (by show (4 * (cl3 - cl0)) + (10 + nl3 + nl3 / 2) ≤ (60 + 5 * s9); omega)⟩ ⟨Nat.le_of_ble_eq_true rfl, Nat.le_of_ble_eq_true rfl⟩ (fun v53 u51 H locs hw52 hP hD hS => ?_) (fun ux ce9 q9 H9 locs9 hux hP9 hD9 hS9 hce hcv hcl => pb_out ux (ThQ.up Thx.rfl RhX.rfl hux) hnt hlocks hce hcv hcl hP9 hD9 hS9 (by show nl3 + 1 ≤ (s9 / 2 + 1); omega) (by show (4 * (cl3 - cl0)) + (10 + nl3 + nl3 / 2) ≤ (60 + 5 * s9); omega))
              obtain ⟨w, K56, d57⟩ := u51
              obtain ⟨hw52, h58, h59, h60, h61, hO⟩ := hw52
              have h58 : LsC G K56 ll 1 (nl3 + 1) (shQ it3 (itlf m3)) (cl3 + d57) := h58
              have h59 : AdQ K3 K56 ll := h59
              have h60 : N6 K3 K56 := h60
              have h61 : cl3 + d57 ≤ 10 + 2 * (nl3 + 1) := h61
              obtain rfl : v53 = none := hw52
              have hO : OKP G h0 a F R Z B J K56 w := hO.to rfl
              refine W.widen (k := (nl3 + 1)) (n := ((4 * (cl3 - cl0)) + (4 * d57))) (by show nl3 + 1 ≤ (nl3 + 1); omega) (by show (4 * (cl3 - cl0)) + (4 * d57) ≤ ((4 * (cl3 - cl0)) + (4 * d57)); omega) ?_
              refine W.eq (g2 := F0 m 39 ls []) rfl ?_
              have hly62 : LyB G K56 g rk f8 f9 er (a 1) pq dr ml nd nm cp it s9 (k0 + 1) := LyB.add hly3 h59 h60 htl (Or.inl hg3) (by rw [szL_of h58, szL_of hlc3]) (by rw [hg3]; exact h58) (by omega) (LyB.other hly3 hk0 he0 hg4)
              have hlf63 := LsC.other h59 htl (by decide) (fun z => by have z2 := hrlf; rw [z, hg3] at z2; exact absurd z2 (by decide)) hlf3
              have hlk64 := LsC.other h59 htl (by decide) (fun z => by have z2 := hgk; rw [z, hg3] at z2; exact absurd z2 (by decide)) hlk3
              have hf65 : K56.1 d0 = 4 := (AdQ.sm h59 (by rw [hd3]; decide) (fun z => by have z2 := hd3; rw [z, htl] at z2; exact absurd z2 (by decide)) (by rw [hd3]; decide)).1.trans hd3
              have hf66 : K56.1 dH = 4 := (AdQ.sm h59 (by rw [hT3]; decide) (fun z => by have z2 := hT3; rw [z, htl] at z2; exact absurd z2 (by decide)) (by rw [hT3]; decide)).1.trans hT3
              have hf67 : K56.2.2.1 11 d0 = some ll := ((AdQ.sm h59 (by rw [hd3]; decide) (fun z => by have z2 := hd3; rw [z, htl] at z2; exact absurd z2 (by decide)) (by rw [hd3]; decide)).2.2.1 11).trans hll3
              have hf68 : K56.2.2.1 12 d0 = some lk := ((AdQ.sm h59 (by rw [hd3]; decide) (fun z => by have z2 := hd3; rw [z, htl] at z2; exact absurd z2 (by decide)) (by rw [hd3]; decide)).2.2.1 12).trans hck3
              have hf69 : K56.2.2.1 8 dH = some lf := ((AdQ.sm h59 (by rw [hT3]; decide) (fun z => by have z2 := hT3; rw [z, htl] at z2; exact absurd z2 (by decide)) (by rw [hT3]; decide)).2.2.1 8).trans hf3
              have htl9 := h58.1
              obtain ⟨x70, e71⟩ : ∃ y : Int32, y = (nI m3) + (-1) := ⟨_, rfl⟩
              refine lv_iinc (v := x70) (lv' := [(3, .int x70), (2, .ref dH), (1, .ref d0), (0, .ref pq)]) hx hb dX9_layFields_39 hl (k := 0) rfl (by rw [e71]; rfl) (by decide) rfl (fun ls hl => ?_)
              refine lv_goto (tgt := 16) hx hb dX9_layFields_42 (by decide) ?_
              refine W.widen (k := (nl3 + 1)) (n := (4 * ((cl3 + d57) - cl0))) (by show (nl3 + 1) ≤ _; omega) (by show ((4 * (cl3 - cl0)) + (4 * d57)) ≤ _; omega) ?_
              have hO : OKP G h0 a F R Z B J K56 w := hO.to rfl
              exact ih_3 (u3 + 1) K56 (nl3 + 1) (cl3 + d57) (shQ it3 (itlf m3)) x70 _ _ _ _ (by omega) (by omega) hly62 h58 (by omega) hlk64 hf65 hf67 hf68 (by omega) (e71.trans (dec_up (by omega))) hf66 hf69 hlf63 hP hD hS hO (lv_sub hl [0, 1, 2, 3] rfl)
        refine W.widen (k := nl2) (n := (4 * (cl2 - cl0))) (by show nl2 ≤ _; omega) (by show (4 * (cl2 - cl0)) ≤ _; omega) ?_
        have hO : OKP G h0 a F R Z B J K2 w := hO.to rfl
        exact loop_3 (nlf + 1) 0 K2 nl2 cl2 it2 x39 _ _ _ _ (by omega) (by omega) hly2 hlc2 (by omega) hlk2 hd2 hll2 hck2 (by omega) e40 hcT hflf hlclf hP hD hS hO (lv_sub hl [0, 1, 2, 3] rfl)
  refine W.widen (k := 0) (n := (4 * (cl0 - cl0))) (by show 0 ≤ _; omega) (by show 0 ≤ _; omega) ?_
  have hO : OKP G h0 a F R Z B J K w := hO.to rfl
  exact loop_2 (101 + 1) 0 K 0 cl0 it0 (some d0) _ _ _ _ (by omega) (by omega) hly hlc0 (by omega) hlk hd0 hll hck ⟨fun h hh => by cases hh; exact ⟨hd0, Or.inl rfl, Nat.zero_le _, k0, hk0, he0⟩, fun hh => by cases hh⟩ hP hD hS hO (lv_sub hl [0, 2, 1] rfl)
