theorem owF_y {X : Nat → Nat → Int32} {k n d : Nat} (ed : X 32 n = nI d) (hd : d < 2 ^ 31) (h : d = k ∨ X 31 (40 * d + k) = 1) : owF X k n = true := by
  unfold owF
  rw [ed, nI_cl hd]
  rcases h with z | z
  · rw [z]; simp
  · rw [z]; simp
theorem dX12_findReferences_0 : decode cX12_findReferences 0 = .ok (.iconst 0, 1) := by decide +kernel
theorem dX12_findReferences_1 : decode cX12_findReferences 1 = .ok (.istore_n 1, 1) := by decide +kernel
theorem dX12_findReferences_2 : decode cX12_findReferences 2 = .ok (.iconst 0, 1) := by decide +kernel
theorem dX12_findReferences_3 : decode cX12_findReferences 3 = .ok (.istore_n 2, 1) := by decide +kernel
theorem dX12_findReferences_4 : decode cX12_findReferences 4 = .ok (.iload_n 2, 1) := by decide +kernel
theorem dX12_findReferences_5 : decode cX12_findReferences 5 = .ok (.aload_n 0, 1) := by decide +kernel
theorem dX12_findReferences_6 : decode cX12_findReferences 6 = .ok (.getfield 384, 3) := by decide +kernel
theorem dX12_findReferences_9 : decode cX12_findReferences 9 = .ok (.if_icmp .ge 112, 3) := by decide +kernel
theorem dX12_findReferences_121 : decode cX12_findReferences 121 = .ok (.return_, 1) := by decide +kernel
theorem dX12_findReferences_12 : decode cX12_findReferences 12 = .ok (.aload_n 0, 1) := by decide +kernel
theorem dX12_findReferences_13 : decode cX12_findReferences 13 = .ok (.getfield 243, 3) := by decide +kernel
theorem dX12_findReferences_16 : decode cX12_findReferences 16 = .ok (.iload_n 2, 1) := by decide +kernel
theorem dX12_findReferences_17 : decode cX12_findReferences 17 = .ok (.iload_n 1, 1) := by decide +kernel
theorem dX12_findReferences_18 : decode cX12_findReferences 18 = .ok (.iastore, 1) := by decide +kernel
theorem dX12_findReferences_19 : decode cX12_findReferences 19 = .ok (.iconst 0, 1) := by decide +kernel
theorem dX12_findReferences_20 : decode cX12_findReferences 20 = .ok (.istore_n 3, 1) := by decide +kernel
theorem dX12_findReferences_21 : decode cX12_findReferences 21 = .ok (.iload_n 3, 1) := by decide +kernel
theorem dX12_findReferences_22 : decode cX12_findReferences 22 = .ok (.aload_n 0, 1) := by decide +kernel
theorem dX12_findReferences_23 : decode cX12_findReferences 23 = .ok (.getfield 413, 3) := by decide +kernel
theorem dX12_findReferences_26 : decode cX12_findReferences 26 = .ok (.if_icmp .ge 75, 3) := by decide +kernel
theorem dX12_findReferences_101 : decode cX12_findReferences 101 = .ok (.aload_n 0, 1) := by decide +kernel
theorem dX12_findReferences_102 : decode cX12_findReferences 102 = .ok (.getfield 246, 3) := by decide +kernel
theorem dX12_findReferences_105 : decode cX12_findReferences 105 = .ok (.iload_n 2, 1) := by decide +kernel
theorem dX12_findReferences_106 : decode cX12_findReferences 106 = .ok (.iload_n 1, 1) := by decide +kernel
theorem dX12_findReferences_107 : decode cX12_findReferences 107 = .ok (.aload_n 0, 1) := by decide +kernel
theorem dX12_findReferences_108 : decode cX12_findReferences 108 = .ok (.getfield 243, 3) := by decide +kernel
theorem dX12_findReferences_111 : decode cX12_findReferences 111 = .ok (.iload_n 2, 1) := by decide +kernel
theorem dX12_findReferences_112 : decode cX12_findReferences 112 = .ok (.iaload, 1) := by decide +kernel
theorem dX12_findReferences_113 : decode cX12_findReferences 113 = .ok (.isub, 1) := by decide +kernel
theorem dX12_findReferences_114 : decode cX12_findReferences 114 = .ok (.iastore, 1) := by decide +kernel
theorem dX12_findReferences_115 : decode cX12_findReferences 115 = .ok (.iinc 2 1, 3) := by decide +kernel
theorem dX12_findReferences_118 : decode cX12_findReferences 118 = .ok (.goto (-114), 3) := by decide +kernel
theorem dX12_findReferences_29 : decode cX12_findReferences 29 = .ok (.aload_n 0, 1) := by decide +kernel
theorem dX12_findReferences_30 : decode cX12_findReferences 30 = .ok (.getfield 90, 3) := by decide +kernel
theorem dX12_findReferences_33 : decode cX12_findReferences 33 = .ok (.iload_n 2, 1) := by decide +kernel
theorem dX12_findReferences_34 : decode cX12_findReferences 34 = .ok (.baload, 1) := by decide +kernel
theorem dX12_findReferences_35 : decode cX12_findReferences 35 = .ok (.ifCond .ne 66, 3) := by decide +kernel
theorem dX12_findReferences_38 : decode cX12_findReferences 38 = .ok (.aload_n 0, 1) := by decide +kernel
theorem dX12_findReferences_39 : decode cX12_findReferences 39 = .ok (.getfield 108, 3) := by decide +kernel
theorem dX12_findReferences_42 : decode cX12_findReferences 42 = .ok (.iload_n 3, 1) := by decide +kernel
theorem dX12_findReferences_43 : decode cX12_findReferences 43 = .ok (.iaload, 1) := by decide +kernel
theorem dX12_findReferences_44 : decode cX12_findReferences 44 = .ok (.iload_n 2, 1) := by decide +kernel
theorem dX12_findReferences_45 : decode cX12_findReferences 45 = .ok (.if_icmp .eq 17, 3) := by decide +kernel
theorem dX12_findReferences_62 : decode cX12_findReferences 62 = .ok (.aload_n 0, 1) := by decide +kernel
theorem dX12_findReferences_63 : decode cX12_findReferences 63 = .ok (.aload_n 0, 1) := by decide +kernel
theorem dX12_findReferences_64 : decode cX12_findReferences 64 = .ok (.getfield 75, 3) := by decide +kernel
theorem dX12_findReferences_67 : decode cX12_findReferences 67 = .ok (.aload_n 0, 1) := by decide +kernel
theorem dX12_findReferences_68 : decode cX12_findReferences 68 = .ok (.getfield 117, 3) := by decide +kernel
theorem dX12_findReferences_71 : decode cX12_findReferences 71 = .ok (.iload_n 3, 1) := by decide +kernel
theorem dX12_findReferences_72 : decode cX12_findReferences 72 = .ok (.iaload, 1) := by decide +kernel
theorem dX12_findReferences_73 : decode cX12_findReferences 73 = .ok (.iaload, 1) := by decide +kernel
theorem dX12_findReferences_74 : decode cX12_findReferences 74 = .ok (.invokevirtual 525, 3) := by decide +kernel
theorem dX12_findReferences_77 : decode cX12_findReferences 77 = .ok (.ifCond .eq 18, 3) := by decide +kernel
theorem dX12_findReferences_95 : decode cX12_findReferences 95 = .ok (.iinc 3 1, 3) := by decide +kernel
theorem dX12_findReferences_98 : decode cX12_findReferences 98 = .ok (.goto (-77), 3) := by decide +kernel
theorem dX12_findReferences_80 : decode cX12_findReferences 80 = .ok (.aload_n 0, 1) := by decide +kernel
theorem dX12_findReferences_81 : decode cX12_findReferences 81 = .ok (.getfield 249, 3) := by decide +kernel
theorem dX12_findReferences_84 : decode cX12_findReferences 84 = .ok (.iload_n 1, 1) := by decide +kernel
theorem dX12_findReferences_85 : decode cX12_findReferences 85 = .ok (.aload_n 0, 1) := by decide +kernel
theorem dX12_findReferences_86 : decode cX12_findReferences 86 = .ok (.getfield 171, 3) := by decide +kernel
theorem dX12_findReferences_89 : decode cX12_findReferences 89 = .ok (.iload_n 3, 1) := by decide +kernel
theorem dX12_findReferences_90 : decode cX12_findReferences 90 = .ok (.iaload, 1) := by decide +kernel
theorem dX12_findReferences_91 : decode cX12_findReferences 91 = .ok (.iastore, 1) := by decide +kernel
theorem dX12_findReferences_92 : decode cX12_findReferences 92 = .ok (.iinc 1 1, 3) := by decide +kernel
theorem dX12_findReferences_48 : decode cX12_findReferences 48 = .ok (.aload_n 0, 1) := by decide +kernel
theorem dX12_findReferences_49 : decode cX12_findReferences 49 = .ok (.aload_n 0, 1) := by decide +kernel
theorem dX12_findReferences_50 : decode cX12_findReferences 50 = .ok (.getfield 108, 3) := by decide +kernel
theorem dX12_findReferences_53 : decode cX12_findReferences 53 = .ok (.iload_n 3, 1) := by decide +kernel
theorem dX12_findReferences_54 : decode cX12_findReferences 54 = .ok (.iaload, 1) := by decide +kernel
theorem dX12_findReferences_55 : decode cX12_findReferences 55 = .ok (.iload_n 2, 1) := by decide +kernel
theorem dX12_findReferences_56 : decode cX12_findReferences 56 = .ok (.invokevirtual 518, 3) := by decide +kernel
theorem dX12_findReferences_59 : decode cX12_findReferences 59 = .ok (.ifCond .eq 36, 3) := by decide +kernel
set_option maxHeartbeats 6000000 in
set_option maxRecDepth 100000 in
/-- findReferences() -/
theorem R_findReferences (l : Launch) (G : pT) (h0 : Nat) (a : Nat → Nat) (F : Nat → Int32) (B : Nat → Nat → Int32) (dc : Nat) (fd : Nat) (wr : Nat) (T : Nat) (nm : Nat) (lz : Nat) (md : Nat) (pr : Nat) (bk : Nat) (hdc : 7 ≤ dc ∧ dc ≤ 37) (hfd : fd ≤ 620) (hwr : wr ≤ 5000) (hbi : bitsM (B 31)) (hps : PS T nm wr lz dc fd md pr bk B) (hty : ∀ y : Nat, y < wr → tyOK dc (B 21 y)) : PM l G pX0 yX12_findReferences cX12_findReferences 4 none ({ frames := 3, cells := 0, slots := 0, locals := 82 }) [.ref h0] (mW G h0 a (upd (upd F 35 (nI dc)) 44 (nI fd)) B) (fun (v : Option Value) (u : Nat × (Nat → Int32) × (Nat → Int32) × (Nat → Int32)) => v = none ∧ (u.1 ≤ 22940) ∧ (∀ k : Nat, k < dc → RfsK B u.2.1 u.2.2.1 u.2.2.2 fd k u.1)) (fun u => (mW G h0 a (upd (upd F 35 (nI dc)) 44 (nI fd)) (updA (updA (updA B 75 u.2.1) 76 u.2.2.1) 77 u.2.2.2))) := by
  intro sz
  refine Met.ofW (cc := cX12_findReferences) (maxL := 4) (ret := none) (by decide) rfl ?_
  intro p e s m args below meth c s₁ B9 hml hv
  obtain ⟨rfl, hsz, hP, hD0, hE, hX⟩ := hv
  have hx := B9.exec
  have hb := B9.bytes
  have hr := B9.returns
  have hts := atoms_spec (ws := Cond.code yX12_findReferences cX12_findReferences 4 none :: pw) B9.pre
  have hq : ∀ w ∈ pw, w.before _ s = true := fun w h => hts w (List.mem_cons_of_mem _ h)
  have hown : s.vm.findClass RX12 = some m.cls := findClass_of_methodNamed B9.named
  have hlocks := B9.notSynchronized
  subst hsz
  have hD := hD0.self (sz := s.heap.size)
  have hA : ∀ q : Nat, s.heap.size ≤ q → va_A (mW G h0 a (upd (upd F 35 (nI dc)) 44 (nI fd)) B) s.heap.size q := fun q h => Or.inr h
  have hP : va_P G.1 pCl (mW G h0 a (upd (upd F 35 (nI dc)) 44 (nI fd)) B) s.heap := hP
  generalize va_A (mW G h0 a (upd (upd F 35 (nI dc)) 44 (nI fd)) B) s.heap.size = A at hD hE hA ⊢
  have hS : va_S A s.heap s.heap [] := va_S.rf
  have hl := lv_entry ([.ref h0]) (n := 4) (Nat.le_of_ble_eq_true rfl)
  rw [lg_entry_eq]
  generalize (lg_sl ([.ref h0]) ++ List.replicate (4 - (lg_sl ([.ref h0])).length) Slot.unset).toArray = ls at hl ⊢
  have hl : lv_has ls 4 [(0, .ref h0)] := hl
  refine lv_iconst (v := 0) hx hb dX12_findReferences_0 (by decide) ?_
  refine lv_istore_n (lv' := [(1, .int 0), (0, .ref h0)]) hx hb dX12_findReferences_1 rfl hl (by decide) rfl (fun ls hl => ?_)
  refine lv_iconst (v := 0) hx hb dX12_findReferences_2 (by decide) ?_
  refine lv_istore_n (lv' := [(2, .int 0), (1, .int 0), (0, .ref h0)]) hx hb dX12_findReferences_3 rfl hl (by decide) rfl (fun ls hl => ?_)
  have loop_k : ∀ (n_k : Nat) (k2 : Nat) (mn2 : Nat) (rf2 : Nat → Int32) (rm2 : Nat → Int32) (rp2 : Nat → Int32) (H : Heap) (locs : List Loc) (ls : Array Slot), k2 ≤ dc → dc + 1 ≤ k2 + n_k → (mn2 ≤ 620 * k2) → (∀ k : Nat, k < k2 → RfsK B rf2 rm2 rp2 fd k mn2) → va_P G.1 pCl (mW G h0 a (upd (upd F 35 (nI dc)) 44 (nI fd)) (updA (updA (updA B 75 rf2) 76 rm2) 77 rp2)) H → va_D A (mW G h0 a (upd (upd F 35 (nI dc)) 44 (nI fd)) (updA (updA (updA B 75 rf2) 76 rm2) 77 rp2)) → va_S A s.heap H locs → lv_has ls 4 [(2, .int (nI k2)), (1, .int (nI mn2)), (0, .ref h0)] → W p l e (headSpec (Cond.code yX12_findReferences cX12_findReferences 4 none :: pw) ({ frames := 3, cells := 0, slots := 0, locals := 82 } : Room)).room s m ([.ref h0] : List Value).toArray below meth c H locs 0 0 (MQ below (pQ G A (fun (v : Option Value) (u : Nat × (Nat → Int32) × (Nat → Int32) × (Nat → Int32)) => v = none ∧ (u.1 ≤ 22940) ∧ (∀ k : Nat, k < dc → RfsK B u.2.1 u.2.2.1 u.2.2.2 fd k u.1)) (fun u => (mW G h0 a (upd (upd F 35 (nI dc)) 44 (nI fd)) (updA (updA (updA B 75 u.2.1) 76 u.2.2.1) 77 u.2.2.2)))) ([.ref h0] : List Value).toArray s ({ frames := 3, cells := 0, slots := 0, locals := 82 } : Room).cells ({ frames := 3, cells := 0, slots := 0, locals := 82 } : Room).slots A) (F0 m 4 ls []) := by
    intro n_k
    induction n_k with
    | zero => intro k2 mn2 rf2 rm2 rp2 H locs ls hk_k hn_k; omega
    | succ n_k ih_k =>
      intro k2 mn2 rf2 rm2 rp2 H locs ls hk_k hn_k hm2 hall hP hD hS hl
      refine lv_iload_n hx hb dX12_findReferences_4 rfl (lv_at hl 0 rfl) ?_
      refine lv_aload_n hx hb dX12_findReferences_5 rfl (lv_at hl 2 rfl) ?_
      refine r_get (v := .int (nI dc)) hx hb hown hq hE hP 35 384 tFX12_35 (by decide) pw_1732 rfl dX12_findReferences_6 ?_
      refine lv_icmp_ge (tgt := 121) hx hb dX12_findReferences_9 (by decide) (fun c1 => ?_) (fun c1 => ?_)
      · have n2 : dc ≤ k2 := (nI_leI (a := dc) (b := k2) (by omega) (by omega)).mp c1
        have hz3 : mn2 ≤ 22940 := (by omega)
        have hz4 : ∀ k : Nat, k < dc → RfsK B rf2 rm2 rp2 fd k mn2 := (fun k h => hall k (by omega))
        have hP : va_P G.1 pCl (mW G h0 a (upd (upd F 35 (nI dc)) 44 (nI fd)) (updA (updA (updA B 75 rf2) 76 rm2) 77 rp2)) _ := hP
        have hD : va_D A (mW G h0 a (upd (upd F 35 (nI dc)) 44 (nI fd)) (updA (updA (updA B 75 rf2) 76 rm2) 77 rp2)) := mW_D hD
        exact W.vret hx hb hr (fun t9 ht9 hW9 => ⟨⟨_, (mn2, rf2, rm2, rp2), rfl, ⟨rfl, hz3, hz4⟩, by rw [ht9]; exact hP, hD⟩, hS.F ht9⟩) hS.2.2 dX12_findReferences_121
      · have n5 : ¬ (dc ≤ k2) := fun h9 => c1 ((nI_leI (a := dc) (b := k2) (by omega) (by omega)).mpr h9)
        refine lv_aload_n hx hb dX12_findReferences_12 rfl (lv_at hl 2 rfl) ?_
        refine r_get (v := .ref (a 75)) hx hb hown hq hE hP 131 243 tFX12_131 (by decide) pw_1509 rfl dX12_findReferences_13 ?_
        refine lv_iload_n hx hb dX12_findReferences_16 rfl (lv_at hl 0 rfl) ?_
        refine lv_iload_n hx hb dX12_findReferences_17 rfl (lv_at hl 1 rfl) ?_
        refine r_sti (f := rf2) (j := k2) hx hb hE hP hD hS 75 (ma_75 G a _) rfl (mas_75 G a _) (by omega) (by decide) dX12_findReferences_18 (fun H locs hP hD hS => ?_)
        refine lv_iconst (v := 0) hx hb dX12_findReferences_19 (by decide) ?_
        refine lv_istore_n (lv' := [(3, .int 0), (2, .int (nI k2)), (1, .int (nI mn2)), (0, .ref h0)]) hx hb dX12_findReferences_20 rfl hl (by decide) rfl (fun ls hl => ?_)
        have loop_f : ∀ (n_f : Nat) (f2 : Nat) (mn2 : Nat) (rf2 : Nat → Int32) (rm2 : Nat → Int32) (rp2 : Nat → Int32) (u2 : Nat) (H : Heap) (locs : List Loc) (ls : Array Slot), f2 ≤ fd → fd + 1 ≤ f2 + n_f → (k2 < dc) → (mn2 ≤ u2 + f2 ∧ u2 ≤ mn2 ∧ u2 ≤ 620 * k2) → (rf2 k2 = nI u2) → (∀ k : Nat, k < k2 → RfsK B rf2 rm2 rp2 fd k mn2) → (RfsTo B rp2 fd k2 u2 mn2) → (RfsC B rp2 k2 u2 mn2 f2) → va_P G.1 pCl (mW G h0 a (upd (upd F 35 (nI dc)) 44 (nI fd)) (updA (updA (updA B 75 rf2) 76 rm2) 77 rp2)) H → va_D A (mW G h0 a (upd (upd F 35 (nI dc)) 44 (nI fd)) (updA (updA (updA B 75 rf2) 76 rm2) 77 rp2)) → va_S A s.heap H locs → lv_has ls 4 [(3, .int (nI f2)), (2, .int (nI k2)), (1, .int (nI mn2)), (0, .ref h0)] → W p l e (headSpec (Cond.code yX12_findReferences cX12_findReferences 4 none :: pw) ({ frames := 3, cells := 0, slots := 0, locals := 82 } : Room)).room s m ([.ref h0] : List Value).toArray below meth c H locs 0 0 (MQ below (pQ G A (fun (v : Option Value) (u : Nat × (Nat → Int32) × (Nat → Int32) × (Nat → Int32)) => v = none ∧ (u.1 ≤ 22940) ∧ (∀ k : Nat, k < dc → RfsK B u.2.1 u.2.2.1 u.2.2.2 fd k u.1)) (fun u => (mW G h0 a (upd (upd F 35 (nI dc)) 44 (nI fd)) (updA (updA (updA B 75 u.2.1) 76 u.2.2.1) 77 u.2.2.2)))) ([.ref h0] : List Value).toArray s ({ frames := 3, cells := 0, slots := 0, locals := 82 } : Room).cells ({ frames := 3, cells := 0, slots := 0, locals := 82 } : Room).slots A) (F0 m 21 ls []) := by
          intro n_f
          induction n_f with
          | zero => intro f2 mn2 rf2 rm2 rp2 u2 H locs ls hk_f hn_f; omega
          | succ n_f ih_f =>
            intro f2 mn2 rf2 rm2 rp2 u2 H locs ls hk_f hn_f hkd hm2 hru hall hrs hrc hP hD hS hl
            refine lv_iload_n hx hb dX12_findReferences_21 rfl (lv_at hl 0 rfl) ?_
            refine lv_aload_n hx hb dX12_findReferences_22 rfl (lv_at hl 3 rfl) ?_
            refine r_get (v := .int (nI fd)) hx hb hown hq hE hP 44 413 tFX12_44 (by decide) pw_1727 rfl dX12_findReferences_23 ?_
            refine lv_icmp_ge (tgt := 101) hx hb dX12_findReferences_26 (by decide) (fun c6 => ?_) (fun c6 => ?_)
            · have n7 : fd ≤ f2 := (nI_leI (a := fd) (b := f2) (by omega) (by omega)).mp c6
              refine lv_aload_n hx hb dX12_findReferences_101 rfl (lv_at hl 3 rfl) ?_
              refine r_get (v := .ref (a 76)) hx hb hown hq hE hP 132 246 tFX12_132 (by decide) pw_1510 rfl dX12_findReferences_102 ?_
              refine lv_iload_n hx hb dX12_findReferences_105 rfl (lv_at hl 1 rfl) ?_
              refine lv_iload_n hx hb dX12_findReferences_106 rfl (lv_at hl 2 rfl) ?_
              refine lv_aload_n hx hb dX12_findReferences_107 rfl (lv_at hl 3 rfl) ?_
              refine r_get (v := .ref (a 75)) hx hb hown hq hE hP 131 243 tFX12_131 (by decide) pw_1509 rfl dX12_findReferences_108 ?_
              refine lv_iload_n hx hb dX12_findReferences_111 rfl (lv_at hl 1 rfl) ?_
              refine r_ldi (f := rf2) (j := k2) hx hb hE hP 75 (ma_75 G a _) rfl (by omega) (by decide) dX12_findReferences_112 ?_
              refine lv_topi (fun x8 e9 => ?_)
              obtain rfl : x8 = nI u2 := e9.trans hru
              refine lv_isub hx hb dX12_findReferences_113 ?_
              refine lv_topi (fun x10 e11 => ?_)
              obtain rfl : x10 = nI (mn2 - u2) := e11.trans (nI_subN (a := u2) (b := mn2) (by omega))
              refine r_sti (f := rm2) (j := k2) hx hb hE hP hD hS 76 (ma_76 G a _) rfl (mas_76 G a _) (by omega) (by decide) dX12_findReferences_114 (fun H locs hP hD hS => ?_)
              refine lv_iinc (v := (nI (k2 + 1))) (lv' := [(2, .int (nI (k2 + 1))), (3, .int (nI f2)), (1, .int (nI mn2)), (0, .ref h0)]) hx hb dX12_findReferences_115 hl (k := 1) rfl (nI_1 k2) (by decide) rfl (fun ls hl => ?_)
              refine lv_goto (tgt := 4) hx hb dX12_findReferences_118 (by decide) ?_
              have hP : va_P G.1 pCl (mW G h0 a (upd (upd F 35 (nI dc)) 44 (nI fd)) (updA (updA (updA B 75 rf2) 76 (upd rm2 k2 (nI (mn2 - u2)))) 77 rp2)) _ := mW_to (F := F) (l1 := [(35, (nI dc)), (44, (nI fd))]) (l2 := [(35, (nI dc)), (44, (nI fd))]) (V := [(nI dc), (nI fd), (nI dc), (nI fd)]) rfl rfl (show (updA (updA (updA (updA B 75 rf2) 76 rm2) 77 rp2) 76 (upd rm2 k2 (nI (mn2 - u2)))) = (updA (updA (updA B 75 rf2) 76 (upd rm2 k2 (nI (mn2 - u2)))) 77 rp2) from updsA_eq2 (F := B) (l1 := [(75, rf2), (76, rm2), (77, rp2), (76, (upd rm2 k2 (nI (mn2 - u2))))]) (l2 := [(75, rf2), (76, (upd rm2 k2 (nI (mn2 - u2)))), (77, rp2)]) (V := [rf2, (upd rm2 k2 (nI (mn2 - u2))), rp2, (upd rm2 k2 (nI (mn2 - u2))), rf2, (upd rm2 k2 (nI (mn2 - u2))), rp2]) rfl rfl) hP
              have hD : va_D A (mW G h0 a (upd (upd F 35 (nI dc)) 44 (nI fd)) (updA (updA (updA B 75 rf2) 76 (upd rm2 k2 (nI (mn2 - u2)))) 77 rp2)) := mW_D hD
              exact ih_k (k2 + 1) mn2 rf2 (upd rm2 k2 (nI (mn2 - u2))) rp2 _ _ _ (by omega) (by omega) (by omega) (all_up (fun k h => (hall k h).keepM (by omega)) ⟨u2, mn2 - u2, hru, upd_eq, by omega, fun i h1 h2 => hrs i h1 (by omega), (fun _ f h1 h2 y x e1 e2 h3 h4 h5 => by obtain ⟨i, z1, z2, z3⟩ := hrc f (by omega) h2 y x e1 e2 h3 h4 h5; exact ⟨i, z1, by omega, z3⟩)⟩) hP hD hS (lv_sub hl [0, 2, 3] rfl)
            · have n12 : ¬ (fd ≤ f2) := fun h9 => c6 ((nI_leI (a := fd) (b := f2) (by omega) (by omega)).mpr h9)
              refine lv_aload_n hx hb dX12_findReferences_29 rfl (lv_at hl 3 rfl) ?_
              refine r_get (v := .ref (a 26)) hx hb hown hq hE hP 38 90 tFX12_38 (by decide) pw_1457 rfl dX12_findReferences_30 ?_
              refine lv_iload_n hx hb dX12_findReferences_33 rfl (lv_at hl 1 rfl) ?_
              refine r_ldz (f := (B 26)) (j := k2) hx hb hE hP 26 (ma_26 G a _) rfl (by omega) (by decide) dX12_findReferences_34 ?_
              refine lv_if_ne (tgt := 101) hx hb dX12_findReferences_35 (by decide) (fun c13 => ?_) (fun c13 => ?_)
              · refine lv_aload_n hx hb dX12_findReferences_101 rfl (lv_at hl 3 rfl) ?_
                refine r_get (v := .ref (a 76)) hx hb hown hq hE hP 132 246 tFX12_132 (by decide) pw_1510 rfl dX12_findReferences_102 ?_
                refine lv_iload_n hx hb dX12_findReferences_105 rfl (lv_at hl 1 rfl) ?_
                refine lv_iload_n hx hb dX12_findReferences_106 rfl (lv_at hl 2 rfl) ?_
                refine lv_aload_n hx hb dX12_findReferences_107 rfl (lv_at hl 3 rfl) ?_
                refine r_get (v := .ref (a 75)) hx hb hown hq hE hP 131 243 tFX12_131 (by decide) pw_1509 rfl dX12_findReferences_108 ?_
                refine lv_iload_n hx hb dX12_findReferences_111 rfl (lv_at hl 1 rfl) ?_
                refine r_ldi (f := rf2) (j := k2) hx hb hE hP 75 (ma_75 G a _) rfl (by omega) (by decide) dX12_findReferences_112 ?_
                refine lv_topi (fun x14 e15 => ?_)
                obtain rfl : x14 = nI u2 := e15.trans hru
                refine lv_isub hx hb dX12_findReferences_113 ?_
                refine lv_topi (fun x16 e17 => ?_)
                obtain rfl : x16 = nI (mn2 - u2) := e17.trans (nI_subN (a := u2) (b := mn2) (by omega))
                refine r_sti (f := rm2) (j := k2) hx hb hE hP hD hS 76 (ma_76 G a _) rfl (mas_76 G a _) (by omega) (by decide) dX12_findReferences_114 (fun H locs hP hD hS => ?_)
                refine lv_iinc (v := (nI (k2 + 1))) (lv' := [(2, .int (nI (k2 + 1))), (3, .int (nI f2)), (1, .int (nI mn2)), (0, .ref h0)]) hx hb dX12_findReferences_115 hl (k := 1) rfl (nI_1 k2) (by decide) rfl (fun ls hl => ?_)
                refine lv_goto (tgt := 4) hx hb dX12_findReferences_118 (by decide) ?_
                have hP : va_P G.1 pCl (mW G h0 a (upd (upd F 35 (nI dc)) 44 (nI fd)) (updA (updA (updA B 75 rf2) 76 (upd rm2 k2 (nI (mn2 - u2)))) 77 rp2)) _ := mW_to (F := F) (l1 := [(35, (nI dc)), (44, (nI fd))]) (l2 := [(35, (nI dc)), (44, (nI fd))]) (V := [(nI dc), (nI fd), (nI dc), (nI fd)]) rfl rfl (show (updA (updA (updA (updA B 75 rf2) 76 rm2) 77 rp2) 76 (upd rm2 k2 (nI (mn2 - u2)))) = (updA (updA (updA B 75 rf2) 76 (upd rm2 k2 (nI (mn2 - u2)))) 77 rp2) from updsA_eq2 (F := B) (l1 := [(75, rf2), (76, rm2), (77, rp2), (76, (upd rm2 k2 (nI (mn2 - u2))))]) (l2 := [(75, rf2), (76, (upd rm2 k2 (nI (mn2 - u2)))), (77, rp2)]) (V := [rf2, (upd rm2 k2 (nI (mn2 - u2))), rp2, (upd rm2 k2 (nI (mn2 - u2))), rf2, (upd rm2 k2 (nI (mn2 - u2))), rp2]) rfl rfl) hP
                have hD : va_D A (mW G h0 a (upd (upd F 35 (nI dc)) 44 (nI fd)) (updA (updA (updA B 75 rf2) 76 (upd rm2 k2 (nI (mn2 - u2)))) 77 rp2)) := mW_D hD
                exact ih_k (k2 + 1) mn2 rf2 (upd rm2 k2 (nI (mn2 - u2))) rp2 _ _ _ (by omega) (by omega) (by omega) (all_up (fun k h => (hall k h).keepM (by omega)) ⟨u2, mn2 - u2, hru, upd_eq, by omega, fun i h1 h2 => hrs i h1 (by omega), (fun e => absurd e c13)⟩) hP hD hS (lv_sub hl [0, 2, 3] rfl)
              · refine lv_aload_n hx hb dX12_findReferences_38 rfl (lv_at hl 3 rfl) ?_
                refine r_get (v := .ref (a 32)) hx hb hown hq hE hP 45 108 tFX12_45 (by decide) pw_1463 rfl dX12_findReferences_39 ?_
                refine lv_iload_n hx hb dX12_findReferences_42 rfl (lv_at hl 0 rfl) ?_
                refine r_ldi (f := (B 32)) (j := f2) hx hb hE hP 32 (ma_32 G a _) rfl (by omega) (by decide) dX12_findReferences_43 ?_
                obtain ⟨⟨d18, e19, h20, h21⟩, -⟩ := hps.2.1 f2 (by omega)
                refine lv_topi (fun x22 e23 => ?_)
                obtain rfl : x22 = nI d18 := e23.trans e19
                refine lv_iload_n hx hb dX12_findReferences_44 rfl (lv_at hl 1 rfl) ?_
                refine lv_icmp_eq (tgt := 62) hx hb dX12_findReferences_45 (by decide) (fun c24 => ?_) (fun c24 => ?_)
                · have n25 : d18 = k2 := (nI_eq (a := d18) (b := k2) (by omega) (by omega)).mp c24
                  refine lv_aload_n hx hb dX12_findReferences_62 rfl (lv_at hl 3 rfl) ?_
                  refine lv_aload_n hx hb dX12_findReferences_63 rfl (lv_at hl 3 rfl) ?_
                  refine r_get (v := .ref (a 21)) hx hb hown hq hE hP 30 75 tFX12_30 (by decide) pw_1452 rfl dX12_findReferences_64 ?_
                  refine lv_aload_n hx hb dX12_findReferences_67 rfl (lv_at hl 3 rfl) ?_
                  refine r_get (v := .ref (a 35)) hx hb hown hq hE hP 48 117 tFX12_48 (by decide) pw_1466 rfl dX12_findReferences_68 ?_
                  refine lv_iload_n hx hb dX12_findReferences_71 rfl (lv_at hl 0 rfl) ?_
                  refine r_ldi (f := (B 35)) (j := f2) hx hb hE hP 35 (ma_35 G a _) rfl (by omega) (by decide) dX12_findReferences_72 ?_
                  obtain ⟨-, -, y26, e27, h28⟩ := hps.2.1 f2 (by omega)
                  refine lv_topi (fun x29 e30 => ?_)
                  obtain rfl : x29 = nI y26 := e30.trans e27
                  refine r_ldi (f := (B 21)) (j := y26) hx hb hE hP 21 (ma_21 G a _) rfl (by omega) (by decide) dX12_findReferences_73 ?_
                  obtain ⟨x31, e32, h33⟩ := hty y26 (by omega)
                  have h34 : x31 ≤ 1050 := by rcases h33 with z | ⟨_, z⟩ <;> unfold baN at z <;> omega
                  clear h33
                  refine lv_topi (fun x35 e36 => ?_)
                  obtain rfl : x35 = nI x31 := e36.trans e32
                  have hP : va_P G.1 pCl (mW G h0 a (upd (upd F 35 (nI dc)) 44 (nI fd)) (updA (updA (updA B 75 rf2) 76 rm2) 77 rp2)) _ := hP
                  have hD : va_D A (mW G h0 a (upd (upd F 35 (nI dc)) 44 (nI fd)) (updA (updA (updA B 75 rf2) 76 rm2) 77 rp2)) := mW_D hD
                  refine pc_V0 (G := G) (As := [.int (nI x31)]) (rest := []) hx hb hml hown hq hE hX pX0_al hP hD hS hA hl.1 (R_isReference l G h0 a (upd (upd F 35 (nI dc)) 44 (nI fd)) (updA (updA (updA B 75 rf2) 76 rm2) 77 rp2) x31 (by omega)) (gV pw_1783 pw_1784 pw_1785 pw_1523 pw_1779) hV_X12_isReference 0 9 rfl rfl rfl rfl (Nat.le_of_ble_eq_true rfl) dX12_findReferences_74 ⟨Nat.le_of_ble_eq_true rfl, Nat.le_of_ble_eq_true rfl⟩ ⟨Nat.le_of_ble_eq_true rfl, Nat.le_of_ble_eq_true rfl⟩ (fun v39 u37 H locs hw38 hP hD hS => ?_)
                  obtain ⟨r40, rfl⟩ : ∃ z, z = u37 := ⟨_, rfl⟩
                  obtain ⟨hw38, h41, h42, h43⟩ := hw38
                  replace h41 : r40 ≤ 1 := h41
                  replace h42 : 3 * r40 ≤ x31 := h42
                  replace h43 : x31 ≤ 2 + 9000 * r40 := h43
                  obtain rfl : v39 = some (.int (nI r40)) := hw38
                  have hP : va_P G.1 pCl (mW G h0 a (upd (upd F 35 (nI dc)) 44 (nI fd)) (updA (updA (updA B 75 rf2) 76 rm2) 77 rp2)) _ := hP
                  have hD : va_D A (mW G h0 a (upd (upd F 35 (nI dc)) 44 (nI fd)) (updA (updA (updA B 75 rf2) 76 rm2) 77 rp2)) := mW_D hD
                  refine W.widen (k := 0) (n := 0) (Nat.le_of_ble_eq_true rfl) (Nat.le_of_ble_eq_true rfl) ?_
                  refine W.eq (g2 := F0 m 77 ls [.int (nI r40)]) rfl ?_
                  refine lv_if_eq (tgt := 95) hx hb dX12_findReferences_77 (by decide) (fun c44 => ?_) (fun c44 => ?_)
                  · have n45 : r40 = 0 := (nI_eq (a := r40) (b := 0) (by omega) (by omega)).mp c44
                    refine lv_iinc (v := (nI (f2 + 1))) (lv' := [(3, .int (nI (f2 + 1))), (2, .int (nI k2)), (1, .int (nI mn2)), (0, .ref h0)]) hx hb dX12_findReferences_95 hl (k := 0) rfl (nI_1 f2) (by decide) rfl (fun ls hl => ?_)
                    refine lv_goto (tgt := 21) hx hb dX12_findReferences_98 (by decide) ?_
                    have hP : va_P G.1 pCl (mW G h0 a (upd (upd F 35 (nI dc)) 44 (nI fd)) (updA (updA (updA B 75 rf2) 76 rm2) 77 rp2)) _ := hP
                    have hD : va_D A (mW G h0 a (upd (upd F 35 (nI dc)) 44 (nI fd)) (updA (updA (updA B 75 rf2) 76 rm2) 77 rp2)) := mW_D hD
                    exact ih_f (f2 + 1) mn2 rf2 rm2 rp2 u2 _ _ _ (by omega) (by omega) (by omega) (by omega) (by omega) hall hrs (RfsC.num hrc e27 e32 (by omega) (by omega)) hP hD hS (lv_sub hl [0, 1, 2, 3] rfl)
                  · have n46 : ¬ (r40 = 0) := fun h9 => c44 ((nI_eq (a := r40) (b := 0) (by omega) (by omega)).mpr h9)
                    refine lv_aload_n hx hb dX12_findReferences_80 rfl (lv_at hl 3 rfl) ?_
                    refine r_get (v := .ref (a 77)) hx hb hown hq hE hP 133 249 tFX12_133 (by decide) pw_1511 rfl dX12_findReferences_81 ?_
                    refine lv_iload_n hx hb dX12_findReferences_84 rfl (lv_at hl 2 rfl) ?_
                    refine lv_aload_n hx hb dX12_findReferences_85 rfl (lv_at hl 3 rfl) ?_
                    refine r_get (v := .ref (a 53)) hx hb hown hq hE hP 89 171 tFX12_89 (by decide) pw_1484 rfl dX12_findReferences_86 ?_
                    refine lv_iload_n hx hb dX12_findReferences_89 rfl (lv_at hl 0 rfl) ?_
                    refine r_ldi (f := (B 53)) (j := f2) hx hb hE hP 53 (ma_53 G a _) rfl (by omega) (by decide) dX12_findReferences_90 ?_
                    refine r_sti (f := rp2) (j := mn2) hx hb hE hP hD hS 77 (ma_77 G a _) rfl (mas_77 G a _) (by omega) (by decide) dX12_findReferences_91 (fun H locs hP hD hS => ?_)
                    refine lv_iinc (v := (nI (mn2 + 1))) (lv' := [(1, .int (nI (mn2 + 1))), (3, .int (nI f2)), (2, .int (nI k2)), (0, .ref h0)]) hx hb dX12_findReferences_92 hl (k := 2) rfl (nI_1 mn2) (by decide) rfl (fun ls hl => ?_)
                    refine lv_iinc (v := (nI (f2 + 1))) (lv' := [(3, .int (nI (f2 + 1))), (1, .int (nI (mn2 + 1))), (2, .int (nI k2)), (0, .ref h0)]) hx hb dX12_findReferences_95 hl (k := 1) rfl (nI_1 f2) (by decide) rfl (fun ls hl => ?_)
                    refine lv_goto (tgt := 21) hx hb dX12_findReferences_98 (by decide) ?_
                    have hP : va_P G.1 pCl (mW G h0 a (upd (upd F 35 (nI dc)) 44 (nI fd)) (updA (updA (updA B 75 rf2) 76 rm2) 77 (upd rp2 mn2 ((B 53) f2)))) _ := mW_to (F := F) (l1 := [(35, (nI dc)), (44, (nI fd))]) (l2 := [(35, (nI dc)), (44, (nI fd))]) (V := [(nI dc), (nI fd), (nI dc), (nI fd)]) rfl rfl (show (updA (updA (updA (updA B 75 rf2) 76 rm2) 77 rp2) 77 (upd rp2 mn2 ((B 53) f2))) = (updA (updA (updA B 75 rf2) 76 rm2) 77 (upd rp2 mn2 ((B 53) f2))) from updsA_eq2 (F := B) (l1 := [(75, rf2), (76, rm2), (77, rp2), (77, (upd rp2 mn2 ((B 53) f2)))]) (l2 := [(75, rf2), (76, rm2), (77, (upd rp2 mn2 ((B 53) f2)))]) (V := [rf2, rm2, (upd rp2 mn2 ((B 53) f2)), (upd rp2 mn2 ((B 53) f2)), rf2, rm2, (upd rp2 mn2 ((B 53) f2))]) rfl rfl) hP
                    have hD : va_D A (mW G h0 a (upd (upd F 35 (nI dc)) 44 (nI fd)) (updA (updA (updA B 75 rf2) 76 rm2) 77 (upd rp2 mn2 ((B 53) f2)))) := mW_D hD
                    exact ih_f (f2 + 1) (mn2 + 1) rf2 rm2 (upd rp2 mn2 ((B 53) f2)) u2 _ _ _ (by omega) (by omega) (by omega) (by omega) (by omega) (fun k h => ((hall k h).keepP (by omega)).mono (by omega)) (RfsTo.up hrs ⟨f2, y26, x31, by omega, (owF_y e19 (by omega) (Or.inl (by omega))), e27, e32, by omega, ⟨by omega, by omega⟩, rfl⟩) (RfsC.up hrc (by omega)) hP hD hS (lv_sub hl [0, 2, 1, 3] rfl)
                · have n47 : ¬ (d18 = k2) := fun h9 => c24 ((nI_eq (a := d18) (b := k2) (by omega) (by omega)).mpr h9)
                  refine lv_aload_n hx hb dX12_findReferences_48 rfl (lv_at hl 3 rfl) ?_
                  refine lv_aload_n hx hb dX12_findReferences_49 rfl (lv_at hl 3 rfl) ?_
                  refine r_get (v := .ref (a 32)) hx hb hown hq hE hP 45 108 tFX12_45 (by decide) pw_1463 rfl dX12_findReferences_50 ?_
                  refine lv_iload_n hx hb dX12_findReferences_53 rfl (lv_at hl 0 rfl) ?_
                  refine r_ldi (f := (B 32)) (j := f2) hx hb hE hP 32 (ma_32 G a _) rfl (by omega) (by decide) dX12_findReferences_54 ?_
                  refine lv_topi (fun x48 e49 => ?_)
                  obtain rfl : x48 = nI d18 := e49.trans e19
                  refine lv_iload_n hx hb dX12_findReferences_55 rfl (lv_at hl 1 rfl) ?_
                  have hP : va_P G.1 pCl (mW G h0 a (upd (upd F 35 (nI dc)) 44 (nI fd)) (updA (updA (updA (updA B 75 rf2) 76 rm2) 77 rp2) 31 (B 31))) _ := mW_to (F := F) (l1 := [(35, (nI dc)), (44, (nI fd))]) (l2 := [(35, (nI dc)), (44, (nI fd))]) (V := [(nI dc), (nI fd), (nI dc), (nI fd)]) rfl rfl (show (updA (updA (updA B 75 rf2) 76 rm2) 77 rp2) = (updA (updA (updA (updA B 75 rf2) 76 rm2) 77 rp2) 31 (B 31)) from updsA_eq2 (F := B) (l1 := [(75, rf2), (76, rm2), (77, rp2)]) (l2 := [(75, rf2), (76, rm2), (77, rp2), (31, (B 31))]) (V := [rf2, rm2, rp2, rf2, rm2, rp2, (B 31)]) rfl rfl) hP
                  have hD : va_D A (mW G h0 a (upd (upd F 35 (nI dc)) 44 (nI fd)) (updA (updA (updA (updA B 75 rf2) 76 rm2) 77 rp2) 31 (B 31))) := mW_D hD
                  refine pc_V0 (G := G) (As := [.int (nI d18), .int (nI k2)]) (rest := []) hx hb hml hown hq hE hX pX0_al hP hD hS hA hl.1 (R_isAbove l G h0 a (upd (upd F 35 (nI dc)) 44 (nI fd)) (updA (updA (updA B 75 rf2) 76 rm2) 77 rp2) d18 k2 (B 31) (by omega) hbi) (gV pw_1772 pw_1773 pw_1774 pw_1523 pw_1760) hV_X12_isAbove 0 9 rfl rfl rfl rfl (Nat.le_of_ble_eq_true rfl) dX12_findReferences_56 ⟨Nat.le_of_ble_eq_true rfl, Nat.le_of_ble_eq_true rfl⟩ ⟨Nat.le_of_ble_eq_true rfl, Nat.le_of_ble_eq_true rfl⟩ (fun v52 u50 H locs hw51 hP hD hS => ?_)
                  obtain rfl : v52 = some (.int ((B 31) (40 * d18 + k2))) := hw51
                  have hP : va_P G.1 pCl (mW G h0 a (upd (upd F 35 (nI dc)) 44 (nI fd)) (updA (updA (updA B 75 rf2) 76 rm2) 77 rp2)) _ := mW_to (F := F) (l1 := [(35, (nI dc)), (44, (nI fd))]) (l2 := [(35, (nI dc)), (44, (nI fd))]) (V := [(nI dc), (nI fd), (nI dc), (nI fd)]) rfl rfl (show (updA (updA (updA (updA B 75 rf2) 76 rm2) 77 rp2) 31 (B 31)) = (updA (updA (updA B 75 rf2) 76 rm2) 77 rp2) from updsA_eq2 (F := B) (l1 := [(75, rf2), (76, rm2), (77, rp2), (31, (B 31))]) (l2 := [(75, rf2), (76, rm2), (77, rp2)]) (V := [rf2, rm2, rp2, (B 31), rf2, rm2, rp2]) rfl rfl) hP
                  have hD : va_D A (mW G h0 a (upd (upd F 35 (nI dc)) 44 (nI fd)) (updA (updA (updA B 75 rf2) 76 rm2) 77 rp2)) := mW_D hD
                  refine W.widen (k := 0) (n := 0) (Nat.le_of_ble_eq_true rfl) (Nat.le_of_ble_eq_true rfl) ?_
                  refine W.eq (g2 := F0 m 59 ls [.int ((B 31) (40 * d18 + k2))]) rfl ?_
                  refine lv_if_eq (tgt := 95) hx hb dX12_findReferences_59 (by decide) (fun c53 => ?_) (fun c53 => ?_)
                  · refine lv_iinc (v := (nI (f2 + 1))) (lv' := [(3, .int (nI (f2 + 1))), (2, .int (nI k2)), (1, .int (nI mn2)), (0, .ref h0)]) hx hb dX12_findReferences_95 hl (k := 0) rfl (nI_1 f2) (by decide) rfl (fun ls hl => ?_)
                    refine lv_goto (tgt := 21) hx hb dX12_findReferences_98 (by decide) ?_
                    have hP : va_P G.1 pCl (mW G h0 a (upd (upd F 35 (nI dc)) 44 (nI fd)) (updA (updA (updA B 75 rf2) 76 rm2) 77 rp2)) _ := hP
                    have hD : va_D A (mW G h0 a (upd (upd F 35 (nI dc)) 44 (nI fd)) (updA (updA (updA B 75 rf2) 76 rm2) 77 rp2)) := mW_D hD
                    exact ih_f (f2 + 1) mn2 rf2 rm2 rp2 u2 _ _ _ (by omega) (by omega) (by omega) (by omega) (by omega) hall hrs (RfsC.no hrc (owF_no e19 (by omega) (by omega) (by omega) c53)) hP hD hS (lv_sub hl [0, 1, 2, 3] rfl)
                  · refine lv_aload_n hx hb dX12_findReferences_62 rfl (lv_at hl 3 rfl) ?_
                    refine lv_aload_n hx hb dX12_findReferences_63 rfl (lv_at hl 3 rfl) ?_
                    refine r_get (v := .ref (a 21)) hx hb hown hq hE hP 30 75 tFX12_30 (by decide) pw_1452 rfl dX12_findReferences_64 ?_
                    refine lv_aload_n hx hb dX12_findReferences_67 rfl (lv_at hl 3 rfl) ?_
                    refine r_get (v := .ref (a 35)) hx hb hown hq hE hP 48 117 tFX12_48 (by decide) pw_1466 rfl dX12_findReferences_68 ?_
                    refine lv_iload_n hx hb dX12_findReferences_71 rfl (lv_at hl 0 rfl) ?_
                    refine r_ldi (f := (B 35)) (j := f2) hx hb hE hP 35 (ma_35 G a _) rfl (by omega) (by decide) dX12_findReferences_72 ?_
                    obtain ⟨-, -, y54, e55, h56⟩ := hps.2.1 f2 (by omega)
                    refine lv_topi (fun x57 e58 => ?_)
                    obtain rfl : x57 = nI y54 := e58.trans e55
                    refine r_ldi (f := (B 21)) (j := y54) hx hb hE hP 21 (ma_21 G a _) rfl (by omega) (by decide) dX12_findReferences_73 ?_
                    obtain ⟨x59, e60, h61⟩ := hty y54 (by omega)
                    have h62 : x59 ≤ 1050 := by rcases h61 with z | ⟨_, z⟩ <;> unfold baN at z <;> omega
                    clear h61
                    refine lv_topi (fun x63 e64 => ?_)
                    obtain rfl : x63 = nI x59 := e64.trans e60
                    have hP : va_P G.1 pCl (mW G h0 a (upd (upd F 35 (nI dc)) 44 (nI fd)) (updA (updA (updA B 75 rf2) 76 rm2) 77 rp2)) _ := hP
                    have hD : va_D A (mW G h0 a (upd (upd F 35 (nI dc)) 44 (nI fd)) (updA (updA (updA B 75 rf2) 76 rm2) 77 rp2)) := mW_D hD
                    refine pc_V0 (G := G) (As := [.int (nI x59)]) (rest := []) hx hb hml hown hq hE hX pX0_al hP hD hS hA hl.1 (R_isReference l G h0 a (upd (upd F 35 (nI dc)) 44 (nI fd)) (updA (updA (updA B 75 rf2) 76 rm2) 77 rp2) x59 (by omega)) (gV pw_1783 pw_1784 pw_1785 pw_1523 pw_1779) hV_X12_isReference 0 9 rfl rfl rfl rfl (Nat.le_of_ble_eq_true rfl) dX12_findReferences_74 ⟨Nat.le_of_ble_eq_true rfl, Nat.le_of_ble_eq_true rfl⟩ ⟨Nat.le_of_ble_eq_true rfl, Nat.le_of_ble_eq_true rfl⟩ (fun v67 u65 H locs hw66 hP hD hS => ?_)
                    obtain ⟨r68, rfl⟩ : ∃ z, z = u65 := ⟨_, rfl⟩
                    obtain ⟨hw66, h69, h70, h71⟩ := hw66
                    replace h69 : r68 ≤ 1 := h69
                    replace h70 : 3 * r68 ≤ x59 := h70
                    replace h71 : x59 ≤ 2 + 9000 * r68 := h71
                    obtain rfl : v67 = some (.int (nI r68)) := hw66
                    have hP : va_P G.1 pCl (mW G h0 a (upd (upd F 35 (nI dc)) 44 (nI fd)) (updA (updA (updA B 75 rf2) 76 rm2) 77 rp2)) _ := hP
                    have hD : va_D A (mW G h0 a (upd (upd F 35 (nI dc)) 44 (nI fd)) (updA (updA (updA B 75 rf2) 76 rm2) 77 rp2)) := mW_D hD
                    refine W.widen (k := 0) (n := 0) (Nat.le_of_ble_eq_true rfl) (Nat.le_of_ble_eq_true rfl) ?_
                    refine W.eq (g2 := F0 m 77 ls [.int (nI r68)]) rfl ?_
                    refine lv_if_eq (tgt := 95) hx hb dX12_findReferences_77 (by decide) (fun c72 => ?_) (fun c72 => ?_)
                    · have n73 : r68 = 0 := (nI_eq (a := r68) (b := 0) (by omega) (by omega)).mp c72
                      refine lv_iinc (v := (nI (f2 + 1))) (lv' := [(3, .int (nI (f2 + 1))), (2, .int (nI k2)), (1, .int (nI mn2)), (0, .ref h0)]) hx hb dX12_findReferences_95 hl (k := 0) rfl (nI_1 f2) (by decide) rfl (fun ls hl => ?_)
                      refine lv_goto (tgt := 21) hx hb dX12_findReferences_98 (by decide) ?_
                      have hP : va_P G.1 pCl (mW G h0 a (upd (upd F 35 (nI dc)) 44 (nI fd)) (updA (updA (updA B 75 rf2) 76 rm2) 77 rp2)) _ := hP
                      have hD : va_D A (mW G h0 a (upd (upd F 35 (nI dc)) 44 (nI fd)) (updA (updA (updA B 75 rf2) 76 rm2) 77 rp2)) := mW_D hD
                      exact ih_f (f2 + 1) mn2 rf2 rm2 rp2 u2 _ _ _ (by omega) (by omega) (by omega) (by omega) (by omega) hall hrs (RfsC.num hrc e55 e60 (by omega) (by omega)) hP hD hS (lv_sub hl [0, 1, 2, 3] rfl)
                    · have n74 : ¬ (r68 = 0) := fun h9 => c72 ((nI_eq (a := r68) (b := 0) (by omega) (by omega)).mpr h9)
                      refine lv_aload_n hx hb dX12_findReferences_80 rfl (lv_at hl 3 rfl) ?_
                      refine r_get (v := .ref (a 77)) hx hb hown hq hE hP 133 249 tFX12_133 (by decide) pw_1511 rfl dX12_findReferences_81 ?_
                      refine lv_iload_n hx hb dX12_findReferences_84 rfl (lv_at hl 2 rfl) ?_
                      refine lv_aload_n hx hb dX12_findReferences_85 rfl (lv_at hl 3 rfl) ?_
                      refine r_get (v := .ref (a 53)) hx hb hown hq hE hP 89 171 tFX12_89 (by decide) pw_1484 rfl dX12_findReferences_86 ?_
                      refine lv_iload_n hx hb dX12_findReferences_89 rfl (lv_at hl 0 rfl) ?_
                      refine r_ldi (f := (B 53)) (j := f2) hx hb hE hP 53 (ma_53 G a _) rfl (by omega) (by decide) dX12_findReferences_90 ?_
                      refine r_sti (f := rp2) (j := mn2) hx hb hE hP hD hS 77 (ma_77 G a _) rfl (mas_77 G a _) (by omega) (by decide) dX12_findReferences_91 (fun H locs hP hD hS => ?_)
                      refine lv_iinc (v := (nI (mn2 + 1))) (lv' := [(1, .int (nI (mn2 + 1))), (3, .int (nI f2)), (2, .int (nI k2)), (0, .ref h0)]) hx hb dX12_findReferences_92 hl (k := 2) rfl (nI_1 mn2) (by decide) rfl (fun ls hl => ?_)
                      refine lv_iinc (v := (nI (f2 + 1))) (lv' := [(3, .int (nI (f2 + 1))), (1, .int (nI (mn2 + 1))), (2, .int (nI k2)), (0, .ref h0)]) hx hb dX12_findReferences_95 hl (k := 1) rfl (nI_1 f2) (by decide) rfl (fun ls hl => ?_)
                      refine lv_goto (tgt := 21) hx hb dX12_findReferences_98 (by decide) ?_
                      have hP : va_P G.1 pCl (mW G h0 a (upd (upd F 35 (nI dc)) 44 (nI fd)) (updA (updA (updA B 75 rf2) 76 rm2) 77 (upd rp2 mn2 ((B 53) f2)))) _ := mW_to (F := F) (l1 := [(35, (nI dc)), (44, (nI fd))]) (l2 := [(35, (nI dc)), (44, (nI fd))]) (V := [(nI dc), (nI fd), (nI dc), (nI fd)]) rfl rfl (show (updA (updA (updA (updA B 75 rf2) 76 rm2) 77 rp2) 77 (upd rp2 mn2 ((B 53) f2))) = (updA (updA (updA B 75 rf2) 76 rm2) 77 (upd rp2 mn2 ((B 53) f2))) from updsA_eq2 (F := B) (l1 := [(75, rf2), (76, rm2), (77, rp2), (77, (upd rp2 mn2 ((B 53) f2)))]) (l2 := [(75, rf2), (76, rm2), (77, (upd rp2 mn2 ((B 53) f2)))]) (V := [rf2, rm2, (upd rp2 mn2 ((B 53) f2)), (upd rp2 mn2 ((B 53) f2)), rf2, rm2, (upd rp2 mn2 ((B 53) f2))]) rfl rfl) hP
                      have hD : va_D A (mW G h0 a (upd (upd F 35 (nI dc)) 44 (nI fd)) (updA (updA (updA B 75 rf2) 76 rm2) 77 (upd rp2 mn2 ((B 53) f2)))) := mW_D hD
                      exact ih_f (f2 + 1) (mn2 + 1) rf2 rm2 (upd rp2 mn2 ((B 53) f2)) u2 _ _ _ (by omega) (by omega) (by omega) (by omega) (by omega) (fun k h => ((hall k h).keepP (by omega)).mono (by omega)) (RfsTo.up hrs ⟨f2, y54, x59, by omega, (owF_y e19 (by omega) (Or.inr (bitsM.one hbi (by omega) c53))), e55, e60, by omega, ⟨by omega, by omega⟩, rfl⟩) (RfsC.up hrc (by omega)) hP hD hS (lv_sub hl [0, 2, 1, 3] rfl)
        have hP : va_P G.1 pCl (mW G h0 a (upd (upd F 35 (nI dc)) 44 (nI fd)) (updA (updA (updA B 75 (upd rf2 k2 (nI mn2))) 76 rm2) 77 rp2)) _ := mW_to (F := F) (l1 := [(35, (nI dc)), (44, (nI fd))]) (l2 := [(35, (nI dc)), (44, (nI fd))]) (V := [(nI dc), (nI fd), (nI dc), (nI fd)]) rfl rfl (show (updA (updA (updA (updA B 75 rf2) 76 rm2) 77 rp2) 75 (upd rf2 k2 (nI mn2))) = (updA (updA (updA B 75 (upd rf2 k2 (nI mn2))) 76 rm2) 77 rp2) from updsA_eq2 (F := B) (l1 := [(75, rf2), (76, rm2), (77, rp2), (75, (upd rf2 k2 (nI mn2)))]) (l2 := [(75, (upd rf2 k2 (nI mn2))), (76, rm2), (77, rp2)]) (V := [(upd rf2 k2 (nI mn2)), rm2, rp2, (upd rf2 k2 (nI mn2)), (upd rf2 k2 (nI mn2)), rm2, rp2]) rfl rfl) hP
        have hD : va_D A (mW G h0 a (upd (upd F 35 (nI dc)) 44 (nI fd)) (updA (updA (updA B 75 (upd rf2 k2 (nI mn2))) 76 rm2) 77 rp2)) := mW_D hD
        exact loop_f (fd + 1) 0 mn2 (upd rf2 k2 (nI mn2)) rm2 rp2 mn2 _ _ _ (by omega) (by omega) (by omega) (by omega) upd_eq (fun k h => (hall k h).keep (v := nI mn2) (w := 0) (x := 0) (by omega)) (fun i h1 h2 => absurd h1 (by omega)) (fun f h => absurd h (by omega)) hP hD hS (lv_sub hl [0, 1, 2, 3] rfl)
  have hP : va_P G.1 pCl (mW G h0 a (upd (upd F 35 (nI dc)) 44 (nI fd)) (updA (updA (updA B 75 (B 75)) 76 (B 76)) 77 (B 77))) _ := mW_to (F := F) (l1 := [(35, (nI dc)), (44, (nI fd))]) (l2 := [(35, (nI dc)), (44, (nI fd))]) (V := [(nI dc), (nI fd), (nI dc), (nI fd)]) rfl rfl (show B = (updA (updA (updA B 75 (B 75)) 76 (B 76)) 77 (B 77)) from updsA_eq2 (F := B) (l1 := []) (l2 := [(75, (B 75)), (76, (B 76)), (77, (B 77))]) (V := [(B 75), (B 76), (B 77)]) rfl rfl) hP
  have hD : va_D A (mW G h0 a (upd (upd F 35 (nI dc)) 44 (nI fd)) (updA (updA (updA B 75 (B 75)) 76 (B 76)) 77 (B 77))) := mW_D hD
  exact loop_k (dc + 1) 0 0 (B 75) (B 76) (B 77) _ _ _ (by omega) (by omega) (by omega) (fun k h => absurd h (by omega)) hP hD hS (lv_sub hl [0, 1, 2] rfl)
