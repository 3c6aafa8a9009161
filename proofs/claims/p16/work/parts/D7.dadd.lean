def upQ (it : Nat → Nat) (n x : Nat) : Nat → Nat := fun i => if i = n then x else it i
def AdQ (K K1 : PK) (q : Nat) : Prop := (∀ p : Nat, ¬ K.1 p = 0 → K1.1 p = K.1 p ∧ K1.2.2.1 17 p = K.2.2.1 17 p) ∧ (∀ p : Nat, ¬ K.1 p = 0 → ¬ p = q → ¬ (K.1 p = 6 ∧ K.2.2.1 17 p = some q) → Sm K K1 p)
theorem Sm.trans {K K1 K2 : PK} {p : Nat} (h : Sm K K1 p) (g : Sm K1 K2 p) : Sm K K2 p := ⟨g.1.trans h.1, fun f => (g.2.1 f).trans (h.2.1 f), fun f => (g.2.2.1 f).trans (h.2.2.1 f), g.2.2.2.1.trans h.2.2.2.1, g.2.2.2.2.1.trans h.2.2.2.2.1, g.2.2.2.2.2.trans h.2.2.2.2.2⟩
theorem AdQ.trans {K K1 K2 : PK} {q : Nat} (h : AdQ K K1 q) (g : AdQ K1 K2 q) : AdQ K K2 q := by
  refine ⟨fun p hp => ?_, fun p hp h1 h2 => ?_⟩
  · have a := h.1 p hp
    have b := g.1 p (by rw [a.1]; exact hp)
    exact ⟨b.1.trans a.1, b.2.trans a.2⟩
  · have a := h.1 p hp
    exact (h.2 p hp h1 h2).trans (g.2 p (by rw [a.1]; exact hp) h1 (by rw [a.1, a.2]; exact h2))
theorem AdQ.i {K : PK} {q f : Nat} {v : Int32} : AdQ K (kI K f q v) q := ⟨fun _ _ => ⟨rfl, rfl⟩, fun _ _ h1 _ => ⟨rfl, fun _ => kI_ne h1, fun _ => rfl, rfl, rfl, rfl⟩⟩
theorem AdQ.grow {G : pT} {K K1 : PK} {q e1 n m9 : Nat} (h : GrQ K K1 q e1 n m9) (hq : K.1 q = 5) : AdQ K K1 q := by
  obtain ⟨g1, g2, g3, g4, g5, g6, g7, g8, g9⟩ := h
  refine ⟨fun p hp => ?_, fun p hp h1 _ => g6 p hp h1⟩
  by_cases z : p = q
  · subst z; exact ⟨g7.trans hq.symm, g9 17 (by decide)⟩
  · exact ⟨(g6 p hp z).1, (g6 p hp z).2.2.1 17⟩
theorem LsI.mod {G : pT} {K : PK} {q es n f : Nat} {it : Nat → Nat} {v : Int32} (h : LsI G K q es n it) (hf : ¬ 23 = f) : LsI G (kI K f q v) q es n it := ⟨h.1, (kI_of hf).trans h.2.1, h.2.2.1, h.2.2.2⟩
theorem add_ok {G : pT} {K : PK} {q e9 es n x : Nat} {it : Nat → Nat} (h5 : K.1 q = 5) (he : K.2.2.1 13 q = some e9) (h6 : K.1 e9 = 6) (h17 : K.2.2.1 17 e9 = some q) (hl : n < K.2.2.2.2.2 e9) (hb : 10 ≤ K.2.2.2.2.2 e9 ∧ K.2.2.2.2.2 e9 ≤ 200000) (hel : ∀ i : Nat, i < n → K.2.2.2.2.1 e9 i = some (it i) ∧ K.1 (it i) = es) (hx : K.1 x = es) (hn : n + 1 ≤ 100000) : LsC G (kI (kE K e9 (va_up (K.2.2.2.2.1 e9) n (some x))) 23 q (nI (n + 1))) q es (n + 1) (upQ it n x) (K.2.2.2.2.2 e9) ∧ AdQ K (kI (kE K e9 (va_up (K.2.2.2.2.1 e9) n (some x))) 23 q (nI (n + 1))) q := by
  have hE9 : (kI (kE K e9 (va_up (K.2.2.2.2.1 e9) n (some x))) 23 q (nI (n + 1))).2.2.2.2.1 e9 = va_up (K.2.2.2.2.1 e9) n (some x) := if_pos rfl
  refine ⟨⟨h5, kI_eq, hn, Or.inr ⟨e9, he, h6, h17, rfl, hb.1, by omega, hb.2, fun i hi => ?_⟩⟩, fun p hp => ⟨rfl, rfl⟩, fun p hp h1 h2 => ?_⟩
  · rw [hE9]
    by_cases z : i = n
    · subst z
      exact ⟨by rw [va_up_self]; show _ = some (if i = i then x else it i); rw [if_pos rfl], by show K.1 (if i = i then x else it i) = es; rw [if_pos rfl]; exact hx⟩
    · have hh := hel i (by omega)
      exact ⟨by rw [va_up_ne _ _ z]; show _ = some (if i = n then x else it i); rw [if_neg z]; exact hh.1, by show K.1 (if i = n then x else it i) = es; rw [if_neg z]; exact hh.2⟩
  · have hpe : ¬ p = e9 := fun z => h2 (by rw [z]; exact ⟨h6, h17⟩)
    exact ⟨rfl, fun _ => kI_ne h1, fun _ => rfl, rfl, if_neg hpe, rfl⟩
theorem dJx4a65c_add_72be8_0 : decode cJx4a65c_add_72be8 0 = .ok (.iload_n 3, 1) := by decide +kernel
theorem dJx4a65c_add_72be8_1 : decode cJx4a65c_add_72be8 1 = .ok (.aload_n 2, 1) := by decide +kernel
theorem dJx4a65c_add_72be8_2 : decode cJx4a65c_add_72be8 2 = .ok (.arraylength, 1) := by decide +kernel
theorem dJx4a65c_add_72be8_3 : decode cJx4a65c_add_72be8 3 = .ok (.if_icmp .ne 8, 3) := by decide +kernel
theorem dJx4a65c_add_72be8_11 : decode cJx4a65c_add_72be8 11 = .ok (.aload_n 2, 1) := by decide +kernel
theorem dJx4a65c_add_72be8_12 : decode cJx4a65c_add_72be8 12 = .ok (.iload_n 3, 1) := by decide +kernel
theorem dJx4a65c_add_72be8_13 : decode cJx4a65c_add_72be8 13 = .ok (.aload_n 1, 1) := by decide +kernel
theorem dJx4a65c_add_72be8_14 : decode cJx4a65c_add_72be8 14 = .ok (.aastore, 1) := by decide +kernel
theorem dJx4a65c_add_72be8_15 : decode cJx4a65c_add_72be8 15 = .ok (.aload_n 0, 1) := by decide +kernel
theorem dJx4a65c_add_72be8_16 : decode cJx4a65c_add_72be8 16 = .ok (.iload_n 3, 1) := by decide +kernel
theorem dJx4a65c_add_72be8_17 : decode cJx4a65c_add_72be8 17 = .ok (.iconst 1, 1) := by decide +kernel
theorem dJx4a65c_add_72be8_18 : decode cJx4a65c_add_72be8 18 = .ok (.iadd, 1) := by decide +kernel
theorem dJx4a65c_add_72be8_19 : decode cJx4a65c_add_72be8 19 = .ok (.putfield 48, 3) := by decide +kernel
theorem dJx4a65c_add_72be8_22 : decode cJx4a65c_add_72be8 22 = .ok (.return_, 1) := by decide +kernel
set_option maxHeartbeats 6000000 in
set_option maxRecDepth 100000 in
theorem L_add3N (l : Launch) (G : pT) (h0 : Nat) (a : Nat → Nat) (F : Nat → Int32) (R : Nat → Value) (Z : Int64) (B : Nat → Nat → Int32) (J : Nat → Nat → Int64) (K : PK) (w : va_W) (q0 : Nat) (es : Nat) (n : Nat) (it : Nat → Nat) (x9 : Nat) (e9 : Nat) (hls : LsI G K q0 es n it) (hes : es = 1 ∨ es = 3) (hxs : K.1 x9 = es) (hnn : n + 1 ≤ 100000) (hem : K.2.2.1 13 q0 = some e9) (h69 : K.1 e9 = 6) (h17 : K.2.2.1 17 e9 = some q0) (hbb : 10 ≤ K.2.2.2.2.2 e9 ∧ K.2.2.2.2.2 e9 ≤ 200000) (hnl : n < K.2.2.2.2.2 e9) (hel : ∀ i : Nat, i < n → K.2.2.2.2.1 e9 i = some (it i) ∧ K.1 (it i) = es) (hO : OKP G h0 a F R Z B J K w) : PM l G pX0 yJx4a65c_add_72be8 cJx4a65c_add_72be8 4 none ({ frames := 2, cells := 0, slots := 0, locals := 60 }) [.ref q0, .ref x9, .ref e9, .int (nI n)] w (fun (v : Option Value) (u : va_W × (PK)) => v = none ∧ (LsC G u.2 q0 es (n + 1) (upQ it n x9) (K.2.2.2.2.2 e9)) ∧ (AdQ K u.2 q0) ∧ (N6 K u.2) ∧ (OKP G h0 a F R Z B J u.2 u.1)) (fun u => u.1) := by
  intro sz
  refine Met.ofW (cc := cJx4a65c_add_72be8) (maxL := 4) (ret := none) (by decide) rfl ?_
  intro p e s m args below meth c s₁ B9 hml hv
  obtain ⟨rfl, hsz, hP, hD0, hE, hX⟩ := hv
  have hx := B9.exec
  have hb := B9.bytes
  have hr := B9.returns
  have hts := atoms_spec (ws := Cond.code yJx4a65c_add_72be8 cJx4a65c_add_72be8 4 none :: pw) B9.pre
  have hq : ∀ w ∈ pw, w.before _ s = true := fun w h => hts w (List.mem_cons_of_mem _ h)
  have hown : s.vm.findClass RJx4a65c = some m.cls := findClass_of_methodNamed B9.named
  have hlocks := B9.notSynchronized
  subst hsz
  have hD := hD0.self (sz := s.heap.size)
  have hA : ∀ q : Nat, s.heap.size ≤ q → va_A w s.heap.size q := fun q h => Or.inr h
  generalize va_A w s.heap.size = A at hD hE hA ⊢
  have hS : va_S A s.heap s.heap [] := va_S.rf
  have hl := lv_entry ([.ref q0, .ref x9, .ref e9, .int (nI n)]) (n := 4) (Nat.le_of_ble_eq_true rfl)
  rw [lg_entry_eq]
  generalize (lg_sl ([.ref q0, .ref x9, .ref e9, .int (nI n)]) ++ List.replicate (4 - (lg_sl ([.ref q0, .ref x9, .ref e9, .int (nI n)])).length) Slot.unset).toArray = ls at hl ⊢
  have hl : lv_has ls 4 [(0, .ref q0), (1, .ref x9), (2, .ref e9), (3, .int (nI n))] := hl
  have hT0 := hls.1
  have hsz0 := hls.2.1
  have hn0 := hls.2.2.1
  rcases hes with rfl | rfl
  · skip
    have hxq : ¬ x9 = q0 := fun z => by rw [z, hT0] at hxs; exact absurd hxs (by decide)
    refine lv_iload_n hx hb dJx4a65c_add_72be8_0 rfl (lv_at hl 3 rfl) ?_
    refine lv_aload_n hx hb dJx4a65c_add_72be8_1 rfl (lv_at hl 2 rfl) ?_
    refine p_alen hx hb hE hP hO h69 dJx4a65c_add_72be8_2 ?_
    refine W.eq (g2 := F0 m 3 ls [.int (nI (K.2.2.2.2.2 e9)), .int (nI n)]) rfl ?_
    refine lv_icmp_ne (tgt := 11) hx hb dJx4a65c_add_72be8_3 (by decide) (fun c1 => ?_) (fun c1 => (by have n2 : n = (K.2.2.2.2.2 e9) := (nI_eq (a := n) (b := (K.2.2.2.2.2 e9)) (by omega) (by omega)).mp c1; omega))
    refine lv_aload_n hx hb dJx4a65c_add_72be8_11 rfl (lv_at hl 2 rfl) ?_
    refine lv_iload_n hx hb dJx4a65c_add_72be8_12 rfl (lv_at hl 3 rfl) ?_
    refine lv_aload_n hx hb dJx4a65c_add_72be8_13 rfl (lv_at hl 1 rfl) ?_
    refine p_ast (C := RX7) (Tc := TX7) (N := 11) (ci := 13) hx hb hE hP hD hS hO h69 (by rw [hxs]; decide) (rep_1 hxs) rfl hE.pc.2.2.2.2.2.2.2.2.1 (vp_in_nI (by omega) (by omega)) dJx4a65c_add_72be8_14 (fun H locs w hP hD hS hO => ?_)
    rw [nI_clamp (show n < 2 ^ 31 by omega)] at hO
    obtain ⟨K3, hK4⟩ : ∃ z : PK, z = (kE K e9 (va_up (K.2.2.2.2.1 e9) n (some x9))) := ⟨_, rfl⟩
    rw [← hK4] at hO
    have hf5 : K3.1 q0 = 5 := (by rw [hK4]; exact hT0)
    have hf6 : K3.2.1 23 q0 = (nI n) := (by rw [hK4]; exact hsz0)
    have hf7 : K3.2.2.1 13 q0 = some e9 := (by rw [hK4]; exact hem)
    have hf8 : K3.1 e9 = 6 := (by rw [hK4]; exact h69)
    have hf9 : K3.1 x9 = 1 := (by rw [hK4]; exact hxs)
    refine lv_aload_n hx hb dJx4a65c_add_72be8_15 rfl (lv_at hl 0 rfl) ?_
    refine lv_iload_n hx hb dJx4a65c_add_72be8_16 rfl (lv_at hl 3 rfl) ?_
    refine lv_iconst (v := 1) hx hb dJx4a65c_add_72be8_17 (by decide) ?_
    refine lv_iadd hx hb dJx4a65c_add_72be8_18 ?_
    refine lv_topi (fun x10 e11 => ?_)
    obtain rfl : x10 = nI (n + 1) := e11.trans (nI_add (n) (1))
    refine p_put (v := .int (nI (n + 1))) (ty := .int) (C := RJx4a65c) (Tc := TJx4a65c) (N := 3) (ci := 10) (K' := (kI K3 23 q0 (nI (n + 1)))) hx hb hq pin_wsJx4a65c0 tyJx4a65c tyJx4a65c_ok nmJx4a65c hown hE hP hD hS hO (by rw [hf5]; decide) (rep_5 hf5) rfl 2 (by decide) (hq _ pw_17) (fun _ h9 => h9) rfl (by decide +kernel) rfl rfl (Nat.le_of_ble_eq_true rfl) rfl (by rw [rep_5 (show (kI K3 23 q0 (nI (n + 1))).1 q0 = 5 from hf5), pi_23] <;> rfl) (fun p9 hp9 => rep_kI hp9) dJx4a65c_add_72be8_19 (fun H locs w hP hD hS hO => ?_)
    obtain ⟨K12, hK13⟩ : ∃ z : PK, z = (kI K3 23 q0 (nI (n + 1))) := ⟨_, rfl⟩
    rw [← hK13] at hO
    have hf14 : K12.1 q0 = 5 := (by rw [hK13]; exact hf5)
    have hf15 : K12.2.2.1 13 q0 = some e9 := (by rw [hK13]; exact hf7)
    have hf16 : K12.1 e9 = 6 := (by rw [hK13]; exact hf8)
    have hf17 : K12.1 x9 = 1 := (by rw [hK13]; exact hf9)
    have hf18 : K12.2.1 23 q0 = (nI (n + 1)) := by rw [hK13]; exact kI_eq
    have had := add_ok (G := G) hT0 hem h69 h17 hnl hbb hel hxs hnn
    rw [← hK4, ← hK13] at had
    have hz19 : LsC G K12 q0 1 (n + 1) (upQ it n x9) (K.2.2.2.2.2 e9) := had.1
    have hz20 : AdQ K K12 q0 := had.2
    have hz21 : N6 K K12 := (by rw [hK13, hK4]; exact fun p hp => Or.inl hp)
    have hO : OKP G h0 a F R Z B J K12 w := hO.to rfl
    exact W.vret hx hb hr (fun t99 ht99 hW99 => ⟨⟨_, (w, K12), rfl, ⟨rfl, hz19, hz20, hz21, hO⟩, by rw [ht99]; exact hP, hD⟩, hS.F ht99⟩) hS.2.2 dJx4a65c_add_72be8_22
  · skip
    have hxq : ¬ x9 = q0 := fun z => by rw [z, hT0] at hxs; exact absurd hxs (by decide)
    refine lv_iload_n hx hb dJx4a65c_add_72be8_0 rfl (lv_at hl 3 rfl) ?_
    refine lv_aload_n hx hb dJx4a65c_add_72be8_1 rfl (lv_at hl 2 rfl) ?_
    refine p_alen hx hb hE hP hO h69 dJx4a65c_add_72be8_2 ?_
    refine W.eq (g2 := F0 m 3 ls [.int (nI (K.2.2.2.2.2 e9)), .int (nI n)]) rfl ?_
    refine lv_icmp_ne (tgt := 11) hx hb dJx4a65c_add_72be8_3 (by decide) (fun c22 => ?_) (fun c22 => (by have n23 : n = (K.2.2.2.2.2 e9) := (nI_eq (a := n) (b := (K.2.2.2.2.2 e9)) (by omega) (by omega)).mp c22; omega))
    refine lv_aload_n hx hb dJx4a65c_add_72be8_11 rfl (lv_at hl 2 rfl) ?_
    refine lv_iload_n hx hb dJx4a65c_add_72be8_12 rfl (lv_at hl 3 rfl) ?_
    refine lv_aload_n hx hb dJx4a65c_add_72be8_13 rfl (lv_at hl 1 rfl) ?_
    refine p_ast (C := RX6) (Tc := TX6) (N := 12) (ci := 12) hx hb hE hP hD hS hO h69 (by rw [hxs]; decide) (rep_3 hxs) rfl hE.pc.2.2.2.2.2.2.2.2.2 (vp_in_nI (by omega) (by omega)) dJx4a65c_add_72be8_14 (fun H locs w hP hD hS hO => ?_)
    rw [nI_clamp (show n < 2 ^ 31 by omega)] at hO
    obtain ⟨K24, hK25⟩ : ∃ z : PK, z = (kE K e9 (va_up (K.2.2.2.2.1 e9) n (some x9))) := ⟨_, rfl⟩
    rw [← hK25] at hO
    have hf26 : K24.1 q0 = 5 := (by rw [hK25]; exact hT0)
    have hf27 : K24.2.1 23 q0 = (nI n) := (by rw [hK25]; exact hsz0)
    have hf28 : K24.2.2.1 13 q0 = some e9 := (by rw [hK25]; exact hem)
    have hf29 : K24.1 e9 = 6 := (by rw [hK25]; exact h69)
    have hf30 : K24.1 x9 = 3 := (by rw [hK25]; exact hxs)
    refine lv_aload_n hx hb dJx4a65c_add_72be8_15 rfl (lv_at hl 0 rfl) ?_
    refine lv_iload_n hx hb dJx4a65c_add_72be8_16 rfl (lv_at hl 3 rfl) ?_
    refine lv_iconst (v := 1) hx hb dJx4a65c_add_72be8_17 (by decide) ?_
    refine lv_iadd hx hb dJx4a65c_add_72be8_18 ?_
    refine lv_topi (fun x31 e32 => ?_)
    obtain rfl : x31 = nI (n + 1) := e32.trans (nI_add (n) (1))
    refine p_put (v := .int (nI (n + 1))) (ty := .int) (C := RJx4a65c) (Tc := TJx4a65c) (N := 3) (ci := 10) (K' := (kI K24 23 q0 (nI (n + 1)))) hx hb hq pin_wsJx4a65c0 tyJx4a65c tyJx4a65c_ok nmJx4a65c hown hE hP hD hS hO (by rw [hf26]; decide) (rep_5 hf26) rfl 2 (by decide) (hq _ pw_17) (fun _ h9 => h9) rfl (by decide +kernel) rfl rfl (Nat.le_of_ble_eq_true rfl) rfl (by rw [rep_5 (show (kI K24 23 q0 (nI (n + 1))).1 q0 = 5 from hf26), pi_23] <;> rfl) (fun p9 hp9 => rep_kI hp9) dJx4a65c_add_72be8_19 (fun H locs w hP hD hS hO => ?_)
    obtain ⟨K33, hK34⟩ : ∃ z : PK, z = (kI K24 23 q0 (nI (n + 1))) := ⟨_, rfl⟩
    rw [← hK34] at hO
    have hf35 : K33.1 q0 = 5 := (by rw [hK34]; exact hf26)
    have hf36 : K33.2.2.1 13 q0 = some e9 := (by rw [hK34]; exact hf28)
    have hf37 : K33.1 e9 = 6 := (by rw [hK34]; exact hf29)
    have hf38 : K33.1 x9 = 3 := (by rw [hK34]; exact hf30)
    have hf39 : K33.2.1 23 q0 = (nI (n + 1)) := by rw [hK34]; exact kI_eq
    have had := add_ok (G := G) hT0 hem h69 h17 hnl hbb hel hxs hnn
    rw [← hK25, ← hK34] at had
    have hz40 : LsC G K33 q0 3 (n + 1) (upQ it n x9) (K.2.2.2.2.2 e9) := had.1
    have hz41 : AdQ K K33 q0 := had.2
    have hz42 : N6 K K33 := (by rw [hK34, hK25]; exact fun p hp => Or.inl hp)
    have hO : OKP G h0 a F R Z B J K33 w := hO.to rfl
    exact W.vret hx hb hr (fun t99 ht99 hW99 => ⟨⟨_, (w, K33), rfl, ⟨rfl, hz40, hz41, hz42, hO⟩, by rw [ht99]; exact hP, hD⟩, hS.F ht99⟩) hS.2.2 dJx4a65c_add_72be8_22
theorem dJx4a65c_add_72be8_6 : decode cJx4a65c_add_72be8 6 = .ok (.aload_n 0, 1) := by decide +kernel
theorem dJx4a65c_add_72be8_7 : decode cJx4a65c_add_72be8 7 = .ok (.invokevirtual 129, 3) := by decide +kernel
theorem dJx4a65c_add_72be8_10 : decode cJx4a65c_add_72be8 10 = .ok (.astore_n 2, 1) := by decide +kernel
theorem hV_Jx4a65c_grow_d5877 : yJx4a65c_grow_d5877.cls = RJx4a65c ∧ yJx4a65c_grow_d5877.cls ≠ "java/lang/invoke/MethodHandle" ∧ yJx4a65c_grow_d5877.cls ≠ "java/lang/invoke/VarHandle" ∧ (parseMethodDescriptor yJx4a65c_grow_d5877.desc).map (fun d => d.parameters.length) = some 0 := by decide +kernel
set_option maxHeartbeats 6000000 in
set_option maxRecDepth 100000 in
theorem L_add3E (l : Launch) (G : pT) (h0 : Nat) (a : Nat → Nat) (F : Nat → Int32) (R : Nat → Value) (Z : Int64) (B : Nat → Nat → Int32) (J : Nat → Nat → Int64) (K : PK) (w : va_W) (q0 : Nat) (es : Nat) (n : Nat) (it : Nat → Nat) (x9 : Nat) (hls : LsI G K q0 es n it) (hes : es = 1 ∨ es = 3) (hxs : K.1 x9 = es) (hnn : n + 1 ≤ 100000) (hem : K.2.2.1 13 q0 = some G.2.2.2.2) (hn9 : n = 0) (hO : OKP G h0 a F R Z B J K w) : PM l G pX0 yJx4a65c_add_72be8 cJx4a65c_add_72be8 4 none ({ frames := 4, cells := 1, slots := 10, locals := 103 }) [.ref q0, .ref x9, .ref G.2.2.2.2, .int (nI n)] w (fun (v : Option Value) (u : va_W × (PK)) => v = none ∧ (LsC G u.2 q0 es (n + 1) (upQ it n x9) 10) ∧ (AdQ K u.2 q0) ∧ (N6 K u.2) ∧ (OKP G h0 a F R Z B J u.2 u.1)) (fun u => u.1) := by
  intro sz
  refine Met.ofW (cc := cJx4a65c_add_72be8) (maxL := 4) (ret := none) (by decide) rfl ?_
  intro p e s m args below meth c s₁ B9 hml hv
  obtain ⟨rfl, hsz, hP, hD0, hE, hX⟩ := hv
  have hx := B9.exec
  have hb := B9.bytes
  have hr := B9.returns
  have hts := atoms_spec (ws := Cond.code yJx4a65c_add_72be8 cJx4a65c_add_72be8 4 none :: pw) B9.pre
  have hq : ∀ w ∈ pw, w.before _ s = true := fun w h => hts w (List.mem_cons_of_mem _ h)
  have hown : s.vm.findClass RJx4a65c = some m.cls := findClass_of_methodNamed B9.named
  have hlocks := B9.notSynchronized
  subst hsz
  have hD := hD0.self (sz := s.heap.size)
  have hA : ∀ q : Nat, s.heap.size ≤ q → va_A w s.heap.size q := fun q h => Or.inr h
  generalize va_A w s.heap.size = A at hD hE hA ⊢
  have hS : va_S A s.heap s.heap [] := va_S.rf
  have hl := lv_entry ([.ref q0, .ref x9, .ref G.2.2.2.2, .int (nI n)]) (n := 4) (Nat.le_of_ble_eq_true rfl)
  rw [lg_entry_eq]
  generalize (lg_sl ([.ref q0, .ref x9, .ref G.2.2.2.2, .int (nI n)]) ++ List.replicate (4 - (lg_sl ([.ref q0, .ref x9, .ref G.2.2.2.2, .int (nI n)])).length) Slot.unset).toArray = ls at hl ⊢
  have hl : lv_has ls 4 [(0, .ref q0), (1, .ref x9), (2, .ref G.2.2.2.2), (3, .int (nI n))] := hl
  have hT0 := hls.1
  have hsz0 := hls.2.1
  have hn0 := hls.2.2.1
  rcases hes with rfl | rfl
  · skip
    have hxq : ¬ x9 = q0 := fun z => by rw [z, hT0] at hxs; exact absurd hxs (by decide)
    refine lv_iload_n hx hb dJx4a65c_add_72be8_0 rfl (lv_at hl 3 rfl) ?_
    refine lv_aload_n hx hb dJx4a65c_add_72be8_1 rfl (lv_at hl 2 rfl) ?_
    refine va_tlen (v := 0) hx hb hE.2.2.2.2.2.2.2.2.2.1 hS rfl dJx4a65c_add_72be8_2 ?_
    refine lv_icmp_ne (tgt := 11) hx hb dJx4a65c_add_72be8_3 (by decide) (fun c1 => (by have n2 : ¬ (n = 0) := fun h9 => c1 ((nI_eq (a := n) (b := 0) (by omega) (by omega)).mpr h9); omega)) (fun c1 => ?_)
    refine lv_aload_n hx hb dJx4a65c_add_72be8_6 rfl (lv_at hl 0 rfl) ?_
    have hO : OKP G h0 a F R Z B J K w := hO.to rfl
    obtain ⟨qr6, hqr7⟩ := p_recv hO (by rw [hT0]; decide) (rep_5 hT0)
    refine pc_V0 (G := G) (As := []) (rest := []) hx hb hml hown hq hE hX pX0_al hP hD hS hA hl.1 (L_grow0E l G h0 a F R Z B J K w q0 1 n it hls (by decide) hem hn9 hO) (gV pw_859 pw_860 pw_861 pw_32 pw_858) hV_Jx4a65c_grow_d5877 qr6 10 hqr7 rfl rfl rfl (Nat.le_of_ble_eq_true rfl) dJx4a65c_add_72be8_7 ⟨(by show 0 + 1 ≤ 1; omega), (by show 0 + 10 ≤ 10; omega)⟩ ⟨Nat.le_of_ble_eq_true rfl, Nat.le_of_ble_eq_true rfl⟩ (fun v5 u3 H locs hw4 hP hD hS => ?_)
    obtain ⟨w, e8, K9⟩ := u3
    obtain ⟨hw4, h10, h11, h12, hO⟩ := hw4
    have h10 : LsI G K9 q0 1 n it := h10
    have h11 : GrQ K K9 q0 e8 n 10 := h11
    have h12 : N6 K K9 := h12
    obtain rfl : v5 = some (.ref e8) := hw4
    obtain ⟨g1, g2, g3, g4, g5, g6, g7, g8, g9⟩ := h11
    have hxs1 : K9.1 x9 = 1 := (g6 x9 (by rw [hxs]; decide) hxq).1.trans hxs
    have hadg : AdQ K K9 q0 := AdQ.grow (G := G) h11 hT0
    have hO : OKP G h0 a F R Z B J K9 w := hO.to rfl
    refine W.widen (k := 1) (n := 10) (by show 0 + 1 ≤ 1; omega) (by show 0 + 10 ≤ 10; omega) ?_
    refine W.eq (g2 := F0 m 10 ls [.ref e8]) rfl ?_
    refine lv_astore_n (lv' := [(2, .ref e8), (0, .ref q0), (1, .ref x9), (3, .int (nI n))]) hx hb dJx4a65c_add_72be8_10 rfl hl (by decide) rfl (fun ls hl => ?_)
    refine lv_aload_n hx hb dJx4a65c_add_72be8_11 rfl (lv_at hl 0 rfl) ?_
    refine lv_iload_n hx hb dJx4a65c_add_72be8_12 rfl (lv_at hl 3 rfl) ?_
    refine lv_aload_n hx hb dJx4a65c_add_72be8_13 rfl (lv_at hl 2 rfl) ?_
    refine p_ast (C := RX7) (Tc := TX7) (N := 11) (ci := 13) hx hb hE hP hD hS hO g2 (by rw [hxs1]; decide) (rep_1 hxs1) rfl hE.pc.2.2.2.2.2.2.2.2.1 (vp_in_nI (by omega) (by omega)) dJx4a65c_add_72be8_14 (fun H locs w hP hD hS hO => ?_)
    rw [nI_clamp (show n < 2 ^ 31 by omega)] at hO
    obtain ⟨K13, hK14⟩ : ∃ z : PK, z = (kE K9 e8 (va_up (K9.2.2.2.2.1 e8) n (some x9))) := ⟨_, rfl⟩
    rw [← hK14] at hO
    have hf15 : K13.2.2.1 13 q0 = some e8 := (by rw [hK14]; exact g1)
    have hf16 : K13.1 e8 = 6 := (by rw [hK14]; exact g2)
    have hf17 : K13.1 q0 = 5 := (by rw [hK14]; exact g7)
    have hf18 : K13.1 x9 = 1 := (by rw [hK14]; exact hxs1)
    refine lv_aload_n hx hb dJx4a65c_add_72be8_15 rfl (lv_at hl 1 rfl) ?_
    refine lv_iload_n hx hb dJx4a65c_add_72be8_16 rfl (lv_at hl 3 rfl) ?_
    refine lv_iconst (v := 1) hx hb dJx4a65c_add_72be8_17 (by decide) ?_
    refine lv_iadd hx hb dJx4a65c_add_72be8_18 ?_
    refine lv_topi (fun x19 e20 => ?_)
    obtain rfl : x19 = nI (n + 1) := e20.trans (nI_add (n) (1))
    refine p_put (v := .int (nI (n + 1))) (ty := .int) (C := RJx4a65c) (Tc := TJx4a65c) (N := 3) (ci := 10) (K' := (kI K13 23 q0 (nI (n + 1)))) hx hb hq pin_wsJx4a65c0 tyJx4a65c tyJx4a65c_ok nmJx4a65c hown hE hP hD hS hO (by rw [hf17]; decide) (rep_5 hf17) rfl 2 (by decide) (hq _ pw_17) (fun _ h9 => h9) rfl (by decide +kernel) rfl rfl (Nat.le_of_ble_eq_true rfl) rfl (by rw [rep_5 (show (kI K13 23 q0 (nI (n + 1))).1 q0 = 5 from hf17), pi_23] <;> rfl) (fun p9 hp9 => rep_kI hp9) dJx4a65c_add_72be8_19 (fun H locs w hP hD hS hO => ?_)
    obtain ⟨K21, hK22⟩ : ∃ z : PK, z = (kI K13 23 q0 (nI (n + 1))) := ⟨_, rfl⟩
    rw [← hK22] at hO
    have hf23 : K21.2.2.1 13 q0 = some e8 := (by rw [hK22]; exact hf15)
    have hf24 : K21.1 e8 = 6 := (by rw [hK22]; exact hf16)
    have hf25 : K21.1 q0 = 5 := (by rw [hK22]; exact hf17)
    have hf26 : K21.1 x9 = 1 := (by rw [hK22]; exact hf18)
    have hf27 : K21.2.1 23 q0 = (nI (n + 1)) := by rw [hK22]; exact kI_eq
    have hls2 := h10
    have hfu : K9.1 e8 = 6 ∧ K9.2.2.1 17 e8 = some q0 ∧ 10 ≤ K9.2.2.2.2.2 e8 ∧ K9.2.2.2.2.2 e8 ≤ 200000 := ⟨g2, g3, by omega, by omega⟩
    have had := add_ok (G := G) (it := it) g7 g1 g2 g3 (by omega) ⟨hfu.2.2.1, hfu.2.2.2⟩ (fun i hi => absurd hi (by omega)) hxs1 hnn
    rw [← hK14, ← hK22] at had
    have hz28 : LsC G K21 q0 1 (n + 1) (upQ it n x9) 10 := (by have z := had.1; rw [g4] at z; exact z)
    have hz29 : AdQ K K21 q0 := hadg.trans had.2
    have hz30 : N6 K K21 := (by rw [hK22, hK14]; exact h12)
    have hO : OKP G h0 a F R Z B J K21 w := hO.to rfl
    refine W.widen (k := 1) (n := 10) (by omega) (by omega) ?_
    exact W.vret hx hb hr (fun t99 ht99 hW99 => ⟨⟨_, (w, K21), rfl, ⟨rfl, hz28, hz29, hz30, hO⟩, by rw [ht99]; exact hP, hD⟩, hS.F ht99⟩) hS.2.2 dJx4a65c_add_72be8_22
  · skip
    have hxq : ¬ x9 = q0 := fun z => by rw [z, hT0] at hxs; exact absurd hxs (by decide)
    refine lv_iload_n hx hb dJx4a65c_add_72be8_0 rfl (lv_at hl 3 rfl) ?_
    refine lv_aload_n hx hb dJx4a65c_add_72be8_1 rfl (lv_at hl 2 rfl) ?_
    refine va_tlen (v := 0) hx hb hE.2.2.2.2.2.2.2.2.2.1 hS rfl dJx4a65c_add_72be8_2 ?_
    refine lv_icmp_ne (tgt := 11) hx hb dJx4a65c_add_72be8_3 (by decide) (fun c31 => (by have n32 : ¬ (n = 0) := fun h9 => c31 ((nI_eq (a := n) (b := 0) (by omega) (by omega)).mpr h9); omega)) (fun c31 => ?_)
    refine lv_aload_n hx hb dJx4a65c_add_72be8_6 rfl (lv_at hl 0 rfl) ?_
    have hO : OKP G h0 a F R Z B J K w := hO.to rfl
    obtain ⟨qr36, hqr37⟩ := p_recv hO (by rw [hT0]; decide) (rep_5 hT0)
    refine pc_V0 (G := G) (As := []) (rest := []) hx hb hml hown hq hE hX pX0_al hP hD hS hA hl.1 (L_grow0E l G h0 a F R Z B J K w q0 3 n it hls (by decide) hem hn9 hO) (gV pw_859 pw_860 pw_861 pw_32 pw_858) hV_Jx4a65c_grow_d5877 qr36 10 hqr37 rfl rfl rfl (Nat.le_of_ble_eq_true rfl) dJx4a65c_add_72be8_7 ⟨(by show 0 + 1 ≤ 1; omega), (by show 0 + 10 ≤ 10; omega)⟩ ⟨Nat.le_of_ble_eq_true rfl, Nat.le_of_ble_eq_true rfl⟩ (fun v35 u33 H locs hw34 hP hD hS => ?_)
    obtain ⟨w, e38, K39⟩ := u33
    obtain ⟨hw34, h40, h41, h42, hO⟩ := hw34
    have h40 : LsI G K39 q0 3 n it := h40
    have h41 : GrQ K K39 q0 e38 n 10 := h41
    have h42 : N6 K K39 := h42
    obtain rfl : v35 = some (.ref e38) := hw34
    obtain ⟨g1, g2, g3, g4, g5, g6, g7, g8, g9⟩ := h41
    have hxs1 : K39.1 x9 = 3 := (g6 x9 (by rw [hxs]; decide) hxq).1.trans hxs
    have hadg : AdQ K K39 q0 := AdQ.grow (G := G) h41 hT0
    have hO : OKP G h0 a F R Z B J K39 w := hO.to rfl
    refine W.widen (k := 1) (n := 10) (by show 0 + 1 ≤ 1; omega) (by show 0 + 10 ≤ 10; omega) ?_
    refine W.eq (g2 := F0 m 10 ls [.ref e38]) rfl ?_
    refine lv_astore_n (lv' := [(2, .ref e38), (0, .ref q0), (1, .ref x9), (3, .int (nI n))]) hx hb dJx4a65c_add_72be8_10 rfl hl (by decide) rfl (fun ls hl => ?_)
    refine lv_aload_n hx hb dJx4a65c_add_72be8_11 rfl (lv_at hl 0 rfl) ?_
    refine lv_iload_n hx hb dJx4a65c_add_72be8_12 rfl (lv_at hl 3 rfl) ?_
    refine lv_aload_n hx hb dJx4a65c_add_72be8_13 rfl (lv_at hl 2 rfl) ?_
    refine p_ast (C := RX6) (Tc := TX6) (N := 12) (ci := 12) hx hb hE hP hD hS hO g2 (by rw [hxs1]; decide) (rep_3 hxs1) rfl hE.pc.2.2.2.2.2.2.2.2.2 (vp_in_nI (by omega) (by omega)) dJx4a65c_add_72be8_14 (fun H locs w hP hD hS hO => ?_)
    rw [nI_clamp (show n < 2 ^ 31 by omega)] at hO
    obtain ⟨K43, hK44⟩ : ∃ z : PK, z = (kE K39 e38 (va_up (K39.2.2.2.2.1 e38) n (some x9))) := ⟨_, rfl⟩
    rw [← hK44] at hO
    have hf45 : K43.2.2.1 13 q0 = some e38 := (by rw [hK44]; exact g1)
    have hf46 : K43.1 e38 = 6 := (by rw [hK44]; exact g2)
    have hf47 : K43.1 q0 = 5 := (by rw [hK44]; exact g7)
    have hf48 : K43.1 x9 = 3 := (by rw [hK44]; exact hxs1)
    refine lv_aload_n hx hb dJx4a65c_add_72be8_15 rfl (lv_at hl 1 rfl) ?_
    refine lv_iload_n hx hb dJx4a65c_add_72be8_16 rfl (lv_at hl 3 rfl) ?_
    refine lv_iconst (v := 1) hx hb dJx4a65c_add_72be8_17 (by decide) ?_
    refine lv_iadd hx hb dJx4a65c_add_72be8_18 ?_
    refine lv_topi (fun x49 e50 => ?_)
    obtain rfl : x49 = nI (n + 1) := e50.trans (nI_add (n) (1))
    refine p_put (v := .int (nI (n + 1))) (ty := .int) (C := RJx4a65c) (Tc := TJx4a65c) (N := 3) (ci := 10) (K' := (kI K43 23 q0 (nI (n + 1)))) hx hb hq pin_wsJx4a65c0 tyJx4a65c tyJx4a65c_ok nmJx4a65c hown hE hP hD hS hO (by rw [hf47]; decide) (rep_5 hf47) rfl 2 (by decide) (hq _ pw_17) (fun _ h9 => h9) rfl (by decide +kernel) rfl rfl (Nat.le_of_ble_eq_true rfl) rfl (by rw [rep_5 (show (kI K43 23 q0 (nI (n + 1))).1 q0 = 5 from hf47), pi_23] <;> rfl) (fun p9 hp9 => rep_kI hp9) dJx4a65c_add_72be8_19 (fun H locs w hP hD hS hO => ?_)
    obtain ⟨K51, hK52⟩ : ∃ z : PK, z = (kI K43 23 q0 (nI (n + 1))) := ⟨_, rfl⟩
    rw [← hK52] at hO
    have hf53 : K51.2.2.1 13 q0 = some e38 := (by rw [hK52]; exact hf45)
    have hf54 : K51.1 e38 = 6 := (by rw [hK52]; exact hf46)
    have hf55 : K51.1 q0 = 5 := (by rw [hK52]; exact hf47)
    have hf56 : K51.1 x9 = 3 := (by rw [hK52]; exact hf48)
    have hf57 : K51.2.1 23 q0 = (nI (n + 1)) := by rw [hK52]; exact kI_eq
    have hls2 := h40
    have hfu : K39.1 e38 = 6 ∧ K39.2.2.1 17 e38 = some q0 ∧ 10 ≤ K39.2.2.2.2.2 e38 ∧ K39.2.2.2.2.2 e38 ≤ 200000 := ⟨g2, g3, by omega, by omega⟩
    have had := add_ok (G := G) (it := it) g7 g1 g2 g3 (by omega) ⟨hfu.2.2.1, hfu.2.2.2⟩ (fun i hi => absurd hi (by omega)) hxs1 hnn
    rw [← hK44, ← hK52] at had
    have hz58 : LsC G K51 q0 3 (n + 1) (upQ it n x9) 10 := (by have z := had.1; rw [g4] at z; exact z)
    have hz59 : AdQ K K51 q0 := hadg.trans had.2
    have hz60 : N6 K K51 := (by rw [hK52, hK44]; exact h42)
    have hO : OKP G h0 a F R Z B J K51 w := hO.to rfl
    refine W.widen (k := 1) (n := 10) (by omega) (by omega) ?_
    exact W.vret hx hb hr (fun t99 ht99 hW99 => ⟨⟨_, (w, K51), rfl, ⟨rfl, hz58, hz59, hz60, hO⟩, by rw [ht99]; exact hP, hD⟩, hS.F ht99⟩) hS.2.2 dJx4a65c_add_72be8_22
set_option maxHeartbeats 6000000 in
set_option maxRecDepth 100000 in
theorem L_add3F (l : Launch) (G : pT) (h0 : Nat) (a : Nat → Nat) (F : Nat → Int32) (R : Nat → Value) (Z : Int64) (B : Nat → Nat → Int32) (J : Nat → Nat → Int64) (K : PK) (w : va_W) (q0 : Nat) (es : Nat) (n : Nat) (it : Nat → Nat) (x9 : Nat) (e9 : Nat) (hls : LsI G K q0 es n it) (hes : es = 1 ∨ es = 3) (hxs : K.1 x9 = es) (hnn : n + 1 ≤ 100000) (hem : K.2.2.1 13 q0 = some e9) (hn9 : n = K.2.2.2.2.2 e9) (hnz : 1 ≤ n) (hO : OKP G h0 a F R Z B J K w) : PM l G pX0 yJx4a65c_add_72be8 cJx4a65c_add_72be8 4 none ({ frames := 6, cells := 1, slots := (n + n / 2), locals := 147 }) [.ref q0, .ref x9, .ref e9, .int (nI n)] w (fun (v : Option Value) (u : va_W × (PK)) => v = none ∧ (LsC G u.2 q0 es (n + 1) (upQ it n x9) (n + n / 2)) ∧ (AdQ K u.2 q0) ∧ (N6 K u.2) ∧ (OKP G h0 a F R Z B J u.2 u.1)) (fun u => u.1) := by
  intro sz
  refine Met.ofW (cc := cJx4a65c_add_72be8) (maxL := 4) (ret := none) (by decide) rfl ?_
  intro p e s m args below meth c s₁ B9 hml hv
  obtain ⟨rfl, hsz, hP, hD0, hE, hX⟩ := hv
  have hx := B9.exec
  have hb := B9.bytes
  have hr := B9.returns
  have hts := atoms_spec (ws := Cond.code yJx4a65c_add_72be8 cJx4a65c_add_72be8 4 none :: pw) B9.pre
  have hq : ∀ w ∈ pw, w.before _ s = true := fun w h => hts w (List.mem_cons_of_mem _ h)
  have hown : s.vm.findClass RJx4a65c = some m.cls := findClass_of_methodNamed B9.named
  have hlocks := B9.notSynchronized
  subst hsz
  have hD := hD0.self (sz := s.heap.size)
  have hA : ∀ q : Nat, s.heap.size ≤ q → va_A w s.heap.size q := fun q h => Or.inr h
  generalize va_A w s.heap.size = A at hD hE hA ⊢
  have hS : va_S A s.heap s.heap [] := va_S.rf
  have hl := lv_entry ([.ref q0, .ref x9, .ref e9, .int (nI n)]) (n := 4) (Nat.le_of_ble_eq_true rfl)
  rw [lg_entry_eq]
  generalize (lg_sl ([.ref q0, .ref x9, .ref e9, .int (nI n)]) ++ List.replicate (4 - (lg_sl ([.ref q0, .ref x9, .ref e9, .int (nI n)])).length) Slot.unset).toArray = ls at hl ⊢
  have hl : lv_has ls 4 [(0, .ref q0), (1, .ref x9), (2, .ref e9), (3, .int (nI n))] := hl
  have hT0 := hls.1
  have hsz0 := hls.2.1
  have hn0 := hls.2.2.1
  obtain ⟨hf1, hf2, hf3, hf4, hf5, hf6⟩ := hls.full hem (by omega)
  rcases hes with rfl | rfl
  · skip
    have hxq : ¬ x9 = q0 := fun z => by rw [z, hT0] at hxs; exact absurd hxs (by decide)
    refine lv_iload_n hx hb dJx4a65c_add_72be8_0 rfl (lv_at hl 3 rfl) ?_
    refine lv_aload_n hx hb dJx4a65c_add_72be8_1 rfl (lv_at hl 2 rfl) ?_
    refine p_alen hx hb hE hP hO hf1 dJx4a65c_add_72be8_2 ?_
    refine W.eq (g2 := F0 m 3 ls [.int (nI (K.2.2.2.2.2 e9)), .int (nI n)]) rfl ?_
    refine lv_icmp_ne (tgt := 11) hx hb dJx4a65c_add_72be8_3 (by decide) (fun c1 => (by have n2 : ¬ (n = (K.2.2.2.2.2 e9)) := fun h9 => c1 ((nI_eq (a := n) (b := (K.2.2.2.2.2 e9)) (by omega) (by omega)).mpr h9); omega)) (fun c1 => ?_)
    refine lv_aload_n hx hb dJx4a65c_add_72be8_6 rfl (lv_at hl 0 rfl) ?_
    have hO : OKP G h0 a F R Z B J K w := hO.to rfl
    obtain ⟨qr6, hqr7⟩ := p_recv hO (by rw [hT0]; decide) (rep_5 hT0)
    refine pc_V0 (G := G) (As := []) (rest := []) hx hb hml hown hq hE hX pX0_al hP hD hS hA hl.1 (L_grow0F l G h0 a F R Z B J K w q0 1 n it e9 hls (by decide) hem hn9 hnz hO) (gV pw_859 pw_860 pw_861 pw_32 pw_858) hV_Jx4a65c_grow_d5877 qr6 10 hqr7 rfl rfl rfl (Nat.le_of_ble_eq_true rfl) dJx4a65c_add_72be8_7 ⟨(by show 0 + 1 ≤ 1; omega), (by show 0 + (n + n / 2) ≤ (n + n / 2); omega)⟩ ⟨Nat.le_of_ble_eq_true rfl, Nat.le_of_ble_eq_true rfl⟩ (fun v5 u3 H locs hw4 hP hD hS => ?_)
    obtain ⟨w, e8, K9⟩ := u3
    obtain ⟨hw4, h10, h11, h12, hO⟩ := hw4
    have h10 : LsI G K9 q0 1 n it := h10
    have h11 : GrQ K K9 q0 e8 n (n + n / 2) := h11
    have h12 : N6 K K9 := h12
    obtain rfl : v5 = some (.ref e8) := hw4
    obtain ⟨g1, g2, g3, g4, g5, g6, g7, g8, g9⟩ := h11
    have hxs1 : K9.1 x9 = 1 := (g6 x9 (by rw [hxs]; decide) hxq).1.trans hxs
    have hadg : AdQ K K9 q0 := AdQ.grow (G := G) h11 hT0
    have hO : OKP G h0 a F R Z B J K9 w := hO.to rfl
    refine W.widen (k := 1) (n := (n + n / 2)) (by show 0 + 1 ≤ 1; omega) (by show 0 + (n + n / 2) ≤ (n + n / 2); omega) ?_
    refine W.eq (g2 := F0 m 10 ls [.ref e8]) rfl ?_
    refine lv_astore_n (lv' := [(2, .ref e8), (0, .ref q0), (1, .ref x9), (3, .int (nI n))]) hx hb dJx4a65c_add_72be8_10 rfl hl (by decide) rfl (fun ls hl => ?_)
    refine lv_aload_n hx hb dJx4a65c_add_72be8_11 rfl (lv_at hl 0 rfl) ?_
    refine lv_iload_n hx hb dJx4a65c_add_72be8_12 rfl (lv_at hl 3 rfl) ?_
    refine lv_aload_n hx hb dJx4a65c_add_72be8_13 rfl (lv_at hl 2 rfl) ?_
    refine p_ast (C := RX7) (Tc := TX7) (N := 11) (ci := 13) hx hb hE hP hD hS hO g2 (by rw [hxs1]; decide) (rep_1 hxs1) rfl hE.pc.2.2.2.2.2.2.2.2.1 (vp_in_nI (by omega) (by omega)) dJx4a65c_add_72be8_14 (fun H locs w hP hD hS hO => ?_)
    rw [nI_clamp (show n < 2 ^ 31 by omega)] at hO
    obtain ⟨K13, hK14⟩ : ∃ z : PK, z = (kE K9 e8 (va_up (K9.2.2.2.2.1 e8) n (some x9))) := ⟨_, rfl⟩
    rw [← hK14] at hO
    have hf15 : K13.2.2.1 13 q0 = some e8 := (by rw [hK14]; exact g1)
    have hf16 : K13.1 e8 = 6 := (by rw [hK14]; exact g2)
    have hf17 : K13.1 q0 = 5 := (by rw [hK14]; exact g7)
    have hf18 : K13.1 x9 = 1 := (by rw [hK14]; exact hxs1)
    refine lv_aload_n hx hb dJx4a65c_add_72be8_15 rfl (lv_at hl 1 rfl) ?_
    refine lv_iload_n hx hb dJx4a65c_add_72be8_16 rfl (lv_at hl 3 rfl) ?_
    refine lv_iconst (v := 1) hx hb dJx4a65c_add_72be8_17 (by decide) ?_
    refine lv_iadd hx hb dJx4a65c_add_72be8_18 ?_
    refine lv_topi (fun x19 e20 => ?_)
    obtain rfl : x19 = nI (n + 1) := e20.trans (nI_add (n) (1))
    refine p_put (v := .int (nI (n + 1))) (ty := .int) (C := RJx4a65c) (Tc := TJx4a65c) (N := 3) (ci := 10) (K' := (kI K13 23 q0 (nI (n + 1)))) hx hb hq pin_wsJx4a65c0 tyJx4a65c tyJx4a65c_ok nmJx4a65c hown hE hP hD hS hO (by rw [hf17]; decide) (rep_5 hf17) rfl 2 (by decide) (hq _ pw_17) (fun _ h9 => h9) rfl (by decide +kernel) rfl rfl (Nat.le_of_ble_eq_true rfl) rfl (by rw [rep_5 (show (kI K13 23 q0 (nI (n + 1))).1 q0 = 5 from hf17), pi_23] <;> rfl) (fun p9 hp9 => rep_kI hp9) dJx4a65c_add_72be8_19 (fun H locs w hP hD hS hO => ?_)
    obtain ⟨K21, hK22⟩ : ∃ z : PK, z = (kI K13 23 q0 (nI (n + 1))) := ⟨_, rfl⟩
    rw [← hK22] at hO
    have hf23 : K21.2.2.1 13 q0 = some e8 := (by rw [hK22]; exact hf15)
    have hf24 : K21.1 e8 = 6 := (by rw [hK22]; exact hf16)
    have hf25 : K21.1 q0 = 5 := (by rw [hK22]; exact hf17)
    have hf26 : K21.1 x9 = 1 := (by rw [hK22]; exact hf18)
    have hf27 : K21.2.1 23 q0 = (nI (n + 1)) := by rw [hK22]; exact kI_eq
    have hls2 := h10
    have hfu : K9.1 e8 = 6 ∧ K9.2.2.1 17 e8 = some q0 ∧ 10 ≤ K9.2.2.2.2.2 e8 ∧ K9.2.2.2.2.2 e8 ≤ 200000 := ⟨g2, g3, by omega, by omega⟩
    have had := add_ok (G := G) (it := it) g7 g1 g2 g3 (by omega) ⟨hfu.2.2.1, hfu.2.2.2⟩ (hls2.full g1 (by omega)).2.2.2.2.2 hxs1 hnn
    rw [← hK14, ← hK22] at had
    have hz28 : LsC G K21 q0 1 (n + 1) (upQ it n x9) (n + n / 2) := (by have z := had.1; rw [g4] at z; exact z)
    have hz29 : AdQ K K21 q0 := hadg.trans had.2
    have hz30 : N6 K K21 := (by rw [hK22, hK14]; exact h12)
    have hO : OKP G h0 a F R Z B J K21 w := hO.to rfl
    refine W.widen (k := 1) (n := (n + n / 2)) (by omega) (by omega) ?_
    exact W.vret hx hb hr (fun t99 ht99 hW99 => ⟨⟨_, (w, K21), rfl, ⟨rfl, hz28, hz29, hz30, hO⟩, by rw [ht99]; exact hP, hD⟩, hS.F ht99⟩) hS.2.2 dJx4a65c_add_72be8_22
  · skip
    have hxq : ¬ x9 = q0 := fun z => by rw [z, hT0] at hxs; exact absurd hxs (by decide)
    refine lv_iload_n hx hb dJx4a65c_add_72be8_0 rfl (lv_at hl 3 rfl) ?_
    refine lv_aload_n hx hb dJx4a65c_add_72be8_1 rfl (lv_at hl 2 rfl) ?_
    refine p_alen hx hb hE hP hO hf1 dJx4a65c_add_72be8_2 ?_
    refine W.eq (g2 := F0 m 3 ls [.int (nI (K.2.2.2.2.2 e9)), .int (nI n)]) rfl ?_
    refine lv_icmp_ne (tgt := 11) hx hb dJx4a65c_add_72be8_3 (by decide) (fun c31 => (by have n32 : ¬ (n = (K.2.2.2.2.2 e9)) := fun h9 => c31 ((nI_eq (a := n) (b := (K.2.2.2.2.2 e9)) (by omega) (by omega)).mpr h9); omega)) (fun c31 => ?_)
    refine lv_aload_n hx hb dJx4a65c_add_72be8_6 rfl (lv_at hl 0 rfl) ?_
    have hO : OKP G h0 a F R Z B J K w := hO.to rfl
    obtain ⟨qr36, hqr37⟩ := p_recv hO (by rw [hT0]; decide) (rep_5 hT0)
    refine pc_V0 (G := G) (As := []) (rest := []) hx hb hml hown hq hE hX pX0_al hP hD hS hA hl.1 (L_grow0F l G h0 a F R Z B J K w q0 3 n it e9 hls (by decide) hem hn9 hnz hO) (gV pw_859 pw_860 pw_861 pw_32 pw_858) hV_Jx4a65c_grow_d5877 qr36 10 hqr37 rfl rfl rfl (Nat.le_of_ble_eq_true rfl) dJx4a65c_add_72be8_7 ⟨(by show 0 + 1 ≤ 1; omega), (by show 0 + (n + n / 2) ≤ (n + n / 2); omega)⟩ ⟨Nat.le_of_ble_eq_true rfl, Nat.le_of_ble_eq_true rfl⟩ (fun v35 u33 H locs hw34 hP hD hS => ?_)
    obtain ⟨w, e38, K39⟩ := u33
    obtain ⟨hw34, h40, h41, h42, hO⟩ := hw34
    have h40 : LsI G K39 q0 3 n it := h40
    have h41 : GrQ K K39 q0 e38 n (n + n / 2) := h41
    have h42 : N6 K K39 := h42
    obtain rfl : v35 = some (.ref e38) := hw34
    obtain ⟨g1, g2, g3, g4, g5, g6, g7, g8, g9⟩ := h41
    have hxs1 : K39.1 x9 = 3 := (g6 x9 (by rw [hxs]; decide) hxq).1.trans hxs
    have hadg : AdQ K K39 q0 := AdQ.grow (G := G) h41 hT0
    have hO : OKP G h0 a F R Z B J K39 w := hO.to rfl
    refine W.widen (k := 1) (n := (n + n / 2)) (by show 0 + 1 ≤ 1; omega) (by show 0 + (n + n / 2) ≤ (n + n / 2); omega) ?_
    refine W.eq (g2 := F0 m 10 ls [.ref e38]) rfl ?_
    refine lv_astore_n (lv' := [(2, .ref e38), (0, .ref q0), (1, .ref x9), (3, .int (nI n))]) hx hb dJx4a65c_add_72be8_10 rfl hl (by decide) rfl (fun ls hl => ?_)
    refine lv_aload_n hx hb dJx4a65c_add_72be8_11 rfl (lv_at hl 0 rfl) ?_
    refine lv_iload_n hx hb dJx4a65c_add_72be8_12 rfl (lv_at hl 3 rfl) ?_
    refine lv_aload_n hx hb dJx4a65c_add_72be8_13 rfl (lv_at hl 2 rfl) ?_
    refine p_ast (C := RX6) (Tc := TX6) (N := 12) (ci := 12) hx hb hE hP hD hS hO g2 (by rw [hxs1]; decide) (rep_3 hxs1) rfl hE.pc.2.2.2.2.2.2.2.2.2 (vp_in_nI (by omega) (by omega)) dJx4a65c_add_72be8_14 (fun H locs w hP hD hS hO => ?_)
    rw [nI_clamp (show n < 2 ^ 31 by omega)] at hO
    obtain ⟨K43, hK44⟩ : ∃ z : PK, z = (kE K39 e38 (va_up (K39.2.2.2.2.1 e38) n (some x9))) := ⟨_, rfl⟩
    rw [← hK44] at hO
    have hf45 : K43.2.2.1 13 q0 = some e38 := (by rw [hK44]; exact g1)
    have hf46 : K43.1 e38 = 6 := (by rw [hK44]; exact g2)
    have hf47 : K43.1 q0 = 5 := (by rw [hK44]; exact g7)
    have hf48 : K43.1 x9 = 3 := (by rw [hK44]; exact hxs1)
    refine lv_aload_n hx hb dJx4a65c_add_72be8_15 rfl (lv_at hl 1 rfl) ?_
    refine lv_iload_n hx hb dJx4a65c_add_72be8_16 rfl (lv_at hl 3 rfl) ?_
    refine lv_iconst (v := 1) hx hb dJx4a65c_add_72be8_17 (by decide) ?_
    refine lv_iadd hx hb dJx4a65c_add_72be8_18 ?_
    refine lv_topi (fun x49 e50 => ?_)
    obtain rfl : x49 = nI (n + 1) := e50.trans (nI_add (n) (1))
    refine p_put (v := .int (nI (n + 1))) (ty := .int) (C := RJx4a65c) (Tc := TJx4a65c) (N := 3) (ci := 10) (K' := (kI K43 23 q0 (nI (n + 1)))) hx hb hq pin_wsJx4a65c0 tyJx4a65c tyJx4a65c_ok nmJx4a65c hown hE hP hD hS hO (by rw [hf47]; decide) (rep_5 hf47) rfl 2 (by decide) (hq _ pw_17) (fun _ h9 => h9) rfl (by decide +kernel) rfl rfl (Nat.le_of_ble_eq_true rfl) rfl (by rw [rep_5 (show (kI K43 23 q0 (nI (n + 1))).1 q0 = 5 from hf47), pi_23] <;> rfl) (fun p9 hp9 => rep_kI hp9) dJx4a65c_add_72be8_19 (fun H locs w hP hD hS hO => ?_)
    obtain ⟨K51, hK52⟩ : ∃ z : PK, z = (kI K43 23 q0 (nI (n + 1))) := ⟨_, rfl⟩
    rw [← hK52] at hO
    have hf53 : K51.2.2.1 13 q0 = some e38 := (by rw [hK52]; exact hf45)
    have hf54 : K51.1 e38 = 6 := (by rw [hK52]; exact hf46)
    have hf55 : K51.1 q0 = 5 := (by rw [hK52]; exact hf47)
    have hf56 : K51.1 x9 = 3 := (by rw [hK52]; exact hf48)
    have hf57 : K51.2.1 23 q0 = (nI (n + 1)) := by rw [hK52]; exact kI_eq
    have hls2 := h40
    have hfu : K39.1 e38 = 6 ∧ K39.2.2.1 17 e38 = some q0 ∧ 10 ≤ K39.2.2.2.2.2 e38 ∧ K39.2.2.2.2.2 e38 ≤ 200000 := ⟨g2, g3, by omega, by omega⟩
    have had := add_ok (G := G) (it := it) g7 g1 g2 g3 (by omega) ⟨hfu.2.2.1, hfu.2.2.2⟩ (hls2.full g1 (by omega)).2.2.2.2.2 hxs1 hnn
    rw [← hK44, ← hK52] at had
    have hz58 : LsC G K51 q0 3 (n + 1) (upQ it n x9) (n + n / 2) := (by have z := had.1; rw [g4] at z; exact z)
    have hz59 : AdQ K K51 q0 := hadg.trans had.2
    have hz60 : N6 K K51 := (by rw [hK52, hK44]; exact h42)
    have hO : OKP G h0 a F R Z B J K51 w := hO.to rfl
    refine W.widen (k := 1) (n := (n + n / 2)) (by omega) (by omega) ?_
    exact W.vret hx hb hr (fun t99 ht99 hW99 => ⟨⟨_, (w, K51), rfl, ⟨rfl, hz58, hz59, hz60, hO⟩, by rw [ht99]; exact hP, hD⟩, hS.F ht99⟩) hS.2.2 dJx4a65c_add_72be8_22
theorem dJx4a65c_add_9ea2d_0 : decode cJx4a65c_add_9ea2d 0 = .ok (.aload_n 0, 1) := by decide +kernel
theorem dJx4a65c_add_9ea2d_1 : decode cJx4a65c_add_9ea2d 1 = .ok (.dup, 1) := by decide +kernel
theorem dJx4a65c_add_9ea2d_2 : decode cJx4a65c_add_9ea2d 2 = .ok (.getfield 63, 3) := by decide +kernel
theorem dJx4a65c_add_9ea2d_5 : decode cJx4a65c_add_9ea2d 5 = .ok (.iconst 1, 1) := by decide +kernel
theorem dJx4a65c_add_9ea2d_6 : decode cJx4a65c_add_9ea2d 6 = .ok (.iadd, 1) := by decide +kernel
theorem dJx4a65c_add_9ea2d_7 : decode cJx4a65c_add_9ea2d 7 = .ok (.putfield 63, 3) := by decide +kernel
theorem dJx4a65c_add_9ea2d_10 : decode cJx4a65c_add_9ea2d 10 = .ok (.aload_n 0, 1) := by decide +kernel
theorem dJx4a65c_add_9ea2d_11 : decode cJx4a65c_add_9ea2d 11 = .ok (.aload_n 1, 1) := by decide +kernel
theorem dJx4a65c_add_9ea2d_12 : decode cJx4a65c_add_9ea2d 12 = .ok (.aload_n 0, 1) := by decide +kernel
theorem dJx4a65c_add_9ea2d_13 : decode cJx4a65c_add_9ea2d 13 = .ok (.getfield 9, 3) := by decide +kernel
theorem dJx4a65c_add_9ea2d_16 : decode cJx4a65c_add_9ea2d 16 = .ok (.aload_n 0, 1) := by decide +kernel
theorem dJx4a65c_add_9ea2d_17 : decode cJx4a65c_add_9ea2d 17 = .ok (.getfield 48, 3) := by decide +kernel
theorem dJx4a65c_add_9ea2d_20 : decode cJx4a65c_add_9ea2d 20 = .ok (.invokevirtual 131, 3) := by decide +kernel
theorem dJx4a65c_add_9ea2d_23 : decode cJx4a65c_add_9ea2d 23 = .ok (.iconst 1, 1) := by decide +kernel
theorem dJx4a65c_add_9ea2d_24 : decode cJx4a65c_add_9ea2d 24 = .ok (.ireturn, 1) := by decide +kernel
theorem hV_Jx4a65c_add_72be8 : yJx4a65c_add_72be8.cls = RJx4a65c ∧ yJx4a65c_add_72be8.cls ≠ "java/lang/invoke/MethodHandle" ∧ yJx4a65c_add_72be8.cls ≠ "java/lang/invoke/VarHandle" ∧ (parseMethodDescriptor yJx4a65c_add_72be8.desc).map (fun d => d.parameters.length) = some 3 := by decide +kernel
set_option maxHeartbeats 6000000 in
set_option maxRecDepth 100000 in
theorem L_addN (l : Launch) (G : pT) (h0 : Nat) (a : Nat → Nat) (F : Nat → Int32) (R : Nat → Value) (Z : Int64) (B : Nat → Nat → Int32) (J : Nat → Nat → Int64) (K : PK) (w : va_W) (q0 : Nat) (es : Nat) (n : Nat) (it : Nat → Nat) (x9 : Nat) (e9 : Nat) (hls : LsI G K q0 es n it) (hes : es = 1 ∨ es = 3) (hxs : K.1 x9 = es) (hnn : n + 1 ≤ 100000) (hem : K.2.2.1 13 q0 = some e9) (h69 : K.1 e9 = 6) (h17 : K.2.2.1 17 e9 = some q0) (hbb : 10 ≤ K.2.2.2.2.2 e9 ∧ K.2.2.2.2.2 e9 ≤ 200000) (hnl : n < K.2.2.2.2.2 e9) (hel : ∀ i : Nat, i < n → K.2.2.2.2.1 e9 i = some (it i) ∧ K.1 (it i) = es) (hO : OKP G h0 a F R Z B J K w) : PM l G pX0 yJx4a65c_add_9ea2d cJx4a65c_add_9ea2d 2 (some .boolean) ({ frames := 3, cells := 0, slots := 0, locals := 83 }) [.ref q0, .ref x9] w (fun (v : Option Value) (u : va_W × (PK)) => v = some (.int 1) ∧ (LsC G u.2 q0 es (n + 1) (upQ it n x9) (K.2.2.2.2.2 e9)) ∧ (AdQ K u.2 q0) ∧ (N6 K u.2) ∧ (OKP G h0 a F R Z B J u.2 u.1)) (fun u => u.1) := by
  intro sz
  refine Met.ofW (cc := cJx4a65c_add_9ea2d) (maxL := 2) (ret := (some .boolean)) (by decide) rfl ?_
  intro p e s m args below meth c s₁ B9 hml hv
  obtain ⟨rfl, hsz, hP, hD0, hE, hX⟩ := hv
  have hx := B9.exec
  have hb := B9.bytes
  have hr := B9.returns
  have hts := atoms_spec (ws := Cond.code yJx4a65c_add_9ea2d cJx4a65c_add_9ea2d 2 (some .boolean) :: pw) B9.pre
  have hq : ∀ w ∈ pw, w.before _ s = true := fun w h => hts w (List.mem_cons_of_mem _ h)
  have hown : s.vm.findClass RJx4a65c = some m.cls := findClass_of_methodNamed B9.named
  have hlocks := B9.notSynchronized
  subst hsz
  have hD := hD0.self (sz := s.heap.size)
  have hA : ∀ q : Nat, s.heap.size ≤ q → va_A w s.heap.size q := fun q h => Or.inr h
  generalize va_A w s.heap.size = A at hD hE hA ⊢
  have hS : va_S A s.heap s.heap [] := va_S.rf
  have hl := lv_entry ([.ref q0, .ref x9]) (n := 2) (Nat.le_of_ble_eq_true rfl)
  rw [lg_entry_eq]
  generalize (lg_sl ([.ref q0, .ref x9]) ++ List.replicate (2 - (lg_sl ([.ref q0, .ref x9])).length) Slot.unset).toArray = ls at hl ⊢
  have hl : lv_has ls 2 [(0, .ref q0), (1, .ref x9)] := hl
  have hT0 := hls.1
  have hsz0 := hls.2.1
  have hn0 := hls.2.2.1
  refine lv_aload_n hx hb dJx4a65c_add_9ea2d_0 rfl (lv_at hl 0 rfl) ?_
  refine lv_dup hx hb dJx4a65c_add_9ea2d_1 rfl ?_
  refine p_get (v := .int (K.2.1 22 q0)) (C := RJx4a65c) (Tc := TJx4a65c) (N := 3) (ci := 10) hx hb hq pin_wsJx4a65c0 hown hE hP hO (by rw [hT0]; decide) (rep_5 hT0) rfl 0 (by decide) (hq _ pw_863) (fun x9 h9 => u_same (hq _ pw_864) x9 h9) rfl dJx4a65c_add_9ea2d_2 ?_
  refine lv_iconst (v := 1) hx hb dJx4a65c_add_9ea2d_5 (by decide) ?_
  refine lv_iadd hx hb dJx4a65c_add_9ea2d_6 ?_
  refine lv_topi (fun x1 e2 => ?_)
  refine p_put (v := .int x1) (ty := .int) (C := RJx4a65c) (Tc := TJx4a65c) (N := 3) (ci := 10) (K' := (kI K 22 q0 x1)) hx hb hq pin_wsJx4a65c0 tyJx4a65c tyJx4a65c_ok nmJx4a65c hown hE hP hD hS hO (by rw [hT0]; decide) (rep_5 hT0) rfl 0 (by decide) (hq _ pw_863) (fun x9 h9 => u_same (hq _ pw_864) x9 h9) rfl (by decide +kernel) rfl rfl (Nat.le_of_ble_eq_true rfl) rfl (by rw [rep_5 (show (kI K 22 q0 x1).1 q0 = 5 from hT0), pi_22] <;> rfl) (fun p9 hp9 => rep_kI hp9) dJx4a65c_add_9ea2d_7 (fun H locs w hP hD hS hO => ?_)
  obtain ⟨K3, hK4⟩ : ∃ z : PK, z = (kI K 22 q0 x1) := ⟨_, rfl⟩
  rw [← hK4] at hO
  have hf5 : K3.1 q0 = 5 := (by rw [hK4]; exact hT0)
  have hf6 : K3.2.1 23 q0 = (nI n) := (by rw [hK4]; exact (kI_of (by decide)).trans hsz0)
  have hf7 : K3.2.2.1 13 q0 = some e9 := (by rw [hK4]; exact hem)
  have hf8 : K3.1 e9 = 6 := (by rw [hK4]; exact h69)
  have hf9 : K3.2.1 22 q0 = x1 := by rw [hK4]; exact kI_eq
  refine lv_aload_n hx hb dJx4a65c_add_9ea2d_10 rfl (lv_at hl 0 rfl) ?_
  refine lv_aload_n hx hb dJx4a65c_add_9ea2d_11 rfl (lv_at hl 1 rfl) ?_
  refine lv_aload_n hx hb dJx4a65c_add_9ea2d_12 rfl (lv_at hl 0 rfl) ?_
  refine p_get (v := .ref e9) (C := RJx4a65c) (Tc := TJx4a65c) (N := 3) (ci := 10) hx hb hq pin_wsJx4a65c0 hown hE hP hO (by rw [hf5]; decide) (rep_5 hf5) rfl 1 (by decide) (hq _ pw_24) (fun _ h9 => h9) (congrArg (fun z => some (va_rf z)) hf7) dJx4a65c_add_9ea2d_13 ?_
  refine lv_aload_n hx hb dJx4a65c_add_9ea2d_16 rfl (lv_at hl 0 rfl) ?_
  refine p_get (v := .int (nI n)) (C := RJx4a65c) (Tc := TJx4a65c) (N := 3) (ci := 10) hx hb hq pin_wsJx4a65c0 hown hE hP hO (by rw [hf5]; decide) (rep_5 hf5) rfl 2 (by decide) (hq _ pw_17) (fun _ h9 => h9) (congrArg (fun z => some (Value.int z)) hf6) dJx4a65c_add_9ea2d_17 ?_
  have hlsm : LsI G K3 q0 es n it := by rw [hK4]; exact hls.mod (by decide)
  have hO : OKP G h0 a F R Z B J K3 w := hO.to rfl
  obtain ⟨qr13, hqr14⟩ := p_recv hO (by rw [hf5]; decide) (rep_5 hf5)
  refine pc_V0 (G := G) (As := [.ref x9, .ref e9, .int (nI n)]) (rest := []) hx hb hml hown hq hE hX pX0_al hP hD hS hA hl.1 (L_add3N l G h0 a F R Z B J K3 w q0 es n it x9 e9 hlsm hes (by rw [hK4]; exact hxs) hnn (by rw [hK4]; exact hem) (by rw [hK4]; exact h69) (by rw [hK4]; exact h17) (by rw [hK4]; exact hbb) (by rw [hK4]; exact hnl) (by rw [hK4]; exact hel) hO) (gV pw_865 pw_866 pw_867 pw_32 pw_862) hV_Jx4a65c_add_72be8 qr13 10 hqr14 rfl rfl rfl (Nat.le_of_ble_eq_true rfl) dJx4a65c_add_9ea2d_20 ⟨Nat.le_of_ble_eq_true rfl, Nat.le_of_ble_eq_true rfl⟩ ⟨Nat.le_of_ble_eq_true rfl, Nat.le_of_ble_eq_true rfl⟩ (fun v12 u10 H locs hw11 hP hD hS => ?_)
  obtain ⟨w, K15⟩ := u10
  obtain ⟨hw11, h16, h17, h18, hO⟩ := hw11
  have h16 : LsC G K15 q0 es (n + 1) (upQ it n x9) (K3.2.2.2.2.2 e9) := h16
  have h17 : AdQ K3 K15 q0 := h17
  have h18 : N6 K3 K15 := h18
  obtain rfl : v12 = none := hw11
  have hO : OKP G h0 a F R Z B J K15 w := hO.to rfl
  refine W.widen (k := 0) (n := 0) (Nat.le_of_ble_eq_true rfl) (Nat.le_of_ble_eq_true rfl) ?_
  refine W.eq (g2 := F0 m 23 ls []) rfl ?_
  refine lv_iconst (v := 1) hx hb dJx4a65c_add_9ea2d_23 (by decide) ?_
  have hz19 : LsC G K15 q0 es (n + 1) (upQ it n x9) (K.2.2.2.2.2 e9) := (by have z := h16; rw [hK4] at z; exact z)
  have hz20 : AdQ K K15 q0 := (AdQ.trans (by rw [hK4]; exact AdQ.i) h17)
  have hz21 : N6 K K15 := (by have z := h18; rw [hK4] at z; exact z)
  have hO : OKP G h0 a F R Z B J K15 w := hO.to rfl
  exact W.zret (v := 1) hx hb hr rfl (fun t99 ht99 hW99 => ⟨⟨_, (w, K15), rfl, ⟨rfl, hz19, hz20, hz21, hO⟩, by rw [ht99]; exact hP, hD⟩, hS.F ht99⟩) hS.2.2 dJx4a65c_add_9ea2d_24
set_option maxHeartbeats 6000000 in
set_option maxRecDepth 100000 in
theorem L_addE (l : Launch) (G : pT) (h0 : Nat) (a : Nat → Nat) (F : Nat → Int32) (R : Nat → Value) (Z : Int64) (B : Nat → Nat → Int32) (J : Nat → Nat → Int64) (K : PK) (w : va_W) (q0 : Nat) (es : Nat) (n : Nat) (it : Nat → Nat) (x9 : Nat) (hls : LsI G K q0 es n it) (hes : es = 1 ∨ es = 3) (hxs : K.1 x9 = es) (hnn : n + 1 ≤ 100000) (hem : K.2.2.1 13 q0 = some G.2.2.2.2) (hn9 : n = 0) (hO : OKP G h0 a F R Z B J K w) : PM l G pX0 yJx4a65c_add_9ea2d cJx4a65c_add_9ea2d 2 (some .boolean) ({ frames := 5, cells := 1, slots := 10, locals := 126 }) [.ref q0, .ref x9] w (fun (v : Option Value) (u : va_W × (PK)) => v = some (.int 1) ∧ (LsC G u.2 q0 es (n + 1) (upQ it n x9) 10) ∧ (AdQ K u.2 q0) ∧ (N6 K u.2) ∧ (OKP G h0 a F R Z B J u.2 u.1)) (fun u => u.1) := by
  intro sz
  refine Met.ofW (cc := cJx4a65c_add_9ea2d) (maxL := 2) (ret := (some .boolean)) (by decide) rfl ?_
  intro p e s m args below meth c s₁ B9 hml hv
  obtain ⟨rfl, hsz, hP, hD0, hE, hX⟩ := hv
  have hx := B9.exec
  have hb := B9.bytes
  have hr := B9.returns
  have hts := atoms_spec (ws := Cond.code yJx4a65c_add_9ea2d cJx4a65c_add_9ea2d 2 (some .boolean) :: pw) B9.pre
  have hq : ∀ w ∈ pw, w.before _ s = true := fun w h => hts w (List.mem_cons_of_mem _ h)
  have hown : s.vm.findClass RJx4a65c = some m.cls := findClass_of_methodNamed B9.named
  have hlocks := B9.notSynchronized
  subst hsz
  have hD := hD0.self (sz := s.heap.size)
  have hA : ∀ q : Nat, s.heap.size ≤ q → va_A w s.heap.size q := fun q h => Or.inr h
  generalize va_A w s.heap.size = A at hD hE hA ⊢
  have hS : va_S A s.heap s.heap [] := va_S.rf
  have hl := lv_entry ([.ref q0, .ref x9]) (n := 2) (Nat.le_of_ble_eq_true rfl)
  rw [lg_entry_eq]
  generalize (lg_sl ([.ref q0, .ref x9]) ++ List.replicate (2 - (lg_sl ([.ref q0, .ref x9])).length) Slot.unset).toArray = ls at hl ⊢
  have hl : lv_has ls 2 [(0, .ref q0), (1, .ref x9)] := hl
  have hT0 := hls.1
  have hsz0 := hls.2.1
  have hn0 := hls.2.2.1
  refine lv_aload_n hx hb dJx4a65c_add_9ea2d_0 rfl (lv_at hl 0 rfl) ?_
  refine lv_dup hx hb dJx4a65c_add_9ea2d_1 rfl ?_
  refine p_get (v := .int (K.2.1 22 q0)) (C := RJx4a65c) (Tc := TJx4a65c) (N := 3) (ci := 10) hx hb hq pin_wsJx4a65c0 hown hE hP hO (by rw [hT0]; decide) (rep_5 hT0) rfl 0 (by decide) (hq _ pw_863) (fun x9 h9 => u_same (hq _ pw_864) x9 h9) rfl dJx4a65c_add_9ea2d_2 ?_
  refine lv_iconst (v := 1) hx hb dJx4a65c_add_9ea2d_5 (by decide) ?_
  refine lv_iadd hx hb dJx4a65c_add_9ea2d_6 ?_
  refine lv_topi (fun x1 e2 => ?_)
  refine p_put (v := .int x1) (ty := .int) (C := RJx4a65c) (Tc := TJx4a65c) (N := 3) (ci := 10) (K' := (kI K 22 q0 x1)) hx hb hq pin_wsJx4a65c0 tyJx4a65c tyJx4a65c_ok nmJx4a65c hown hE hP hD hS hO (by rw [hT0]; decide) (rep_5 hT0) rfl 0 (by decide) (hq _ pw_863) (fun x9 h9 => u_same (hq _ pw_864) x9 h9) rfl (by decide +kernel) rfl rfl (Nat.le_of_ble_eq_true rfl) rfl (by rw [rep_5 (show (kI K 22 q0 x1).1 q0 = 5 from hT0), pi_22] <;> rfl) (fun p9 hp9 => rep_kI hp9) dJx4a65c_add_9ea2d_7 (fun H locs w hP hD hS hO => ?_)
  obtain ⟨K3, hK4⟩ : ∃ z : PK, z = (kI K 22 q0 x1) := ⟨_, rfl⟩
  rw [← hK4] at hO
  have hf5 : K3.1 q0 = 5 := (by rw [hK4]; exact hT0)
  have hf6 : K3.2.1 23 q0 = (nI n) := (by rw [hK4]; exact (kI_of (by decide)).trans hsz0)
  have hf7 : K3.2.2.1 13 q0 = some G.2.2.2.2 := (by rw [hK4]; exact hem)
  have hf8 : K3.2.1 22 q0 = x1 := by rw [hK4]; exact kI_eq
  refine lv_aload_n hx hb dJx4a65c_add_9ea2d_10 rfl (lv_at hl 0 rfl) ?_
  refine lv_aload_n hx hb dJx4a65c_add_9ea2d_11 rfl (lv_at hl 1 rfl) ?_
  refine lv_aload_n hx hb dJx4a65c_add_9ea2d_12 rfl (lv_at hl 0 rfl) ?_
  refine p_get (v := .ref G.2.2.2.2) (C := RJx4a65c) (Tc := TJx4a65c) (N := 3) (ci := 10) hx hb hq pin_wsJx4a65c0 hown hE hP hO (by rw [hf5]; decide) (rep_5 hf5) rfl 1 (by decide) (hq _ pw_24) (fun _ h9 => h9) (congrArg (fun z => some (va_rf z)) hf7) dJx4a65c_add_9ea2d_13 ?_
  refine lv_aload_n hx hb dJx4a65c_add_9ea2d_16 rfl (lv_at hl 0 rfl) ?_
  refine p_get (v := .int (nI n)) (C := RJx4a65c) (Tc := TJx4a65c) (N := 3) (ci := 10) hx hb hq pin_wsJx4a65c0 hown hE hP hO (by rw [hf5]; decide) (rep_5 hf5) rfl 2 (by decide) (hq _ pw_17) (fun _ h9 => h9) (congrArg (fun z => some (Value.int z)) hf6) dJx4a65c_add_9ea2d_17 ?_
  have hlsm : LsI G K3 q0 es n it := by rw [hK4]; exact hls.mod (by decide)
  have hO : OKP G h0 a F R Z B J K3 w := hO.to rfl
  obtain ⟨qr12, hqr13⟩ := p_recv hO (by rw [hf5]; decide) (rep_5 hf5)
  refine pc_V0 (G := G) (As := [.ref x9, .ref G.2.2.2.2, .int (nI n)]) (rest := []) hx hb hml hown hq hE hX pX0_al hP hD hS hA hl.1 (L_add3E l G h0 a F R Z B J K3 w q0 es n it x9 hlsm hes (by rw [hK4]; exact hxs) hnn (by rw [hK4]; exact hem) hn9 hO) (gV pw_865 pw_866 pw_867 pw_32 pw_862) hV_Jx4a65c_add_72be8 qr12 10 hqr13 rfl rfl rfl (Nat.le_of_ble_eq_true rfl) dJx4a65c_add_9ea2d_20 ⟨(by show 0 + 1 ≤ 1; omega), (by show 0 + 10 ≤ 10; omega)⟩ ⟨Nat.le_of_ble_eq_true rfl, Nat.le_of_ble_eq_true rfl⟩ (fun v11 u9 H locs hw10 hP hD hS => ?_)
  obtain ⟨w, K14⟩ := u9
  obtain ⟨hw10, h15, h16, h17, hO⟩ := hw10
  have h15 : LsC G K14 q0 es (n + 1) (upQ it n x9) 10 := h15
  have h16 : AdQ K3 K14 q0 := h16
  have h17 : N6 K3 K14 := h17
  obtain rfl : v11 = none := hw10
  have hO : OKP G h0 a F R Z B J K14 w := hO.to rfl
  refine W.widen (k := 1) (n := 10) (by show 0 + 1 ≤ 1; omega) (by show 0 + 10 ≤ 10; omega) ?_
  refine W.eq (g2 := F0 m 23 ls []) rfl ?_
  refine lv_iconst (v := 1) hx hb dJx4a65c_add_9ea2d_23 (by decide) ?_
  have hz18 : LsC G K14 q0 es (n + 1) (upQ it n x9) 10 := h15
  have hz19 : AdQ K K14 q0 := (AdQ.trans (by rw [hK4]; exact AdQ.i) h16)
  have hz20 : N6 K K14 := (by have z := h17; rw [hK4] at z; exact z)
  have hO : OKP G h0 a F R Z B J K14 w := hO.to rfl
  refine W.widen (k := 1) (n := 10) (by omega) (by omega) ?_
  exact W.zret (v := 1) hx hb hr rfl (fun t99 ht99 hW99 => ⟨⟨_, (w, K14), rfl, ⟨rfl, hz18, hz19, hz20, hO⟩, by rw [ht99]; exact hP, hD⟩, hS.F ht99⟩) hS.2.2 dJx4a65c_add_9ea2d_24
set_option maxHeartbeats 6000000 in
set_option maxRecDepth 100000 in
theorem L_addF (l : Launch) (G : pT) (h0 : Nat) (a : Nat → Nat) (F : Nat → Int32) (R : Nat → Value) (Z : Int64) (B : Nat → Nat → Int32) (J : Nat → Nat → Int64) (K : PK) (w : va_W) (q0 : Nat) (es : Nat) (n : Nat) (it : Nat → Nat) (x9 : Nat) (e9 : Nat) (hls : LsI G K q0 es n it) (hes : es = 1 ∨ es = 3) (hxs : K.1 x9 = es) (hnn : n + 1 ≤ 100000) (hem : K.2.2.1 13 q0 = some e9) (hn9 : n = K.2.2.2.2.2 e9) (hnz : 1 ≤ n) (hO : OKP G h0 a F R Z B J K w) : PM l G pX0 yJx4a65c_add_9ea2d cJx4a65c_add_9ea2d 2 (some .boolean) ({ frames := 7, cells := 1, slots := (n + n / 2), locals := 170 }) [.ref q0, .ref x9] w (fun (v : Option Value) (u : va_W × (PK)) => v = some (.int 1) ∧ (LsC G u.2 q0 es (n + 1) (upQ it n x9) (n + n / 2)) ∧ (AdQ K u.2 q0) ∧ (N6 K u.2) ∧ (OKP G h0 a F R Z B J u.2 u.1)) (fun u => u.1) := by
  intro sz
  refine Met.ofW (cc := cJx4a65c_add_9ea2d) (maxL := 2) (ret := (some .boolean)) (by decide) rfl ?_
  intro p e s m args below meth c s₁ B9 hml hv
  obtain ⟨rfl, hsz, hP, hD0, hE, hX⟩ := hv
  have hx := B9.exec
  have hb := B9.bytes
  have hr := B9.returns
  have hts := atoms_spec (ws := Cond.code yJx4a65c_add_9ea2d cJx4a65c_add_9ea2d 2 (some .boolean) :: pw) B9.pre
  have hq : ∀ w ∈ pw, w.before _ s = true := fun w h => hts w (List.mem_cons_of_mem _ h)
  have hown : s.vm.findClass RJx4a65c = some m.cls := findClass_of_methodNamed B9.named
  have hlocks := B9.notSynchronized
  subst hsz
  have hD := hD0.self (sz := s.heap.size)
  have hA : ∀ q : Nat, s.heap.size ≤ q → va_A w s.heap.size q := fun q h => Or.inr h
  generalize va_A w s.heap.size = A at hD hE hA ⊢
  have hS : va_S A s.heap s.heap [] := va_S.rf
  have hl := lv_entry ([.ref q0, .ref x9]) (n := 2) (Nat.le_of_ble_eq_true rfl)
  rw [lg_entry_eq]
  generalize (lg_sl ([.ref q0, .ref x9]) ++ List.replicate (2 - (lg_sl ([.ref q0, .ref x9])).length) Slot.unset).toArray = ls at hl ⊢
  have hl : lv_has ls 2 [(0, .ref q0), (1, .ref x9)] := hl
  have hT0 := hls.1
  have hsz0 := hls.2.1
  have hn0 := hls.2.2.1
  obtain ⟨hf1, hf2, hf3, hf4, hf5, hf6⟩ := hls.full hem (by omega)
  refine lv_aload_n hx hb dJx4a65c_add_9ea2d_0 rfl (lv_at hl 0 rfl) ?_
  refine lv_dup hx hb dJx4a65c_add_9ea2d_1 rfl ?_
  refine p_get (v := .int (K.2.1 22 q0)) (C := RJx4a65c) (Tc := TJx4a65c) (N := 3) (ci := 10) hx hb hq pin_wsJx4a65c0 hown hE hP hO (by rw [hT0]; decide) (rep_5 hT0) rfl 0 (by decide) (hq _ pw_863) (fun x9 h9 => u_same (hq _ pw_864) x9 h9) rfl dJx4a65c_add_9ea2d_2 ?_
  refine lv_iconst (v := 1) hx hb dJx4a65c_add_9ea2d_5 (by decide) ?_
  refine lv_iadd hx hb dJx4a65c_add_9ea2d_6 ?_
  refine lv_topi (fun x1 e2 => ?_)
  refine p_put (v := .int x1) (ty := .int) (C := RJx4a65c) (Tc := TJx4a65c) (N := 3) (ci := 10) (K' := (kI K 22 q0 x1)) hx hb hq pin_wsJx4a65c0 tyJx4a65c tyJx4a65c_ok nmJx4a65c hown hE hP hD hS hO (by rw [hT0]; decide) (rep_5 hT0) rfl 0 (by decide) (hq _ pw_863) (fun x9 h9 => u_same (hq _ pw_864) x9 h9) rfl (by decide +kernel) rfl rfl (Nat.le_of_ble_eq_true rfl) rfl (by rw [rep_5 (show (kI K 22 q0 x1).1 q0 = 5 from hT0), pi_22] <;> rfl) (fun p9 hp9 => rep_kI hp9) dJx4a65c_add_9ea2d_7 (fun H locs w hP hD hS hO => ?_)
  obtain ⟨K3, hK4⟩ : ∃ z : PK, z = (kI K 22 q0 x1) := ⟨_, rfl⟩
  rw [← hK4] at hO
  have hf5 : K3.1 q0 = 5 := (by rw [hK4]; exact hT0)
  have hf6 : K3.2.1 23 q0 = (nI n) := (by rw [hK4]; exact (kI_of (by decide)).trans hsz0)
  have hf7 : K3.2.2.1 13 q0 = some e9 := (by rw [hK4]; exact hem)
  have hf8 : K3.1 e9 = 6 := (by rw [hK4]; exact hf1)
  have hf9 : K3.2.1 22 q0 = x1 := by rw [hK4]; exact kI_eq
  refine lv_aload_n hx hb dJx4a65c_add_9ea2d_10 rfl (lv_at hl 0 rfl) ?_
  refine lv_aload_n hx hb dJx4a65c_add_9ea2d_11 rfl (lv_at hl 1 rfl) ?_
  refine lv_aload_n hx hb dJx4a65c_add_9ea2d_12 rfl (lv_at hl 0 rfl) ?_
  refine p_get (v := .ref e9) (C := RJx4a65c) (Tc := TJx4a65c) (N := 3) (ci := 10) hx hb hq pin_wsJx4a65c0 hown hE hP hO (by rw [hf5]; decide) (rep_5 hf5) rfl 1 (by decide) (hq _ pw_24) (fun _ h9 => h9) (congrArg (fun z => some (va_rf z)) hf7) dJx4a65c_add_9ea2d_13 ?_
  refine lv_aload_n hx hb dJx4a65c_add_9ea2d_16 rfl (lv_at hl 0 rfl) ?_
  refine p_get (v := .int (nI n)) (C := RJx4a65c) (Tc := TJx4a65c) (N := 3) (ci := 10) hx hb hq pin_wsJx4a65c0 hown hE hP hO (by rw [hf5]; decide) (rep_5 hf5) rfl 2 (by decide) (hq _ pw_17) (fun _ h9 => h9) (congrArg (fun z => some (Value.int z)) hf6) dJx4a65c_add_9ea2d_17 ?_
  have hlsm : LsI G K3 q0 es n it := by rw [hK4]; exact hls.mod (by decide)
  have hO : OKP G h0 a F R Z B J K3 w := hO.to rfl
  obtain ⟨qr13, hqr14⟩ := p_recv hO (by rw [hf5]; decide) (rep_5 hf5)
  refine pc_V0 (G := G) (As := [.ref x9, .ref e9, .int (nI n)]) (rest := []) hx hb hml hown hq hE hX pX0_al hP hD hS hA hl.1 (L_add3F l G h0 a F R Z B J K3 w q0 es n it x9 e9 hlsm hes (by rw [hK4]; exact hxs) hnn (by rw [hK4]; exact hem) (by rw [hK4]; exact hn9) hnz hO) (gV pw_865 pw_866 pw_867 pw_32 pw_862) hV_Jx4a65c_add_72be8 qr13 10 hqr14 rfl rfl rfl (Nat.le_of_ble_eq_true rfl) dJx4a65c_add_9ea2d_20 ⟨(by show 0 + 1 ≤ 1; omega), (by show 0 + (n + n / 2) ≤ (n + n / 2); omega)⟩ ⟨Nat.le_of_ble_eq_true rfl, Nat.le_of_ble_eq_true rfl⟩ (fun v12 u10 H locs hw11 hP hD hS => ?_)
  obtain ⟨w, K15⟩ := u10
  obtain ⟨hw11, h16, h17, h18, hO⟩ := hw11
  have h16 : LsC G K15 q0 es (n + 1) (upQ it n x9) (n + n / 2) := h16
  have h17 : AdQ K3 K15 q0 := h17
  have h18 : N6 K3 K15 := h18
  obtain rfl : v12 = none := hw11
  have hO : OKP G h0 a F R Z B J K15 w := hO.to rfl
  refine W.widen (k := 1) (n := (n + n / 2)) (by show 0 + 1 ≤ 1; omega) (by show 0 + (n + n / 2) ≤ (n + n / 2); omega) ?_
  refine W.eq (g2 := F0 m 23 ls []) rfl ?_
  refine lv_iconst (v := 1) hx hb dJx4a65c_add_9ea2d_23 (by decide) ?_
  have hz19 : LsC G K15 q0 es (n + 1) (upQ it n x9) (n + n / 2) := h16
  have hz20 : AdQ K K15 q0 := (AdQ.trans (by rw [hK4]; exact AdQ.i) h17)
  have hz21 : N6 K K15 := (by have z := h18; rw [hK4] at z; exact z)
  have hO : OKP G h0 a F R Z B J K15 w := hO.to rfl
  refine W.widen (k := 1) (n := (n + n / 2)) (by omega) (by omega) ?_
  exact W.zret (v := 1) hx hb hr rfl (fun t99 ht99 hW99 => ⟨⟨_, (w, K15), rfl, ⟨rfl, hz19, hz20, hz21, hO⟩, by rw [ht99]; exact hP, hD⟩, hS.F ht99⟩) hS.2.2 dJx4a65c_add_9ea2d_24
