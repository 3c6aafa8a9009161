theorem LsC.mode {G : pT} {K : PK} {q es n cap : Nat} {it : Nat → Nat} (h : LsC G K q es n it cap) : (K.2.2.1 13 q = some G.2.2.2.2 ∧ n = 0 ∧ cap = 0) ∨ (∃ e9 : Nat, K.2.2.1 13 q = some e9 ∧ K.1 e9 = 6 ∧ K.2.2.1 17 e9 = some q ∧ K.2.2.2.2.2 e9 = cap ∧ (10 ≤ K.2.2.2.2.2 e9 ∧ K.2.2.2.2.2 e9 ≤ 200000) ∧ (∀ i : Nat, i < n → K.2.2.2.2.1 e9 i = some (it i) ∧ K.1 (it i) = es) ∧ n < K.2.2.2.2.2 e9) ∨ ∃ e9 : Nat, K.2.2.1 13 q = some e9 ∧ K.2.2.2.2.2 e9 = cap ∧ n = K.2.2.2.2.2 e9 ∧ 10 ≤ n := by
  obtain ⟨h1, h2, h3, h4⟩ := h
  rcases h4 with w | ⟨e9, a1, a2, a3, a4, a5, a6, a7, a8⟩
  · exact Or.inl w
  · by_cases z : n < cap
    · exact Or.inr (Or.inl ⟨e9, a1, a2, a3, a4, by omega, a8, by omega⟩)
    · exact Or.inr (Or.inr ⟨e9, a1, a4, by omega, by omega⟩)
set_option maxHeartbeats 8000000 in
set_option maxRecDepth 100000 in
theorem L_addC (l : Launch) (G : pT) (h0 : Nat) (a : Nat → Nat) (F : Nat → Int32) (R : Nat → Value) (Z : Int64) (B : Nat → Nat → Int32) (J : Nat → Nat → Int64) (K : PK) (w : va_W) (q0 : Nat) (es : Nat) (n : Nat) (it : Nat → Nat) (cap : Nat) (x9 : Nat) (hls : LsC G K q0 es n it cap) (hes : es = 1 ∨ es = 3) (hxs : K.1 x9 = es) (hnn : n + 1 ≤ 100000) (hcb : cap ≤ 10 + 2 * n) (hO : OKP G h0 a F R Z B J K w) (hl0 : l.stackTraces = false) : PBn l G pX0 yJx4a65c_add_9ea2d cJx4a65c_add_9ea2d 2 (some .boolean) ({ frames := 7, cells := 1, slots := (10 + n + n / 2), locals := 170 }) [.ref q0, .ref x9] w (fun (v : Option Value) (u : va_W × (PK × Nat)) => v = some (.int 1) ∧ (LsC G u.2.1 q0 es (n + 1) (upQ it n x9) (cap + u.2.2)) ∧ (AdQ K u.2.1 q0) ∧ (N6 K u.2.1) ∧ (cap + u.2.2 ≤ 10 + 2 * (n + 1)) ∧ (u.2.2 ≤ 10 + n / 2) ∧ (OKP G h0 a F R Z B J u.2.1 u.1)) (fun u => u.1) (fun (u : va_W × (PK × Nat)) => 1) (fun (u : va_W × (PK × Nat)) => (4 * u.2.2)) (fun (u : va_W × (Nat → Int32) × (Nat → Value) × (Nat → Nat → Int32)) => ThQ G h0 a F R Z B J u) (fun u => u.1) := by
  intro sz
  refine vx_ofW (cc := cJx4a65c_add_9ea2d) (maxL := 2) (ret := (some .boolean)) (by decide) rfl ?_
  intro p e s m args below meth c s₁ B9 hml hnt hv
  obtain ⟨rfl, hsz, hP, hD0, hE, hX⟩ := hv
  have hx := B9.exec
  have hb := B9.bytes
  have hr := B9.returns
  have hts := atoms_spec (ws := Cond.code yJx4a65c_add_9ea2d cJx4a65c_add_9ea2d 2 (some .boolean) :: pw) B9.pre
  have hq : ∀ w ∈ pw, w.before _ s = true := fun w h => hts w (List.mem_cons_of_mem _ h)
  have hown : s.vm.findClass RJx4a65c = some m.cls := findClass_of_methodNamed B9.named
  have hlocks := B9.notSynchronized
  subst hsz
  have hD := hD0.self (sz := s.heap.size)
  have hA : ∀ q : Nat, s.heap.size ≤ q → va_A w s.heap.size q := fun q h => Or.inr h
  generalize va_A w s.heap.size = A at hD hE hA ⊢
  have hS : va_S A s.heap s.heap [] := va_S.rf
  have hl := lv_entry ([.ref q0, .ref x9]) (n := 2) (Nat.le_of_ble_eq_true rfl)
  rw [lg_entry_eq]
  generalize (lg_sl ([.ref q0, .ref x9]) ++ List.replicate (2 - (lg_sl ([.ref q0, .ref x9])).length) Slot.unset).toArray = ls at hl ⊢
  have hl : lv_has ls 2 [(0, .ref q0), (1, .ref x9)] := hl
  have hT0 := hls.1
  have hsz0 := hls.2.1
  have hn0 := hls.2.2.1
  rcases hls.mode with ⟨hem, hn9, hcp⟩ | ⟨e9, hem, h69, h17, hcp, hbb, hel, hnl⟩ | ⟨e9, hem, hcp, hn9, hnz⟩
  · skip
    refine lv_aload_n hx hb dJx4a65c_add_9ea2d_0 rfl (lv_at hl 0 rfl) ?_
    refine lv_dup hx hb dJx4a65c_add_9ea2d_1 rfl ?_
    refine p_get (v := .int (K.2.1 22 q0)) (C := RJx4a65c) (Tc := TJx4a65c) (N := 3) (ci := 10) hx hb hq pin_wsJx4a65c0 hown hE hP hO (by rw [hT0]; decide) (rep_5 hT0) rfl 0 (by decide) (hq _ pw_863) (fun x9 h9 => u_same (hq _ pw_864) x9 h9) rfl dJx4a65c_add_9ea2d_2 ?_
    refine lv_iconst (v := 1) hx hb dJx4a65c_add_9ea2d_5 (by decide) ?_
    refine lv_iadd hx hb dJx4a65c_add_9ea2d_6 ?_
    refine lv_topi (fun x1 e2 => ?_)
    refine p_put (v := .int x1) (ty := .int) (C := RJx4a65c) (Tc := TJx4a65c) (N := 3) (ci := 10) (K' := (kI K 22 q0 x1)) hx hb hq pin_wsJx4a65c0 tyJx4a65c tyJx4a65c_ok nmJx4a65c hown hE hP hD hS hO (by rw [hT0]; decide) (rep_5 hT0) rfl 0 (by decide) (hq _ pw_863) (fun x9 h9 => u_same (hq _ pw_864) x9 h9) rfl (by decide +kernel) rfl rfl (Nat.le_of_ble_eq_true rfl) rfl (by rw [rep_5 (show (kI K 22 q0 x1).1 q0 = 5 from hT0), pi_22] <;> rfl) (fun p9 hp9 => rep_kI hp9) dJx4a65c_add_9ea2d_7 (fun H locs w hP hD hS hO => ?_)
    obtain ⟨K3, hK4⟩ : ∃ z : PK, z = (kI K 22 q0 x1) := ⟨_, rfl⟩
    rw [← hK4] at hO
    have hf5 : K3.1 q0 = 5 := (by rw [hK4]; exact hT0)
    have hf6 : K3.2.1 23 q0 = (nI n) := (by rw [hK4]; exact (kI_of (by decide)).trans hsz0)
    have hf7 : K3.2.2.1 13 q0 = some G.2.2.2.2 := (by rw [hK4]; exact hem)
    have hf8 : K3.2.1 22 q0 = x1 := by rw [hK4]; exact kI_eq
    refine lv_aload_n hx hb dJx4a65c_add_9ea2d_10 rfl (lv_at hl 0 rfl) ?_
    refine lv_aload_n hx hb dJx4a65c_add_9ea2d_11 rfl (lv_at hl 1 rfl) ?_
    refine lv_aload_n hx hb dJx4a65c_add_9ea2d_12 rfl (lv_at hl 0 rfl) ?_
    refine p_get (v := .ref G.2.2.2.2) (C := RJx4a65c) (Tc := TJx4a65c) (N := 3) (ci := 10) hx hb hq pin_wsJx4a65c0 hown hE hP hO (by rw [hf5]; decide) (rep_5 hf5) rfl 1 (by decide) (hq _ pw_24) (fun _ h9 => h9) (congrArg (fun z => some (va_rf z)) hf7) dJx4a65c_add_9ea2d_13 ?_
    refine lv_aload_n hx hb dJx4a65c_add_9ea2d_16 rfl (lv_at hl 0 rfl) ?_
    refine p_get (v := .int (nI n)) (C := RJx4a65c) (Tc := TJx4a65c) (N := 3) (ci := 10) hx hb hq pin_wsJx4a65c0 hown hE hP hO (by rw [hf5]; decide) (rep_5 hf5) rfl 2 (by decide) (hq _ pw_17) (fun _ h9 => h9) (congrArg (fun z => some (Value.int z)) hf6) dJx4a65c_add_9ea2d_17 ?_
    have hlsm : LsI G K3 q0 es n it := by rw [hK4]; exact hls.ls.mod (by decide)
    have hO : OKP G h0 a F R Z B J K3 w := hO.to rfl
    obtain ⟨qr12, hqr13⟩ := p_recv hO (by rw [hf5]; decide) (rep_5 hf5)
    refine pc_V0 (G := G) (As := [.ref x9, .ref G.2.2.2.2, .int (nI n)]) (rest := []) hx hb hml hown hq hE hX pX0_al hP hD hS hA hl.1 (L_add3E l G h0 a F R Z B J K3 w q0 es n it x9 hlsm hes (by rw [hK4]; exact hxs) hnn (by rw [hK4]; exact hem) hn9 hO) (gV pw_865 pw_866 pw_867 pw_32 pw_862) hV_Jx4a65c_add_72be8 qr12 10 hqr13 rfl rfl rfl (Nat.le_of_ble_eq_true rfl) dJx4a65c_add_9ea2d_20 ⟨(by show 0 + 1 ≤ 1; omega), (by show 0 + 10 ≤ (10 + n + n / 2); omega)⟩ ⟨Nat.le_of_ble_eq_true rfl, Nat.le_of_ble_eq_true rfl⟩ (fun v11 u9 H locs hw10 hP hD hS => ?_)
    obtain ⟨w, K14⟩ := u9
    obtain ⟨hw10, h15, h16, h17, hO⟩ := hw10
    have h15 : LsC G K14 q0 es (n + 1) (upQ it n x9) 10 := h15
    have h16 : AdQ K3 K14 q0 := h16
    have h17 : N6 K3 K14 := h17
    obtain rfl : v11 = none := hw10
    have hO : OKP G h0 a F R Z B J K14 w := hO.to rfl
    refine W.widen (k := 1) (n := 10) (by show 0 + 1 ≤ 1; omega) (by show 0 + 10 ≤ 10; omega) ?_
    refine W.eq (g2 := F0 m 23 ls []) rfl ?_
    refine lv_iconst (v := 1) hx hb dJx4a65c_add_9ea2d_23 (by decide) ?_
    refine W_size (fun hz1 hz2 => ?_)
    refine vx_ret ?_
    have hz18 : LsC G K14 q0 es (n + 1) (upQ it n x9) (cap + 10) := (by rw [hcp]; exact h15)
    have hz19 : AdQ K K14 q0 := (AdQ.trans (by rw [hK4]; exact AdQ.i) h16)
    have hz20 : N6 K K14 := (by have z := h17; rw [hK4] at z; exact z)
    have hz21 : cap + 10 ≤ 10 + 2 * (n + 1) := (by omega)
    have hz22 : 10 ≤ 10 + n / 2 := (by omega)
    have hO : OKP G h0 a F R Z B J K14 w := hO.to rfl
    refine W.widen (k := 1) (n := (10 + n + n / 2)) (by omega) (by omega) ?_
    have hzz1 : H.size ≤ s.heap.size + (1) := (by have z : 1 ≤ 1 := (by omega); omega)
    have hzz2 : hSl H ≤ hSl s.heap + ((4 * 10)) := (by have z : 10 ≤ (4 * 10) := (by omega); omega)
    exact W.zret (v := 1) hx hb hr rfl (fun t99 ht99 hW99 => ⟨⟨_, (w, (K14, 10)), rfl, ⟨rfl, hz18, hz19, hz20, hz21, hz22, hO⟩, by rw [ht99]; exact hP, hD, by rw [ht99]; exact hzz1, by rw [ht99]; exact hzz2⟩, hS.F ht99⟩) hS.2.2 dJx4a65c_add_9ea2d_24
  · skip
    refine lv_aload_n hx hb dJx4a65c_add_9ea2d_0 rfl (lv_at hl 0 rfl) ?_
    refine lv_dup hx hb dJx4a65c_add_9ea2d_1 rfl ?_
    refine p_get (v := .int (K.2.1 22 q0)) (C := RJx4a65c) (Tc := TJx4a65c) (N := 3) (ci := 10) hx hb hq pin_wsJx4a65c0 hown hE hP hO (by rw [hT0]; decide) (rep_5 hT0) rfl 0 (by decide) (hq _ pw_863) (fun x9 h9 => u_same (hq _ pw_864) x9 h9) rfl dJx4a65c_add_9ea2d_2 ?_
    refine lv_iconst (v := 1) hx hb dJx4a65c_add_9ea2d_5 (by decide) ?_
    refine lv_iadd hx hb dJx4a65c_add_9ea2d_6 ?_
    refine lv_topi (fun x23 e24 => ?_)
    refine p_put (v := .int x23) (ty := .int) (C := RJx4a65c) (Tc := TJx4a65c) (N := 3) (ci := 10) (K' := (kI K 22 q0 x23)) hx hb hq pin_wsJx4a65c0 tyJx4a65c tyJx4a65c_ok nmJx4a65c hown hE hP hD hS hO (by rw [hT0]; decide) (rep_5 hT0) rfl 0 (by decide) (hq _ pw_863) (fun x9 h9 => u_same (hq _ pw_864) x9 h9) rfl (by decide +kernel) rfl rfl (Nat.le_of_ble_eq_true rfl) rfl (by rw [rep_5 (show (kI K 22 q0 x23).1 q0 = 5 from hT0), pi_22] <;> rfl) (fun p9 hp9 => rep_kI hp9) dJx4a65c_add_9ea2d_7 (fun H locs w hP hD hS hO => ?_)
    obtain ⟨K25, hK26⟩ : ∃ z : PK, z = (kI K 22 q0 x23) := ⟨_, rfl⟩
    rw [← hK26] at hO
    have hf27 : K25.1 q0 = 5 := (by rw [hK26]; exact hT0)
    have hf28 : K25.2.1 23 q0 = (nI n) := (by rw [hK26]; exact (kI_of (by decide)).trans hsz0)
    have hf29 : K25.2.2.1 13 q0 = some e9 := (by rw [hK26]; exact hem)
    have hf30 : K25.2.1 22 q0 = x23 := by rw [hK26]; exact kI_eq
    refine lv_aload_n hx hb dJx4a65c_add_9ea2d_10 rfl (lv_at hl 0 rfl) ?_
    refine lv_aload_n hx hb dJx4a65c_add_9ea2d_11 rfl (lv_at hl 1 rfl) ?_
    refine lv_aload_n hx hb dJx4a65c_add_9ea2d_12 rfl (lv_at hl 0 rfl) ?_
    refine p_get (v := .ref e9) (C := RJx4a65c) (Tc := TJx4a65c) (N := 3) (ci := 10) hx hb hq pin_wsJx4a65c0 hown hE hP hO (by rw [hf27]; decide) (rep_5 hf27) rfl 1 (by decide) (hq _ pw_24) (fun _ h9 => h9) (congrArg (fun z => some (va_rf z)) hf29) dJx4a65c_add_9ea2d_13 ?_
    refine lv_aload_n hx hb dJx4a65c_add_9ea2d_16 rfl (lv_at hl 0 rfl) ?_
    refine p_get (v := .int (nI n)) (C := RJx4a65c) (Tc := TJx4a65c) (N := 3) (ci := 10) hx hb hq pin_wsJx4a65c0 hown hE hP hO (by rw [hf27]; decide) (rep_5 hf27) rfl 2 (by decide) (hq _ pw_17) (fun _ h9 => h9) (congrArg (fun z => some (Value.int z)) hf28) dJx4a65c_add_9ea2d_17 ?_
    have hlsm : LsI G K25 q0 es n it := by rw [hK26]; exact hls.ls.mod (by decide)
    have hO : OKP G h0 a F R Z B J K25 w := hO.to rfl
    obtain ⟨qr34, hqr35⟩ := p_recv hO (by rw [hf27]; decide) (rep_5 hf27)
    refine pc_V0 (G := G) (As := [.ref x9, .ref e9, .int (nI n)]) (rest := []) hx hb hml hown hq hE hX pX0_al hP hD hS hA hl.1 (L_add3N l G h0 a F R Z B J K25 w q0 es n it x9 e9 hlsm hes (by rw [hK26]; exact hxs) hnn (by rw [hK26]; exact hem) (by rw [hK26]; exact h69) (by rw [hK26]; exact h17) (by rw [hK26]; exact hbb) (by rw [hK26]; exact hnl) (by rw [hK26]; exact hel) hO) (gV pw_865 pw_866 pw_867 pw_32 pw_862) hV_Jx4a65c_add_72be8 qr34 10 hqr35 rfl rfl rfl (Nat.le_of_ble_eq_true rfl) dJx4a65c_add_9ea2d_20 ⟨(by show 0 + 0 ≤ 1; omega), (by show 0 + 0 ≤ (10 + n + n / 2); omega)⟩ ⟨Nat.le_of_ble_eq_true rfl, Nat.le_of_ble_eq_true rfl⟩ (fun v33 u31 H locs hw32 hP hD hS => ?_)
    obtain ⟨w, K36⟩ := u31
    obtain ⟨hw32, h37, h38, h39, hO⟩ := hw32
    have h37 : LsC G K36 q0 es (n + 1) (upQ it n x9) (K25.2.2.2.2.2 e9) := h37
    have h38 : AdQ K25 K36 q0 := h38
    have h39 : N6 K25 K36 := h39
    obtain rfl : v33 = none := hw32
    have hO : OKP G h0 a F R Z B J K36 w := hO.to rfl
    refine W.widen (k := 0) (n := 0) (Nat.le_of_ble_eq_true rfl) (Nat.le_of_ble_eq_true rfl) ?_
    refine W.eq (g2 := F0 m 23 ls []) rfl ?_
    refine lv_iconst (v := 1) hx hb dJx4a65c_add_9ea2d_23 (by decide) ?_
    refine W_size (fun hz1 hz2 => ?_)
    refine vx_ret ?_
    have hz40 : LsC G K36 q0 es (n + 1) (upQ it n x9) (cap + 0) := (by rw [← hcp]; have z := h37; rw [hK26] at z; exact z)
    have hz41 : AdQ K K36 q0 := (AdQ.trans (by rw [hK26]; exact AdQ.i) h38)
    have hz42 : N6 K K36 := (by have z := h39; rw [hK26] at z; exact z)
    have hz43 : cap + 0 ≤ 10 + 2 * (n + 1) := (by omega)
    have hz44 : 0 ≤ 10 + n / 2 := (by omega)
    have hO : OKP G h0 a F R Z B J K36 w := hO.to rfl
    refine W.widen (k := 1) (n := (10 + n + n / 2)) (by omega) (by omega) ?_
    have hzz1 : H.size ≤ s.heap.size + (1) := (by have z : 0 ≤ 1 := (by omega); omega)
    have hzz2 : hSl H ≤ hSl s.heap + ((4 * 0)) := (by have z : 0 ≤ (4 * 0) := (by omega); omega)
    exact W.zret (v := 1) hx hb hr rfl (fun t99 ht99 hW99 => ⟨⟨_, (w, (K36, 0)), rfl, ⟨rfl, hz40, hz41, hz42, hz43, hz44, hO⟩, by rw [ht99]; exact hP, hD, by rw [ht99]; exact hzz1, by rw [ht99]; exact hzz2⟩, hS.F ht99⟩) hS.2.2 dJx4a65c_add_9ea2d_24
  · skip
    refine lv_aload_n hx hb dJx4a65c_add_9ea2d_0 rfl (lv_at hl 0 rfl) ?_
    refine lv_dup hx hb dJx4a65c_add_9ea2d_1 rfl ?_
    refine p_get (v := .int (K.2.1 22 q0)) (C := RJx4a65c) (Tc := TJx4a65c) (N := 3) (ci := 10) hx hb hq pin_wsJx4a65c0 hown hE hP hO (by rw [hT0]; decide) (rep_5 hT0) rfl 0 (by decide) (hq _ pw_863) (fun x9 h9 => u_same (hq _ pw_864) x9 h9) rfl dJx4a65c_add_9ea2d_2 ?_
    refine lv_iconst (v := 1) hx hb dJx4a65c_add_9ea2d_5 (by decide) ?_
    refine lv_iadd hx hb dJx4a65c_add_9ea2d_6 ?_
    refine lv_topi (fun x45 e46 => ?_)
    refine p_put (v := .int x45) (ty := .int) (C := RJx4a65c) (Tc := TJx4a65c) (N := 3) (ci := 10) (K' := (kI K 22 q0 x45)) hx hb hq pin_wsJx4a65c0 tyJx4a65c tyJx4a65c_ok nmJx4a65c hown hE hP hD hS hO (by rw [hT0]; decide) (rep_5 hT0) rfl 0 (by decide) (hq _ pw_863) (fun x9 h9 => u_same (hq _ pw_864) x9 h9) rfl (by decide +kernel) rfl rfl (Nat.le_of_ble_eq_true rfl) rfl (by rw [rep_5 (show (kI K 22 q0 x45).1 q0 = 5 from hT0), pi_22] <;> rfl) (fun p9 hp9 => rep_kI hp9) dJx4a65c_add_9ea2d_7 (fun H locs w hP hD hS hO => ?_)
    obtain ⟨K47, hK48⟩ : ∃ z : PK, z = (kI K 22 q0 x45) := ⟨_, rfl⟩
    rw [← hK48] at hO
    have hf49 : K47.1 q0 = 5 := (by rw [hK48]; exact hT0)
    have hf50 : K47.2.1 23 q0 = (nI n) := (by rw [hK48]; exact (kI_of (by decide)).trans hsz0)
    have hf51 : K47.2.2.1 13 q0 = some e9 := (by rw [hK48]; exact hem)
    have hf52 : K47.2.1 22 q0 = x45 := by rw [hK48]; exact kI_eq
    refine lv_aload_n hx hb dJx4a65c_add_9ea2d_10 rfl (lv_at hl 0 rfl) ?_
    refine lv_aload_n hx hb dJx4a65c_add_9ea2d_11 rfl (lv_at hl 1 rfl) ?_
    refine lv_aload_n hx hb dJx4a65c_add_9ea2d_12 rfl (lv_at hl 0 rfl) ?_
    refine p_get (v := .ref e9) (C := RJx4a65c) (Tc := TJx4a65c) (N := 3) (ci := 10) hx hb hq pin_wsJx4a65c0 hown hE hP hO (by rw [hf49]; decide) (rep_5 hf49) rfl 1 (by decide) (hq _ pw_24) (fun _ h9 => h9) (congrArg (fun z => some (va_rf z)) hf51) dJx4a65c_add_9ea2d_13 ?_
    refine lv_aload_n hx hb dJx4a65c_add_9ea2d_16 rfl (lv_at hl 0 rfl) ?_
    refine p_get (v := .int (nI n)) (C := RJx4a65c) (Tc := TJx4a65c) (N := 3) (ci := 10) hx hb hq pin_wsJx4a65c0 hown hE hP hO (by rw [hf49]; decide) (rep_5 hf49) rfl 2 (by decide) (hq _ pw_17) (fun _ h9 => h9) (congrArg (fun z => some (Value.int z)) hf50) dJx4a65c_add_9ea2d_17 ?_
    have hlsm : LsI G K47 q0 es n it := by rw [hK48]; exact hls.ls.mod (by decide)
    have hO : OKP G h0 a F R Z B J K47 w := hO.to rfl
    obtain ⟨qr56, hqr57⟩ := p_recv hO (by rw [hf49]; decide) (rep_5 hf49)
    refine pc_V0 (G := G) (As := [.ref x9, .ref e9, .int (nI n)]) (rest := []) hx hb hml hown hq hE hX pX0_al hP hD hS hA hl.1 (L_add3F l G h0 a F R Z B J K47 w q0 es n it x9 e9 hlsm hes (by rw [hK48]; exact hxs) hnn (by rw [hK48]; exact hem) (by rw [hK48]; exact hn9) (by omega) hO) (gV pw_865 pw_866 pw_867 pw_32 pw_862) hV_Jx4a65c_add_72be8 qr56 10 hqr57 rfl rfl rfl (Nat.le_of_ble_eq_true rfl) dJx4a65c_add_9ea2d_20 ⟨(by show 0 + 1 ≤ 1; omega), (by show 0 + (n + n / 2) ≤ (10 + n + n / 2); omega)⟩ ⟨Nat.le_of_ble_eq_true rfl, Nat.le_of_ble_eq_true rfl⟩ (fun v55 u53 H locs hw54 hP hD hS => ?_)
    obtain ⟨w, K58⟩ := u53
    obtain ⟨hw54, h59, h60, h61, hO⟩ := hw54
    have h59 : LsC G K58 q0 es (n + 1) (upQ it n x9) (n + n / 2) := h59
    have h60 : AdQ K47 K58 q0 := h60
    have h61 : N6 K47 K58 := h61
    obtain rfl : v55 = none := hw54
    have hO : OKP G h0 a F R Z B J K58 w := hO.to rfl
    refine W.widen (k := 1) (n := (n + n / 2)) (by show 0 + 1 ≤ 1; omega) (by show 0 + (n + n / 2) ≤ (n + n / 2); omega) ?_
    refine W.eq (g2 := F0 m 23 ls []) rfl ?_
    refine lv_iconst (v := 1) hx hb dJx4a65c_add_9ea2d_23 (by decide) ?_
    refine W_size (fun hz1 hz2 => ?_)
    refine vx_ret ?_
    have hz62 : LsC G K58 q0 es (n + 1) (upQ it n x9) (cap + (n / 2)) := (by have z9 : cap = n := (by omega); rw [z9]; exact h59)
    have hz63 : AdQ K K58 q0 := (AdQ.trans (by rw [hK48]; exact AdQ.i) h60)
    have hz64 : N6 K K58 := (by have z := h61; rw [hK48] at z; exact z)
    have hz65 : cap + (n / 2) ≤ 10 + 2 * (n + 1) := (by omega)
    have hz66 : (n / 2) ≤ 10 + n / 2 := (by omega)
    have hO : OKP G h0 a F R Z B J K58 w := hO.to rfl
    refine W.widen (k := 1) (n := (10 + n + n / 2)) (by omega) (by omega) ?_
    have hzz1 : H.size ≤ s.heap.size + (1) := (by have z : 1 ≤ 1 := (by omega); omega)
    have hzz2 : hSl H ≤ hSl s.heap + ((4 * (n / 2))) := (by have z : (n + n / 2) ≤ (4 * (n / 2)) := (by omega); omega)
    exact W.zret (v := 1) hx hb hr rfl (fun t99 ht99 hW99 => ⟨⟨_, (w, (K58, (n / 2))), rfl, ⟨rfl, hz62, hz63, hz64, hz65, hz66, hO⟩, by rw [ht99]; exact hP, hD, by rw [ht99]; exact hzz1, by rw [ht99]; exact hzz2⟩, hS.F ht99⟩) hS.2.2 dJx4a65c_add_9ea2d_24
