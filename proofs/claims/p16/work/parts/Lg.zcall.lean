set_option maxHeartbeats 24000000 in
set_option maxRecDepth 100000 in
theorem Y_call (l : Launch) (G : pT) (h0 : Nat) (a : Nat → Nat) (F : Nat → Int32) (R : Nat → Value) (Z : Int64) (B : Nat → Nat → Int32) (J : Nat → Nat → Int64) (K : PK) (w : va_W) (pq : Nat) (dr : Nat) (ml : Nat) (nd : Nat) (nm : Nat) (cp : Nat) (it : Nat → Nat) (s9 : Nat) (q : Nat) (mq : Nat) (cs : Nat) (vr : Nat) (sz : Nat) (n : Nat) (g : Nat → Nat → Nat) (rk : Nat → Nat) (pb : PNb) (Ag : Nat → AS) (pd : Nat → Prop) (sl : Nat → Nat) (os : List Nat) (m9 : Nat) (sn : Nat) (lo : Nat) (hd : Nat) (c0 : Nat) (as9 : Int32) (okA : Prop) (hsz : sz ≤ 5000) (hwp : WPr G K g) (hps : PgT G K g (a 1) pq dr ml nd nm cp it s9) (hrk : RkO K rk) (hcs : cs ≤ 10000) (hvr : vr ≤ 30) (hng : Nng (B 18)) (hmq : K.1 mq = 3) (hqT : K.1 q = 1) (hqL : 1 ≤ g 0 q ∧ g 0 q ≤ n) (hek : EkA pb K g (B 7) (B 11) sz) (hcO : OwC K dr mq c0) (hna : NaB pb G K (B 11) dr nd sz) (hen : EnV (B 26) (B 27) nd vr hd c0 sl) (hem : okA → EmB pb B Ag pd m9 sn lo cs as9 hd sl os) (hrm : cs + 2 * tlE g q ≤ 10000) (hop : os.length + ndE g q ≤ 248) (hlf : 1 ≤ tlE g q ∧ 1 ≤ ndE g q) (hkq : K.2.1 0 q = 10) (har : ArF K g q) (hM : rS (g 2 q) + 1 ≤ rM (g 2 q) ∧ rM (g 2 q) + 1 ≤ rE (g 2 q)) (hca : ∀ x : Nat, K.2.2.1 0 q = some x → K.1 x = 1 ∧ (1 ≤ g 0 x ∧ g 0 x + 1 ≤ n) ∧ (1 ≤ tlE g x ∧ 1 ≤ ndE g x) ∧ ndE g x ≤ ndE g q ∧ tlE g x + rS (g 2 q) + 1 ≤ rM (g 2 q) ∧ InE g q x) (ihv : IhY l G n) (hO : OKP G h0 a (upd (upd (upd (upd (upd F 2 (nI sz)) 5 (nI cs)) 7 (nI hd)) 12 (nI vr)) 13 as9) (updR (updR R 2 (.ref pq)) 3 (.ref mq)) Z B J K w) (hl0 : l.stackTraces = false) : PBn l G pX0 yX0_call cX0_call 4 (some .int) ({ frames := (5 * n + 33), cells := 1, slots := 6, locals := (200 * n + 560) }) [.ref (a 4), .ref q] w (fun (v : Option Value) (u : va_W × (PK × (Nat → Nat → Int32) × Nat × Int32 × Int32 × Int32 × Nat × (Nat → AS))) => v = some (.int (nI u.2.2.2.2.2.2.2.1)) ∧ (SmW B u.2.2.1 cs) ∧ (BdE K u.2.1) ∧ (BeF K u.2.1) ∧ (BeL K u.2.1 none) ∧ (BeI K u.2.1 g q) ∧ (Bth B u.2.2.1) ∧ (BeR B u.2.2.1) ∧ (u.2.2.2.2.2.2.2.1 < 128) ∧ (cs ≤ u.2.2.2.1 ∧ u.2.2.2.1 + 2 ≤ cs + 2 * tlE g q) ∧ (AsE as9 u.2.2.2.2.1) ∧ (okA → PlQ pb B u.2.2.1 Ag u.2.2.2.2.2.2.2.2 pd m9 sn lo cs u.2.2.2.1 as9 u.2.2.2.2.1 hd sl os u.2.2.2.2.2.2.2.1 (K.2.1 0 q)) ∧ (OKP G h0 a (upd (upd (upd (upd (upd (upd (upd F 2 (nI sz)) 5 (nI u.2.2.2.1)) 7 (nI hd)) 12 (nI vr)) 13 u.2.2.2.2.1) 14 u.2.2.2.2.2.1) 15 u.2.2.2.2.2.2.1) (updR (updR R 2 (.ref pq)) 3 (.ref mq)) Z u.2.2.1 J u.2.1 u.1)) (fun u => u.1) (fun (u : va_W × (PK × (Nat → Nat → Int32) × Nat × Int32 × Int32 × Int32 × Nat × (Nat → AS))) => 0) (fun (u : va_W × (PK × (Nat → Nat → Int32) × Nat × Int32 × Int32 × Int32 × Nat × (Nat → AS))) => 0) (fun (u : va_W × (Nat → Int32) × (Nat → Value) × (Nat → Nat → Int32)) => ThQ G h0 a (upd (upd (upd (upd (upd F 2 (nI sz)) 5 (nI cs)) 7 (nI hd)) 12 (nI vr)) 13 as9) (updR (updR R 2 (.ref pq)) 3 (.ref mq)) Z B J u) (fun u => u.1) := by
  intro sz
  refine vx_ofW (cc := cX0_call) (maxL := 4) (ret := (some .int)) (by decide) rfl ?_
  intro p e s m args below meth c s₁ B9 hml hnt hv
  obtain ⟨rfl, hsz, hP, hD0, hE, hX⟩ := hv
  have hx := B9.exec
  have hb := B9.bytes
  have hr := B9.returns
  have hts := atoms_spec (ws := Cond.code yX0_call cX0_call 4 (some .int) :: pw) B9.pre
  have hq : ∀ w ∈ pw, w.before _ s = true := fun w h => hts w (List.mem_cons_of_mem _ h)
  have hown : s.vm.findClass RX0 = some m.cls := findClass_of_methodNamed B9.named
  have hlocks := B9.notSynchronized
  subst hsz
  have hD := hD0.self (sz := s.heap.size)
  have hA : ∀ q : Nat, s.heap.size ≤ q → va_A w s.heap.size q := fun q h => Or.inr h
  generalize va_A w s.heap.size = A at hD hE hA ⊢
  have hS : va_S A s.heap s.heap [] := va_S.rf
  have hl := lv_entry ([.ref (a 4), .ref q]) (n := 4) (Nat.le_of_ble_eq_true rfl)
  rw [lg_entry_eq]
  generalize (lg_sl ([.ref (a 4), .ref q]) ++ List.replicate (4 - (lg_sl ([.ref (a 4), .ref q])).length) Slot.unset).toArray = ls at hl ⊢
  have hl : lv_has ls 4 [(0, .ref (a 4)), (1, .ref q)] := hl
  have hpg := hps.1
  have hp1 := hpg.1
  have hp2 := hpg.2.1
  have hp3 := hpg.2.2.1
  have hp4 := hpg.2.2.2.1
  have hp5 := hpg.2.2.2.2.1
  have hp6 := hpg.2.2.2.2.2.1
  have hp8 := hpg.2.2.2.2.2.2.2.1
  have hp9 := hpg.2.2.2.2.2.2.2.2
  have hdr0 : ¬ K.1 dr = 0 := by rw [hp4]; decide
  have hcO9 := hcO
  obtain ⟨dO, hdO, htO, hrO, hnO⟩ := hcO9
  have hev0 : okA → EvQ pb.1 pb.2.1 pb.2.2.1 pb.2.2.2 (B 16) (B 17) (B 18) (B 19) (B 16) (B 17) (B 18) (B 19) Ag Ag pd m9 sn lo cs cs as9 as9 hd sl os := fun z => EvB.nil (hem z)
  obtain ⟨tk, htk⟩ : ∃ z : Int32, K.2.1 1 q = z := ⟨_, rfl⟩
  have htq : tlE g q = rE (g 2 q) - rS (g 2 q) := rfl
  refine lv_aload_n hx hb dX0_call_0 rfl (lv_at hl 0 rfl) ?_
  refine c_get (v := .ref mq) (C := RX0) (Tc := TX0) (N := 13) (ci := 0) hx hb hq pin_wsX00 hown hE hP hO 24 (sg_24 G h0 a _ _ _ _ _) rfl 7 (by decide) (hq _ pw_72) (fun _ h9 => h9) rfl dX0_call_1 ?_
  refine p_get (v := .ref dO) (C := RX6) (Tc := TX6) (N := 12) (ci := 12) hx hb hq pin_wsX60 hown hE hP hO (by rw [hmq]; decide) (rep_3 hmq) rfl 0 (by decide) (hq _ pw_161) (fun _ h9 => h9) (congrArg (fun z => some (va_rf z)) hdO) dX0_call_4 ?_
  refine lv_astore_n (lv' := [(2, .ref dO), (0, .ref (a 4)), (1, .ref q)]) hx hb dX0_call_7 rfl hl (by decide) rfl (fun ls hl => ?_)
  refine lv_aload_n hx hb dX0_call_8 rfl (lv_at hl 2 rfl) ?_
  rcases ho2 : K.2.2.1 0 q with _ | o1
  · skip
    refine p_get (v := .null) (C := RX7) (Tc := TX7) (N := 11) (ci := 13) hx hb hq pin_wsX70 hown hE hP hO (by rw [hqT]; decide) (rep_1 hqT) rfl 6 (by decide) (hq _ pw_180) (fun _ h9 => h9) (congrArg (fun z => some (va_rf z)) ho2) dX0_call_9 ?_
    refine lv_ifnonnullN hx hb dX0_call_12 ?_
    refine lv_aload_n hx hb dX0_call_15 rfl (lv_at hl 1 rfl) ?_
    refine c_get (v := .ref (a 2)) (C := RX0) (Tc := TX0) (N := 13) (ci := 0) hx hb hq pin_wsX00 hown hE hP hO 24 (sg_24 G h0 a _ _ _ _ _) rfl 1 (by decide) (hq _ pw_5) (fun _ h9 => h9) rfl dX0_call_16 ?_
    refine lv_iconst (v := 2) hx hb dX0_call_19 (by decide) ?_
    refine lv_iconst (v := 0) hx hb dX0_call_20 (by decide) ?_
    refine lv_iconst (v := 0) hx hb dX0_call_21 (by decide) ?_
    have hO : OKW G h0 a (upd (upd (upd (upd (upd (upd (upd F 2 (nI sz)) 5 (nI cs)) 7 (nI hd)) 12 (nI vr)) 13 as9) 5 (nI cs)) 7 (nI hd)) (updR (updR R 2 (.ref pq)) 3 (.ref mq)) Z B J K.1 (fun q99 x99 => x99 = rep G a K q99) w := hO.to rfl
    obtain ⟨_, qr6, hqr7⟩ := hO.2.1 13 _ (sg_13 G h0 a _ _ _ _ _)
    refine pc_V0 (G := G) (As := [.int 2, .int 0, .int 0]) (rest := []) hx hb hml hown hq hE hX pX0_al hP hD hS hA hl.1 (Y_emit l G h0 a (upd (upd (upd (upd (upd F 2 (nI sz)) 5 (nI cs)) 7 (nI hd)) 12 (nI vr)) 13 as9) (updR (updR R 2 (.ref pq)) 3 (.ref mq)) Z B J K.1 (fun q99 x99 => x99 = rep G a K q99) w 2 0 0 cs hd (by omega) hO) (gV pw_129 pw_130 pw_131 pw_70 pw_115) hV_X1_emit qr6 1 hqr7 rfl rfl rfl (Nat.le_of_ble_eq_true rfl) dX0_call_22 ⟨(by show 0 + 0 ≤ 1; omega), (by show 0 + 0 ≤ 6; omega)⟩ ⟨(by show 2 + 1 ≤ (5 * n + 33); omega), (by show 8 + (4 + 11) + 60 ≤ (200 * n + 560); omega)⟩ (fun v5 u3 H locs hw4 hP hD hS => ?_)
    obtain ⟨w, _⟩ := u3
    obtain ⟨hw4, hO⟩ := hw4
    obtain rfl : v5 = none := hw4
    have hO : OKP G h0 a (upd (upd (upd (upd (upd F 2 (nI sz)) 5 (nI (cs + 1))) 7 (nI hd)) 12 (nI vr)) 13 as9) (updR (updR R 2 (.ref pq)) 3 (.ref mq)) Z (updA (updA (updA (updA B 16 (upd ((B 16)) cs 2)) 17 (upd ((B 17)) cs 0)) 18 (upd ((B 18)) cs 0)) 19 (upd ((B 19)) cs (nI hd))) J K w := hO.to rfl
    refine W.widen (k := 0) (n := 0) (Nat.le_of_ble_eq_true rfl) (Nat.le_of_ble_eq_true rfl) ?_
    refine W.eq (g2 := F0 m 25 ls []) rfl ?_
    have hsw8 : ∀ x9 : Nat, x9 < cs → (upd ((B 16)) cs 2) x9 = B 16 x9 := fun x9 hx9 => (if_neg (by omega)).trans ((fun _ _ => rfl) x9 hx9)
    have hsw9 : ∀ x9 : Nat, x9 < cs → (upd ((B 17)) cs 0) x9 = B 17 x9 := fun x9 hx9 => (if_neg (by omega)).trans ((fun _ _ => rfl) x9 hx9)
    have hsw10 : ∀ x9 : Nat, x9 < cs → (upd ((B 18)) cs 0) x9 = B 18 x9 := fun x9 hx9 => (if_neg (by omega)).trans ((fun _ _ => rfl) x9 hx9)
    have hsw11 : ∀ x9 : Nat, x9 < cs → (upd ((B 19)) cs (nI hd)) x9 = B 19 x9 := fun x9 hx9 => (if_neg (by omega)).trans ((fun _ _ => rfl) x9 hx9)
    obtain ⟨Ag12, hev13⟩ : ∃ A5 : Nat → AS, okA → EvQ pb.1 pb.2.1 pb.2.2.1 pb.2.2.2 (B 16) (B 17) (B 18) (B 19) (upd ((B 16)) cs 2) (upd ((B 17)) cs 0) (upd ((B 18)) cs 0) (upd ((B 19)) cs (nI hd)) Ag A5 pd m9 sn lo cs (cs + 1) as9 as9 hd sl (c0 :: os) := ⟨(upS Ag (cs + 1) (rcA as9, hd, sl, (c0 :: os))), fun z => (hev0 z).trans (EmS.load0 (hev0 z).1 (by show os.length ≤ 248; omega) hen.1.2.1 (Nat.lt_of_lt_of_le Nat.zero_lt_one hen.1.1) (by have z9 := hen.1.2.2; have z8 := hna.1.1; omega))⟩
    have hng9 : Nng (upd ((B 18)) cs 0) := Nng.set hng (k := 0) (by omega)
    have hng14 := hng9
    refine lv_goto (tgt := 64) hx hb dX0_call_25 (by decide) ?_
    refine lv_aload_n hx hb dX0_call_64 rfl (lv_at hl 1 rfl) ?_
    refine c_get (v := .ref (a 1)) (C := RX0) (Tc := TX0) (N := 13) (ci := 0) hx hb hq pin_wsX00 hown hE hP hO 24 (sg_24 G h0 a _ _ _ _ _) rfl 0 (by decide) (hq _ pw_4) (fun _ h9 => h9) rfl dX0_call_65 ?_
    refine lv_aload_n hx hb dX0_call_68 rfl (lv_at hl 2 rfl) ?_
    refine p_get (v := .int tk) (C := RX7) (Tc := TX7) (N := 11) (ci := 13) hx hb hq pin_wsX70 hown hE hP hO (by rw [hqT]; decide) (rep_1 hqT) rfl 1 (by decide) (hq _ pw_81) (fun _ h9 => h9) (congrArg (fun z => some (Value.int z)) htk) dX0_call_69 ?_
    have hO : OKW G h0 a (upd (upd (upd (upd (upd (upd F 2 (nI sz)) 5 (nI (cs + 1))) 7 (nI hd)) 12 (nI vr)) 13 as9) 2 (nI sz)) (updR (updR R 2 (.ref pq)) 3 (.ref mq)) Z (updA (updA (updA (updA B 16 (upd ((B 16)) cs 2)) 17 (upd ((B 17)) cs 0)) 18 (upd ((B 18)) cs 0)) 19 (upd ((B 19)) cs (nI hd))) J K.1 (fun q99 x99 => x99 = rep G a K q99) w := hO.to rfl
    obtain ⟨_, qr18, hqr19⟩ := hO.2.1 2 _ (sg_2 G h0 a _ _ _ _ _)
    refine pc_V0 (G := G) (As := [.int tk]) (rest := []) hx hb hml hown hq hE hX pX0_al hP hD hS hA hl.1 (Y_valueAt l G h0 a (upd (upd (upd (upd (upd F 2 (nI sz)) 5 (nI (cs + 1))) 7 (nI hd)) 12 (nI vr)) 13 as9) (updR (updR R 2 (.ref pq)) 3 (.ref mq)) Z (updA (updA (updA (updA B 16 (upd ((B 16)) cs 2)) 17 (upd ((B 17)) cs 0)) 18 (upd ((B 18)) cs 0)) 19 (upd ((B 19)) cs (nI hd))) J K.1 (fun q99 x99 => x99 = rep G a K q99) w tk sz (by omega) hO) (gV pw_56 pw_57 pw_58 pw_59 pw_39) hV_X10_valueAt qr18 7 hqr19 rfl rfl rfl (Nat.le_of_ble_eq_true rfl) dX0_call_72 ⟨(by show 0 + 0 ≤ 1; omega), (by show 0 + 0 ≤ 6; omega)⟩ ⟨(by show 2 + 1 ≤ (5 * n + 33); omega), (by show 8 + (2 + 11) + 60 ≤ (200 * n + 560); omega)⟩ (fun v17 u15 H locs hw16 hP hD hS => ?_)
    obtain ⟨w, _⟩ := u15
    obtain ⟨hw16, hO⟩ := hw16
    obtain rfl : v17 = some (.int (tkN ((B 9)) sz (-1) tk)) := hw16
    have hO : OKP G h0 a (upd (upd (upd (upd (upd F 2 (nI sz)) 5 (nI (cs + 1))) 7 (nI hd)) 12 (nI vr)) 13 as9) (updR (updR R 2 (.ref pq)) 3 (.ref mq)) Z (updA (updA (updA (updA B 16 (upd ((B 16)) cs 2)) 17 (upd ((B 17)) cs 0)) 18 (upd ((B 18)) cs 0)) 19 (upd ((B 19)) cs (nI hd))) J K w := hO.to rfl
    refine W.widen (k := 0) (n := 0) (Nat.le_of_ble_eq_true rfl) (Nat.le_of_ble_eq_true rfl) ?_
    refine W.eq (g2 := F0 m 75 ls [.int (tkN ((B 9)) sz (-1) tk)]) rfl ?_
    refine lv_istore_n (lv' := [(3, .int (tkN ((B 9)) sz (-1) tk)), (2, .ref dO), (0, .ref (a 4)), (1, .ref q)]) hx hb dX0_call_75 rfl hl (by decide) rfl (fun ls hl => ?_)
    refine lv_aload_n hx hb dX0_call_76 rfl (lv_at hl 2 rfl) ?_
    refine lv_aload_n hx hb dX0_call_77 rfl (lv_at hl 3 rfl) ?_
    refine lv_aload_n hx hb dX0_call_78 rfl (lv_at hl 1 rfl) ?_
    refine lv_ifnonnull (tgt := 86) hx hb dX0_call_79 (by decide) ?_
    refine lv_aload_n hx hb dX0_call_86 rfl (lv_at hl 1 rfl) ?_
    refine lv_iload_n hx hb dX0_call_87 rfl (lv_at hl 0 rfl) ?_
    have hnab := (NaB.be BdE.rfl BeF.rfl hwp hps.2.1 hdr0 ((BeR.up (k := 19) (f := (upd ((B 19)) cs (nI hd))) (BeR.up (k := 18) (f := (upd ((B 18)) cs 0)) (BeR.up (k := 17) (f := (upd ((B 17)) cs 0)) (BeR.up (k := 16) (f := (upd ((B 16)) cs 2)) BeR.rfl (by omega)) (by omega)) (by omega)) (by omega)) 11 (by decide)) hna)
    obtain ⟨lq, nl, cp9, itl, hlq, hlc, hnl, hkn⟩ := (hnab.2 c0 dO hen.1.2.2 (by rw [(BdE.T9 BdE.rfl hdr0)]; exact hrO)).2.1
    have hO : OKP G h0 a (upd (upd (upd (upd (upd F 2 (nI sz)) 5 (nI (cs + 1))) 7 (nI hd)) 12 (nI vr)) 13 as9) (updR (updR R 2 (.ref pq)) 3 (.ref mq)) Z (updA (updA (updA (updA B 16 (upd ((B 16)) cs 2)) 17 (upd ((B 17)) cs 0)) 18 (upd ((B 18)) cs 0)) 19 (upd ((B 19)) cs (nI hd))) J K w := hO.to rfl
    obtain ⟨qr23, hqr24⟩ := p_recv hO (by rw [htO]; decide) (rep_4 htO)
    refine pc_V0 (G := G) (As := [.int (tkN ((B 9)) sz (-1) tk)]) (rest := [.ref q, .ref (a 4)]) hx hb hml hown hq hE hX pX0_al hP hD hS hA hl.1 (Y_methodOf l G h0 a (upd (upd (upd (upd (upd F 2 (nI sz)) 5 (nI (cs + 1))) 7 (nI hd)) 12 (nI vr)) 13 as9) (updR (updR R 2 (.ref pq)) 3 (.ref mq)) Z (updA (updA (updA (updA B 16 (upd ((B 16)) cs 2)) 17 (upd ((B 17)) cs 0)) 18 (upd ((B 18)) cs 0)) 19 (upd ((B 19)) cs (nI hd))) J K w dO lq nl cp9 itl (tkN ((B 9)) sz (-1) tk) htO hlq hlc hnl hO) (gV pw_184 pw_185 pw_186 pw_146 pw_125) hV_X2_methodOf qr23 2 hqr24 rfl rfl rfl (Nat.le_of_ble_eq_true rfl) dX0_call_88 ⟨(by show 0 + 0 ≤ 1; omega), (by show 0 + 0 ≤ 6; omega)⟩ ⟨(by show 5 + 1 ≤ (5 * n + 33); omega), (by show 8 + (3 + 11) + 124 ≤ (200 * n + 560); omega)⟩ (fun v22 u20 H locs hw21 hP hD hS => ?_)
    obtain ⟨w, o25⟩ := u20
    obtain ⟨hw21, h26, hO⟩ := hw21
    have h26 : ∀ d : Nat, o25 = some d → ∃ i9 : Nat, i9 < nl ∧ itl i9 = d ∧ K.2.1 6 d = (tkN ((B 9)) sz (-1) tk) := h26
    obtain rfl : v22 = some ((va_rf o25)) := hw21
    have hO : OKP G h0 a (upd (upd (upd (upd (upd F 2 (nI sz)) 5 (nI (cs + 1))) 7 (nI hd)) 12 (nI vr)) 13 as9) (updR (updR R 2 (.ref pq)) 3 (.ref mq)) Z (updA (updA (updA (updA B 16 (upd ((B 16)) cs 2)) 17 (upd ((B 17)) cs 0)) 18 (upd ((B 18)) cs 0)) 19 (upd ((B 19)) cs (nI hd))) J K w := hO.to rfl
    refine W.widen (k := 0) (n := 0) (Nat.le_of_ble_eq_true rfl) (Nat.le_of_ble_eq_true rfl) ?_
    refine W.eq (g2 := F0 m 91 ls [(va_rf o25), .ref q, .ref (a 4)]) rfl ?_
    rcases o25 with _ | d27
    · have hl : lv_has ls 4 [(3, .int (tkN ((B 9)) sz (-1) tk)), (2, .ref dO), (0, .ref (a 4)), (1, .ref q)] := hl
      refine W.eq (g2 := F0 m 91 ls [.null, .ref q, .ref (a 4)]) rfl ?_
      refine lv_bipush (v := 23) hx hb dX0_call_91 (by decide) ?_
      refine lv_iload_n hx hb dX0_call_93 rfl (lv_at hl 0 rfl) ?_
      have hO : OKP G h0 a (upd (upd (upd (upd (upd (upd (upd F 2 (nI sz)) 5 (nI cs)) 7 (nI hd)) 12 (nI vr)) 13 as9) 5 (nI (cs + 1))) 2 (nI sz)) (updR (updR R 2 (.ref pq)) 3 (.ref mq)) Z (updA (updA (updA (updA B 16 (upd ((B 16)) cs 2)) 17 (upd ((B 17)) cs 0)) 18 (upd ((B 18)) cs 0)) 19 (upd ((B 19)) cs (nI hd))) J K w := hO.to rfl
      obtain ⟨_, qr31, hqr32⟩ := hO.2.1 24 _ (sg_24 G h0 a _ _ _ _ _)
      refine pn_V0 (G := G) (As := [.ref q, .null, .int 23, .int (tkN ((B 9)) sz (-1) tk)]) (rest := []) hx hb hml hown hq hE hX pX0_al hP hD hS hA hl.1 (B_argumentsN l G h0 a (upd (upd (upd (upd (upd (upd F 2 (nI sz)) 5 (nI cs)) 7 (nI hd)) 12 (nI vr)) 13 as9) 5 (nI (cs + 1))) (updR (updR R 2 (.ref pq)) 3 (.ref mq)) Z (updA (updA (updA (updA B 16 (upd ((B 16)) cs 2)) 17 (upd ((B 17)) cs 0)) 18 (upd ((B 18)) cs 0)) 19 (upd ((B 19)) cs (nI hd))) J K w q sz 23 (tkN ((B 9)) sz (-1) tk) (by omega) hqT hO hl0) (gV pw_187 pw_188 pw_189 pw_63 pw_270) hV_X0_arguments qr31 0 hqr32 rfl rfl rfl (Nat.le_of_ble_eq_true rfl) dX0_call_94 ⟨(by show 0 + 1 ≤ 1; omega), (by show 0 + 6 ≤ 6; omega)⟩ ⟨(by show 7 + 1 ≤ (5 * n + 33); omega), (by show 8 + (7 + 11) + 122 ≤ (200 * n + 560); omega)⟩ (fun v30 u28 H locs hw29 hP hD hS => hw29.elim) (fun ux ce9 q9 H9 locs9 hux hP9 hD9 hS9 hce hcv hcl => pb_out ux (ThQ.up (Thx.same (Thx.b (Thx.b8 (Thx.b (Thx.b (Thx.f Thx.rfl (by omega)) (by omega) (by decide)) (by omega) (by decide)) hng14) (by omega) (by decide)) rfl) RhX.rfl hux) hnt hlocks hce hcv hcl hP9 hD9 hS9 (by show 0 + 1 ≤ 1; omega) (by show 0 + 6 ≤ 6; omega))
    · have hl : lv_has ls 4 [(3, .int (tkN ((B 9)) sz (-1) tk)), (2, .ref dO), (0, .ref (a 4)), (1, .ref q)] := hl
      refine W.eq (g2 := F0 m 91 ls [.ref d27, .ref q, .ref (a 4)]) rfl ?_
      obtain ⟨i9, hi9, hd9, hn9⟩ := h26 d27 rfl
      have hmo := hkn i9 hi9
      rw [hd9] at hmo
      obtain ⟨hm3, lp, np, cpp, rt, itp, a1, a2, a3, a4, a5, a6⟩ := hmo
      have hc60 : c0 < 60 := by have z9 := hna.1.1; have z8 := (show c0 < nd from hen.1.2.2); omega
      have hcf := MeO.caf (G := G) (nd := nd) (ty := (B 11)) (sz := sz) hc60 a6 hn9
      refine lv_bipush (v := 23) hx hb dX0_call_91 (by decide) ?_
      refine lv_iload_n hx hb dX0_call_93 rfl (lv_at hl 0 rfl) ?_
      have hO : OKP G h0 a (upd (upd (upd (upd (upd (upd (upd (upd (upd (upd (upd F 2 (nI sz)) 5 (nI cs)) 7 (nI hd)) 12 (nI vr)) 13 as9) 5 (nI (cs + 1))) 2 (nI sz)) 5 (nI (cs + 1))) 7 (nI hd)) 12 (nI vr)) 13 as9) (updR (updR (updR (updR R 2 (.ref pq)) 3 (.ref mq)) 2 (.ref pq)) 3 (.ref mq)) Z (updA (updA (updA (updA B 16 (upd ((B 16)) cs 2)) 17 (upd ((B 17)) cs 0)) 18 (upd ((B 18)) cs 0)) 19 (upd ((B 19)) cs (nI hd))) J K w := hO.to rfl
      obtain ⟨_, qr36, hqr37⟩ := hO.2.1 24 _ (sg_24 G h0 a _ _ _ _ _)
      refine pn_V0 (G := G) (As := [.ref q, .ref d27, .int 23, .int (tkN ((B 9)) sz (-1) tk)]) (rest := []) hx hb hml hown hq hE hX pX0_al hP hD hS hA hl.1 (Y_arguments l G h0 a (upd (upd (upd (upd (upd (upd F 2 (nI sz)) 5 (nI cs)) 7 (nI hd)) 12 (nI vr)) 13 as9) 5 (nI (cs + 1))) (updR (updR R 2 (.ref pq)) 3 (.ref mq)) Z (updA (updA (updA (updA B 16 (upd ((B 16)) cs 2)) 17 (upd ((B 17)) cs 0)) 18 (upd ((B 18)) cs 0)) 19 (upd ((B 19)) cs (nI hd))) J K w pq dr ml nd nm cp it s9 q mq (cs + 1) vr sz n d27 lp np cpp rt c0 itp 23 (tkN ((B 9)) sz (-1) tk) g rk pb Ag12 pd sl os m9 sn lo hd c0 as9 okA (by omega) (BdE.wp BdE.rfl hwp) (BdE.pt BdE.rfl hwp hps) (BdE.rko BdE.rfl hrk) (by omega) (by omega) hng14 hmq hqT hqL (EkA.be BdE.rfl ((BeR.up (k := 19) (f := (upd ((B 19)) cs (nI hd))) (BeR.up (k := 18) (f := (upd ((B 18)) cs 0)) (BeR.up (k := 17) (f := (upd ((B 17)) cs 0)) (BeR.up (k := 16) (f := (upd ((B 16)) cs 2)) BeR.rfl (by omega)) (by omega)) (by omega)) (by omega)) 7 (by decide)) ((BeR.up (k := 19) (f := (upd ((B 19)) cs (nI hd))) (BeR.up (k := 18) (f := (upd ((B 18)) cs 0)) (BeR.up (k := 17) (f := (upd ((B 17)) cs 0)) (BeR.up (k := 16) (f := (upd ((B 16)) cs 2)) BeR.rfl (by omega)) (by omega)) (by omega)) (by omega)) 11 (by decide)) hek) (OwC.be BdE.rfl hmq hdr0 hcO) (NaB.be BdE.rfl BeF.rfl hwp hps.2.1 hdr0 ((BeR.up (k := 19) (f := (upd ((B 19)) cs (nI hd))) (BeR.up (k := 18) (f := (upd ((B 18)) cs 0)) (BeR.up (k := 17) (f := (upd ((B 17)) cs 0)) (BeR.up (k := 16) (f := (upd ((B 16)) cs 2)) BeR.rfl (by omega)) (by omega)) (by omega)) (by omega)) 11 (by decide)) hna) (EnV.of ((BeR.up (k := 19) (f := (upd ((B 19)) cs (nI hd))) (BeR.up (k := 18) (f := (upd ((B 18)) cs 0)) (BeR.up (k := 17) (f := (upd ((B 17)) cs 0)) (BeR.up (k := 16) (f := (upd ((B 16)) cs 2)) BeR.rfl (by omega)) (by omega)) (by omega)) (by omega)) 26 (by decide)) ((BeR.up (k := 19) (f := (upd ((B 19)) cs (nI hd))) (BeR.up (k := 18) (f := (upd ((B 18)) cs 0)) (BeR.up (k := 17) (f := (upd ((B 17)) cs 0)) (BeR.up (k := 16) (f := (upd ((B 16)) cs 2)) BeR.rfl (by omega)) (by omega)) (by omega)) (by omega)) 27 (by decide)) hen) (fun z => (hev13 z).1) (by omega) hop hlf hm3 a1 a2 a3 a4 a5 hcf (ArF.be BdE.rfl hqT har) ⟨hM.2, by omega⟩ ihv hO hl0) (gV pw_187 pw_188 pw_189 pw_63 pw_270) hV_X0_arguments qr36 0 hqr37 rfl rfl rfl (Nat.le_of_ble_eq_true rfl) dX0_call_94 ⟨(by show 0 + 1 ≤ 1; omega), (by show 0 + 6 ≤ 6; omega)⟩ ⟨(by show (5 * n + 32) + 1 ≤ (5 * n + 33); omega), (by show 8 + (7 + 11) + (200 * n + 520) ≤ (200 * n + 560); omega)⟩ (fun v35 u33 H locs hw34 hP hD hS => ?_) (fun ux ce9 q9 H9 locs9 hux hP9 hD9 hS9 hce hcv hcl => pb_out ux (ThQ.up (Thx.same (Thx.same (Thx.same (Thx.same (Thx.same (Thx.b (Thx.b8 (Thx.b (Thx.b (Thx.f Thx.rfl (by omega)) (by omega) (by decide)) (by omega) (by decide)) hng14) (by omega) (by decide)) rfl) rfl) rfl) rfl) rfl) (show RhX (updR (updR R 2 (.ref pq)) 3 (.ref mq)) (updR (updR (updR (updR R 2 (.ref pq)) 3 (.ref mq)) 2 (.ref pq)) 3 (.ref mq)) from fun k9 hk9 => by unfold updR; simp only [show ¬ k9 = 1 by omega, show ¬ k9 = 2 by omega, show ¬ k9 = 3 by omega, show ¬ k9 = 4 by omega, if_false]) hux) hnt hlocks hce hcv hcl hP9 hD9 hS9 (by show 0 + 1 ≤ 1; omega) (by show 0 + 6 ≤ 6; omega))
      obtain ⟨w, K38, B39, cs40, as41, wt42, wf43, t44, Ag45⟩ := u33
      obtain ⟨hw34, h46, h47, h48, h49, h50, h51, h52, h53, h54, h55, h56, hO⟩ := hw34
      have h46 : SmW (updA (updA (updA (updA B 16 (upd ((B 16)) cs 2)) 17 (upd ((B 17)) cs 0)) 18 (upd ((B 18)) cs 0)) 19 (upd ((B 19)) cs (nI hd))) B39 (cs + 1) := h46
      have h47 : BdE K K38 := h47
      have h48 : BeF K K38 := h48
      have h49 : BeL K K38 none := h49
      have h50 : BeI K K38 g q := h50
      have h51 : Bth (updA (updA (updA (updA B 16 (upd ((B 16)) cs 2)) 17 (upd ((B 17)) cs 0)) 18 (upd ((B 18)) cs 0)) 19 (upd ((B 19)) cs (nI hd))) B39 := h51
      have h52 : BeR (updA (updA (updA (updA B 16 (upd ((B 16)) cs 2)) 17 (upd ((B 17)) cs 0)) 18 (upd ((B 18)) cs 0)) 19 (upd ((B 19)) cs (nI hd))) B39 := h52
      have h53 : t44 < 128 := h53
      have h54 : (cs + 1) ≤ cs40 ∧ cs40 + 1 ≤ (cs + 1) + 2 * (rE (g 2 q) - rM (g 2 q)) := h54
      have h55 : AsE as9 as41 := h55
      have h56 : okA → EvB pb (updA (updA (updA (updA B 16 (upd ((B 16)) cs 2)) 17 (upd ((B 17)) cs 0)) 18 (upd ((B 18)) cs 0)) 19 (upd ((B 19)) cs (nI hd))) B39 Ag12 Ag45 pd m9 sn lo (cs + 1) cs40 as9 as41 hd sl (rsO t44 os) ∧ (cs + 1) < cs40 := h56
      obtain rfl : v35 = some (.int (nI t44)) := hw34
      have hf57 : K38.1 pq = 7 := (BdE.T h47 hp1 (by decide))
      have hf58 : K38.2.2.1 18 pq = some (a 1) := (BdE.C h47 (by rw [hp1]; decide) 18).trans hp2
      have hf59 : K38.2.2.1 14 pq = some dr := (BdE.C h47 (by rw [hp1]; decide) 14).trans hp3
      have hf60 : K38.1 dr = 8 := (BdE.T h47 hp4 (by decide))
      have hf61 : K38.2.2.1 15 pq = some ml := (BdE.C h47 (by rw [hp1]; decide) 15).trans hp5
      have hf62 : K38.1 ml = 5 := (BdE.T h47 hp6 (by decide))
      have hf63 : K38.2.1 24 pq = (nI nd) := (BdE.I h47 (by rw [hp1]; decide) (by decide) (by decide)).trans hp8
      have hf64 : K38.1 q = 1 := (BdE.T h47 hqT (by decide))
      have hf65 : K38.1 mq = 3 := (BdE.T h47 hmq (by decide))
      have hf66 : K38.2.1 15 dO = (nI c0) := (BdE.I h47 (by rw [htO]; decide) (by decide) (by decide)).trans hnO
      have hf67 : K38.2.2.1 5 mq = some dO := (BdE.C h47 (by rw [hmq]; decide) 5).trans hdO
      have hf68 : K38.1 dO = 4 := (BdE.T h47 htO (by decide))
      have hf69 : K38.2.1 1 q = tk := (BdE.I h47 (by rw [hqT]; decide) (by decide) (by decide)).trans htk
      have hf70 : K38.2.2.1 0 q = none := (BdE.C h47 (by rw [hqT]; decide) 0).trans ho2
      have hf71 : K38.1 d27 = 3 := (BdE.T h47 hm3 (by decide))
      have hO : OKP G h0 a (upd (upd (upd (upd (upd (upd (upd F 2 (nI sz)) 5 (nI cs40)) 7 (nI hd)) 12 (nI vr)) 13 as41) 14 wt42) 15 wf43) (updR (updR R 2 (.ref pq)) 3 (.ref mq)) Z B39 J K38 w := hO.to rfl
      refine W.widen (k := 0) (n := 0) (by show 0 + 0 ≤ 0; omega) (by show 0 + 0 ≤ 0; omega) ?_
      refine W.eq (g2 := F0 m 97 ls [.int (nI t44)]) rfl ?_
      have hbe72 := BdE.trans BdE.rfl h47
      have hbb73 : Bth B B39 := Bth.trans (show Thx (upd (upd (upd (upd (upd F 2 (nI sz)) 5 (nI cs)) 7 (nI hd)) 12 (nI vr)) 13 as9) (upd (upd (upd (upd (upd (upd F 2 (nI sz)) 5 (nI cs)) 7 (nI hd)) 12 (nI vr)) 13 as9) 5 (nI (cs + 1))) B (updA (updA (updA (updA B 16 (upd ((B 16)) cs 2)) 17 (upd ((B 17)) cs 0)) 18 (upd ((B 18)) cs 0)) 19 (upd ((B 19)) cs (nI hd))) from (Thx.b (Thx.b8 (Thx.b (Thx.b (Thx.f Thx.rfl (by omega)) (by omega) (by decide)) (by omega) (by decide)) hng14) (by omega) (by decide))).2 h51
      have hng74 : Nng (B39 18) := h51.2 hng14
      have hsw75 : ∀ x9 : Nat, x9 < cs → (B39 16) x9 = B 16 x9 := fun x9 hx9 => ((h46 x9 (by omega)).1).trans (hsw8 x9 hx9)
      have hsw76 : ∀ x9 : Nat, x9 < cs → (B39 17) x9 = B 17 x9 := fun x9 hx9 => ((h46 x9 (by omega)).2.1).trans (hsw9 x9 hx9)
      have hsw77 : ∀ x9 : Nat, x9 < cs → (B39 18) x9 = B 18 x9 := fun x9 hx9 => ((h46 x9 (by omega)).2.2.1).trans (hsw10 x9 hx9)
      have hsw78 : ∀ x9 : Nat, x9 < cs → (B39 19) x9 = B 19 x9 := fun x9 hx9 => ((h46 x9 (by omega)).2.2.2).trans (hsw11 x9 hx9)
      have hbf79 := BeF.trans BeF.rfl h48 BdE.rfl
      have hbl81 := BeL.trans BeL.rfl h49 BdE.rfl
      have hbi82 := BeI.trans BeI.rfl h50 BdE.rfl InE.rfl
      have hbr80 : BeR B B39 := BeR.trans (BeR.up (k := 19) (f := (upd ((B 19)) cs (nI hd))) (BeR.up (k := 18) (f := (upd ((B 18)) cs 0)) (BeR.up (k := 17) (f := (upd ((B 17)) cs 0)) (BeR.up (k := 16) (f := (upd ((B 16)) cs 2)) BeR.rfl (by omega)) (by omega)) (by omega)) (by omega)) h52
      have has83 : AsE as9 as41 := AsE.trans AsE.rfl h55
      have hev84 : okA → EvQ pb.1 pb.2.1 pb.2.2.1 pb.2.2.2 (B 16) (B 17) (B 18) (B 19) (B39 16) (B39 17) (B39 18) (B39 19) Ag Ag45 pd m9 sn lo cs cs40 as9 as41 hd sl (rsO t44 os) := fun z => (hev13 z).trans (h56 z).1
      have hst9 := fun z => (h56 z).2
      refine W_size (fun hz1 hz2 => ?_)
      refine vx_ret ?_
      have hz85 : SmW B B39 cs := (fun x9 hx9 => ⟨hsw75 x9 hx9, hsw76 x9 hx9, hsw77 x9 hx9, hsw78 x9 hx9⟩)
      have hz86 : BdE K K38 := hbe72
      have hz87 : BeF K K38 := hbf79
      have hz88 : BeL K K38 none := hbl81
      have hz89 : BeI K K38 g q := hbi82
      have hz90 : Bth B B39 := (show Thx (upd (upd (upd (upd (upd F 2 (nI sz)) 5 (nI cs)) 7 (nI hd)) 12 (nI vr)) 13 as9) (upd (upd (upd (upd (upd (upd (upd (upd (upd F 2 (nI sz)) 5 (nI cs)) 7 (nI hd)) 12 (nI vr)) 13 as9) 5 (nI cs40)) 13 as41) 14 wt42) 15 wf43) B B39 from (Thx.f (Thx.f (Thx.f (Thx.f (Bth.thx hbb73) (by omega)) (by omega)) (by omega)) (by omega))).2
      have hz91 : BeR B B39 := hbr80
      have hz92 : t44 < 128 := (by omega)
      have hz93 : cs ≤ cs40 ∧ cs40 + 2 ≤ cs + 2 * tlE g q := (by omega)
      have hz94 : AsE as9 as41 := has83
      have hz95 : okA → PlQ pb B B39 Ag Ag45 pd m9 sn lo cs cs40 as9 as41 hd sl os t44 (K.2.1 0 q) := (fun z => Or.inr ⟨hev84 z, by have z9 := hst9 z; omega⟩)
      have hO : OKP G h0 a (upd (upd (upd (upd (upd (upd (upd F 2 (nI sz)) 5 (nI cs40)) 7 (nI hd)) 12 (nI vr)) 13 as41) 14 wt42) 15 wf43) (updR (updR R 2 (.ref pq)) 3 (.ref mq)) Z B39 J K38 w := hO.to rfl
      refine W.widen (k := 1) (n := 6) (by omega) (by omega) ?_
      have hzz1 : H.size ≤ s.heap.size + (0) := (by have z : 0 ≤ 0 := (by omega); omega)
      have hzz2 : hSl H ≤ hSl s.heap + (0) := (by have z : 0 ≤ 0 := (by omega); omega)
      exact W.iret (v := (nI t44)) hx hb hr (fun t99 ht99 hW99 => ⟨⟨_, (w, (K38, B39, cs40, as41, wt42, wf43, t44, Ag45)), rfl, ⟨rfl, hz85, hz86, hz87, hz88, hz89, hz90, hz91, hz92, hz93, hz94, hz95, hO⟩, by rw [ht99]; exact hP, hD, by rw [ht99]; exact hzz1, by rw [ht99]; exact hzz2⟩, hS.F ht99⟩) hS.2.2 dX0_call_97
  · obtain ⟨hcT, hcv, hcl, hcn, hct, hci⟩ := hca o1 ho2
    refine p_get (v := .ref o1) (C := RX7) (Tc := TX7) (N := 11) (ci := 13) hx hb hq pin_wsX70 hown hE hP hO (by rw [hqT]; decide) (rep_1 hqT) rfl 6 (by decide) (hq _ pw_180) (fun _ h9 => h9) (congrArg (fun z => some (va_rf z)) ho2) dX0_call_9 ?_
    refine lv_ifnonnull (tgt := 28) hx hb dX0_call_12 (by decide) ?_
    refine lv_aload_n hx hb dX0_call_28 rfl (lv_at hl 1 rfl) ?_
    refine c_get (v := .ref pq) (C := RX0) (Tc := TX0) (N := 13) (ci := 0) hx hb hq pin_wsX00 hown hE hP hO 24 (sg_24 G h0 a _ _ _ _ _) rfl 6 (by decide) (hq _ pw_110) (fun _ h9 => h9) rfl dX0_call_29 ?_
    refine lv_aload_n hx hb dX0_call_32 rfl (lv_at hl 1 rfl) ?_
    refine lv_aload_n hx hb dX0_call_33 rfl (lv_at hl 2 rfl) ?_
    refine p_get (v := .ref o1) (C := RX7) (Tc := TX7) (N := 11) (ci := 13) hx hb hq pin_wsX70 hown hE hP hO (by rw [hqT]; decide) (rep_1 hqT) rfl 6 (by decide) (hq _ pw_180) (fun _ h9 => h9) (congrArg (fun z => some (va_rf z)) ho2) dX0_call_34 ?_
    have hO : OKP G h0 a (upd (upd (upd (upd (upd (upd (upd (upd (upd (upd F 2 (nI sz)) 5 (nI cs)) 7 (nI hd)) 12 (nI vr)) 13 as9) 2 (nI sz)) 5 (nI cs)) 7 (nI hd)) 12 (nI vr)) 13 as9) (updR (updR (updR (updR R 2 (.ref pq)) 3 (.ref mq)) 2 (.ref pq)) 3 (.ref mq)) Z B J K w := hO.to rfl
    obtain ⟨_, qr99, hqr100⟩ := hO.2.1 24 _ (sg_24 G h0 a _ _ _ _ _)
    refine pn_V0 (G := G) (As := [.ref o1]) (rest := [.ref pq]) hx hb hml hown hq hE hX pX0_al hP hD hS hA hl.1 ((ihv (by omega)) h0 a (upd (upd (upd (upd (upd F 2 (nI sz)) 5 (nI cs)) 7 (nI hd)) 12 (nI vr)) 13 as9) (updR (updR R 2 (.ref pq)) 3 (.ref mq)) Z B J K w pq dr ml nd nm cp it s9 o1 mq cs vr sz g rk pb Ag pd sl os m9 sn lo hd c0 as9 okA (by omega) (BdE.wp BdE.rfl hwp) (BdE.pt BdE.rfl hwp hps) (BdE.rko BdE.rfl hrk) (by omega) (by omega) hng hmq hcT ⟨hcv.1, (by have z9 := hcv; omega)⟩ (EkA.be BdE.rfl (BeR.rfl 7 (by decide)) (BeR.rfl 11 (by decide)) hek) (OwC.be BdE.rfl hmq hdr0 hcO) (NaB.be BdE.rfl BeF.rfl hwp hps.2.1 hdr0 (BeR.rfl 11 (by decide)) hna) (EnV.of (BeR.rfl 26 (by decide)) (BeR.rfl 27 (by decide)) hen) (fun z => (hev0 z).1) (by omega) (by show os.length + ndE g o1 ≤ 248; omega) hcl hO hl0) (gV pw_173 pw_174 pw_175 pw_63 pw_224) hV_X0_value qr99 0 hqr100 rfl rfl rfl (Nat.le_of_ble_eq_true rfl) dX0_call_37 ⟨(by show 0 + 1 ≤ 1; omega), (by show 0 + 6 ≤ 6; omega)⟩ ⟨(by show (5 * (n - 1) + 34) + 1 ≤ (5 * n + 33); omega), (by show 8 + (3 + 11) + (200 * (n - 1) + 600) ≤ (200 * n + 560); omega)⟩ (fun v98 u96 H locs hw97 hP hD hS => ?_) (fun ux ce9 q9 H9 locs9 hux hP9 hD9 hS9 hce hcv hcl => pb_out ux (ThQ.up (Thx.same (Thx.same (Thx.same (Thx.same (Thx.same Thx.rfl rfl) rfl) rfl) rfl) rfl) (show RhX (updR (updR R 2 (.ref pq)) 3 (.ref mq)) (updR (updR (updR (updR R 2 (.ref pq)) 3 (.ref mq)) 2 (.ref pq)) 3 (.ref mq)) from fun k9 hk9 => by unfold updR; simp only [show ¬ k9 = 1 by omega, show ¬ k9 = 2 by omega, show ¬ k9 = 3 by omega, show ¬ k9 = 4 by omega, if_false]) hux) hnt hlocks hce hcv hcl hP9 hD9 hS9 (by show 0 + 1 ≤ 1; omega) (by show 0 + 6 ≤ 6; omega))
    obtain ⟨w, K101, B102, cs103, as104, wt105, wf106, t107, Ag108, u109⟩ := u96
    obtain ⟨hw97, h110, h111, h112, h113, h114, h115, h116, h117, h118, h119, h120, h121, hO⟩ := hw97
    have h110 : SmW B B102 cs := h110
    have h111 : BdE K K101 := h111
    have h112 : BeF K K101 := h112
    have h113 : BeL K K101 none := h113
    have h114 : BeI K K101 g o1 := h114
    have h115 : Bth B B102 := h115
    have h116 : BeR B B102 := h116
    have h117 : t107 < 128 := h117
    have h118 : cs ≤ cs103 ∧ cs103 + 0 ≤ cs + 2 * tlE g o1 := h118
    have h119 : AsE as9 as104 ∧ AsE as9 wt105 ∧ AsE as9 wf106 := h119
    have h120 : okA → VaQ pb B B102 Ag Ag108 pd m9 sn lo cs cs103 as9 as104 wt105 wf106 hd sl os t107 u109 (K.2.1 0 o1) := h120
    have h121 : CaK (K.2.1 0 o1) → cs103 + 2 ≤ cs + 2 * tlE g o1 := h121
    obtain rfl : v98 = some (.int (nI t107)) := hw97
    have hf122 : K101.1 pq = 7 := (BdE.T h111 hp1 (by decide))
    have hf123 : K101.2.2.1 18 pq = some (a 1) := (BdE.C h111 (by rw [hp1]; decide) 18).trans hp2
    have hf124 : K101.2.2.1 14 pq = some dr := (BdE.C h111 (by rw [hp1]; decide) 14).trans hp3
    have hf125 : K101.1 dr = 8 := (BdE.T h111 hp4 (by decide))
    have hf126 : K101.2.2.1 15 pq = some ml := (BdE.C h111 (by rw [hp1]; decide) 15).trans hp5
    have hf127 : K101.1 ml = 5 := (BdE.T h111 hp6 (by decide))
    have hf128 : K101.2.1 24 pq = (nI nd) := (BdE.I h111 (by rw [hp1]; decide) (by decide) (by decide)).trans hp8
    have hf129 : K101.1 q = 1 := (BdE.T h111 hqT (by decide))
    have hf130 : K101.1 mq = 3 := (BdE.T h111 hmq (by decide))
    have hf131 : K101.2.1 15 dO = (nI c0) := (BdE.I h111 (by rw [htO]; decide) (by decide) (by decide)).trans hnO
    have hf132 : K101.2.2.1 5 mq = some dO := (BdE.C h111 (by rw [hmq]; decide) 5).trans hdO
    have hf133 : K101.1 dO = 4 := (BdE.T h111 htO (by decide))
    have hf134 : K101.2.1 1 q = tk := (BdE.I h111 (by rw [hqT]; decide) (by decide) (by decide)).trans htk
    have hf135 : K101.2.2.1 0 q = some o1 := (BdE.C h111 (by rw [hqT]; decide) 0).trans ho2
    have hf136 : K101.1 o1 = 1 := (BdE.T h111 hcT (by decide))
    have hO : OKP G h0 a (upd (upd (upd (upd (upd (upd (upd F 2 (nI sz)) 5 (nI cs103)) 7 (nI hd)) 12 (nI vr)) 13 as104) 14 wt105) 15 wf106) (updR (updR R 2 (.ref pq)) 3 (.ref mq)) Z B102 J K101 w := hO.to rfl
    refine W.widen (k := 0) (n := 0) (by show 0 + 0 ≤ 0; omega) (by show 0 + 0 ≤ 0; omega) ?_
    refine W.eq (g2 := F0 m 40 ls [.int (nI t107), .ref pq]) rfl ?_
    have hbe137 := BdE.trans BdE.rfl h111
    have hbb138 : Bth B B102 := Bth.trans (show Thx (upd (upd (upd (upd (upd F 2 (nI sz)) 5 (nI cs)) 7 (nI hd)) 12 (nI vr)) 13 as9) (upd (upd (upd (upd (upd F 2 (nI sz)) 5 (nI cs)) 7 (nI hd)) 12 (nI vr)) 13 as9) B B from Thx.rfl).2 h115
    have hng139 : Nng (B102 18) := h115.2 hng
    have hsw140 : ∀ x9 : Nat, x9 < cs → (B102 16) x9 = B 16 x9 := fun x9 hx9 => ((h110 x9 (by omega)).1).trans ((fun _ _ => rfl) x9 hx9)
    have hsw141 : ∀ x9 : Nat, x9 < cs → (B102 17) x9 = B 17 x9 := fun x9 hx9 => ((h110 x9 (by omega)).2.1).trans ((fun _ _ => rfl) x9 hx9)
    have hsw142 : ∀ x9 : Nat, x9 < cs → (B102 18) x9 = B 18 x9 := fun x9 hx9 => ((h110 x9 (by omega)).2.2.1).trans ((fun _ _ => rfl) x9 hx9)
    have hsw143 : ∀ x9 : Nat, x9 < cs → (B102 19) x9 = B 19 x9 := fun x9 hx9 => ((h110 x9 (by omega)).2.2.2).trans ((fun _ _ => rfl) x9 hx9)
    have hbf144 := BeF.trans BeF.rfl h112 BdE.rfl
    have hbl147 := BeL.trans BeL.rfl h113 BdE.rfl
    have hbi148 := BeI.trans BeI.rfl h114 BdE.rfl hci
    have hbr145 : BeR B B102 := BeR.trans BeR.rfl h116
    have hpt146 : (okA ∧ ¬ t107 = 63) → EvQ pb.1 pb.2.1 pb.2.2.1 pb.2.2.2 (B 16) (B 17) (B 18) (B 19) (B102 16) (B102 17) (B102 18) (B102 19) Ag Ag108 pd m9 sn lo cs cs103 as9 as104 hd sl (u109 :: os) ∧ UTb u109 (nI t107) as104 wt105 wf106 := fun z => VaQ.part (B1 := B) (hev0 z.1) (h120 z.1) h117 z.2
    have hev149 := fun z => (hpt146 z).1
    have has150 : AsE as9 as104 ∧ AsE as9 wt105 ∧ AsE as9 wf106 := ⟨AsE.trans AsE.rfl h119.1, AsE.trans AsE.rfl h119.2.1, AsE.trans AsE.rfl h119.2.2⟩
    have hO : OKP G h0 a (upd (upd (upd (upd (upd (upd (upd F 2 (nI sz)) 5 (nI cs103)) 7 (nI hd)) 12 (nI vr)) 13 as104) 14 wt105) 15 wf106) (updR (updR R 2 (.ref pq)) 3 (.ref mq)) Z B102 J K101 w := hO.to rfl
    obtain ⟨qr154, hqr155⟩ := p_recv hO (by rw [hf122]; decide) (rep_7 hf122)
    refine pc_V0 (G := G) (As := [.int (nI t107)]) (rest := []) hx hb hml hown hq hE hX pX0_al hP hD hS hA hl.1 (G_decl l G h0 a (upd (upd (upd (upd (upd (upd (upd F 2 (nI sz)) 5 (nI cs103)) 7 (nI hd)) 12 (nI vr)) 13 as104) 14 wt105) 15 wf106) (updR (updR R 2 (.ref pq)) 3 (.ref mq)) Z B102 J K101 w pq dr ml nd (nI t107) g (BdE.pt hbe137 hwp hps).1 (BdE.pt hbe137 hwp hps).2.1 hO) (gV pw_181 pw_182 pw_183 pw_106 pw_13) hV_X9_decl qr154 6 hqr155 rfl rfl rfl (Nat.le_of_ble_eq_true rfl) dX0_call_40 ⟨(by show 0 + 0 ≤ 1; omega), (by show 0 + 0 ≤ 6; omega)⟩ ⟨(by show 2 + 1 ≤ (5 * n + 33); omega), (by show 8 + (2 + 11) + 60 ≤ (200 * n + 560); omega)⟩ (fun v153 u151 H locs hw152 hP hD hS => ?_)
    obtain ⟨w, o156⟩ := u151
    obtain ⟨hw152, h157, h158, hO⟩ := hw152
    have h157 : DoN K101 o156 := h157
    have h158 : DoK K101 dr nd (nI t107) o156 := h158
    obtain rfl : v153 = some ((va_rf o156)) := hw152
    have hO : OKP G h0 a (upd (upd (upd (upd (upd (upd (upd F 2 (nI sz)) 5 (nI cs103)) 7 (nI hd)) 12 (nI vr)) 13 as104) 14 wt105) 15 wf106) (updR (updR R 2 (.ref pq)) 3 (.ref mq)) Z B102 J K101 w := hO.to rfl
    refine W.widen (k := 0) (n := 0) (Nat.le_of_ble_eq_true rfl) (Nat.le_of_ble_eq_true rfl) ?_
    refine W.eq (g2 := F0 m 43 ls [(va_rf o156)]) rfl ?_
    rcases o156 with _ | d159
    · have hl : lv_has ls 4 [(2, .ref dO), (0, .ref (a 4)), (1, .ref q)] := hl
      refine W.eq (g2 := F0 m 43 ls [.null]) rfl ?_
      refine lv_astore_nN (lv' := [(2, .null), (0, .ref (a 4)), (1, .ref q)]) hx hb dX0_call_43 rfl hl (by decide) rfl (fun ls hl => ?_)
      refine lv_aload_nN hx hb dX0_call_44 rfl (lv_at hl 0 rfl) ?_
      refine lv_ifnonnullN hx hb dX0_call_45 ?_
      refine lv_aload_n hx hb dX0_call_48 rfl (lv_at hl 1 rfl) ?_
      refine c_get (v := .ref (a 1)) (C := RX0) (Tc := TX0) (N := 13) (ci := 0) hx hb hq pin_wsX00 hown hE hP hO 24 (sg_24 G h0 a _ _ _ _ _) rfl 0 (by decide) (hq _ pw_4) (fun _ h9 => h9) rfl dX0_call_49 ?_
      refine lv_bipush (v := 11) hx hb dX0_call_52 (by decide) ?_
      refine lv_aload_n hx hb dX0_call_54 rfl (lv_at hl 2 rfl) ?_
      refine p_get (v := .ref o1) (C := RX7) (Tc := TX7) (N := 11) (ci := 13) hx hb hq pin_wsX70 hown hE hP hO (by rw [hf129]; decide) (rep_1 hf129) rfl 6 (by decide) (hq _ pw_180) (fun _ h9 => h9) (congrArg (fun z => some (va_rf z)) hf135) dX0_call_55 ?_
      refine p_get (v := .int (K101.2.1 2 o1)) (C := RX7) (Tc := TX7) (N := 11) (ci := 13) hx hb hq pin_wsX70 hown hE hP hO (by rw [hf136]; decide) (rep_1 hf136) rfl 2 (by decide) (hq _ pw_82) (fun _ h9 => h9) rfl dX0_call_58 ?_
      have hO : OKW G h0 a (upd (upd (upd (upd (upd (upd (upd (upd (upd (upd F 2 (nI sz)) 5 (nI cs)) 7 (nI hd)) 12 (nI vr)) 13 as9) 5 (nI cs103)) 13 as104) 14 wt105) 15 wf106) 2 (nI sz)) (updR (updR R 2 (.ref pq)) 3 (.ref mq)) Z B102 J K101.1 (fun q99 x99 => x99 = rep G a K101 q99) w := hO.to rfl
      obtain ⟨_, qr163, hqr164⟩ := hO.2.1 2 _ (sg_2 G h0 a _ _ _ _ _)
      refine pn_V0 (G := G) (As := [.int 11, .int (K101.2.1 2 o1)]) (rest := []) hx hb hml hown hq hE hX pX0_al hP hD hS hA hl.1 (K_fail l G h0 a (upd (upd (upd (upd (upd (upd (upd (upd (upd F 2 (nI sz)) 5 (nI cs)) 7 (nI hd)) 12 (nI vr)) 13 as9) 5 (nI cs103)) 13 as104) 14 wt105) 15 wf106) (updR (updR R 2 (.ref pq)) 3 (.ref mq)) Z B102 J K101.1 (fun q99 x99 => x99 = rep G a K101 q99) w 11 (K101.2.1 2 o1) sz (by omega) hO hl0) (gV pw_64 pw_65 pw_66 pw_59 pw_43) hV_X10_fail qr163 7 hqr164 rfl rfl rfl (Nat.le_of_ble_eq_true rfl) dX0_call_61 ⟨(by show 0 + 1 ≤ 1; omega), (by show 0 + 6 ≤ 6; omega)⟩ ⟨(by show 6 + 1 ≤ (5 * n + 33); omega), (by show 8 + (3 + 11) + 100 ≤ (200 * n + 560); omega)⟩ (fun v162 u160 H locs hw161 hP hD hS => hw161.elim) (fun ux ce9 q9 H9 locs9 hux hP9 hD9 hS9 hce hcv hcl => pb_out ux (ThQ.up (Thx.same (Thx.f (Thx.f (Thx.f (Thx.f (Bth.thx hbb138) (by omega)) (by omega)) (by omega)) (by omega)) rfl) RhX.rfl hux) hnt hlocks hce hcv hcl hP9 hD9 hS9 (by show 0 + 1 ≤ 1; omega) (by show 0 + 6 ≤ 6; omega))
    · have hl : lv_has ls 4 [(2, .ref dO), (0, .ref (a 4)), (1, .ref q)] := hl
      refine W.eq (g2 := F0 m 43 ls [.ref d159]) rfl ?_
      have hf165 : K101.1 d159 = 4 := h157 d159 rfl
      obtain ⟨k9, hk9, hx9, hr9⟩ := h158 d159 rfl
      have hk8 : t107 = k9 := (nI_eq (by omega) (by have z9 := hna.1.1; omega)).mp hx9
      have h379 := hna.1.1
      refine lv_astore_n (lv' := [(2, .ref d159), (0, .ref (a 4)), (1, .ref q)]) hx hb dX0_call_43 rfl hl (by decide) rfl (fun ls hl => ?_)
      refine lv_aload_n hx hb dX0_call_44 rfl (lv_at hl 0 rfl) ?_
      refine lv_ifnonnull (tgt := 64) hx hb dX0_call_45 (by decide) ?_
      refine lv_aload_n hx hb dX0_call_64 rfl (lv_at hl 1 rfl) ?_
      refine c_get (v := .ref (a 1)) (C := RX0) (Tc := TX0) (N := 13) (ci := 0) hx hb hq pin_wsX00 hown hE hP hO 24 (sg_24 G h0 a _ _ _ _ _) rfl 0 (by decide) (hq _ pw_4) (fun _ h9 => h9) rfl dX0_call_65 ?_
      refine lv_aload_n hx hb dX0_call_68 rfl (lv_at hl 2 rfl) ?_
      refine p_get (v := .int tk) (C := RX7) (Tc := TX7) (N := 11) (ci := 13) hx hb hq pin_wsX70 hown hE hP hO (by rw [hf129]; decide) (rep_1 hf129) rfl 1 (by decide) (hq _ pw_81) (fun _ h9 => h9) (congrArg (fun z => some (Value.int z)) hf134) dX0_call_69 ?_
      have hO : OKW G h0 a (upd (upd (upd (upd (upd (upd (upd (upd F 2 (nI sz)) 5 (nI cs103)) 7 (nI hd)) 12 (nI vr)) 13 as104) 14 wt105) 15 wf106) 2 (nI sz)) (updR (updR R 2 (.ref pq)) 3 (.ref mq)) Z B102 J K101.1 (fun q99 x99 => x99 = rep G a K101 q99) w := hO.to rfl
      obtain ⟨_, qr169, hqr170⟩ := hO.2.1 2 _ (sg_2 G h0 a _ _ _ _ _)
      refine pc_V0 (G := G) (As := [.int tk]) (rest := []) hx hb hml hown hq hE hX pX0_al hP hD hS hA hl.1 (Y_valueAt l G h0 a (upd (upd (upd (upd (upd (upd (upd F 2 (nI sz)) 5 (nI cs103)) 7 (nI hd)) 12 (nI vr)) 13 as104) 14 wt105) 15 wf106) (updR (updR R 2 (.ref pq)) 3 (.ref mq)) Z B102 J K101.1 (fun q99 x99 => x99 = rep G a K101 q99) w tk sz (by omega) hO) (gV pw_56 pw_57 pw_58 pw_59 pw_39) hV_X10_valueAt qr169 7 hqr170 rfl rfl rfl (Nat.le_of_ble_eq_true rfl) dX0_call_72 ⟨(by show 0 + 0 ≤ 1; omega), (by show 0 + 0 ≤ 6; omega)⟩ ⟨(by show 2 + 1 ≤ (5 * n + 33); omega), (by show 8 + (2 + 11) + 60 ≤ (200 * n + 560); omega)⟩ (fun v168 u166 H locs hw167 hP hD hS => ?_)
      obtain ⟨w, _⟩ := u166
      obtain ⟨hw167, hO⟩ := hw167
      obtain rfl : v168 = some (.int (tkN ((B102 9)) sz (-1) tk)) := hw167
      have hO : OKP G h0 a (upd (upd (upd (upd (upd (upd (upd F 2 (nI sz)) 5 (nI cs103)) 7 (nI hd)) 12 (nI vr)) 13 as104) 14 wt105) 15 wf106) (updR (updR R 2 (.ref pq)) 3 (.ref mq)) Z B102 J K101 w := hO.to rfl
      refine W.widen (k := 0) (n := 0) (Nat.le_of_ble_eq_true rfl) (Nat.le_of_ble_eq_true rfl) ?_
      refine W.eq (g2 := F0 m 75 ls [.int (tkN ((B102 9)) sz (-1) tk)]) rfl ?_
      refine lv_istore_n (lv' := [(3, .int (tkN ((B102 9)) sz (-1) tk)), (2, .ref d159), (0, .ref (a 4)), (1, .ref q)]) hx hb dX0_call_75 rfl hl (by decide) rfl (fun ls hl => ?_)
      refine lv_aload_n hx hb dX0_call_76 rfl (lv_at hl 2 rfl) ?_
      refine lv_aload_n hx hb dX0_call_77 rfl (lv_at hl 3 rfl) ?_
      refine lv_aload_n hx hb dX0_call_78 rfl (lv_at hl 1 rfl) ?_
      refine lv_ifnonnull (tgt := 86) hx hb dX0_call_79 (by decide) ?_
      refine lv_aload_n hx hb dX0_call_86 rfl (lv_at hl 1 rfl) ?_
      refine lv_iload_n hx hb dX0_call_87 rfl (lv_at hl 0 rfl) ?_
      have hut171 := fun z : okA => (hpt146 ⟨z, (by omega)⟩).2
      have hev172 := fun z : okA => hev149 ⟨z, (by omega)⟩
      have hev173 : okA → EvQ pb.1 pb.2.1 pb.2.2.1 pb.2.2.2 (B 16) (B 17) (B 18) (B 19) (B102 16) (B102 17) (B102 18) (B102 19) Ag Ag108 pd m9 sn lo cs cs103 as9 as104 hd sl (t107 :: os) := fun z => by rw [← UTb.eq (hut171 z) h117 (by omega)]; exact hev172 z
      have hnab := (NaB.be hbe137 hbf144 hwp hps.2.1 hdr0 (hbr145 11 (by decide)) hna)
      obtain ⟨lq, nl, cp9, itl, hlq, hlc, hnl, hkn⟩ := (hnab.2 t107 d159 (by omega) (by rw [hk8]; exact hr9)).2.1
      have hO : OKP G h0 a (upd (upd (upd (upd (upd (upd (upd F 2 (nI sz)) 5 (nI cs103)) 7 (nI hd)) 12 (nI vr)) 13 as104) 14 wt105) 15 wf106) (updR (updR R 2 (.ref pq)) 3 (.ref mq)) Z B102 J K101 w := hO.to rfl
      obtain ⟨qr177, hqr178⟩ := p_recv hO (by rw [hf165]; decide) (rep_4 hf165)
      refine pc_V0 (G := G) (As := [.int (tkN ((B102 9)) sz (-1) tk)]) (rest := [.ref q, .ref (a 4)]) hx hb hml hown hq hE hX pX0_al hP hD hS hA hl.1 (Y_methodOf l G h0 a (upd (upd (upd (upd (upd (upd (upd F 2 (nI sz)) 5 (nI cs103)) 7 (nI hd)) 12 (nI vr)) 13 as104) 14 wt105) 15 wf106) (updR (updR R 2 (.ref pq)) 3 (.ref mq)) Z B102 J K101 w d159 lq nl cp9 itl (tkN ((B102 9)) sz (-1) tk) hf165 hlq hlc hnl hO) (gV pw_184 pw_185 pw_186 pw_146 pw_125) hV_X2_methodOf qr177 2 hqr178 rfl rfl rfl (Nat.le_of_ble_eq_true rfl) dX0_call_88 ⟨(by show 0 + 0 ≤ 1; omega), (by show 0 + 0 ≤ 6; omega)⟩ ⟨(by show 5 + 1 ≤ (5 * n + 33); omega), (by show 8 + (3 + 11) + 124 ≤ (200 * n + 560); omega)⟩ (fun v176 u174 H locs hw175 hP hD hS => ?_)
      obtain ⟨w, o179⟩ := u174
      obtain ⟨hw175, h180, hO⟩ := hw175
      have h180 : ∀ d : Nat, o179 = some d → ∃ i9 : Nat, i9 < nl ∧ itl i9 = d ∧ K101.2.1 6 d = (tkN ((B102 9)) sz (-1) tk) := h180
      obtain rfl : v176 = some ((va_rf o179)) := hw175
      have hO : OKP G h0 a (upd (upd (upd (upd (upd (upd (upd F 2 (nI sz)) 5 (nI cs103)) 7 (nI hd)) 12 (nI vr)) 13 as104) 14 wt105) 15 wf106) (updR (updR R 2 (.ref pq)) 3 (.ref mq)) Z B102 J K101 w := hO.to rfl
      refine W.widen (k := 0) (n := 0) (Nat.le_of_ble_eq_true rfl) (Nat.le_of_ble_eq_true rfl) ?_
      refine W.eq (g2 := F0 m 91 ls [(va_rf o179), .ref q, .ref (a 4)]) rfl ?_
      rcases o179 with _ | d181
      · have hl : lv_has ls 4 [(3, .int (tkN ((B102 9)) sz (-1) tk)), (2, .ref d159), (0, .ref (a 4)), (1, .ref q)] := hl
        refine W.eq (g2 := F0 m 91 ls [.null, .ref q, .ref (a 4)]) rfl ?_
        refine lv_bipush (v := 23) hx hb dX0_call_91 (by decide) ?_
        refine lv_iload_n hx hb dX0_call_93 rfl (lv_at hl 0 rfl) ?_
        have hO : OKP G h0 a (upd (upd (upd (upd (upd (upd (upd (upd (upd (upd F 2 (nI sz)) 5 (nI cs)) 7 (nI hd)) 12 (nI vr)) 13 as9) 5 (nI cs103)) 13 as104) 14 wt105) 15 wf106) 2 (nI sz)) (updR (updR R 2 (.ref pq)) 3 (.ref mq)) Z B102 J K101 w := hO.to rfl
        obtain ⟨_, qr185, hqr186⟩ := hO.2.1 24 _ (sg_24 G h0 a _ _ _ _ _)
        refine pn_V0 (G := G) (As := [.ref q, .null, .int 23, .int (tkN ((B102 9)) sz (-1) tk)]) (rest := []) hx hb hml hown hq hE hX pX0_al hP hD hS hA hl.1 (B_argumentsN l G h0 a (upd (upd (upd (upd (upd (upd (upd (upd (upd F 2 (nI sz)) 5 (nI cs)) 7 (nI hd)) 12 (nI vr)) 13 as9) 5 (nI cs103)) 13 as104) 14 wt105) 15 wf106) (updR (updR R 2 (.ref pq)) 3 (.ref mq)) Z B102 J K101 w q sz 23 (tkN ((B102 9)) sz (-1) tk) (by omega) hf129 hO hl0) (gV pw_187 pw_188 pw_189 pw_63 pw_270) hV_X0_arguments qr185 0 hqr186 rfl rfl rfl (Nat.le_of_ble_eq_true rfl) dX0_call_94 ⟨(by show 0 + 1 ≤ 1; omega), (by show 0 + 6 ≤ 6; omega)⟩ ⟨(by show 7 + 1 ≤ (5 * n + 33); omega), (by show 8 + (7 + 11) + 122 ≤ (200 * n + 560); omega)⟩ (fun v184 u182 H locs hw183 hP hD hS => hw183.elim) (fun ux ce9 q9 H9 locs9 hux hP9 hD9 hS9 hce hcv hcl => pb_out ux (ThQ.up (Thx.same (Thx.f (Thx.f (Thx.f (Thx.f (Bth.thx hbb138) (by omega)) (by omega)) (by omega)) (by omega)) rfl) RhX.rfl hux) hnt hlocks hce hcv hcl hP9 hD9 hS9 (by show 0 + 1 ≤ 1; omega) (by show 0 + 6 ≤ 6; omega))
      · have hl : lv_has ls 4 [(3, .int (tkN ((B102 9)) sz (-1) tk)), (2, .ref d159), (0, .ref (a 4)), (1, .ref q)] := hl
        refine W.eq (g2 := F0 m 91 ls [.ref d181, .ref q, .ref (a 4)]) rfl ?_
        obtain ⟨i9, hi9, hd9, hn9⟩ := h180 d181 rfl
        have hmo := hkn i9 hi9
        rw [hd9] at hmo
        obtain ⟨hm3, lp, np, cpp, rt, itp, a1, a2, a3, a4, a5, a6⟩ := hmo
        have hc60 : t107 < 60 := by have z9 := hna.1.1; have z8 := (show t107 < nd from (by omega)); omega
        have hcf := MeO.caf (G := G) (nd := nd) (ty := (B102 11)) (sz := sz) hc60 a6 hn9
        refine lv_bipush (v := 23) hx hb dX0_call_91 (by decide) ?_
        refine lv_iload_n hx hb dX0_call_93 rfl (lv_at hl 0 rfl) ?_
        have hO : OKP G h0 a (upd (upd (upd (upd (upd (upd (upd (upd (upd (upd (upd (upd (upd (upd F 2 (nI sz)) 5 (nI cs)) 7 (nI hd)) 12 (nI vr)) 13 as9) 5 (nI cs103)) 13 as104) 14 wt105) 15 wf106) 2 (nI sz)) 5 (nI cs103)) 7 (nI hd)) 12 (nI vr)) 13 as104) (updR (updR (updR (updR R 2 (.ref pq)) 3 (.ref mq)) 2 (.ref pq)) 3 (.ref mq)) Z B102 J K101 w := hO.to rfl
        obtain ⟨_, qr190, hqr191⟩ := hO.2.1 24 _ (sg_24 G h0 a _ _ _ _ _)
        refine pn_V0 (G := G) (As := [.ref q, .ref d181, .int 23, .int (tkN ((B102 9)) sz (-1) tk)]) (rest := []) hx hb hml hown hq hE hX pX0_al hP hD hS hA hl.1 (Y_arguments l G h0 a (upd (upd (upd (upd (upd (upd (upd (upd (upd F 2 (nI sz)) 5 (nI cs)) 7 (nI hd)) 12 (nI vr)) 13 as9) 5 (nI cs103)) 13 as104) 14 wt105) 15 wf106) (updR (updR R 2 (.ref pq)) 3 (.ref mq)) Z B102 J K101 w pq dr ml nd nm cp it s9 q mq cs103 vr sz n d181 lp np cpp rt t107 itp 23 (tkN ((B102 9)) sz (-1) tk) g rk pb Ag108 pd sl os m9 sn lo hd c0 as104 okA (by omega) (BdE.wp hbe137 hwp) (BdE.pt hbe137 hwp hps) (BdE.rko hbe137 hrk) (by omega) (by omega) hng139 hf130 hf129 hqL (EkA.be hbe137 (hbr145 7 (by decide)) (hbr145 11 (by decide)) hek) (OwC.be hbe137 hmq hdr0 hcO) (NaB.be hbe137 hbf144 hwp hps.2.1 hdr0 (hbr145 11 (by decide)) hna) (EnV.of (hbr145 26 (by decide)) (hbr145 27 (by decide)) hen) (fun z => (hev173 z).1) (by omega) hop hlf hm3 a1 a2 a3 a4 a5 hcf (ArF.be hbe137 hqT har) ⟨hM.2, by omega⟩ ihv hO hl0) (gV pw_187 pw_188 pw_189 pw_63 pw_270) hV_X0_arguments qr190 0 hqr191 rfl rfl rfl (Nat.le_of_ble_eq_true rfl) dX0_call_94 ⟨(by show 0 + 1 ≤ 1; omega), (by show 0 + 6 ≤ 6; omega)⟩ ⟨(by show (5 * n + 32) + 1 ≤ (5 * n + 33); omega), (by show 8 + (7 + 11) + (200 * n + 520) ≤ (200 * n + 560); omega)⟩ (fun v189 u187 H locs hw188 hP hD hS => ?_) (fun ux ce9 q9 H9 locs9 hux hP9 hD9 hS9 hce hcv hcl => pb_out ux (ThQ.up (Thx.same (Thx.same (Thx.same (Thx.same (Thx.same (Thx.f (Thx.f (Thx.f (Thx.f (Bth.thx hbb138) (by omega)) (by omega)) (by omega)) (by omega)) rfl) rfl) rfl) rfl) rfl) (show RhX (updR (updR R 2 (.ref pq)) 3 (.ref mq)) (updR (updR (updR (updR R 2 (.ref pq)) 3 (.ref mq)) 2 (.ref pq)) 3 (.ref mq)) from fun k9 hk9 => by unfold updR; simp only [show ¬ k9 = 1 by omega, show ¬ k9 = 2 by omega, show ¬ k9 = 3 by omega, show ¬ k9 = 4 by omega, if_false]) hux) hnt hlocks hce hcv hcl hP9 hD9 hS9 (by show 0 + 1 ≤ 1; omega) (by show 0 + 6 ≤ 6; omega))
        obtain ⟨w, K192, B193, cs194, as195, wt196, wf197, t198, Ag199⟩ := u187
        obtain ⟨hw188, h200, h201, h202, h203, h204, h205, h206, h207, h208, h209, h210, hO⟩ := hw188
        have h200 : SmW B102 B193 cs103 := h200
        have h201 : BdE K101 K192 := h201
        have h202 : BeF K101 K192 := h202
        have h203 : BeL K101 K192 none := h203
        have h204 : BeI K101 K192 g q := h204
        have h205 : Bth B102 B193 := h205
        have h206 : BeR B102 B193 := h206
        have h207 : t198 < 128 := h207
        have h208 : cs103 ≤ cs194 ∧ cs194 + 1 ≤ cs103 + 2 * (rE (g 2 q) - rM (g 2 q)) := h208
        have h209 : AsE as104 as195 := h209
        have h210 : okA → EvB pb B102 B193 Ag108 Ag199 pd m9 sn lo cs103 cs194 as104 as195 hd sl (rsO t198 os) ∧ cs103 < cs194 := h210
        obtain rfl : v189 = some (.int (nI t198)) := hw188
        have hf211 : K192.1 pq = 7 := (BdE.T h201 hf122 (by decide))
        have hf212 : K192.2.2.1 18 pq = some (a 1) := (BdE.C h201 (by rw [hf122]; decide) 18).trans hf123
        have hf213 : K192.2.2.1 14 pq = some dr := (BdE.C h201 (by rw [hf122]; decide) 14).trans hf124
        have hf214 : K192.1 dr = 8 := (BdE.T h201 hf125 (by decide))
        have hf215 : K192.2.2.1 15 pq = some ml := (BdE.C h201 (by rw [hf122]; decide) 15).trans hf126
        have hf216 : K192.1 ml = 5 := (BdE.T h201 hf127 (by decide))
        have hf217 : K192.2.1 24 pq = (nI nd) := (BdE.I h201 (by rw [hf122]; decide) (by decide) (by decide)).trans hf128
        have hf218 : K192.1 q = 1 := (BdE.T h201 hf129 (by decide))
        have hf219 : K192.1 mq = 3 := (BdE.T h201 hf130 (by decide))
        have hf220 : K192.2.1 15 dO = (nI c0) := (BdE.I h201 (by rw [hf133]; decide) (by decide) (by decide)).trans hf131
        have hf221 : K192.2.2.1 5 mq = some dO := (BdE.C h201 (by rw [hf130]; decide) 5).trans hf132
        have hf222 : K192.1 dO = 4 := (BdE.T h201 hf133 (by decide))
        have hf223 : K192.2.1 1 q = tk := (BdE.I h201 (by rw [hf129]; decide) (by decide) (by decide)).trans hf134
        have hf224 : K192.2.2.1 0 q = some o1 := (BdE.C h201 (by rw [hf129]; decide) 0).trans hf135
        have hf225 : K192.1 o1 = 1 := (BdE.T h201 hf136 (by decide))
        have hf226 : K192.1 d159 = 4 := (BdE.T h201 hf165 (by decide))
        have hf227 : K192.1 d181 = 3 := (BdE.T h201 hm3 (by decide))
        have hO : OKP G h0 a (upd (upd (upd (upd (upd (upd (upd F 2 (nI sz)) 5 (nI cs194)) 7 (nI hd)) 12 (nI vr)) 13 as195) 14 wt196) 15 wf197) (updR (updR R 2 (.ref pq)) 3 (.ref mq)) Z B193 J K192 w := hO.to rfl
        refine W.widen (k := 0) (n := 0) (by show 0 + 0 ≤ 0; omega) (by show 0 + 0 ≤ 0; omega) ?_
        refine W.eq (g2 := F0 m 97 ls [.int (nI t198)]) rfl ?_
        have hbe228 := BdE.trans hbe137 h201
        have hbb229 : Bth B B193 := Bth.trans (show Thx (upd (upd (upd (upd (upd F 2 (nI sz)) 5 (nI cs)) 7 (nI hd)) 12 (nI vr)) 13 as9) (upd (upd (upd (upd (upd (upd (upd (upd (upd F 2 (nI sz)) 5 (nI cs)) 7 (nI hd)) 12 (nI vr)) 13 as9) 5 (nI cs103)) 13 as104) 14 wt105) 15 wf106) B B102 from (Thx.f (Thx.f (Thx.f (Thx.f (Bth.thx hbb138) (by omega)) (by omega)) (by omega)) (by omega))).2 h205
        have hng230 : Nng (B193 18) := h205.2 hng139
        have hsw231 : ∀ x9 : Nat, x9 < cs → (B193 16) x9 = B 16 x9 := fun x9 hx9 => ((h200 x9 (by omega)).1).trans (hsw140 x9 hx9)
        have hsw232 : ∀ x9 : Nat, x9 < cs → (B193 17) x9 = B 17 x9 := fun x9 hx9 => ((h200 x9 (by omega)).2.1).trans (hsw141 x9 hx9)
        have hsw233 : ∀ x9 : Nat, x9 < cs → (B193 18) x9 = B 18 x9 := fun x9 hx9 => ((h200 x9 (by omega)).2.2.1).trans (hsw142 x9 hx9)
        have hsw234 : ∀ x9 : Nat, x9 < cs → (B193 19) x9 = B 19 x9 := fun x9 hx9 => ((h200 x9 (by omega)).2.2.2).trans (hsw143 x9 hx9)
        have hbf235 := BeF.trans hbf144 h202 hbe137
        have hbl237 := BeL.trans hbl147 h203 hbe137
        have hbi238 := BeI.trans hbi148 h204 hbe137 InE.rfl
        have hbr236 : BeR B B193 := BeR.trans hbr145 h206
        have has239 : AsE as9 as195 := AsE.trans has150.1 h209
        have hev240 : okA → EvQ pb.1 pb.2.1 pb.2.2.1 pb.2.2.2 (B 16) (B 17) (B 18) (B 19) (B193 16) (B193 17) (B193 18) (B193 19) Ag Ag199 pd m9 sn lo cs cs194 as9 as195 hd sl (rsO t198 os) := fun z => (hev173 z).trans (h210 z).1
        have hst9 := fun z => (h210 z).2
        refine W_size (fun hz1 hz2 => ?_)
        refine vx_ret ?_
        have hz241 : SmW B B193 cs := (fun x9 hx9 => ⟨hsw231 x9 hx9, hsw232 x9 hx9, hsw233 x9 hx9, hsw234 x9 hx9⟩)
        have hz242 : BdE K K192 := hbe228
        have hz243 : BeF K K192 := hbf235
        have hz244 : BeL K K192 none := hbl237
        have hz245 : BeI K K192 g q := hbi238
        have hz246 : Bth B B193 := (show Thx (upd (upd (upd (upd (upd F 2 (nI sz)) 5 (nI cs)) 7 (nI hd)) 12 (nI vr)) 13 as9) (upd (upd (upd (upd (upd (upd (upd (upd (upd F 2 (nI sz)) 5 (nI cs)) 7 (nI hd)) 12 (nI vr)) 13 as9) 5 (nI cs194)) 13 as195) 14 wt196) 15 wf197) B B193 from (Thx.f (Thx.f (Thx.f (Thx.f (Bth.thx hbb229) (by omega)) (by omega)) (by omega)) (by omega))).2
        have hz247 : BeR B B193 := hbr236
        have hz248 : t198 < 128 := (by omega)
        have hz249 : cs ≤ cs194 ∧ cs194 + 2 ≤ cs + 2 * tlE g q := (by omega)
        have hz250 : AsE as9 as195 := has239
        have hz251 : okA → PlQ pb B B193 Ag Ag199 pd m9 sn lo cs cs194 as9 as195 hd sl os t198 (K.2.1 0 q) := (fun z => Or.inr ⟨hev240 z, by have z9 := hst9 z; omega⟩)
        have hO : OKP G h0 a (upd (upd (upd (upd (upd (upd (upd F 2 (nI sz)) 5 (nI cs194)) 7 (nI hd)) 12 (nI vr)) 13 as195) 14 wt196) 15 wf197) (updR (updR R 2 (.ref pq)) 3 (.ref mq)) Z B193 J K192 w := hO.to rfl
        refine W.widen (k := 1) (n := 6) (by omega) (by omega) ?_
        have hzz1 : H.size ≤ s.heap.size + (0) := (by have z : 0 ≤ 0 := (by omega); omega)
        have hzz2 : hSl H ≤ hSl s.heap + (0) := (by have z : 0 ≤ 0 := (by omega); omega)
        exact W.iret (v := (nI t198)) hx hb hr (fun t99 ht99 hW99 => ⟨⟨_, (w, (K192, B193, cs194, as195, wt196, wf197, t198, Ag199)), rfl, ⟨rfl, hz241, hz242, hz243, hz244, hz245, hz246, hz247, hz248, hz249, hz250, hz251, hO⟩, by rw [ht99]; exact hP, hD, by rw [ht99]; exact hzz1, by rw [ht99]; exact hzz2⟩, hS.F ht99⟩) hS.2.2 dX0_call_97
set_option maxHeartbeats 24000000 in
set_option maxRecDepth 100000 in
theorem Y_superCall (l : Launch) (G : pT) (h0 : Nat) (a : Nat → Nat) (F : Nat → Int32) (R : Nat → Value) (Z : Int64) (B : Nat → Nat → Int32) (J : Nat → Nat → Int64) (K : PK) (w : va_W) (pq : Nat) (dr : Nat) (ml : Nat) (nd : Nat) (nm : Nat) (cp : Nat) (it : Nat → Nat) (s9 : Nat) (q : Nat) (mq : Nat) (cs : Nat) (vr : Nat) (sz : Nat) (n : Nat) (g : Nat → Nat → Nat) (rk : Nat → Nat) (pb : PNb) (Ag : Nat → AS) (pd : Nat → Prop) (sl : Nat → Nat) (os : List Nat) (m9 : Nat) (sn : Nat) (lo : Nat) (hd : Nat) (c0 : Nat) (as9 : Int32) (okA : Prop) (hsz : sz ≤ 5000) (hwp : WPr G K g) (hps : PgT G K g (a 1) pq dr ml nd nm cp it s9) (hrk : RkO K rk) (hcs : cs ≤ 10000) (hvr : vr ≤ 30) (hng : Nng (B 18)) (hmq : K.1 mq = 3) (hqT : K.1 q = 1) (hqL : 1 ≤ g 0 q ∧ g 0 q ≤ n) (hek : EkA pb K g (B 7) (B 11) sz) (hcO : OwC K dr mq c0) (hna : NaB pb G K (B 11) dr nd sz) (hen : EnV (B 26) (B 27) nd vr hd c0 sl) (hem : okA → EmB pb B Ag pd m9 sn lo cs as9 hd sl os) (hrm : cs + 2 * tlE g q ≤ 10000) (hop : os.length + ndE g q ≤ 248) (hlf : 1 ≤ tlE g q ∧ 1 ≤ ndE g q) (hkq : K.2.1 0 q = 11) (har : ArF K g q) (hM : rS (g 2 q) + 1 ≤ rM (g 2 q) ∧ rM (g 2 q) + 1 ≤ rE (g 2 q)) (ihv : IhY l G n) (hO : OKP G h0 a (upd (upd (upd (upd (upd F 2 (nI sz)) 5 (nI cs)) 7 (nI hd)) 12 (nI vr)) 13 as9) (updR (updR R 2 (.ref pq)) 3 (.ref mq)) Z B J K w) (hl0 : l.stackTraces = false) : PBn l G pX0 yX0_superCall cX0_superCall 4 (some .int) ({ frames := (5 * n + 33), cells := 1, slots := 6, locals := (200 * n + 560) }) [.ref (a 4), .ref q] w (fun (v : Option Value) (u : va_W × (PK × (Nat → Nat → Int32) × Nat × Int32 × Int32 × Int32 × Nat × (Nat → AS))) => v = some (.int (nI u.2.2.2.2.2.2.2.1)) ∧ (SmW B u.2.2.1 cs) ∧ (BdE K u.2.1) ∧ (BeF K u.2.1) ∧ (BeL K u.2.1 none) ∧ (BeI K u.2.1 g q) ∧ (Bth B u.2.2.1) ∧ (BeR B u.2.2.1) ∧ (u.2.2.2.2.2.2.2.1 < 128) ∧ (cs ≤ u.2.2.2.1 ∧ u.2.2.2.1 + 2 ≤ cs + 2 * tlE g q) ∧ (AsE as9 u.2.2.2.2.1) ∧ (okA → PlQ pb B u.2.2.1 Ag u.2.2.2.2.2.2.2.2 pd m9 sn lo cs u.2.2.2.1 as9 u.2.2.2.2.1 hd sl os u.2.2.2.2.2.2.2.1 (K.2.1 0 q)) ∧ (OKP G h0 a (upd (upd (upd (upd (upd (upd (upd F 2 (nI sz)) 5 (nI u.2.2.2.1)) 7 (nI hd)) 12 (nI vr)) 13 u.2.2.2.2.1) 14 u.2.2.2.2.2.1) 15 u.2.2.2.2.2.2.1) (updR (updR R 2 (.ref pq)) 3 (.ref mq)) Z u.2.2.1 J u.2.1 u.1)) (fun u => u.1) (fun (u : va_W × (PK × (Nat → Nat → Int32) × Nat × Int32 × Int32 × Int32 × Nat × (Nat → AS))) => 0) (fun (u : va_W × (PK × (Nat → Nat → Int32) × Nat × Int32 × Int32 × Int32 × Nat × (Nat → AS))) => 0) (fun (u : va_W × (Nat → Int32) × (Nat → Value) × (Nat → Nat → Int32)) => ThQ G h0 a (upd (upd (upd (upd (upd F 2 (nI sz)) 5 (nI cs)) 7 (nI hd)) 12 (nI vr)) 13 as9) (updR (updR R 2 (.ref pq)) 3 (.ref mq)) Z B J u) (fun u => u.1) := by
  intro sz
  refine vx_ofW (cc := cX0_superCall) (maxL := 4) (ret := (some .int)) (by decide) rfl ?_
  intro p e s m args below meth c s₁ B9 hml hnt hv
  obtain ⟨rfl, hsz, hP, hD0, hE, hX⟩ := hv
  have hx := B9.exec
  have hb := B9.bytes
  have hr := B9.returns
  have hts := atoms_spec (ws := Cond.code yX0_superCall cX0_superCall 4 (some .int) :: pw) B9.pre
  have hq : ∀ w ∈ pw, w.before _ s = true := fun w h => hts w (List.mem_cons_of_mem _ h)
  have hown : s.vm.findClass RX0 = some m.cls := findClass_of_methodNamed B9.named
  have hlocks := B9.notSynchronized
  subst hsz
  have hD := hD0.self (sz := s.heap.size)
  have hA : ∀ q : Nat, s.heap.size ≤ q → va_A w s.heap.size q := fun q h => Or.inr h
  generalize va_A w s.heap.size = A at hD hE hA ⊢
  have hS : va_S A s.heap s.heap [] := va_S.rf
  have hl := lv_entry ([.ref (a 4), .ref q]) (n := 4) (Nat.le_of_ble_eq_true rfl)
  rw [lg_entry_eq]
  generalize (lg_sl ([.ref (a 4), .ref q]) ++ List.replicate (4 - (lg_sl ([.ref (a 4), .ref q])).length) Slot.unset).toArray = ls at hl ⊢
  have hl : lv_has ls 4 [(0, .ref (a 4)), (1, .ref q)] := hl
  have hpg := hps.1
  have hp1 := hpg.1
  have hp2 := hpg.2.1
  have hp3 := hpg.2.2.1
  have hp4 := hpg.2.2.2.1
  have hp5 := hpg.2.2.2.2.1
  have hp6 := hpg.2.2.2.2.2.1
  have hp8 := hpg.2.2.2.2.2.2.2.1
  have hp9 := hpg.2.2.2.2.2.2.2.2
  have hdr0 : ¬ K.1 dr = 0 := by rw [hp4]; decide
  have hcO9 := hcO
  obtain ⟨dO, hdO, htO, hrO, hnO⟩ := hcO9
  have hev0 : okA → EvQ pb.1 pb.2.1 pb.2.2.1 pb.2.2.2 (B 16) (B 17) (B 18) (B 19) (B 16) (B 17) (B 18) (B 19) Ag Ag pd m9 sn lo cs cs as9 as9 hd sl os := fun z => EvB.nil (hem z)
  obtain ⟨tk, htk⟩ : ∃ z : Int32, K.2.1 1 q = z := ⟨_, rfl⟩
  have htq : tlE g q = rE (g 2 q) - rS (g 2 q) := rfl
  refine lv_aload_n hx hb dX0_superCall_0 rfl (lv_at hl 0 rfl) ?_
  refine c_get (v := .ref (a 2)) (C := RX0) (Tc := TX0) (N := 13) (ci := 0) hx hb hq pin_wsX00 hown hE hP hO 24 (sg_24 G h0 a _ _ _ _ _) rfl 1 (by decide) (hq _ pw_5) (fun _ h9 => h9) rfl dX0_superCall_1 ?_
  refine lv_iconst (v := 2) hx hb dX0_superCall_4 (by decide) ?_
  refine lv_iconst (v := 0) hx hb dX0_superCall_5 (by decide) ?_
  refine lv_iconst (v := 0) hx hb dX0_superCall_6 (by decide) ?_
  have hO : OKW G h0 a (upd (upd (upd (upd (upd (upd (upd F 2 (nI sz)) 5 (nI cs)) 7 (nI hd)) 12 (nI vr)) 13 as9) 5 (nI cs)) 7 (nI hd)) (updR (updR R 2 (.ref pq)) 3 (.ref mq)) Z B J K.1 (fun q99 x99 => x99 = rep G a K q99) w := hO.to rfl
  obtain ⟨_, qr4, hqr5⟩ := hO.2.1 13 _ (sg_13 G h0 a _ _ _ _ _)
  refine pc_V0 (G := G) (As := [.int 2, .int 0, .int 0]) (rest := []) hx hb hml hown hq hE hX pX0_al hP hD hS hA hl.1 (Y_emit l G h0 a (upd (upd (upd (upd (upd F 2 (nI sz)) 5 (nI cs)) 7 (nI hd)) 12 (nI vr)) 13 as9) (updR (updR R 2 (.ref pq)) 3 (.ref mq)) Z B J K.1 (fun q99 x99 => x99 = rep G a K q99) w 2 0 0 cs hd (by omega) hO) (gV pw_129 pw_130 pw_131 pw_70 pw_115) hV_X1_emit qr4 1 hqr5 rfl rfl rfl (Nat.le_of_ble_eq_true rfl) dX0_superCall_7 ⟨(by show 0 + 0 ≤ 1; omega), (by show 0 + 0 ≤ 6; omega)⟩ ⟨(by show 2 + 1 ≤ (5 * n + 33); omega), (by show 8 + (4 + 11) + 60 ≤ (200 * n + 560); omega)⟩ (fun v3 u1 H locs hw2 hP hD hS => ?_)
  obtain ⟨w, _⟩ := u1
  obtain ⟨hw2, hO⟩ := hw2
  obtain rfl : v3 = none := hw2
  have hO : OKP G h0 a (upd (upd (upd (upd (upd F 2 (nI sz)) 5 (nI (cs + 1))) 7 (nI hd)) 12 (nI vr)) 13 as9) (updR (updR R 2 (.ref pq)) 3 (.ref mq)) Z (updA (updA (updA (updA B 16 (upd ((B 16)) cs 2)) 17 (upd ((B 17)) cs 0)) 18 (upd ((B 18)) cs 0)) 19 (upd ((B 19)) cs (nI hd))) J K w := hO.to rfl
  refine W.widen (k := 0) (n := 0) (Nat.le_of_ble_eq_true rfl) (Nat.le_of_ble_eq_true rfl) ?_
  refine W.eq (g2 := F0 m 10 ls []) rfl ?_
  have hsw6 : ∀ x9 : Nat, x9 < cs → (upd ((B 16)) cs 2) x9 = B 16 x9 := fun x9 hx9 => (if_neg (by omega)).trans ((fun _ _ => rfl) x9 hx9)
  have hsw7 : ∀ x9 : Nat, x9 < cs → (upd ((B 17)) cs 0) x9 = B 17 x9 := fun x9 hx9 => (if_neg (by omega)).trans ((fun _ _ => rfl) x9 hx9)
  have hsw8 : ∀ x9 : Nat, x9 < cs → (upd ((B 18)) cs 0) x9 = B 18 x9 := fun x9 hx9 => (if_neg (by omega)).trans ((fun _ _ => rfl) x9 hx9)
  have hsw9 : ∀ x9 : Nat, x9 < cs → (upd ((B 19)) cs (nI hd)) x9 = B 19 x9 := fun x9 hx9 => (if_neg (by omega)).trans ((fun _ _ => rfl) x9 hx9)
  obtain ⟨Ag10, hev11⟩ : ∃ A5 : Nat → AS, okA → EvQ pb.1 pb.2.1 pb.2.2.1 pb.2.2.2 (B 16) (B 17) (B 18) (B 19) (upd ((B 16)) cs 2) (upd ((B 17)) cs 0) (upd ((B 18)) cs 0) (upd ((B 19)) cs (nI hd)) Ag A5 pd m9 sn lo cs (cs + 1) as9 as9 hd sl (c0 :: os) := ⟨(upS Ag (cs + 1) (rcA as9, hd, sl, (c0 :: os))), fun z => (hev0 z).trans (EmS.load0 (hev0 z).1 (by show os.length ≤ 248; omega) hen.1.2.1 (Nat.lt_of_lt_of_le Nat.zero_lt_one hen.1.1) (by have z9 := hen.1.2.2; have z8 := hna.1.1; omega))⟩
  have hng9 : Nng (upd ((B 18)) cs 0) := Nng.set hng (k := 0) (by omega)
  have hng12 := hng9
  refine lv_aload_n hx hb dX0_superCall_10 rfl (lv_at hl 0 rfl) ?_
  refine c_get (v := .ref mq) (C := RX0) (Tc := TX0) (N := 13) (ci := 0) hx hb hq pin_wsX00 hown hE hP hO 24 (sg_24 G h0 a _ _ _ _ _) rfl 7 (by decide) (hq _ pw_72) (fun _ h9 => h9) rfl dX0_superCall_11 ?_
  refine p_get (v := .ref dO) (C := RX6) (Tc := TX6) (N := 12) (ci := 12) hx hb hq pin_wsX60 hown hE hP hO (by rw [hmq]; decide) (rep_3 hmq) rfl 0 (by decide) (hq _ pw_161) (fun _ h9 => h9) (congrArg (fun z => some (va_rf z)) hdO) dX0_superCall_14 ?_
  rcases ho14 : K.2.2.1 10 dO with _ | o13
  · skip
    refine p_get (v := .null) (C := RX2) (Tc := TX2) (N := 13) (ci := 2) hx hb hq pin_wsX20 hown hE hP hO (by rw [htO]; decide) (rep_4 htO) rfl 9 (by decide) (hq _ pw_219) (fun _ h9 => h9) (congrArg (fun z => some (va_rf z)) ho14) dX0_superCall_17 ?_
    refine lv_astore_nN (lv' := [(2, .null), (0, .ref (a 4)), (1, .ref q)]) hx hb dX0_superCall_20 rfl hl (by decide) rfl (fun ls hl => ?_)
    refine lv_aload_nN hx hb dX0_superCall_21 rfl (lv_at hl 0 rfl) ?_
    refine lv_ifnonnullN hx hb dX0_superCall_22 ?_
    refine lv_null hx hb dX0_superCall_25 ?_
    refine lv_goto (tgt := 44) hx hb dX0_superCall_26 (by decide) ?_
    refine lv_astore_nN (lv' := [(3, .null), (2, .null), (0, .ref (a 4)), (1, .ref q)]) hx hb dX0_superCall_44 rfl hl (by decide) rfl (fun ls hl => ?_)
    refine lv_aload_n hx hb dX0_superCall_45 rfl (lv_at hl 2 rfl) ?_
    refine lv_aload_n hx hb dX0_superCall_46 rfl (lv_at hl 3 rfl) ?_
    refine lv_aload_nN hx hb dX0_superCall_47 rfl (lv_at hl 0 rfl) ?_
    refine lv_bipush (v := 24) hx hb dX0_superCall_48 (by decide) ?_
    refine lv_aload_nN hx hb dX0_superCall_50 rfl (lv_at hl 0 rfl) ?_
    refine lv_ifnonnullN hx hb dX0_superCall_51 ?_
    refine lv_iconst (v := (-1)) hx hb dX0_superCall_54 (by decide) ?_
    refine lv_goto (tgt := 62) hx hb dX0_superCall_55 (by decide) ?_
    have hO : OKP G h0 a (upd (upd (upd (upd (upd (upd (upd F 2 (nI sz)) 5 (nI cs)) 7 (nI hd)) 12 (nI vr)) 13 as9) 5 (nI (cs + 1))) 2 (nI sz)) (updR (updR R 2 (.ref pq)) 3 (.ref mq)) Z (updA (updA (updA (updA B 16 (upd ((B 16)) cs 2)) 17 (upd ((B 17)) cs 0)) 18 (upd ((B 18)) cs 0)) 19 (upd ((B 19)) cs (nI hd))) J K w := hO.to rfl
    obtain ⟨_, qr18, hqr19⟩ := hO.2.1 24 _ (sg_24 G h0 a _ _ _ _ _)
    refine pn_V0 (G := G) (As := [.ref q, .null, .int 24, .int (-1)]) (rest := []) hx hb hml hown hq hE hX pX0_al hP hD hS hA hl.1 (B_argumentsN l G h0 a (upd (upd (upd (upd (upd (upd F 2 (nI sz)) 5 (nI cs)) 7 (nI hd)) 12 (nI vr)) 13 as9) 5 (nI (cs + 1))) (updR (updR R 2 (.ref pq)) 3 (.ref mq)) Z (updA (updA (updA (updA B 16 (upd ((B 16)) cs 2)) 17 (upd ((B 17)) cs 0)) 18 (upd ((B 18)) cs 0)) 19 (upd ((B 19)) cs (nI hd))) J K w q sz 24 (-1) (by omega) hqT hO hl0) (gV pw_187 pw_188 pw_189 pw_63 pw_270) hV_X0_arguments qr18 0 hqr19 rfl rfl rfl (Nat.le_of_ble_eq_true rfl) dX0_superCall_62 ⟨(by show 0 + 1 ≤ 1; omega), (by show 0 + 6 ≤ 6; omega)⟩ ⟨(by show 7 + 1 ≤ (5 * n + 33); omega), (by show 8 + (7 + 11) + 122 ≤ (200 * n + 560); omega)⟩ (fun v17 u15 H locs hw16 hP hD hS => hw16.elim) (fun ux ce9 q9 H9 locs9 hux hP9 hD9 hS9 hce hcv hcl => pb_out ux (ThQ.up (Thx.same (Thx.b (Thx.b8 (Thx.b (Thx.b (Thx.f Thx.rfl (by omega)) (by omega) (by decide)) (by omega) (by decide)) hng12) (by omega) (by decide)) rfl) RhX.rfl hux) hnt hlocks hce hcv hcl hP9 hD9 hS9 (by show 0 + 1 ≤ 1; omega) (by show 0 + 6 ≤ 6; omega))
  · have hpT := (hwp.2.2.1 dO htO).2.2.2.2.1 o13 ho14
    refine p_get (v := .ref o13) (C := RX2) (Tc := TX2) (N := 13) (ci := 2) hx hb hq pin_wsX20 hown hE hP hO (by rw [htO]; decide) (rep_4 htO) rfl 9 (by decide) (hq _ pw_219) (fun _ h9 => h9) (congrArg (fun z => some (va_rf z)) ho14) dX0_superCall_17 ?_
    refine lv_astore_n (lv' := [(2, .ref o13), (0, .ref (a 4)), (1, .ref q)]) hx hb dX0_superCall_20 rfl hl (by decide) rfl (fun ls hl => ?_)
    refine lv_aload_n hx hb dX0_superCall_21 rfl (lv_at hl 0 rfl) ?_
    refine lv_ifnonnull (tgt := 29) hx hb dX0_superCall_22 (by decide) ?_
    refine lv_aload_n hx hb dX0_superCall_29 rfl (lv_at hl 0 rfl) ?_
    refine lv_aload_n hx hb dX0_superCall_30 rfl (lv_at hl 1 rfl) ?_
    refine c_get (v := .ref (a 1)) (C := RX0) (Tc := TX0) (N := 13) (ci := 0) hx hb hq pin_wsX00 hown hE hP hO 24 (sg_24 G h0 a _ _ _ _ _) rfl 0 (by decide) (hq _ pw_4) (fun _ h9 => h9) rfl dX0_superCall_31 ?_
    refine lv_aload_n hx hb dX0_superCall_34 rfl (lv_at hl 2 rfl) ?_
    refine p_get (v := .int tk) (C := RX7) (Tc := TX7) (N := 11) (ci := 13) hx hb hq pin_wsX70 hown hE hP hO (by rw [hqT]; decide) (rep_1 hqT) rfl 1 (by decide) (hq _ pw_81) (fun _ h9 => h9) (congrArg (fun z => some (Value.int z)) htk) dX0_superCall_35 ?_
    have hO : OKW G h0 a (upd (upd (upd (upd (upd (upd F 2 (nI sz)) 5 (nI (cs + 1))) 7 (nI hd)) 12 (nI vr)) 13 as9) 2 (nI sz)) (updR (updR R 2 (.ref pq)) 3 (.ref mq)) Z (updA (updA (updA (updA B 16 (upd ((B 16)) cs 2)) 17 (upd ((B 17)) cs 0)) 18 (upd ((B 18)) cs 0)) 19 (upd ((B 19)) cs (nI hd))) J K.1 (fun q99 x99 => x99 = rep G a K q99) w := hO.to rfl
    obtain ⟨_, qr23, hqr24⟩ := hO.2.1 2 _ (sg_2 G h0 a _ _ _ _ _)
    refine pc_V0 (G := G) (As := [.int tk]) (rest := [.ref o13]) hx hb hml hown hq hE hX pX0_al hP hD hS hA hl.1 (Y_valueAt l G h0 a (upd (upd (upd (upd (upd F 2 (nI sz)) 5 (nI (cs + 1))) 7 (nI hd)) 12 (nI vr)) 13 as9) (updR (updR R 2 (.ref pq)) 3 (.ref mq)) Z (updA (updA (updA (updA B 16 (upd ((B 16)) cs 2)) 17 (upd ((B 17)) cs 0)) 18 (upd ((B 18)) cs 0)) 19 (upd ((B 19)) cs (nI hd))) J K.1 (fun q99 x99 => x99 = rep G a K q99) w tk sz (by omega) hO) (gV pw_56 pw_57 pw_58 pw_59 pw_39) hV_X10_valueAt qr23 7 hqr24 rfl rfl rfl (Nat.le_of_ble_eq_true rfl) dX0_superCall_38 ⟨(by show 0 + 0 ≤ 1; omega), (by show 0 + 0 ≤ 6; omega)⟩ ⟨(by show 2 + 1 ≤ (5 * n + 33); omega), (by show 8 + (2 + 11) + 60 ≤ (200 * n + 560); omega)⟩ (fun v22 u20 H locs hw21 hP hD hS => ?_)
    obtain ⟨w, _⟩ := u20
    obtain ⟨hw21, hO⟩ := hw21
    obtain rfl : v22 = some (.int (tkN ((B 9)) sz (-1) tk)) := hw21
    have hO : OKP G h0 a (upd (upd (upd (upd (upd F 2 (nI sz)) 5 (nI (cs + 1))) 7 (nI hd)) 12 (nI vr)) 13 as9) (updR (updR R 2 (.ref pq)) 3 (.ref mq)) Z (updA (updA (updA (updA B 16 (upd ((B 16)) cs 2)) 17 (upd ((B 17)) cs 0)) 18 (upd ((B 18)) cs 0)) 19 (upd ((B 19)) cs (nI hd))) J K w := hO.to rfl
    refine W.widen (k := 0) (n := 0) (Nat.le_of_ble_eq_true rfl) (Nat.le_of_ble_eq_true rfl) ?_
    refine W.eq (g2 := F0 m 41 ls [.int (tkN ((B 9)) sz (-1) tk), .ref o13]) rfl ?_
    have hO : OKP G h0 a (upd (upd (upd (upd (upd F 2 (nI sz)) 5 (nI (cs + 1))) 7 (nI hd)) 12 (nI vr)) 13 as9) (updR (updR R 2 (.ref pq)) 3 (.ref mq)) Z (updA (updA (updA (updA B 16 (upd ((B 16)) cs 2)) 17 (upd ((B 17)) cs 0)) 18 (upd ((B 18)) cs 0)) 19 (upd ((B 19)) cs (nI hd))) J K w := hO.to rfl
    obtain ⟨qr28, hqr29⟩ := p_recv hO (by rw [hpT]; decide) (rep_4 hpT)
    refine pc_V0 (G := G) (As := [.int (tkN ((B 9)) sz (-1) tk)]) (rest := []) hx hb hml hown hq hE hX pX0_al hP hD hS hA hl.1 (Y_nearestO l G h0 a (upd (upd (upd (upd (upd F 2 (nI sz)) 5 (nI (cs + 1))) 7 (nI hd)) 12 (nI vr)) 13 as9) (updR (updR R 2 (.ref pq)) 3 (.ref mq)) Z (updA (updA (updA (updA B 16 (upd ((B 16)) cs 2)) 17 (upd ((B 17)) cs 0)) 18 (upd ((B 18)) cs 0)) 19 (upd ((B 19)) cs (nI hd))) J K w o13 (tkN ((B 9)) sz (-1) tk) g rk hpT (BdE.wp BdE.rfl hwp) (BdE.rko BdE.rfl hrk) hO) (gV pw_221 pw_222 pw_223 pw_146 pw_154) hV_X2_nearest qr28 2 hqr29 rfl rfl rfl (Nat.le_of_ble_eq_true rfl) dX0_superCall_41 ⟨(by show 0 + 0 ≤ 1; omega), (by show 0 + 0 ≤ 6; omega)⟩ ⟨(by show 6 + 1 ≤ (5 * n + 33); omega), (by show 8 + (4 + 11) + 146 ≤ (200 * n + 560); omega)⟩ (fun v27 u25 H locs hw26 hP hD hS => ?_)
    obtain ⟨w, o30⟩ := u25
    obtain ⟨hw26, h31, hO⟩ := hw26
    have h31 : ∀ m9 : Nat, o30 = some m9 → NeP K (tkN ((B 9)) sz (-1) tk) 101 o13 m9 := h31
    obtain rfl : v27 = some ((va_rf o30)) := hw26
    have hO : OKP G h0 a (upd (upd (upd (upd (upd F 2 (nI sz)) 5 (nI (cs + 1))) 7 (nI hd)) 12 (nI vr)) 13 as9) (updR (updR R 2 (.ref pq)) 3 (.ref mq)) Z (updA (updA (updA (updA B 16 (upd ((B 16)) cs 2)) 17 (upd ((B 17)) cs 0)) 18 (upd ((B 18)) cs 0)) 19 (upd ((B 19)) cs (nI hd))) J K w := hO.to rfl
    refine W.widen (k := 0) (n := 0) (Nat.le_of_ble_eq_true rfl) (Nat.le_of_ble_eq_true rfl) ?_
    refine W.eq (g2 := F0 m 44 ls [(va_rf o30)]) rfl ?_
    rcases o30 with _ | d32
    · have hl : lv_has ls 4 [(2, .ref o13), (0, .ref (a 4)), (1, .ref q)] := hl
      refine W.eq (g2 := F0 m 44 ls [.null]) rfl ?_
      refine lv_astore_nN (lv' := [(3, .null), (2, .ref o13), (0, .ref (a 4)), (1, .ref q)]) hx hb dX0_superCall_44 rfl hl (by decide) rfl (fun ls hl => ?_)
      refine lv_aload_n hx hb dX0_superCall_45 rfl (lv_at hl 2 rfl) ?_
      refine lv_aload_n hx hb dX0_superCall_46 rfl (lv_at hl 3 rfl) ?_
      refine lv_aload_nN hx hb dX0_superCall_47 rfl (lv_at hl 0 rfl) ?_
      refine lv_bipush (v := 24) hx hb dX0_superCall_48 (by decide) ?_
      refine lv_aload_nN hx hb dX0_superCall_50 rfl (lv_at hl 0 rfl) ?_
      refine lv_ifnonnullN hx hb dX0_superCall_51 ?_
      refine lv_iconst (v := (-1)) hx hb dX0_superCall_54 (by decide) ?_
      refine lv_goto (tgt := 62) hx hb dX0_superCall_55 (by decide) ?_
      have hO : OKP G h0 a (upd (upd (upd (upd (upd (upd (upd F 2 (nI sz)) 5 (nI cs)) 7 (nI hd)) 12 (nI vr)) 13 as9) 5 (nI (cs + 1))) 2 (nI sz)) (updR (updR R 2 (.ref pq)) 3 (.ref mq)) Z (updA (updA (updA (updA B 16 (upd ((B 16)) cs 2)) 17 (upd ((B 17)) cs 0)) 18 (upd ((B 18)) cs 0)) 19 (upd ((B 19)) cs (nI hd))) J K w := hO.to rfl
      obtain ⟨_, qr36, hqr37⟩ := hO.2.1 24 _ (sg_24 G h0 a _ _ _ _ _)
      refine pn_V0 (G := G) (As := [.ref q, .null, .int 24, .int (-1)]) (rest := []) hx hb hml hown hq hE hX pX0_al hP hD hS hA hl.1 (B_argumentsN l G h0 a (upd (upd (upd (upd (upd (upd F 2 (nI sz)) 5 (nI cs)) 7 (nI hd)) 12 (nI vr)) 13 as9) 5 (nI (cs + 1))) (updR (updR R 2 (.ref pq)) 3 (.ref mq)) Z (updA (updA (updA (updA B 16 (upd ((B 16)) cs 2)) 17 (upd ((B 17)) cs 0)) 18 (upd ((B 18)) cs 0)) 19 (upd ((B 19)) cs (nI hd))) J K w q sz 24 (-1) (by omega) hqT hO hl0) (gV pw_187 pw_188 pw_189 pw_63 pw_270) hV_X0_arguments qr36 0 hqr37 rfl rfl rfl (Nat.le_of_ble_eq_true rfl) dX0_superCall_62 ⟨(by show 0 + 1 ≤ 1; omega), (by show 0 + 6 ≤ 6; omega)⟩ ⟨(by show 7 + 1 ≤ (5 * n + 33); omega), (by show 8 + (7 + 11) + 122 ≤ (200 * n + 560); omega)⟩ (fun v35 u33 H locs hw34 hP hD hS => hw34.elim) (fun ux ce9 q9 H9 locs9 hux hP9 hD9 hS9 hce hcv hcl => pb_out ux (ThQ.up (Thx.same (Thx.b (Thx.b8 (Thx.b (Thx.b (Thx.f Thx.rfl (by omega)) (by omega) (by decide)) (by omega) (by decide)) hng12) (by omega) (by decide)) rfl) RhX.rfl hux) hnt hlocks hce hcv hcl hP9 hD9 hS9 (by show 0 + 1 ≤ 1; omega) (by show 0 + 6 ≤ 6; omega))
    · have hl : lv_has ls 4 [(2, .ref o13), (0, .ref (a 4)), (1, .ref q)] := hl
      refine W.eq (g2 := F0 m 44 ls [.ref d32]) rfl ?_
      have hms := (hna.2 c0 dO hen.1.2.2 hrO).2.2 o13 _ d32 ho14 (h31 d32 rfl)
      obtain ⟨hm3, lp, np, cpp, rt, j9, itp, a1, a2, a3, a4, a5, a6, hj9, a7⟩ := hms
      have hc60 : c0 < 60 := by have z9 := hna.1.1; have z8 := hen.1.2.2; omega
      have hcf : CaF pb 24 (nI j9) np rt c0 (fun i => tyc (tyN (B 11) sz (K.2.1 2 (itp i)))) := ⟨hc60, Or.inr ⟨rfl, j9, rfl, a7⟩⟩
      refine lv_astore_n (lv' := [(3, .ref d32), (2, .ref o13), (0, .ref (a 4)), (1, .ref q)]) hx hb dX0_superCall_44 rfl hl (by decide) rfl (fun ls hl => ?_)
      refine lv_aload_n hx hb dX0_superCall_45 rfl (lv_at hl 2 rfl) ?_
      refine lv_aload_n hx hb dX0_superCall_46 rfl (lv_at hl 3 rfl) ?_
      refine lv_aload_n hx hb dX0_superCall_47 rfl (lv_at hl 0 rfl) ?_
      refine lv_bipush (v := 24) hx hb dX0_superCall_48 (by decide) ?_
      refine lv_aload_n hx hb dX0_superCall_50 rfl (lv_at hl 0 rfl) ?_
      refine lv_ifnonnull (tgt := 58) hx hb dX0_superCall_51 (by decide) ?_
      refine lv_aload_n hx hb dX0_superCall_58 rfl (lv_at hl 0 rfl) ?_
      refine p_get (v := .int (nI j9)) (C := RX6) (Tc := TX6) (N := 12) (ci := 12) hx hb hq pin_wsX60 hown hE hP hO (by rw [hm3]; decide) (rep_3 hm3) rfl 6 (by decide) (hq _ pw_220) (fun _ h9 => h9) (congrArg (fun z => some (Value.int z)) a6) dX0_superCall_59 ?_
      have hO : OKP G h0 a (upd (upd (upd (upd (upd (upd (upd (upd (upd (upd (upd F 2 (nI sz)) 5 (nI cs)) 7 (nI hd)) 12 (nI vr)) 13 as9) 5 (nI (cs + 1))) 2 (nI sz)) 5 (nI (cs + 1))) 7 (nI hd)) 12 (nI vr)) 13 as9) (updR (updR (updR (updR R 2 (.ref pq)) 3 (.ref mq)) 2 (.ref pq)) 3 (.ref mq)) Z (updA (updA (updA (updA B 16 (upd ((B 16)) cs 2)) 17 (upd ((B 17)) cs 0)) 18 (upd ((B 18)) cs 0)) 19 (upd ((B 19)) cs (nI hd))) J K w := hO.to rfl
      obtain ⟨_, qr41, hqr42⟩ := hO.2.1 24 _ (sg_24 G h0 a _ _ _ _ _)
      refine pn_V0 (G := G) (As := [.ref q, .ref d32, .int 24, .int (nI j9)]) (rest := []) hx hb hml hown hq hE hX pX0_al hP hD hS hA hl.1 (Y_arguments l G h0 a (upd (upd (upd (upd (upd (upd F 2 (nI sz)) 5 (nI cs)) 7 (nI hd)) 12 (nI vr)) 13 as9) 5 (nI (cs + 1))) (updR (updR R 2 (.ref pq)) 3 (.ref mq)) Z (updA (updA (updA (updA B 16 (upd ((B 16)) cs 2)) 17 (upd ((B 17)) cs 0)) 18 (upd ((B 18)) cs 0)) 19 (upd ((B 19)) cs (nI hd))) J K w pq dr ml nd nm cp it s9 q mq (cs + 1) vr sz n d32 lp np cpp rt c0 itp 24 (nI j9) g rk pb Ag10 pd sl os m9 sn lo hd c0 as9 okA (by omega) (BdE.wp BdE.rfl hwp) (BdE.pt BdE.rfl hwp hps) (BdE.rko BdE.rfl hrk) (by omega) (by omega) hng12 hmq hqT hqL (EkA.be BdE.rfl ((BeR.up (k := 19) (f := (upd ((B 19)) cs (nI hd))) (BeR.up (k := 18) (f := (upd ((B 18)) cs 0)) (BeR.up (k := 17) (f := (upd ((B 17)) cs 0)) (BeR.up (k := 16) (f := (upd ((B 16)) cs 2)) BeR.rfl (by omega)) (by omega)) (by omega)) (by omega)) 7 (by decide)) ((BeR.up (k := 19) (f := (upd ((B 19)) cs (nI hd))) (BeR.up (k := 18) (f := (upd ((B 18)) cs 0)) (BeR.up (k := 17) (f := (upd ((B 17)) cs 0)) (BeR.up (k := 16) (f := (upd ((B 16)) cs 2)) BeR.rfl (by omega)) (by omega)) (by omega)) (by omega)) 11 (by decide)) hek) (OwC.be BdE.rfl hmq hdr0 hcO) (NaB.be BdE.rfl BeF.rfl hwp hps.2.1 hdr0 ((BeR.up (k := 19) (f := (upd ((B 19)) cs (nI hd))) (BeR.up (k := 18) (f := (upd ((B 18)) cs 0)) (BeR.up (k := 17) (f := (upd ((B 17)) cs 0)) (BeR.up (k := 16) (f := (upd ((B 16)) cs 2)) BeR.rfl (by omega)) (by omega)) (by omega)) (by omega)) 11 (by decide)) hna) (EnV.of ((BeR.up (k := 19) (f := (upd ((B 19)) cs (nI hd))) (BeR.up (k := 18) (f := (upd ((B 18)) cs 0)) (BeR.up (k := 17) (f := (upd ((B 17)) cs 0)) (BeR.up (k := 16) (f := (upd ((B 16)) cs 2)) BeR.rfl (by omega)) (by omega)) (by omega)) (by omega)) 26 (by decide)) ((BeR.up (k := 19) (f := (upd ((B 19)) cs (nI hd))) (BeR.up (k := 18) (f := (upd ((B 18)) cs 0)) (BeR.up (k := 17) (f := (upd ((B 17)) cs 0)) (BeR.up (k := 16) (f := (upd ((B 16)) cs 2)) BeR.rfl (by omega)) (by omega)) (by omega)) (by omega)) 27 (by decide)) hen) (fun z => (hev11 z).1) (by omega) hop hlf hm3 a1 a2 a3 a4 a5 hcf (ArF.be BdE.rfl hqT har) ⟨hM.2, by omega⟩ ihv hO hl0) (gV pw_187 pw_188 pw_189 pw_63 pw_270) hV_X0_arguments qr41 0 hqr42 rfl rfl rfl (Nat.le_of_ble_eq_true rfl) dX0_superCall_62 ⟨(by show 0 + 1 ≤ 1; omega), (by show 0 + 6 ≤ 6; omega)⟩ ⟨(by show (5 * n + 32) + 1 ≤ (5 * n + 33); omega), (by show 8 + (7 + 11) + (200 * n + 520) ≤ (200 * n + 560); omega)⟩ (fun v40 u38 H locs hw39 hP hD hS => ?_) (fun ux ce9 q9 H9 locs9 hux hP9 hD9 hS9 hce hcv hcl => pb_out ux (ThQ.up (Thx.same (Thx.same (Thx.same (Thx.same (Thx.same (Thx.b (Thx.b8 (Thx.b (Thx.b (Thx.f Thx.rfl (by omega)) (by omega) (by decide)) (by omega) (by decide)) hng12) (by omega) (by decide)) rfl) rfl) rfl) rfl) rfl) (show RhX (updR (updR R 2 (.ref pq)) 3 (.ref mq)) (updR (updR (updR (updR R 2 (.ref pq)) 3 (.ref mq)) 2 (.ref pq)) 3 (.ref mq)) from fun k9 hk9 => by unfold updR; simp only [show ¬ k9 = 1 by omega, show ¬ k9 = 2 by omega, show ¬ k9 = 3 by omega, show ¬ k9 = 4 by omega, if_false]) hux) hnt hlocks hce hcv hcl hP9 hD9 hS9 (by show 0 + 1 ≤ 1; omega) (by show 0 + 6 ≤ 6; omega))
      obtain ⟨w, K43, B44, cs45, as46, wt47, wf48, t49, Ag50⟩ := u38
      obtain ⟨hw39, h51, h52, h53, h54, h55, h56, h57, h58, h59, h60, h61, hO⟩ := hw39
      have h51 : SmW (updA (updA (updA (updA B 16 (upd ((B 16)) cs 2)) 17 (upd ((B 17)) cs 0)) 18 (upd ((B 18)) cs 0)) 19 (upd ((B 19)) cs (nI hd))) B44 (cs + 1) := h51
      have h52 : BdE K K43 := h52
      have h53 : BeF K K43 := h53
      have h54 : BeL K K43 none := h54
      have h55 : BeI K K43 g q := h55
      have h56 : Bth (updA (updA (updA (updA B 16 (upd ((B 16)) cs 2)) 17 (upd ((B 17)) cs 0)) 18 (upd ((B 18)) cs 0)) 19 (upd ((B 19)) cs (nI hd))) B44 := h56
      have h57 : BeR (updA (updA (updA (updA B 16 (upd ((B 16)) cs 2)) 17 (upd ((B 17)) cs 0)) 18 (upd ((B 18)) cs 0)) 19 (upd ((B 19)) cs (nI hd))) B44 := h57
      have h58 : t49 < 128 := h58
      have h59 : (cs + 1) ≤ cs45 ∧ cs45 + 1 ≤ (cs + 1) + 2 * (rE (g 2 q) - rM (g 2 q)) := h59
      have h60 : AsE as9 as46 := h60
      have h61 : okA → EvB pb (updA (updA (updA (updA B 16 (upd ((B 16)) cs 2)) 17 (upd ((B 17)) cs 0)) 18 (upd ((B 18)) cs 0)) 19 (upd ((B 19)) cs (nI hd))) B44 Ag10 Ag50 pd m9 sn lo (cs + 1) cs45 as9 as46 hd sl (rsO t49 os) ∧ (cs + 1) < cs45 := h61
      obtain rfl : v40 = some (.int (nI t49)) := hw39
      have hf62 : K43.1 pq = 7 := (BdE.T h52 hp1 (by decide))
      have hf63 : K43.2.2.1 18 pq = some (a 1) := (BdE.C h52 (by rw [hp1]; decide) 18).trans hp2
      have hf64 : K43.2.2.1 14 pq = some dr := (BdE.C h52 (by rw [hp1]; decide) 14).trans hp3
      have hf65 : K43.1 dr = 8 := (BdE.T h52 hp4 (by decide))
      have hf66 : K43.2.2.1 15 pq = some ml := (BdE.C h52 (by rw [hp1]; decide) 15).trans hp5
      have hf67 : K43.1 ml = 5 := (BdE.T h52 hp6 (by decide))
      have hf68 : K43.2.1 24 pq = (nI nd) := (BdE.I h52 (by rw [hp1]; decide) (by decide) (by decide)).trans hp8
      have hf69 : K43.1 q = 1 := (BdE.T h52 hqT (by decide))
      have hf70 : K43.1 mq = 3 := (BdE.T h52 hmq (by decide))
      have hf71 : K43.2.1 15 dO = (nI c0) := (BdE.I h52 (by rw [htO]; decide) (by decide) (by decide)).trans hnO
      have hf72 : K43.2.2.1 5 mq = some dO := (BdE.C h52 (by rw [hmq]; decide) 5).trans hdO
      have hf73 : K43.1 dO = 4 := (BdE.T h52 htO (by decide))
      have hf74 : K43.2.1 1 q = tk := (BdE.I h52 (by rw [hqT]; decide) (by decide) (by decide)).trans htk
      have hf75 : K43.2.2.1 10 dO = some o13 := (BdE.C h52 (by rw [htO]; decide) 10).trans ho14
      have hf76 : K43.1 o13 = 4 := (BdE.T h52 hpT (by decide))
      have hf77 : K43.1 d32 = 3 := (BdE.T h52 hm3 (by decide))
      have hf78 : K43.2.1 9 d32 = (nI j9) := (BdE.I h52 (by rw [hm3]; decide) (by decide) (by decide)).trans a6
      have hO : OKP G h0 a (upd (upd (upd (upd (upd (upd (upd F 2 (nI sz)) 5 (nI cs45)) 7 (nI hd)) 12 (nI vr)) 13 as46) 14 wt47) 15 wf48) (updR (updR R 2 (.ref pq)) 3 (.ref mq)) Z B44 J K43 w := hO.to rfl
      refine W.widen (k := 0) (n := 0) (by show 0 + 0 ≤ 0; omega) (by show 0 + 0 ≤ 0; omega) ?_
      refine W.eq (g2 := F0 m 65 ls [.int (nI t49)]) rfl ?_
      have hbe79 := BdE.trans BdE.rfl h52
      have hbb80 : Bth B B44 := Bth.trans (show Thx (upd (upd (upd (upd (upd F 2 (nI sz)) 5 (nI cs)) 7 (nI hd)) 12 (nI vr)) 13 as9) (upd (upd (upd (upd (upd (upd F 2 (nI sz)) 5 (nI cs)) 7 (nI hd)) 12 (nI vr)) 13 as9) 5 (nI (cs + 1))) B (updA (updA (updA (updA B 16 (upd ((B 16)) cs 2)) 17 (upd ((B 17)) cs 0)) 18 (upd ((B 18)) cs 0)) 19 (upd ((B 19)) cs (nI hd))) from (Thx.b (Thx.b8 (Thx.b (Thx.b (Thx.f Thx.rfl (by omega)) (by omega) (by decide)) (by omega) (by decide)) hng12) (by omega) (by decide))).2 h56
      have hng81 : Nng (B44 18) := h56.2 hng12
      have hsw82 : ∀ x9 : Nat, x9 < cs → (B44 16) x9 = B 16 x9 := fun x9 hx9 => ((h51 x9 (by omega)).1).trans (hsw6 x9 hx9)
      have hsw83 : ∀ x9 : Nat, x9 < cs → (B44 17) x9 = B 17 x9 := fun x9 hx9 => ((h51 x9 (by omega)).2.1).trans (hsw7 x9 hx9)
      have hsw84 : ∀ x9 : Nat, x9 < cs → (B44 18) x9 = B 18 x9 := fun x9 hx9 => ((h51 x9 (by omega)).2.2.1).trans (hsw8 x9 hx9)
      have hsw85 : ∀ x9 : Nat, x9 < cs → (B44 19) x9 = B 19 x9 := fun x9 hx9 => ((h51 x9 (by omega)).2.2.2).trans (hsw9 x9 hx9)
      have hbf86 := BeF.trans BeF.rfl h53 BdE.rfl
      have hbl88 := BeL.trans BeL.rfl h54 BdE.rfl
      have hbi89 := BeI.trans BeI.rfl h55 BdE.rfl InE.rfl
      have hbr87 : BeR B B44 := BeR.trans (BeR.up (k := 19) (f := (upd ((B 19)) cs (nI hd))) (BeR.up (k := 18) (f := (upd ((B 18)) cs 0)) (BeR.up (k := 17) (f := (upd ((B 17)) cs 0)) (BeR.up (k := 16) (f := (upd ((B 16)) cs 2)) BeR.rfl (by omega)) (by omega)) (by omega)) (by omega)) h57
      have has90 : AsE as9 as46 := AsE.trans AsE.rfl h60
      have hev91 : okA → EvQ pb.1 pb.2.1 pb.2.2.1 pb.2.2.2 (B 16) (B 17) (B 18) (B 19) (B44 16) (B44 17) (B44 18) (B44 19) Ag Ag50 pd m9 sn lo cs cs45 as9 as46 hd sl (rsO t49 os) := fun z => (hev11 z).trans (h61 z).1
      have hst9 := fun z => (h61 z).2
      refine W_size (fun hz1 hz2 => ?_)
      refine vx_ret ?_
      have hz92 : SmW B B44 cs := (fun x9 hx9 => ⟨hsw82 x9 hx9, hsw83 x9 hx9, hsw84 x9 hx9, hsw85 x9 hx9⟩)
      have hz93 : BdE K K43 := hbe79
      have hz94 : BeF K K43 := hbf86
      have hz95 : BeL K K43 none := hbl88
      have hz96 : BeI K K43 g q := hbi89
      have hz97 : Bth B B44 := (show Thx (upd (upd (upd (upd (upd F 2 (nI sz)) 5 (nI cs)) 7 (nI hd)) 12 (nI vr)) 13 as9) (upd (upd (upd (upd (upd (upd (upd (upd (upd F 2 (nI sz)) 5 (nI cs)) 7 (nI hd)) 12 (nI vr)) 13 as9) 5 (nI cs45)) 13 as46) 14 wt47) 15 wf48) B B44 from (Thx.f (Thx.f (Thx.f (Thx.f (Bth.thx hbb80) (by omega)) (by omega)) (by omega)) (by omega))).2
      have hz98 : BeR B B44 := hbr87
      have hz99 : t49 < 128 := (by omega)
      have hz100 : cs ≤ cs45 ∧ cs45 + 2 ≤ cs + 2 * tlE g q := (by omega)
      have hz101 : AsE as9 as46 := has90
      have hz102 : okA → PlQ pb B B44 Ag Ag50 pd m9 sn lo cs cs45 as9 as46 hd sl os t49 (K.2.1 0 q) := (fun z => Or.inr ⟨hev91 z, by have z9 := hst9 z; omega⟩)
      have hO : OKP G h0 a (upd (upd (upd (upd (upd (upd (upd F 2 (nI sz)) 5 (nI cs45)) 7 (nI hd)) 12 (nI vr)) 13 as46) 14 wt47) 15 wf48) (updR (updR R 2 (.ref pq)) 3 (.ref mq)) Z B44 J K43 w := hO.to rfl
      refine W.widen (k := 1) (n := 6) (by omega) (by omega) ?_
      have hzz1 : H.size ≤ s.heap.size + (0) := (by have z : 0 ≤ 0 := (by omega); omega)
      have hzz2 : hSl H ≤ hSl s.heap + (0) := (by have z : 0 ≤ 0 := (by omega); omega)
      exact W.iret (v := (nI t49)) hx hb hr (fun t99 ht99 hW99 => ⟨⟨_, (w, (K43, B44, cs45, as46, wt47, wf48, t49, Ag50)), rfl, ⟨rfl, hz92, hz93, hz94, hz95, hz96, hz97, hz98, hz99, hz100, hz101, hz102, hO⟩, by rw [ht99]; exact hP, hD, by rw [ht99]; exact hzz1, by rw [ht99]; exact hzz2⟩, hS.F ht99⟩) hS.2.2 dX0_superCall_65
