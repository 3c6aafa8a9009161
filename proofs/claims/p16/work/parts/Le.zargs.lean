set_option maxHeartbeats 24000000 in
set_option maxRecDepth 100000 in
theorem Y_arguments (l : Launch) (G : pT) (h0 : Nat) (a : Nat → Nat) (F : Nat → Int32) (R : Nat → Value) (Z : Int64) (B : Nat → Nat → Int32) (J : Nat → Nat → Int64) (K : PK) (w : va_W) (pq : Nat) (dr : Nat) (ml : Nat) (nd : Nat) (nm : Nat) (cp : Nat) (it : Nat → Nat) (s9 : Nat) (q : Nat) (mq : Nat) (cs : Nat) (vr : Nat) (sz : Nat) (n : Nat) (m2 : Nat) (lp : Nat) (np : Nat) (cpp : Nat) (rt : Nat) (cR : Nat) (itp : Nat → Nat) (x1 : Int32) (x2 : Int32) (g : Nat → Nat → Nat) (rk : Nat → Nat) (pb : PNb) (Ag : Nat → AS) (pd : Nat → Prop) (sl : Nat → Nat) (os : List Nat) (m9 : Nat) (sn : Nat) (lo : Nat) (hd : Nat) (c0 : Nat) (as9 : Int32) (okA : Prop) (hsz : sz ≤ 5000) (hwp : WPr G K g) (hps : PgT G K g (a 1) pq dr ml nd nm cp it s9) (hrk : RkO K rk) (hcs : cs ≤ 10000) (hvr : vr ≤ 30) (hng : Nng (B 18)) (hmq : K.1 mq = 3) (hqT : K.1 q = 1) (hqL : 1 ≤ g 0 q ∧ g 0 q ≤ n) (hek : EkA pb K g (B 7) (B 11) sz) (hcO : OwC K dr mq c0) (hna : NaB pb G K (B 11) dr nd sz) (hen : EnV (B 26) (B 27) nd vr hd c0 sl) (hem : okA → EmB pb B Ag pd m9 sn lo cs as9 hd sl (cR :: os)) (hrm : cs + 2 * (rE (g 2 q) - rM (g 2 q)) ≤ 10000) (hop : os.length + ndE g q ≤ 248) (hlf : 1 ≤ tlE g q ∧ 1 ≤ ndE g q) (hm2 : K.1 m2 = 3) (hlp : K.2.2.1 6 m2 = some lp) (hlc : LsC G K lp 1 np itp cpp) (hnp : np ≤ 8) (hrt : K.2.1 10 m2 = nI rt) (hrv : TyV nd rt) (hcf : CaF pb x1 x2 np rt cR (fun i => tyc (tyN (B 11) sz (K.2.1 2 (itp i))))) (har : ArF K g q) (hM : rM (g 2 q) + 1 ≤ rE (g 2 q) ∧ rS (g 2 q) ≤ rM (g 2 q)) (ihv : IhY l G n) (hO : OKP G h0 a (upd (upd (upd (upd (upd F 2 (nI sz)) 5 (nI cs)) 7 (nI hd)) 12 (nI vr)) 13 as9) (updR (updR R 2 (.ref pq)) 3 (.ref mq)) Z B J K w) (hl0 : l.stackTraces = false) : PBn l G pX0 yX0_arguments cX0_arguments 7 (some .int) ({ frames := (5 * n + 32), cells := 1, slots := 6, locals := (200 * n + 520) }) [.ref (a 4), .ref q, .ref m2, .int x1, .int x2] w (fun (v : Option Value) (u : va_W × (PK × (Nat → Nat → Int32) × Nat × Int32 × Int32 × Int32 × Nat × (Nat → AS))) => v = some (.int (nI u.2.2.2.2.2.2.2.1)) ∧ (SmW B u.2.2.1 cs) ∧ (BdE K u.2.1) ∧ (BeF K u.2.1) ∧ (BeL K u.2.1 none) ∧ (BeI K u.2.1 g q) ∧ (Bth B u.2.2.1) ∧ (BeR B u.2.2.1) ∧ (u.2.2.2.2.2.2.2.1 < 128) ∧ (cs ≤ u.2.2.2.1 ∧ u.2.2.2.1 + 1 ≤ cs + 2 * (rE (g 2 q) - rM (g 2 q))) ∧ (AsE as9 u.2.2.2.2.1) ∧ (okA → EvB pb B u.2.2.1 Ag u.2.2.2.2.2.2.2.2 pd m9 sn lo cs u.2.2.2.1 as9 u.2.2.2.2.1 hd sl (rsO u.2.2.2.2.2.2.2.1 os) ∧ cs < u.2.2.2.1) ∧ (OKP G h0 a (upd (upd (upd (upd (upd (upd (upd F 2 (nI sz)) 5 (nI u.2.2.2.1)) 7 (nI hd)) 12 (nI vr)) 13 u.2.2.2.2.1) 14 u.2.2.2.2.2.1) 15 u.2.2.2.2.2.2.1) (updR (updR R 2 (.ref pq)) 3 (.ref mq)) Z u.2.2.1 J u.2.1 u.1)) (fun u => u.1) (fun (u : va_W × (PK × (Nat → Nat → Int32) × Nat × Int32 × Int32 × Int32 × Nat × (Nat → AS))) => 0) (fun (u : va_W × (PK × (Nat → Nat → Int32) × Nat × Int32 × Int32 × Int32 × Nat × (Nat → AS))) => 0) (fun (u : va_W × (Nat → Int32) × (Nat → Value) × (Nat → Nat → Int32)) => ThQ G h0 a (upd (upd (upd (upd (upd F 2 (nI sz)) 5 (nI cs)) 7 (nI hd)) 12 (nI vr)) 13 as9) (updR (updR R 2 (.ref pq)) 3 (.ref mq)) Z B J u) (fun u => u.1) := by
  intro sz
  refine vx_ofW (cc := cX0_arguments) (maxL := 7) (ret := (some .int)) (by decide) rfl ?_
  intro p e s m args below meth c s₁ B9 hml hnt hv
  obtain ⟨rfl, hsz, hP, hD0, hE, hX⟩ := hv
  have hx := B9.exec
  have hb := B9.bytes
  have hr := B9.returns
  have hts := atoms_spec (ws := Cond.code yX0_arguments cX0_arguments 7 (some .int) :: pw) B9.pre
  have hq : ∀ w ∈ pw, w.before _ s = true := fun w h => hts w (List.mem_cons_of_mem _ h)
  have hown : s.vm.findClass RX0 = some m.cls := findClass_of_methodNamed B9.named
  have hlocks := B9.notSynchronized
  subst hsz
  have hD := hD0.self (sz := s.heap.size)
  have hA : ∀ q : Nat, s.heap.size ≤ q → va_A w s.heap.size q := fun q h => Or.inr h
  generalize va_A w s.heap.size = A at hD hE hA ⊢
  have hS : va_S A s.heap s.heap [] := va_S.rf
  have hl := lv_entry ([.ref (a 4), .ref q, .ref m2, .int x1, .int x2]) (n := 7) (Nat.le_of_ble_eq_true rfl)
  rw [lg_entry_eq]
  generalize (lg_sl ([.ref (a 4), .ref q, .ref m2, .int x1, .int x2]) ++ List.replicate (7 - (lg_sl ([.ref (a 4), .ref q, .ref m2, .int x1, .int x2])).length) Slot.unset).toArray = ls at hl ⊢
  have hl : lv_has ls 7 [(0, .ref (a 4)), (1, .ref q), (2, .ref m2), (3, .int x1), (4, .int x2)] := hl
  have hpg := hps.1
  have hp1 := hpg.1
  have hp2 := hpg.2.1
  have hp3 := hpg.2.2.1
  have hp4 := hpg.2.2.2.1
  have hp5 := hpg.2.2.2.2.1
  have hp6 := hpg.2.2.2.2.2.1
  have hp8 := hpg.2.2.2.2.2.2.2.1
  have hp9 := hpg.2.2.2.2.2.2.2.2
  have hdr0 : ¬ K.1 dr = 0 := by rw [hp4]; decide
  have hev0 : okA → EvQ pb.1 pb.2.1 pb.2.2.1 pb.2.2.2 (B 16) (B 17) (B 18) (B 19) (B 16) (B 17) (B 18) (B 19) Ag Ag pd m9 sn lo cs cs as9 as9 hd sl (cR :: os) := fun z => EvB.nil (hem z)
  have hrt9 : rt < 128 := TyV.lt hrv (by omega)
  refine lv_aload_n hx hb dX0_arguments_0 rfl (lv_at hl 2 rfl) ?_
  refine lv_ifnonnull (tgt := 20) hx hb dX0_arguments_1 (by decide) ?_
  refine lv_iconst (v := 0) hx hb dX0_arguments_20 (by decide) ?_
  refine lv_istore (lv' := [(5, .int 0), (0, .ref (a 4)), (1, .ref q), (2, .ref m2), (3, .int x1), (4, .int x2)]) hx hb dX0_arguments_21 hl (by decide) rfl (fun ls hl => ?_)
  have loop_g : ∀ (n_g : Nat) (i2 : Nat) (o2 : Option Nat) (K2 : PK) (B2 : Nat → Nat → Int32) (cs2 : Nat) (as2 : Int32) (wt2 : Int32) (wf2 : Int32) (Ag2 : Nat → AS) (ar : List Nat) (p2 : Nat) (H : Heap) (locs : List Loc) (ls : Array Slot) (w : va_W), i2 ≤ np → np + 1 ≤ i2 + n_g → (BdE K K2) → (BeF K K2) → (BeL K K2 none) → (BeI K K2 g q) → (BeR B B2) → (Bth B B2) → (Nng (B2 18)) → (SmW B B2 cs) → (AsE as9 as2) → (cs ≤ cs2 ∧ cs2 ≤ cs + 2 * (p2 - rM (g 2 q))) → (rM (g 2 q) ≤ p2 ∧ p2 + 1 ≤ rE (g 2 q)) → (i2 + 1 ≤ ndE g q) → (ArN K2 g q p2 o2) → (ar.length = i2) → (okA → ArgL pb.1 (fun i => tyc (tyN (B 11) sz (K.2.1 2 (itp i)))) ar) → (okA → EvQ pb.1 pb.2.1 pb.2.2.1 pb.2.2.2 (B 16) (B 17) (B 18) (B 19) (B2 16) (B2 17) (B2 18) (B2 19) Ag Ag2 pd m9 sn lo cs cs2 as9 as2 hd sl (ar ++ cR :: os)) → va_P G.1 pCl w H → va_D A w → va_S A s.heap H locs → OKP G h0 a (upd (upd (upd (upd (upd (upd (upd F 2 (nI sz)) 5 (nI cs2)) 7 (nI hd)) 12 (nI vr)) 13 as2) 14 wt2) 15 wf2) (updR (updR R 2 (.ref pq)) 3 (.ref mq)) Z B2 J K2 w → lv_has ls 7 [(6, va_rf o2), (5, .int (nI i2)), (4, .int x2), (3, .int x1), (2, .ref m2), (1, .ref q), (0, .ref (a 4))] → W p l e (headSpec (Cond.code yX0_arguments cX0_arguments 7 (some .int) :: pw) ({ frames := (5 * n + 32), cells := 1, slots := 6, locals := (200 * n + 520) } : Room)).room s m ([.ref (a 4), .ref q, .ref m2, .int x1, .int x2] : List Value).toArray below meth c H locs 0 0 (vx_MQ below (pQn G A (fun (v : Option Value) (u : va_W × (PK × (Nat → Nat → Int32) × Nat × Int32 × Int32 × Int32 × Nat × (Nat → AS))) => v = some (.int (nI u.2.2.2.2.2.2.2.1)) ∧ (SmW B u.2.2.1 cs) ∧ (BdE K u.2.1) ∧ (BeF K u.2.1) ∧ (BeL K u.2.1 none) ∧ (BeI K u.2.1 g q) ∧ (Bth B u.2.2.1) ∧ (BeR B u.2.2.1) ∧ (u.2.2.2.2.2.2.2.1 < 128) ∧ (cs ≤ u.2.2.2.1 ∧ u.2.2.2.1 + 1 ≤ cs + 2 * (rE (g 2 q) - rM (g 2 q))) ∧ (AsE as9 u.2.2.2.2.1) ∧ (okA → EvB pb B u.2.2.1 Ag u.2.2.2.2.2.2.2.2 pd m9 sn lo cs u.2.2.2.1 as9 u.2.2.2.2.1 hd sl (rsO u.2.2.2.2.2.2.2.1 os) ∧ cs < u.2.2.2.1) ∧ (OKP G h0 a (upd (upd (upd (upd (upd (upd (upd F 2 (nI sz)) 5 (nI u.2.2.2.1)) 7 (nI hd)) 12 (nI vr)) 13 u.2.2.2.2.1) 14 u.2.2.2.2.2.1) 15 u.2.2.2.2.2.2.1) (updR (updR R 2 (.ref pq)) 3 (.ref mq)) Z u.2.2.1 J u.2.1 u.1)) (fun u => u.1) (fun (u : va_W × (PK × (Nat → Nat → Int32) × Nat × Int32 × Int32 × Int32 × Nat × (Nat → AS))) => 0) (fun (u : va_W × (PK × (Nat → Nat → Int32) × Nat × Int32 × Int32 × Int32 × Nat × (Nat → AS))) => 0)) (pXX G A (fun (u : va_W × (Nat → Int32) × (Nat → Value) × (Nat → Nat → Int32)) => ThQ G h0 a (upd (upd (upd (upd (upd F 2 (nI sz)) 5 (nI cs)) 7 (nI hd)) 12 (nI vr)) 13 as9) (updR (updR R 2 (.ref pq)) 3 (.ref mq)) Z B J u) (fun u => u.1)) ([.ref (a 4), .ref q, .ref m2, .int x1, .int x2] : List Value).toArray s ({ frames := (5 * n + 32), cells := 1, slots := 6, locals := (200 * n + 520) } : Room).cells ({ frames := (5 * n + 32), cells := 1, slots := 6, locals := (200 * n + 520) } : Room).slots A) (F0 m 29 ls []) := by
    intro n_g
    induction n_g with
    | zero => intro i2 o2 K2 B2 cs2 as2 wt2 wf2 Ag2 ar p2 H locs ls w hk_g hn_g; omega
    | succ n_g ih_g =>
      intro i2 o2 K2 B2 cs2 as2 wt2 wf2 Ag2 ar p2 H locs ls w hk_g hn_g hbe2 hbf2 hbl2 hbi2 hbr2 hbb2 hng2 hsw2 has2 hcs2 hpr2 hnd2 hpo2 hal2 hag2 hev2 hP hD hS hO hl
      have hf1 : K2.1 pq = 7 := (BdE.T hbe2 hp1 (by decide))
      have hf2 : K2.2.2.1 18 pq = some (a 1) := (BdE.C hbe2 (by rw [hp1]; decide) 18).trans hp2
      have hf3 : K2.2.2.1 14 pq = some dr := (BdE.C hbe2 (by rw [hp1]; decide) 14).trans hp3
      have hf4 : K2.1 dr = 8 := (BdE.T hbe2 hp4 (by decide))
      have hf5 : K2.2.2.1 15 pq = some ml := (BdE.C hbe2 (by rw [hp1]; decide) 15).trans hp5
      have hf6 : K2.1 ml = 5 := (BdE.T hbe2 hp6 (by decide))
      have hf7 : K2.2.1 24 pq = (nI nd) := (BdE.I hbe2 (by rw [hp1]; decide) (by decide) (by decide)).trans hp8
      have hf8 : K2.1 q = 1 := (BdE.T hbe2 hqT (by decide))
      have hf9 : K2.1 mq = 3 := (BdE.T hbe2 hmq (by decide))
      have hf10 : K2.1 m2 = 3 := (BdE.T hbe2 hm2 (by decide))
      have hf11 : K2.2.2.1 6 m2 = some lp := (BdE.C hbe2 (by rw [hm2]; decide) 6).trans hlp
      have hf12 : K2.1 lp = 5 := (BdE.T hbe2 hlc.1 (by decide))
      have hf13 : K2.2.1 10 m2 = (nI rt) := (BdE.I hbe2 (by rw [hm2]; decide) (by decide) (by decide)).trans hrt
      rcases o2 with _ | x9
      · have hl : lv_has ls 7 [(6, .null), (5, .int (nI i2)), (4, .int x2), (3, .int x1), (2, .ref m2), (1, .ref q), (0, .ref (a 4))] := hl
        refine W.eq (g2 := F0 m 29 ls []) rfl ?_
        refine lv_aloadN hx hb dX0_arguments_29 (lv_at hl 0 rfl) ?_
        refine lv_ifnullN (tgt := 110) hx hb dX0_arguments_31 (by decide) ?_
        refine lv_iload hx hb dX0_arguments_110 (lv_at hl 1 rfl) ?_
        refine lv_aload_n hx hb dX0_arguments_112 rfl (lv_at hl 4 rfl) ?_
        refine p_get (v := .ref lp) (C := RX6) (Tc := TX6) (N := 12) (ci := 12) hx hb hq pin_wsX60 hown hE hP hO (by rw [hf10]; decide) (rep_3 hf10) rfl 4 (by decide) (hq _ pw_79) (fun _ h9 => h9) (congrArg (fun z => some (va_rf z)) hf11) dX0_arguments_113 ?_
        have hO : OKP G h0 a (upd (upd (upd (upd (upd (upd (upd F 2 (nI sz)) 5 (nI cs2)) 7 (nI hd)) 12 (nI vr)) 13 as2) 14 wt2) 15 wf2) (updR (updR R 2 (.ref pq)) 3 (.ref mq)) Z B2 J K2 w := hO.to rfl
        obtain ⟨qr17, hqr18⟩ := p_recv hO (by rw [hf12]; decide) (rep_5 hf12)
        refine pc_V0 (G := G) (As := []) (rest := [.int (nI i2)]) hx hb hml hown hq hE hX pX0_al hP hD hS hA hl.1 (L_size l G h0 a (upd (upd (upd (upd (upd (upd (upd F 2 (nI sz)) 5 (nI cs2)) 7 (nI hd)) 12 (nI vr)) 13 as2) 14 wt2) 15 wf2) (updR (updR R 2 (.ref pq)) 3 (.ref mq)) Z B2 J K2 w lp 1 np itp (BdE.lsc hbe2 hlc (by decide)).ls hO) (gV pw_86 pw_87 pw_88 pw_32 pw_16) hV_Jx4a65c_size_8abf5 qr17 10 hqr18 rfl rfl rfl (Nat.le_of_ble_eq_true rfl) dX0_arguments_116 ⟨(by show 0 + 0 ≤ 1; omega), (by show 0 + 0 ≤ 6; omega)⟩ ⟨(by show 2 + 1 ≤ (5 * n + 32); omega), (by show 8 + (1 + 11) + 60 ≤ (200 * n + 520); omega)⟩ (fun v16 u14 H locs hw15 hP hD hS => ?_)
        obtain ⟨w, _⟩ := u14
        obtain ⟨hw15, hO⟩ := hw15
        obtain rfl : v16 = some (.int (nI np)) := hw15
        have hO : OKP G h0 a (upd (upd (upd (upd (upd (upd (upd F 2 (nI sz)) 5 (nI cs2)) 7 (nI hd)) 12 (nI vr)) 13 as2) 14 wt2) 15 wf2) (updR (updR R 2 (.ref pq)) 3 (.ref mq)) Z B2 J K2 w := hO.to rfl
        refine W.widen (k := 0) (n := 0) (Nat.le_of_ble_eq_true rfl) (Nat.le_of_ble_eq_true rfl) ?_
        refine W.eq (g2 := F0 m 119 ls [.int (nI np), .int (nI i2)]) rfl ?_
        refine lv_icmp_ge (tgt := 135) hx hb dX0_arguments_119 (by decide) (fun c19 => ?_) (fun c19 => ?_)
        · have n20 : np ≤ i2 := (nI_leI (a := np) (b := i2) (by omega) (by omega)).mp c19
          refine lv_aload_n hx hb dX0_arguments_135 rfl (lv_at hl 6 rfl) ?_
          refine c_get (v := .ref (a 2)) (C := RX0) (Tc := TX0) (N := 13) (ci := 0) hx hb hq pin_wsX00 hown hE hP hO 24 (sg_24 G h0 a _ _ _ _ _) rfl 1 (by decide) (hq _ pw_5) (fun _ h9 => h9) rfl dX0_arguments_136 ?_
          refine lv_iload_n hx hb dX0_arguments_139 rfl (lv_at hl 3 rfl) ?_
          refine lv_iload hx hb dX0_arguments_140 (lv_at hl 2 rfl) ?_
          refine lv_iload hx hb dX0_arguments_142 (lv_at hl 1 rfl) ?_
          have hnp9 : i2 = np := by omega
          have hO : OKW G h0 a (upd (upd (upd (upd (upd (upd (upd (upd (upd F 2 (nI sz)) 5 (nI cs2)) 7 (nI hd)) 12 (nI vr)) 13 as2) 14 wt2) 15 wf2) 5 (nI cs2)) 7 (nI hd)) (updR (updR R 2 (.ref pq)) 3 (.ref mq)) Z B2 J K2.1 (fun q99 x99 => x99 = rep G a K2 q99) w := hO.to rfl
          obtain ⟨_, qr24, hqr25⟩ := hO.2.1 13 _ (sg_13 G h0 a _ _ _ _ _)
          refine pc_V0 (G := G) (As := [.int x1, .int x2, .int (nI i2)]) (rest := []) hx hb hml hown hq hE hX pX0_al hP hD hS hA hl.1 (Y_emit l G h0 a (upd (upd (upd (upd (upd (upd (upd F 2 (nI sz)) 5 (nI cs2)) 7 (nI hd)) 12 (nI vr)) 13 as2) 14 wt2) 15 wf2) (updR (updR R 2 (.ref pq)) 3 (.ref mq)) Z B2 J K2.1 (fun q99 x99 => x99 = rep G a K2 q99) w x1 x2 (nI i2) cs2 hd (by omega) hO) (gV pw_129 pw_130 pw_131 pw_70 pw_115) hV_X1_emit qr24 1 hqr25 rfl rfl rfl (Nat.le_of_ble_eq_true rfl) dX0_arguments_144 ⟨(by show 0 + 0 ≤ 1; omega), (by show 0 + 0 ≤ 6; omega)⟩ ⟨(by show 2 + 1 ≤ (5 * n + 32); omega), (by show 8 + (4 + 11) + 60 ≤ (200 * n + 520); omega)⟩ (fun v23 u21 H locs hw22 hP hD hS => ?_)
          obtain ⟨w, _⟩ := u21
          obtain ⟨hw22, hO⟩ := hw22
          obtain rfl : v23 = none := hw22
          have hO : OKP G h0 a (upd (upd (upd (upd (upd (upd (upd F 2 (nI sz)) 5 (nI (cs2 + 1))) 7 (nI hd)) 12 (nI vr)) 13 as2) 14 wt2) 15 wf2) (updR (updR R 2 (.ref pq)) 3 (.ref mq)) Z (updA (updA (updA (updA B2 16 (upd ((B2 16)) cs2 x1)) 17 (upd ((B2 17)) cs2 x2)) 18 (upd ((B2 18)) cs2 (nI i2))) 19 (upd ((B2 19)) cs2 (nI hd))) J K2 w := hO.to rfl
          refine W.widen (k := 0) (n := 0) (Nat.le_of_ble_eq_true rfl) (Nat.le_of_ble_eq_true rfl) ?_
          refine W.eq (g2 := F0 m 147 ls []) rfl ?_
          have hsw26 : ∀ x9 : Nat, x9 < cs → (upd ((B2 16)) cs2 x1) x9 = B 16 x9 := fun x9 hx9 => (if_neg (by omega)).trans ((fun x9 hx9 => (hsw2 x9 hx9).1) x9 hx9)
          have hsw27 : ∀ x9 : Nat, x9 < cs → (upd ((B2 17)) cs2 x2) x9 = B 17 x9 := fun x9 hx9 => (if_neg (by omega)).trans ((fun x9 hx9 => (hsw2 x9 hx9).2.1) x9 hx9)
          have hsw28 : ∀ x9 : Nat, x9 < cs → (upd ((B2 18)) cs2 (nI i2)) x9 = B 18 x9 := fun x9 hx9 => (if_neg (by omega)).trans ((fun x9 hx9 => (hsw2 x9 hx9).2.2.1) x9 hx9)
          have hsw29 : ∀ x9 : Nat, x9 < cs → (upd ((B2 19)) cs2 (nI hd)) x9 = B 19 x9 := fun x9 hx9 => (if_neg (by omega)).trans ((fun x9 hx9 => (hsw2 x9 hx9).2.2.2) x9 hx9)
          obtain ⟨Ag30, hev31⟩ : ∃ A5 : Nat → AS, okA → EvQ pb.1 pb.2.1 pb.2.2.1 pb.2.2.2 (B 16) (B 17) (B 18) (B 19) (upd ((B2 16)) cs2 x1) (upd ((B2 17)) cs2 x2) (upd ((B2 18)) cs2 (nI i2)) (upd ((B2 19)) cs2 (nI hd)) Ag A5 pd m9 sn lo cs (cs2 + 1) as9 as2 hd sl (rsO rt os) := ⟨(upS Ag2 (cs2 + 1) (rcA as2, hd, sl, (rsO rt os))), fun z => (hev2 z).trans (CaF.emit hcf (hev2 z).1 (by rw [List.length_append, hal2]; show i2 + (os.length + 1) ≤ 248; omega) (hal2.trans hnp9) hnp9 (hag2 z))⟩
          have hng9 : Nng (upd ((B2 18)) cs2 (nI i2)) := Nng.set hng2 (k := i2) (by omega)
          have hng32 := hng9
          refine lv_aload_n hx hb dX0_arguments_147 rfl (lv_at hl 4 rfl) ?_
          refine p_get (v := .int (nI rt)) (C := RX6) (Tc := TX6) (N := 12) (ci := 12) hx hb hq pin_wsX60 hown hE hP hO (by rw [hf10]; decide) (rep_3 hf10) rfl 7 (by decide) (hq _ pw_172) (fun _ h9 => h9) (congrArg (fun z => some (Value.int z)) hf13) dX0_arguments_148 ?_
          refine W_size (fun hz1 hz2 => ?_)
          refine vx_ret ?_
          have hz33 : SmW B (updA (updA (updA (updA B2 16 (upd ((B2 16)) cs2 x1)) 17 (upd ((B2 17)) cs2 x2)) 18 (upd ((B2 18)) cs2 (nI i2))) 19 (upd ((B2 19)) cs2 (nI hd))) cs := (fun x9 hx9 => ⟨hsw26 x9 hx9, hsw27 x9 hx9, hsw28 x9 hx9, hsw29 x9 hx9⟩)
          have hz34 : BdE K K2 := hbe2
          have hz35 : BeF K K2 := hbf2
          have hz36 : BeL K K2 none := hbl2
          have hz37 : BeI K K2 g q := hbi2
          have hz38 : Bth B (updA (updA (updA (updA B2 16 (upd ((B2 16)) cs2 x1)) 17 (upd ((B2 17)) cs2 x2)) 18 (upd ((B2 18)) cs2 (nI i2))) 19 (upd ((B2 19)) cs2 (nI hd))) := (show Thx (upd (upd (upd (upd (upd F 2 (nI sz)) 5 (nI cs)) 7 (nI hd)) 12 (nI vr)) 13 as9) (upd (upd (upd (upd (upd (upd (upd (upd (upd F 2 (nI sz)) 5 (nI cs)) 7 (nI hd)) 12 (nI vr)) 13 as9) 5 (nI (cs2 + 1))) 13 as2) 14 wt2) 15 wf2) B (updA (updA (updA (updA B2 16 (upd ((B2 16)) cs2 x1)) 17 (upd ((B2 17)) cs2 x2)) 18 (upd ((B2 18)) cs2 (nI i2))) 19 (upd ((B2 19)) cs2 (nI hd))) from (Thx.b (Thx.b8 (Thx.b (Thx.b (Thx.f (Thx.f (Thx.f (Thx.f (Bth.thx hbb2) (by omega)) (by omega)) (by omega)) (by omega)) (by omega) (by decide)) (by omega) (by decide)) hng32) (by omega) (by decide))).2
          have hz39 : BeR B (updA (updA (updA (updA B2 16 (upd ((B2 16)) cs2 x1)) 17 (upd ((B2 17)) cs2 x2)) 18 (upd ((B2 18)) cs2 (nI i2))) 19 (upd ((B2 19)) cs2 (nI hd))) := (BeR.up (k := 19) (f := (upd ((B2 19)) cs2 (nI hd))) (BeR.up (k := 18) (f := (upd ((B2 18)) cs2 (nI i2))) (BeR.up (k := 17) (f := (upd ((B2 17)) cs2 x2)) (BeR.up (k := 16) (f := (upd ((B2 16)) cs2 x1)) hbr2 (by omega)) (by omega)) (by omega)) (by omega))
          have hz40 : rt < 128 := (by omega)
          have hz41 : cs ≤ (cs2 + 1) ∧ (cs2 + 1) + 1 ≤ cs + 2 * (rE (g 2 q) - rM (g 2 q)) := (by omega)
          have hz42 : AsE as9 as2 := has2
          have hz43 : okA → EvB pb B (updA (updA (updA (updA B2 16 (upd ((B2 16)) cs2 x1)) 17 (upd ((B2 17)) cs2 x2)) 18 (upd ((B2 18)) cs2 (nI i2))) 19 (upd ((B2 19)) cs2 (nI hd))) Ag Ag30 pd m9 sn lo cs (cs2 + 1) as9 as2 hd sl (rsO rt os) ∧ cs < (cs2 + 1) := (fun z => ⟨hev31 z, by omega⟩)
          have hO : OKP G h0 a (upd (upd (upd (upd (upd (upd (upd F 2 (nI sz)) 5 (nI (cs2 + 1))) 7 (nI hd)) 12 (nI vr)) 13 as2) 14 wt2) 15 wf2) (updR (updR R 2 (.ref pq)) 3 (.ref mq)) Z (updA (updA (updA (updA B2 16 (upd ((B2 16)) cs2 x1)) 17 (upd ((B2 17)) cs2 x2)) 18 (upd ((B2 18)) cs2 (nI i2))) 19 (upd ((B2 19)) cs2 (nI hd))) J K2 w := hO.to rfl
          refine W.widen (k := 1) (n := 6) (by omega) (by omega) ?_
          have hzz1 : H.size ≤ s.heap.size + (0) := (by have z : 0 ≤ 0 := (by omega); omega)
          have hzz2 : hSl H ≤ hSl s.heap + (0) := (by have z : 0 ≤ 0 := (by omega); omega)
          exact W.iret (v := (nI rt)) hx hb hr (fun t99 ht99 hW99 => ⟨⟨_, (w, (K2, (updA (updA (updA (updA B2 16 (upd ((B2 16)) cs2 x1)) 17 (upd ((B2 17)) cs2 x2)) 18 (upd ((B2 18)) cs2 (nI i2))) 19 (upd ((B2 19)) cs2 (nI hd))), (cs2 + 1), as2, wt2, wf2, rt, Ag30)), rfl, ⟨rfl, hz33, hz34, hz35, hz36, hz37, hz38, hz39, hz40, hz41, hz42, hz43, hO⟩, by rw [ht99]; exact hP, hD, by rw [ht99]; exact hzz1, by rw [ht99]; exact hzz2⟩, hS.F ht99⟩) hS.2.2 dX0_arguments_151
        · have n44 : ¬ (np ≤ i2) := fun h9 => c19 ((nI_leI (a := np) (b := i2) (by omega) (by omega)).mpr h9)
          refine lv_aload_n hx hb dX0_arguments_122 rfl (lv_at hl 6 rfl) ?_
          refine c_get (v := .ref (a 1)) (C := RX0) (Tc := TX0) (N := 13) (ci := 0) hx hb hq pin_wsX00 hown hE hP hO 24 (sg_24 G h0 a _ _ _ _ _) rfl 0 (by decide) (hq _ pw_4) (fun _ h9 => h9) rfl dX0_arguments_123 ?_
          refine lv_bipush (v := 12) hx hb dX0_arguments_126 (by decide) ?_
          refine lv_aload_n hx hb dX0_arguments_128 rfl (lv_at hl 5 rfl) ?_
          refine p_get (v := .int (K2.2.1 4 q)) (C := RX7) (Tc := TX7) (N := 11) (ci := 13) hx hb hq pin_wsX70 hown hE hP hO (by rw [hf8]; decide) (rep_1 hf8) rfl 4 (by decide) (hq _ pw_171) (fun _ h9 => h9) rfl dX0_arguments_129 ?_
          have hO : OKW G h0 a (upd (upd (upd (upd (upd (upd (upd (upd (upd (upd F 2 (nI sz)) 5 (nI cs)) 7 (nI hd)) 12 (nI vr)) 13 as9) 5 (nI cs2)) 13 as2) 14 wt2) 15 wf2) 2 (nI sz)) (updR (updR R 2 (.ref pq)) 3 (.ref mq)) Z B2 J K2.1 (fun q99 x99 => x99 = rep G a K2 q99) w := hO.to rfl
          obtain ⟨_, qr48, hqr49⟩ := hO.2.1 2 _ (sg_2 G h0 a _ _ _ _ _)
          refine pn_V0 (G := G) (As := [.int 12, .int (K2.2.1 4 q)]) (rest := []) hx hb hml hown hq hE hX pX0_al hP hD hS hA hl.1 (K_fail l G h0 a (upd (upd (upd (upd (upd (upd (upd (upd (upd F 2 (nI sz)) 5 (nI cs)) 7 (nI hd)) 12 (nI vr)) 13 as9) 5 (nI cs2)) 13 as2) 14 wt2) 15 wf2) (updR (updR R 2 (.ref pq)) 3 (.ref mq)) Z B2 J K2.1 (fun q99 x99 => x99 = rep G a K2 q99) w 12 (K2.2.1 4 q) sz (by omega) hO hl0) (gV pw_64 pw_65 pw_66 pw_59 pw_43) hV_X10_fail qr48 7 hqr49 rfl rfl rfl (Nat.le_of_ble_eq_true rfl) dX0_arguments_132 ⟨(by show 0 + 1 ≤ 1; omega), (by show 0 + 6 ≤ 6; omega)⟩ ⟨(by show 6 + 1 ≤ (5 * n + 32); omega), (by show 8 + (3 + 11) + 100 ≤ (200 * n + 520); omega)⟩ (fun v47 u45 H locs hw46 hP hD hS => hw46.elim) (fun ux ce9 q9 H9 locs9 hux hP9 hD9 hS9 hce hcv hcl => pb_out ux (ThQ.up (Thx.same (Thx.f (Thx.f (Thx.f (Thx.f (Bth.thx hbb2) (by omega)) (by omega)) (by omega)) (by omega)) rfl) RhX.rfl hux) hnt hlocks hce hcv hcl hP9 hD9 hS9 (by show 0 + 1 ≤ 1; omega) (by show 0 + 6 ≤ 6; omega))
      · have hl : lv_has ls 7 [(6, .ref x9), (5, .int (nI i2)), (4, .int x2), (3, .int x1), (2, .ref m2), (1, .ref q), (0, .ref (a 4))] := hl
        refine W.eq (g2 := F0 m 29 ls []) rfl ?_
        have hxd := hpo2 x9 rfl
        have hxm := hxd.1
        have hxT := hxm.1
        have hxv : 1 ≤ g 0 x9 ∧ g 0 x9 + 1 ≤ n := ⟨hxm.2.1, (by have z := hxm.2.2.1; omega)⟩
        have hx5 := hxm.2.2.2
        have hx6 := hxd.2
        have hxl : 1 ≤ tlE g x9 ∧ 1 ≤ ndE g x9 := ⟨(by unfold tlE; omega), hx5.2.2.2.1⟩
        have htx : tlE g x9 = rE (g 2 x9) - rS (g 2 x9) := rfl
        have hxi : InE g q x9 := ⟨by omega, by omega⟩
        refine lv_aload hx hb dX0_arguments_29 (lv_at hl 0 rfl) ?_
        refine lv_ifnull hx hb dX0_arguments_31 ?_
        refine lv_iload hx hb dX0_arguments_34 (lv_at hl 1 rfl) ?_
        refine lv_aload_n hx hb dX0_arguments_36 rfl (lv_at hl 4 rfl) ?_
        refine p_get (v := .ref lp) (C := RX6) (Tc := TX6) (N := 12) (ci := 12) hx hb hq pin_wsX60 hown hE hP hO (by rw [hf10]; decide) (rep_3 hf10) rfl 4 (by decide) (hq _ pw_79) (fun _ h9 => h9) (congrArg (fun z => some (va_rf z)) hf11) dX0_arguments_37 ?_
        have hO : OKP G h0 a (upd (upd (upd (upd (upd (upd (upd F 2 (nI sz)) 5 (nI cs2)) 7 (nI hd)) 12 (nI vr)) 13 as2) 14 wt2) 15 wf2) (updR (updR R 2 (.ref pq)) 3 (.ref mq)) Z B2 J K2 w := hO.to rfl
        obtain ⟨qr53, hqr54⟩ := p_recv hO (by rw [hf12]; decide) (rep_5 hf12)
        refine pc_V0 (G := G) (As := []) (rest := [.int (nI i2)]) hx hb hml hown hq hE hX pX0_al hP hD hS hA hl.1 (L_size l G h0 a (upd (upd (upd (upd (upd (upd (upd F 2 (nI sz)) 5 (nI cs2)) 7 (nI hd)) 12 (nI vr)) 13 as2) 14 wt2) 15 wf2) (updR (updR R 2 (.ref pq)) 3 (.ref mq)) Z B2 J K2 w lp 1 np itp (BdE.lsc hbe2 hlc (by decide)).ls hO) (gV pw_86 pw_87 pw_88 pw_32 pw_16) hV_Jx4a65c_size_8abf5 qr53 10 hqr54 rfl rfl rfl (Nat.le_of_ble_eq_true rfl) dX0_arguments_40 ⟨(by show 0 + 0 ≤ 1; omega), (by show 0 + 0 ≤ 6; omega)⟩ ⟨(by show 2 + 1 ≤ (5 * n + 32); omega), (by show 8 + (1 + 11) + 60 ≤ (200 * n + 520); omega)⟩ (fun v52 u50 H locs hw51 hP hD hS => ?_)
        obtain ⟨w, _⟩ := u50
        obtain ⟨hw51, hO⟩ := hw51
        obtain rfl : v52 = some (.int (nI np)) := hw51
        have hO : OKP G h0 a (upd (upd (upd (upd (upd (upd (upd F 2 (nI sz)) 5 (nI cs2)) 7 (nI hd)) 12 (nI vr)) 13 as2) 14 wt2) 15 wf2) (updR (updR R 2 (.ref pq)) 3 (.ref mq)) Z B2 J K2 w := hO.to rfl
        refine W.widen (k := 0) (n := 0) (Nat.le_of_ble_eq_true rfl) (Nat.le_of_ble_eq_true rfl) ?_
        refine W.eq (g2 := F0 m 43 ls [.int (nI np), .int (nI i2)]) rfl ?_
        refine lv_icmp_lt (tgt := 63) hx hb dX0_arguments_43 (by decide) (fun c55 => ?_) (fun c55 => ?_)
        · have n56 : i2 < np := (nI_ltI (a := i2) (b := np) (by omega) (by omega)).mp c55
          refine lv_aload_n hx hb dX0_arguments_63 rfl (lv_at hl 6 rfl) ?_
          refine lv_aload hx hb dX0_arguments_64 (lv_at hl 0 rfl) ?_
          refine lv_aload_n hx hb dX0_arguments_66 rfl (lv_at hl 6 rfl) ?_
          refine lv_aload hx hb dX0_arguments_67 (lv_at hl 0 rfl) ?_
          have hO : OKP G h0 a (upd (upd (upd (upd (upd (upd (upd (upd (upd (upd (upd (upd (upd (upd F 2 (nI sz)) 5 (nI cs)) 7 (nI hd)) 12 (nI vr)) 13 as9) 5 (nI cs2)) 13 as2) 14 wt2) 15 wf2) 2 (nI sz)) 5 (nI cs2)) 7 (nI hd)) 12 (nI vr)) 13 as2) (updR (updR (updR (updR R 2 (.ref pq)) 3 (.ref mq)) 2 (.ref pq)) 3 (.ref mq)) Z B2 J K2 w := hO.to rfl
          obtain ⟨_, qr60, hqr61⟩ := hO.2.1 24 _ (sg_24 G h0 a _ _ _ _ _)
          refine pn_V0 (G := G) (As := [.ref x9]) (rest := [.ref x9, .ref (a 4)]) hx hb hml hown hq hE hX pX0_al hP hD hS hA hl.1 ((ihv (by omega)) h0 a (upd (upd (upd (upd (upd (upd (upd (upd (upd F 2 (nI sz)) 5 (nI cs)) 7 (nI hd)) 12 (nI vr)) 13 as9) 5 (nI cs2)) 13 as2) 14 wt2) 15 wf2) (updR (updR R 2 (.ref pq)) 3 (.ref mq)) Z B2 J K2 w pq dr ml nd nm cp it s9 x9 mq cs2 vr sz g rk pb Ag2 pd sl (ar ++ cR :: os) m9 sn lo hd c0 as2 okA (by omega) (BdE.wp hbe2 hwp) (BdE.pt hbe2 hwp hps) (BdE.rko hbe2 hrk) (by omega) (by omega) hng2 hf9 hxT ⟨hxv.1, (by have z9 := hxv; omega)⟩ (EkA.be hbe2 (hbr2 7 (by decide)) (hbr2 11 (by decide)) hek) (OwC.be hbe2 hmq hdr0 hcO) (NaB.be hbe2 hbf2 hwp hps.2.1 hdr0 (hbr2 11 (by decide)) hna) (EnV.of (hbr2 26 (by decide)) (hbr2 27 (by decide)) hen) (fun z => (hev2 z).1) (by omega) (by show (ar ++ cR :: os).length + ndE g x9 ≤ 248; rw [List.length_append, hal2]; show i2 + (os.length + 1) + ndE g x9 ≤ 248; omega) hxl hO hl0) (gV pw_173 pw_174 pw_175 pw_63 pw_224) hV_X0_value qr60 0 hqr61 rfl rfl rfl (Nat.le_of_ble_eq_true rfl) dX0_arguments_69 ⟨(by show 0 + 1 ≤ 1; omega), (by show 0 + 6 ≤ 6; omega)⟩ ⟨(by show (5 * (n - 1) + 34) + 1 ≤ (5 * n + 32); omega), (by show 8 + (3 + 11) + (200 * (n - 1) + 600) ≤ (200 * n + 520); omega)⟩ (fun v59 u57 H locs hw58 hP hD hS => ?_) (fun ux ce9 q9 H9 locs9 hux hP9 hD9 hS9 hce hcv hcl => pb_out ux (ThQ.up (Thx.same (Thx.same (Thx.same (Thx.same (Thx.same (Thx.f (Thx.f (Thx.f (Thx.f (Bth.thx hbb2) (by omega)) (by omega)) (by omega)) (by omega)) rfl) rfl) rfl) rfl) rfl) (show RhX (updR (updR R 2 (.ref pq)) 3 (.ref mq)) (updR (updR (updR (updR R 2 (.ref pq)) 3 (.ref mq)) 2 (.ref pq)) 3 (.ref mq)) from fun k9 hk9 => by unfold updR; simp only [show ¬ k9 = 1 by omega, show ¬ k9 = 2 by omega, show ¬ k9 = 3 by omega, show ¬ k9 = 4 by omega, if_false]) hux) hnt hlocks hce hcv hcl hP9 hD9 hS9 (by show 0 + 1 ≤ 1; omega) (by show 0 + 6 ≤ 6; omega))
          obtain ⟨w, K62, B63, cs64, as65, wt66, wf67, t68, Ag69, u70⟩ := u57
          obtain ⟨hw58, h71, h72, h73, h74, h75, h76, h77, h78, h79, h80, h81, h82, hO⟩ := hw58
          have h71 : SmW B2 B63 cs2 := h71
          have h72 : BdE K2 K62 := h72
          have h73 : BeF K2 K62 := h73
          have h74 : BeL K2 K62 none := h74
          have h75 : BeI K2 K62 g x9 := h75
          have h76 : Bth B2 B63 := h76
          have h77 : BeR B2 B63 := h77
          have h78 : t68 < 128 := h78
          have h79 : cs2 ≤ cs64 ∧ cs64 + 0 ≤ cs2 + 2 * tlE g x9 := h79
          have h80 : AsE as2 as65 ∧ AsE as2 wt66 ∧ AsE as2 wf67 := h80
          have h81 : okA → VaQ pb B2 B63 Ag2 Ag69 pd m9 sn lo cs2 cs64 as2 as65 wt66 wf67 hd sl (ar ++ cR :: os) t68 u70 (K2.2.1 0 x9) := h81
          have h82 : CaK (K2.2.1 0 x9) → cs64 + 2 ≤ cs2 + 2 * tlE g x9 := h82
          obtain rfl : v59 = some (.int (nI t68)) := hw58
          have hf83 : K62.1 pq = 7 := (BdE.T h72 hf1 (by decide))
          have hf84 : K62.2.2.1 18 pq = some (a 1) := (BdE.C h72 (by rw [hf1]; decide) 18).trans hf2
          have hf85 : K62.2.2.1 14 pq = some dr := (BdE.C h72 (by rw [hf1]; decide) 14).trans hf3
          have hf86 : K62.1 dr = 8 := (BdE.T h72 hf4 (by decide))
          have hf87 : K62.2.2.1 15 pq = some ml := (BdE.C h72 (by rw [hf1]; decide) 15).trans hf5
          have hf88 : K62.1 ml = 5 := (BdE.T h72 hf6 (by decide))
          have hf89 : K62.2.1 24 pq = (nI nd) := (BdE.I h72 (by rw [hf1]; decide) (by decide) (by decide)).trans hf7
          have hf90 : K62.1 q = 1 := (BdE.T h72 hf8 (by decide))
          have hf91 : K62.1 mq = 3 := (BdE.T h72 hf9 (by decide))
          have hf92 : K62.1 m2 = 3 := (BdE.T h72 hf10 (by decide))
          have hf93 : K62.2.2.1 6 m2 = some lp := (BdE.C h72 (by rw [hf10]; decide) 6).trans hf11
          have hf94 : K62.1 lp = 5 := (BdE.T h72 hf12 (by decide))
          have hf95 : K62.2.1 10 m2 = (nI rt) := (BdE.I h72 (by rw [hf10]; decide) (by decide) (by decide)).trans hf13
          have hf96 : K62.1 x9 = 1 := (BdE.T h72 hxT (by decide))
          have hO : OKP G h0 a (upd (upd (upd (upd (upd (upd (upd F 2 (nI sz)) 5 (nI cs64)) 7 (nI hd)) 12 (nI vr)) 13 as65) 14 wt66) 15 wf67) (updR (updR R 2 (.ref pq)) 3 (.ref mq)) Z B63 J K62 w := hO.to rfl
          refine W.widen (k := 0) (n := 0) (by show 0 + 0 ≤ 0; omega) (by show 0 + 0 ≤ 0; omega) ?_
          refine W.eq (g2 := F0 m 72 ls [.int (nI t68), .ref x9, .ref (a 4)]) rfl ?_
          have hbe97 := BdE.trans hbe2 h72
          have hbb98 : Bth B B63 := Bth.trans (show Thx (upd (upd (upd (upd (upd F 2 (nI sz)) 5 (nI cs)) 7 (nI hd)) 12 (nI vr)) 13 as9) (upd (upd (upd (upd (upd (upd (upd (upd (upd F 2 (nI sz)) 5 (nI cs)) 7 (nI hd)) 12 (nI vr)) 13 as9) 5 (nI cs2)) 13 as2) 14 wt2) 15 wf2) B B2 from (Thx.f (Thx.f (Thx.f (Thx.f (Bth.thx hbb2) (by omega)) (by omega)) (by omega)) (by omega))).2 h76
          have hng99 : Nng (B63 18) := h76.2 hng2
          have hsw100 : ∀ x9 : Nat, x9 < cs → (B63 16) x9 = B 16 x9 := fun x9 hx9 => ((h71 x9 (by omega)).1).trans ((fun x9 hx9 => (hsw2 x9 hx9).1) x9 hx9)
          have hsw101 : ∀ x9 : Nat, x9 < cs → (B63 17) x9 = B 17 x9 := fun x9 hx9 => ((h71 x9 (by omega)).2.1).trans ((fun x9 hx9 => (hsw2 x9 hx9).2.1) x9 hx9)
          have hsw102 : ∀ x9 : Nat, x9 < cs → (B63 18) x9 = B 18 x9 := fun x9 hx9 => ((h71 x9 (by omega)).2.2.1).trans ((fun x9 hx9 => (hsw2 x9 hx9).2.2.1) x9 hx9)
          have hsw103 : ∀ x9 : Nat, x9 < cs → (B63 19) x9 = B 19 x9 := fun x9 hx9 => ((h71 x9 (by omega)).2.2.2).trans ((fun x9 hx9 => (hsw2 x9 hx9).2.2.2) x9 hx9)
          have hbf104 := BeF.trans hbf2 h73 hbe2
          have hbl107 := BeL.trans hbl2 h74 hbe2
          have hbi108 := BeI.trans hbi2 h75 hbe2 hxi
          have hbr105 : BeR B B63 := BeR.trans hbr2 h77
          have hpt106 : (okA ∧ ¬ t68 = 63) → EvQ pb.1 pb.2.1 pb.2.2.1 pb.2.2.2 (B 16) (B 17) (B 18) (B 19) (B63 16) (B63 17) (B63 18) (B63 19) Ag Ag69 pd m9 sn lo cs cs64 as9 as65 hd sl (u70 :: (ar ++ cR :: os)) ∧ UTb u70 (nI t68) as65 wt66 wf67 := fun z => VaQ.part (B1 := B2) (hev2 z.1) (h81 z.1) h78 z.2
          have hev109 := fun z => (hpt106 z).1
          have has110 : AsE as9 as65 ∧ AsE as9 wt66 ∧ AsE as9 wf67 := ⟨AsE.trans has2 h80.1, AsE.trans has2 h80.2.1, AsE.trans has2 h80.2.2⟩
          refine lv_aload_n hx hb dX0_arguments_72 rfl (lv_at hl 6 rfl) ?_
          refine c_get (v := .ref (a 1)) (C := RX0) (Tc := TX0) (N := 13) (ci := 0) hx hb hq pin_wsX00 hown hE hP hO 24 (sg_24 G h0 a _ _ _ _ _) rfl 0 (by decide) (hq _ pw_4) (fun _ h9 => h9) rfl dX0_arguments_73 ?_
          refine lv_aload_n hx hb dX0_arguments_76 rfl (lv_at hl 4 rfl) ?_
          refine p_get (v := .ref lp) (C := RX6) (Tc := TX6) (N := 12) (ci := 12) hx hb hq pin_wsX60 hown hE hP hO (by rw [hf92]; decide) (rep_3 hf92) rfl 4 (by decide) (hq _ pw_79) (fun _ h9 => h9) (congrArg (fun z => some (va_rf z)) hf93) dX0_arguments_77 ?_
          refine lv_iload hx hb dX0_arguments_80 (lv_at hl 1 rfl) ?_
          have hO : OKP G h0 a (upd (upd (upd (upd (upd (upd (upd F 2 (nI sz)) 5 (nI cs64)) 7 (nI hd)) 12 (nI vr)) 13 as65) 14 wt66) 15 wf67) (updR (updR R 2 (.ref pq)) 3 (.ref mq)) Z B63 J K62 w := hO.to rfl
          obtain ⟨qr114, hqr115⟩ := p_recv hO (by rw [hf94]; decide) (rep_5 hf94)
          refine pc_V0 (G := G) (As := [.int (nI i2)]) (rest := [.ref (a 1), .int (nI t68), .ref x9, .ref (a 4)]) hx hb hml hown hq hE hX pX0_al hP hD hS hA hl.1 (L_get l G h0 a (upd (upd (upd (upd (upd (upd (upd F 2 (nI sz)) 5 (nI cs64)) 7 (nI hd)) 12 (nI vr)) 13 as65) 14 wt66) 15 wf67) (updR (updR R 2 (.ref pq)) 3 (.ref mq)) Z B63 J K62 w lp 1 np itp i2 (BdE.lsc hbe97 hlc (by decide)).ls (by omega) hO) (gV pw_89 pw_90 pw_91 pw_32 pw_25) hV_Jx4a65c_get_915e3 qr114 10 hqr115 rfl rfl rfl (Nat.le_of_ble_eq_true rfl) dX0_arguments_82 ⟨(by show 0 + 0 ≤ 1; omega), (by show 0 + 0 ≤ 6; omega)⟩ ⟨(by show 4 + 1 ≤ (5 * n + 32); omega), (by show 8 + (2 + 11) + 103 ≤ (200 * n + 520); omega)⟩ (fun v113 u111 H locs hw112 hP hD hS => ?_)
          obtain ⟨w, _⟩ := u111
          obtain ⟨hw112, hO⟩ := hw112
          obtain rfl : v113 = some (.ref (itp i2)) := hw112
          have hO : OKP G h0 a (upd (upd (upd (upd (upd (upd (upd F 2 (nI sz)) 5 (nI cs64)) 7 (nI hd)) 12 (nI vr)) 13 as65) 14 wt66) 15 wf67) (updR (updR R 2 (.ref pq)) 3 (.ref mq)) Z B63 J K62 w := hO.to rfl
          refine W.widen (k := 0) (n := 0) (Nat.le_of_ble_eq_true rfl) (Nat.le_of_ble_eq_true rfl) ?_
          refine W.eq (g2 := F0 m 85 ls [.ref (itp i2), .ref (a 1), .int (nI t68), .ref x9, .ref (a 4)]) rfl ?_
          have hf116 : K62.1 (itp i2) = 1 := (BdE.lsc hbe97 hlc (by decide)).T (by omega)
          refine p_cast (C := RX7) (Tc := TX7) (N := 11) (ci := 13) hx hb hown (hq _ pw_80) hE hP hO (by rw [hf116]; decide) (rep_1 hf116) rfl dX0_arguments_85 ?_
          refine p_get (v := .int (K62.2.1 2 (itp i2))) (C := RX7) (Tc := TX7) (N := 11) (ci := 13) hx hb hq pin_wsX70 hown hE hP hO (by rw [hf116]; decide) (rep_1 hf116) rfl 2 (by decide) (hq _ pw_82) (fun _ h9 => h9) rfl dX0_arguments_88 ?_
          have hO : OKW G h0 a (upd (upd (upd (upd (upd (upd (upd (upd F 2 (nI sz)) 5 (nI cs64)) 7 (nI hd)) 12 (nI vr)) 13 as65) 14 wt66) 15 wf67) 2 (nI sz)) (updR (updR R 2 (.ref pq)) 3 (.ref mq)) Z B63 J K62.1 (fun q99 x99 => x99 = rep G a K62 q99) w := hO.to rfl
          obtain ⟨_, qr120, hqr121⟩ := hO.2.1 2 _ (sg_2 G h0 a _ _ _ _ _)
          refine pc_V0 (G := G) (As := [.int (K62.2.1 2 (itp i2))]) (rest := [.int (nI t68), .ref x9, .ref (a 4)]) hx hb hml hown hq hE hX pX0_al hP hD hS hA hl.1 (Y_typeAt l G h0 a (upd (upd (upd (upd (upd (upd (upd F 2 (nI sz)) 5 (nI cs64)) 7 (nI hd)) 12 (nI vr)) 13 as65) 14 wt66) 15 wf67) (updR (updR R 2 (.ref pq)) 3 (.ref mq)) Z B63 J K62.1 (fun q99 x99 => x99 = rep G a K62 q99) w (K62.2.1 2 (itp i2)) sz nd (by omega) (NaB.be hbe97 hbf104 hwp hps.2.1 hdr0 (hbr105 11 (by decide)) hna).1.2.1 hO) (gV pw_92 pw_93 pw_94 pw_59 pw_36) hV_X10_typeAt qr120 7 hqr121 rfl rfl rfl (Nat.le_of_ble_eq_true rfl) dX0_arguments_91 ⟨(by show 0 + 0 ≤ 1; omega), (by show 0 + 0 ≤ 6; omega)⟩ ⟨(by show 2 + 1 ≤ (5 * n + 32); omega), (by show 8 + (2 + 11) + 60 ≤ (200 * n + 520); omega)⟩ (fun v119 u117 H locs hw118 hP hD hS => ?_)
          obtain ⟨w, _⟩ := u117
          obtain ⟨hw118, hO⟩ := hw118
          obtain rfl : v119 = some (.int (nI (tyN ((B63 11)) sz (K62.2.1 2 (itp i2))))) := hw118
          have hO : OKP G h0 a (upd (upd (upd (upd (upd (upd (upd F 2 (nI sz)) 5 (nI cs64)) 7 (nI hd)) 12 (nI vr)) 13 as65) 14 wt66) 15 wf67) (updR (updR R 2 (.ref pq)) 3 (.ref mq)) Z B63 J K62 w := hO.to rfl
          refine W.widen (k := 0) (n := 0) (Nat.le_of_ble_eq_true rfl) (Nat.le_of_ble_eq_true rfl) ?_
          refine W.eq (g2 := F0 m 94 ls [.int (nI (tyN ((B63 11)) sz (K62.2.1 2 (itp i2)))), .int (nI t68), .ref x9, .ref (a 4)]) rfl ?_
          obtain ⟨ty122, hty122, hvty122⟩ : ∃ z : Nat, tyN (B63 11) sz (K62.2.1 2 (itp i2)) = z ∧ TyV nd z := ⟨_, rfl, ((NaB.be hbe97 hbf104 hwp hps.2.1 hdr0 (hbr105 11 (by decide)) hna).1.2.1).V (by omega)⟩
          rw [hty122]
          have hlty122 := (hvty122).lt hna.1.1
          have hO : OKP G h0 a (upd (upd (upd (upd (upd (upd (upd (upd (upd (upd F 2 (nI sz)) 5 (nI cs)) 7 (nI hd)) 12 (nI vr)) 13 as9) 5 (nI cs64)) 13 as65) 14 wt66) 15 wf67) 2 (nI sz)) (updR (updR (updR R 2 (.ref pq)) 3 (.ref mq)) 2 (.ref pq)) Z B63 J K62 w := hO.to rfl
          obtain ⟨_, qr126, hqr127⟩ := hO.2.1 24 _ (sg_24 G h0 a _ _ _ _ _)
          refine pn_V0 (G := G) (As := [.ref x9, .int (nI t68), .int (nI ty122)]) (rest := []) hx hb hml hown hq hE hX pX0_al hP hD hS hA hl.1 (Y_fit l G h0 a (upd (upd (upd (upd (upd (upd (upd (upd (upd F 2 (nI sz)) 5 (nI cs)) 7 (nI hd)) 12 (nI vr)) 13 as9) 5 (nI cs64)) 13 as65) 14 wt66) 15 wf67) (updR (updR R 2 (.ref pq)) 3 (.ref mq)) Z B63 J K62 w pq dr ml nd x9 sz t68 ty122 g pb (by omega) (BdE.pt hbe97 hwp hps).1 (BdE.pt hbe97 hwp hps).2.1 hf96 (by omega) hna.1.1 (NaB.be hbe97 hbf104 hwp hps.2.1 hdr0 (hbr105 11 (by decide)) hna).1.2.2 hO hl0) (gV pw_176 pw_177 pw_178 pw_63 pw_114) hV_X0_fit qr126 0 hqr127 rfl rfl rfl (Nat.le_of_ble_eq_true rfl) dX0_arguments_94 ⟨(by show 0 + 1 ≤ 1; omega), (by show 0 + 6 ≤ 6; omega)⟩ ⟨(by show 7 + 1 ≤ (5 * n + 32); omega), (by show 8 + (4 + 11) + 122 ≤ (200 * n + 520); omega)⟩ (fun v125 u123 H locs hw124 hP hD hS => ?_) (fun ux ce9 q9 H9 locs9 hux hP9 hD9 hS9 hce hcv hcl => pb_out ux (ThQ.up (Thx.same (Thx.f (Thx.f (Thx.f (Thx.f (Bth.thx hbb98) (by omega)) (by omega)) (by omega)) (by omega)) rfl) (show RhX (updR (updR R 2 (.ref pq)) 3 (.ref mq)) (updR (updR (updR R 2 (.ref pq)) 3 (.ref mq)) 2 (.ref pq)) from fun k9 hk9 => by unfold updR; simp only [show ¬ k9 = 1 by omega, show ¬ k9 = 2 by omega, show ¬ k9 = 3 by omega, show ¬ k9 = 4 by omega, if_false]) hux) hnt hlocks hce hcv hcl hP9 hD9 hS9 (by show 0 + 1 ≤ 1; omega) (by show 0 + 6 ≤ 6; omega))
          obtain ⟨w, _⟩ := u123
          obtain ⟨hw124, h128, hO⟩ := hw124
          have h128 : FtQ pb t68 ty122 := h128
          obtain rfl : v125 = none := hw124
          have hO : OKP G h0 a (upd (upd (upd (upd (upd (upd (upd F 2 (nI sz)) 5 (nI cs64)) 7 (nI hd)) 12 (nI vr)) 13 as65) 14 wt66) 15 wf67) (updR (updR R 2 (.ref pq)) 3 (.ref mq)) Z B63 J K62 w := hO.to rfl
          refine W.widen (k := 0) (n := 0) (by show 0 + 0 ≤ 0; omega) (by show 0 + 0 ≤ 0; omega) ?_
          refine W.eq (g2 := F0 m 97 ls []) rfl ?_
          refine lv_iinc (v := (nI (i2 + 1))) (lv' := [(5, .int (nI (i2 + 1))), (6, .ref x9), (4, .int x2), (3, .int x1), (2, .ref m2), (1, .ref q), (0, .ref (a 4))]) hx hb dX0_arguments_97 hl (k := 1) rfl (nI_1 i2) (by decide) rfl (fun ls hl => ?_)
          refine lv_aload hx hb dX0_arguments_100 (lv_at hl 1 rfl) ?_
          rcases ho130 : K62.2.2.1 4 x9 with _ | o129
          · skip
            refine p_get (v := .null) (C := RX7) (Tc := TX7) (N := 11) (ci := 13) hx hb hq pin_wsX70 hown hE hP hO (by rw [hf96]; decide) (rep_1 hf96) rfl 10 (by decide) (hq _ pw_170) (fun _ h9 => h9) (congrArg (fun z => some (va_rf z)) ho130) dX0_arguments_102 ?_
            refine lv_astoreN (lv' := [(6, .null), (5, .int (nI (i2 + 1))), (4, .int x2), (3, .int x1), (2, .ref m2), (1, .ref q), (0, .ref (a 4))]) hx hb dX0_arguments_105 hl (by decide) rfl (fun ls hl => ?_)
            refine lv_goto (tgt := 29) hx hb dX0_arguments_107 (by decide) ?_
            have hut131 := fun z : okA => (hpt106 ⟨z, h128.1⟩).2
            have hev132 := fun z : okA => hev109 ⟨z, h128.1⟩
            have hag9 : okA → ArgL pb.1 (fun i => tyc (tyN (B 11) sz (K.2.1 2 (itp i)))) (u70 :: ar) := fun z => ⟨by show TL pb.1 u70 (tyc (tyN (B 11) sz (K.2.1 2 (itp ar.length)))); rw [hal2, ← BdE.I (f := 2) hbe97 (BdE.low hbe97 hlc (by decide) (i := i2) (by omega)) (by decide) (by decide), ← hbr105 11 (by decide), hty122, tyc_ne h128.2.1]; exact UTb.tlf (hut131 z) h78 h128, hag2 z⟩
            have hO : OKP G h0 a (upd (upd (upd (upd (upd (upd (upd F 2 (nI sz)) 5 (nI cs64)) 7 (nI hd)) 12 (nI vr)) 13 as65) 14 wt66) 15 wf67) (updR (updR R 2 (.ref pq)) 3 (.ref mq)) Z B63 J K62 w := hO.to rfl
            exact ih_g (i2 + 1) none K62 B63 cs64 as65 wt66 wf67 Ag69 (u70 :: ar) (rE (g 2 x9)) _ _ _ _ (by omega) (by omega) hbe97 hbf104 hbl107 hbi108 hbr105 ((show Thx (upd (upd (upd (upd (upd F 2 (nI sz)) 5 (nI cs)) 7 (nI hd)) 12 (nI vr)) 13 as9) (upd (upd (upd (upd (upd (upd (upd (upd (upd F 2 (nI sz)) 5 (nI cs)) 7 (nI hd)) 12 (nI vr)) 13 as9) 5 (nI cs64)) 13 as65) 14 wt66) 15 wf67) B B63 from (Thx.f (Thx.f (Thx.f (Thx.f (Bth.thx hbb98) (by omega)) (by omega)) (by omega)) (by omega))).2) hng99 (fun x9 hx9 => ⟨hsw100 x9 hx9, hsw101 x9 hx9, hsw102 x9 hx9, hsw103 x9 hx9⟩) has110.1 (by omega) (by omega) (by omega) (ArN.next (ArF.be hbe97 hqT har) (MmA.be h72 hxm) ho130) (by show ar.length + 1 = i2 + 1; omega) hag9 hev132 hP hD hS hO (lv_sub hl [0, 1, 2, 3, 4, 5, 6] rfl)
          · skip
            refine p_get (v := .ref o129) (C := RX7) (Tc := TX7) (N := 11) (ci := 13) hx hb hq pin_wsX70 hown hE hP hO (by rw [hf96]; decide) (rep_1 hf96) rfl 10 (by decide) (hq _ pw_170) (fun _ h9 => h9) (congrArg (fun z => some (va_rf z)) ho130) dX0_arguments_102 ?_
            refine lv_astore (lv' := [(6, .ref o129), (5, .int (nI (i2 + 1))), (4, .int x2), (3, .int x1), (2, .ref m2), (1, .ref q), (0, .ref (a 4))]) hx hb dX0_arguments_105 hl (by decide) rfl (fun ls hl => ?_)
            refine lv_goto (tgt := 29) hx hb dX0_arguments_107 (by decide) ?_
            have hut133 := fun z : okA => (hpt106 ⟨z, h128.1⟩).2
            have hev134 := fun z : okA => hev109 ⟨z, h128.1⟩
            have hag9 : okA → ArgL pb.1 (fun i => tyc (tyN (B 11) sz (K.2.1 2 (itp i)))) (u70 :: ar) := fun z => ⟨by show TL pb.1 u70 (tyc (tyN (B 11) sz (K.2.1 2 (itp ar.length)))); rw [hal2, ← BdE.I (f := 2) hbe97 (BdE.low hbe97 hlc (by decide) (i := i2) (by omega)) (by decide) (by decide), ← hbr105 11 (by decide), hty122, tyc_ne h128.2.1]; exact UTb.tlf (hut133 z) h78 h128, hag2 z⟩
            have hO : OKP G h0 a (upd (upd (upd (upd (upd (upd (upd F 2 (nI sz)) 5 (nI cs64)) 7 (nI hd)) 12 (nI vr)) 13 as65) 14 wt66) 15 wf67) (updR (updR R 2 (.ref pq)) 3 (.ref mq)) Z B63 J K62 w := hO.to rfl
            exact ih_g (i2 + 1) (some o129) K62 B63 cs64 as65 wt66 wf67 Ag69 (u70 :: ar) (rE (g 2 x9)) _ _ _ _ (by omega) (by omega) hbe97 hbf104 hbl107 hbi108 hbr105 ((show Thx (upd (upd (upd (upd (upd F 2 (nI sz)) 5 (nI cs)) 7 (nI hd)) 12 (nI vr)) 13 as9) (upd (upd (upd (upd (upd (upd (upd (upd (upd F 2 (nI sz)) 5 (nI cs)) 7 (nI hd)) 12 (nI vr)) 13 as9) 5 (nI cs64)) 13 as65) 14 wt66) 15 wf67) B B63 from (Thx.f (Thx.f (Thx.f (Thx.f (Bth.thx hbb98) (by omega)) (by omega)) (by omega)) (by omega))).2) hng99 (fun x9 hx9 => ⟨hsw100 x9 hx9, hsw101 x9 hx9, hsw102 x9 hx9, hsw103 x9 hx9⟩) has110.1 (by omega) (by omega) (by omega) (ArN.next (ArF.be hbe97 hqT har) (MmA.be h72 hxm) ho130) (by show ar.length + 1 = i2 + 1; omega) hag9 hev134 hP hD hS hO (lv_sub hl [0, 1, 2, 3, 4, 5, 6] rfl)
        · have n135 : ¬ (i2 < np) := fun h9 => c55 ((nI_ltI (a := i2) (b := np) (by omega) (by omega)).mpr h9)
          refine lv_aload_n hx hb dX0_arguments_46 rfl (lv_at hl 6 rfl) ?_
          refine c_get (v := .ref (a 1)) (C := RX0) (Tc := TX0) (N := 13) (ci := 0) hx hb hq pin_wsX00 hown hE hP hO 24 (sg_24 G h0 a _ _ _ _ _) rfl 0 (by decide) (hq _ pw_4) (fun _ h9 => h9) rfl dX0_arguments_47 ?_
          refine lv_bipush (v := 12) hx hb dX0_arguments_50 (by decide) ?_
          refine lv_aload hx hb dX0_arguments_52 (lv_at hl 0 rfl) ?_
          refine p_get (v := .int (K2.2.1 2 x9)) (C := RX7) (Tc := TX7) (N := 11) (ci := 13) hx hb hq pin_wsX70 hown hE hP hO (by rw [hxT]; decide) (rep_1 hxT) rfl 2 (by decide) (hq _ pw_82) (fun _ h9 => h9) rfl dX0_arguments_54 ?_
          have hO : OKW G h0 a (upd (upd (upd (upd (upd (upd (upd (upd (upd (upd F 2 (nI sz)) 5 (nI cs)) 7 (nI hd)) 12 (nI vr)) 13 as9) 5 (nI cs2)) 13 as2) 14 wt2) 15 wf2) 2 (nI sz)) (updR (updR R 2 (.ref pq)) 3 (.ref mq)) Z B2 J K2.1 (fun q99 x99 => x99 = rep G a K2 q99) w := hO.to rfl
          obtain ⟨_, qr139, hqr140⟩ := hO.2.1 2 _ (sg_2 G h0 a _ _ _ _ _)
          refine pn_V0 (G := G) (As := [.int 12, .int (K2.2.1 2 x9)]) (rest := []) hx hb hml hown hq hE hX pX0_al hP hD hS hA hl.1 (K_fail l G h0 a (upd (upd (upd (upd (upd (upd (upd (upd (upd F 2 (nI sz)) 5 (nI cs)) 7 (nI hd)) 12 (nI vr)) 13 as9) 5 (nI cs2)) 13 as2) 14 wt2) 15 wf2) (updR (updR R 2 (.ref pq)) 3 (.ref mq)) Z B2 J K2.1 (fun q99 x99 => x99 = rep G a K2 q99) w 12 (K2.2.1 2 x9) sz (by omega) hO hl0) (gV pw_64 pw_65 pw_66 pw_59 pw_43) hV_X10_fail qr139 7 hqr140 rfl rfl rfl (Nat.le_of_ble_eq_true rfl) dX0_arguments_57 ⟨(by show 0 + 1 ≤ 1; omega), (by show 0 + 6 ≤ 6; omega)⟩ ⟨(by show 6 + 1 ≤ (5 * n + 32); omega), (by show 8 + (3 + 11) + 100 ≤ (200 * n + 520); omega)⟩ (fun v138 u136 H locs hw137 hP hD hS => hw137.elim) (fun ux ce9 q9 H9 locs9 hux hP9 hD9 hS9 hce hcv hcl => pb_out ux (ThQ.up (Thx.same (Thx.f (Thx.f (Thx.f (Thx.f (Bth.thx hbb2) (by omega)) (by omega)) (by omega)) (by omega)) rfl) RhX.rfl hux) hnt hlocks hce hcv hcl hP9 hD9 hS9 (by show 0 + 1 ≤ 1; omega) (by show 0 + 6 ≤ 6; omega))
  refine lv_aload_n hx hb dX0_arguments_23 rfl (lv_at hl 2 rfl) ?_
  rcases ho142 : K.2.2.1 1 q with _ | o141
  · skip
    refine p_get (v := .null) (C := RX7) (Tc := TX7) (N := 11) (ci := 13) hx hb hq pin_wsX70 hown hE hP hO (by rw [hqT]; decide) (rep_1 hqT) rfl 7 (by decide) (hq _ pw_169) (fun _ h9 => h9) (congrArg (fun z => some (va_rf z)) ho142) dX0_arguments_24 ?_
    refine lv_astoreN (lv' := [(6, .null), (5, .int 0), (0, .ref (a 4)), (1, .ref q), (2, .ref m2), (3, .int x1), (4, .int x2)]) hx hb dX0_arguments_27 hl (by decide) rfl (fun ls hl => ?_)
    have loop_g : ∀ (n_g : Nat) (i2 : Nat) (o2 : Option Nat) (K2 : PK) (B2 : Nat → Nat → Int32) (cs2 : Nat) (as2 : Int32) (wt2 : Int32) (wf2 : Int32) (Ag2 : Nat → AS) (ar : List Nat) (p2 : Nat) (H : Heap) (locs : List Loc) (ls : Array Slot) (w : va_W), i2 ≤ np → np + 1 ≤ i2 + n_g → (BdE K K2) → (BeF K K2) → (BeL K K2 none) → (BeI K K2 g q) → (BeR B B2) → (Bth B B2) → (Nng (B2 18)) → (SmW B B2 cs) → (AsE as9 as2) → (cs ≤ cs2 ∧ cs2 ≤ cs + 2 * (p2 - rM (g 2 q))) → (rM (g 2 q) ≤ p2 ∧ p2 + 1 ≤ rE (g 2 q)) → (i2 + 1 ≤ ndE g q) → (ArN K2 g q p2 o2) → (ar.length = i2) → (okA → ArgL pb.1 (fun i => tyc (tyN (B 11) sz (K.2.1 2 (itp i)))) ar) → (okA → EvQ pb.1 pb.2.1 pb.2.2.1 pb.2.2.2 (B 16) (B 17) (B 18) (B 19) (B2 16) (B2 17) (B2 18) (B2 19) Ag Ag2 pd m9 sn lo cs cs2 as9 as2 hd sl (ar ++ cR :: os)) → va_P G.1 pCl w H → va_D A w → va_S A s.heap H locs → OKP G h0 a (upd (upd (upd (upd (upd (upd (upd F 2 (nI sz)) 5 (nI cs2)) 7 (nI hd)) 12 (nI vr)) 13 as2) 14 wt2) 15 wf2) (updR (updR R 2 (.ref pq)) 3 (.ref mq)) Z B2 J K2 w → lv_has ls 7 [(6, va_rf o2), (5, .int (nI i2)), (4, .int x2), (3, .int x1), (2, .ref m2), (1, .ref q), (0, .ref (a 4))] → W p l e (headSpec (Cond.code yX0_arguments cX0_arguments 7 (some .int) :: pw) ({ frames := (5 * n + 32), cells := 1, slots := 6, locals := (200 * n + 520) } : Room)).room s m ([.ref (a 4), .ref q, .ref m2, .int x1, .int x2] : List Value).toArray below meth c H locs 0 0 (vx_MQ below (pQn G A (fun (v : Option Value) (u : va_W × (PK × (Nat → Nat → Int32) × Nat × Int32 × Int32 × Int32 × Nat × (Nat → AS))) => v = some (.int (nI u.2.2.2.2.2.2.2.1)) ∧ (SmW B u.2.2.1 cs) ∧ (BdE K u.2.1) ∧ (BeF K u.2.1) ∧ (BeL K u.2.1 none) ∧ (BeI K u.2.1 g q) ∧ (Bth B u.2.2.1) ∧ (BeR B u.2.2.1) ∧ (u.2.2.2.2.2.2.2.1 < 128) ∧ (cs ≤ u.2.2.2.1 ∧ u.2.2.2.1 + 1 ≤ cs + 2 * (rE (g 2 q) - rM (g 2 q))) ∧ (AsE as9 u.2.2.2.2.1) ∧ (okA → EvB pb B u.2.2.1 Ag u.2.2.2.2.2.2.2.2 pd m9 sn lo cs u.2.2.2.1 as9 u.2.2.2.2.1 hd sl (rsO u.2.2.2.2.2.2.2.1 os) ∧ cs < u.2.2.2.1) ∧ (OKP G h0 a (upd (upd (upd (upd (upd (upd (upd F 2 (nI sz)) 5 (nI u.2.2.2.1)) 7 (nI hd)) 12 (nI vr)) 13 u.2.2.2.2.1) 14 u.2.2.2.2.2.1) 15 u.2.2.2.2.2.2.1) (updR (updR R 2 (.ref pq)) 3 (.ref mq)) Z u.2.2.1 J u.2.1 u.1)) (fun u => u.1) (fun (u : va_W × (PK × (Nat → Nat → Int32) × Nat × Int32 × Int32 × Int32 × Nat × (Nat → AS))) => 0) (fun (u : va_W × (PK × (Nat → Nat → Int32) × Nat × Int32 × Int32 × Int32 × Nat × (Nat → AS))) => 0)) (pXX G A (fun (u : va_W × (Nat → Int32) × (Nat → Value) × (Nat → Nat → Int32)) => ThQ G h0 a (upd (upd (upd (upd (upd F 2 (nI sz)) 5 (nI cs)) 7 (nI hd)) 12 (nI vr)) 13 as9) (updR (updR R 2 (.ref pq)) 3 (.ref mq)) Z B J u) (fun u => u.1)) ([.ref (a 4), .ref q, .ref m2, .int x1, .int x2] : List Value).toArray s ({ frames := (5 * n + 32), cells := 1, slots := 6, locals := (200 * n + 520) } : Room).cells ({ frames := (5 * n + 32), cells := 1, slots := 6, locals := (200 * n + 520) } : Room).slots A) (F0 m 29 ls []) := by
      intro n_g
      induction n_g with
      | zero => intro i2 o2 K2 B2 cs2 as2 wt2 wf2 Ag2 ar p2 H locs ls w hk_g hn_g; omega
      | succ n_g ih_g =>
        intro i2 o2 K2 B2 cs2 as2 wt2 wf2 Ag2 ar p2 H locs ls w hk_g hn_g hbe2 hbf2 hbl2 hbi2 hbr2 hbb2 hng2 hsw2 has2 hcs2 hpr2 hnd2 hpo2 hal2 hag2 hev2 hP hD hS hO hl
        have hf143 : K2.1 pq = 7 := (BdE.T hbe2 hp1 (by decide))
        have hf144 : K2.2.2.1 18 pq = some (a 1) := (BdE.C hbe2 (by rw [hp1]; decide) 18).trans hp2
        have hf145 : K2.2.2.1 14 pq = some dr := (BdE.C hbe2 (by rw [hp1]; decide) 14).trans hp3
        have hf146 : K2.1 dr = 8 := (BdE.T hbe2 hp4 (by decide))
        have hf147 : K2.2.2.1 15 pq = some ml := (BdE.C hbe2 (by rw [hp1]; decide) 15).trans hp5
        have hf148 : K2.1 ml = 5 := (BdE.T hbe2 hp6 (by decide))
        have hf149 : K2.2.1 24 pq = (nI nd) := (BdE.I hbe2 (by rw [hp1]; decide) (by decide) (by decide)).trans hp8
        have hf150 : K2.1 q = 1 := (BdE.T hbe2 hqT (by decide))
        have hf151 : K2.1 mq = 3 := (BdE.T hbe2 hmq (by decide))
        have hf152 : K2.1 m2 = 3 := (BdE.T hbe2 hm2 (by decide))
        have hf153 : K2.2.2.1 6 m2 = some lp := (BdE.C hbe2 (by rw [hm2]; decide) 6).trans hlp
        have hf154 : K2.1 lp = 5 := (BdE.T hbe2 hlc.1 (by decide))
        have hf155 : K2.2.1 10 m2 = (nI rt) := (BdE.I hbe2 (by rw [hm2]; decide) (by decide) (by decide)).trans hrt
        rcases o2 with _ | x9
        · have hl : lv_has ls 7 [(6, .null), (5, .int (nI i2)), (4, .int x2), (3, .int x1), (2, .ref m2), (1, .ref q), (0, .ref (a 4))] := hl
          refine W.eq (g2 := F0 m 29 ls []) rfl ?_
          refine lv_aloadN hx hb dX0_arguments_29 (lv_at hl 0 rfl) ?_
          refine lv_ifnullN (tgt := 110) hx hb dX0_arguments_31 (by decide) ?_
          refine lv_iload hx hb dX0_arguments_110 (lv_at hl 1 rfl) ?_
          refine lv_aload_n hx hb dX0_arguments_112 rfl (lv_at hl 4 rfl) ?_
          refine p_get (v := .ref lp) (C := RX6) (Tc := TX6) (N := 12) (ci := 12) hx hb hq pin_wsX60 hown hE hP hO (by rw [hf152]; decide) (rep_3 hf152) rfl 4 (by decide) (hq _ pw_79) (fun _ h9 => h9) (congrArg (fun z => some (va_rf z)) hf153) dX0_arguments_113 ?_
          have hO : OKP G h0 a (upd (upd (upd (upd (upd (upd (upd F 2 (nI sz)) 5 (nI cs2)) 7 (nI hd)) 12 (nI vr)) 13 as2) 14 wt2) 15 wf2) (updR (updR R 2 (.ref pq)) 3 (.ref mq)) Z B2 J K2 w := hO.to rfl
          obtain ⟨qr159, hqr160⟩ := p_recv hO (by rw [hf154]; decide) (rep_5 hf154)
          refine pc_V0 (G := G) (As := []) (rest := [.int (nI i2)]) hx hb hml hown hq hE hX pX0_al hP hD hS hA hl.1 (L_size l G h0 a (upd (upd (upd (upd (upd (upd (upd F 2 (nI sz)) 5 (nI cs2)) 7 (nI hd)) 12 (nI vr)) 13 as2) 14 wt2) 15 wf2) (updR (updR R 2 (.ref pq)) 3 (.ref mq)) Z B2 J K2 w lp 1 np itp (BdE.lsc hbe2 hlc (by decide)).ls hO) (gV pw_86 pw_87 pw_88 pw_32 pw_16) hV_Jx4a65c_size_8abf5 qr159 10 hqr160 rfl rfl rfl (Nat.le_of_ble_eq_true rfl) dX0_arguments_116 ⟨(by show 0 + 0 ≤ 1; omega), (by show 0 + 0 ≤ 6; omega)⟩ ⟨(by show 2 + 1 ≤ (5 * n + 32); omega), (by show 8 + (1 + 11) + 60 ≤ (200 * n + 520); omega)⟩ (fun v158 u156 H locs hw157 hP hD hS => ?_)
          obtain ⟨w, _⟩ := u156
          obtain ⟨hw157, hO⟩ := hw157
          obtain rfl : v158 = some (.int (nI np)) := hw157
          have hO : OKP G h0 a (upd (upd (upd (upd (upd (upd (upd F 2 (nI sz)) 5 (nI cs2)) 7 (nI hd)) 12 (nI vr)) 13 as2) 14 wt2) 15 wf2) (updR (updR R 2 (.ref pq)) 3 (.ref mq)) Z B2 J K2 w := hO.to rfl
          refine W.widen (k := 0) (n := 0) (Nat.le_of_ble_eq_true rfl) (Nat.le_of_ble_eq_true rfl) ?_
          refine W.eq (g2 := F0 m 119 ls [.int (nI np), .int (nI i2)]) rfl ?_
          refine lv_icmp_ge (tgt := 135) hx hb dX0_arguments_119 (by decide) (fun c161 => ?_) (fun c161 => ?_)
          · have n162 : np ≤ i2 := (nI_leI (a := np) (b := i2) (by omega) (by omega)).mp c161
            refine lv_aload_n hx hb dX0_arguments_135 rfl (lv_at hl 6 rfl) ?_
            refine c_get (v := .ref (a 2)) (C := RX0) (Tc := TX0) (N := 13) (ci := 0) hx hb hq pin_wsX00 hown hE hP hO 24 (sg_24 G h0 a _ _ _ _ _) rfl 1 (by decide) (hq _ pw_5) (fun _ h9 => h9) rfl dX0_arguments_136 ?_
            refine lv_iload_n hx hb dX0_arguments_139 rfl (lv_at hl 3 rfl) ?_
            refine lv_iload hx hb dX0_arguments_140 (lv_at hl 2 rfl) ?_
            refine lv_iload hx hb dX0_arguments_142 (lv_at hl 1 rfl) ?_
            have hnp9 : i2 = np := by omega
            have hO : OKW G h0 a (upd (upd (upd (upd (upd (upd (upd (upd (upd F 2 (nI sz)) 5 (nI cs2)) 7 (nI hd)) 12 (nI vr)) 13 as2) 14 wt2) 15 wf2) 5 (nI cs2)) 7 (nI hd)) (updR (updR R 2 (.ref pq)) 3 (.ref mq)) Z B2 J K2.1 (fun q99 x99 => x99 = rep G a K2 q99) w := hO.to rfl
            obtain ⟨_, qr166, hqr167⟩ := hO.2.1 13 _ (sg_13 G h0 a _ _ _ _ _)
            refine pc_V0 (G := G) (As := [.int x1, .int x2, .int (nI i2)]) (rest := []) hx hb hml hown hq hE hX pX0_al hP hD hS hA hl.1 (Y_emit l G h0 a (upd (upd (upd (upd (upd (upd (upd F 2 (nI sz)) 5 (nI cs2)) 7 (nI hd)) 12 (nI vr)) 13 as2) 14 wt2) 15 wf2) (updR (updR R 2 (.ref pq)) 3 (.ref mq)) Z B2 J K2.1 (fun q99 x99 => x99 = rep G a K2 q99) w x1 x2 (nI i2) cs2 hd (by omega) hO) (gV pw_129 pw_130 pw_131 pw_70 pw_115) hV_X1_emit qr166 1 hqr167 rfl rfl rfl (Nat.le_of_ble_eq_true rfl) dX0_arguments_144 ⟨(by show 0 + 0 ≤ 1; omega), (by show 0 + 0 ≤ 6; omega)⟩ ⟨(by show 2 + 1 ≤ (5 * n + 32); omega), (by show 8 + (4 + 11) + 60 ≤ (200 * n + 520); omega)⟩ (fun v165 u163 H locs hw164 hP hD hS => ?_)
            obtain ⟨w, _⟩ := u163
            obtain ⟨hw164, hO⟩ := hw164
            obtain rfl : v165 = none := hw164
            have hO : OKP G h0 a (upd (upd (upd (upd (upd (upd (upd F 2 (nI sz)) 5 (nI (cs2 + 1))) 7 (nI hd)) 12 (nI vr)) 13 as2) 14 wt2) 15 wf2) (updR (updR R 2 (.ref pq)) 3 (.ref mq)) Z (updA (updA (updA (updA B2 16 (upd ((B2 16)) cs2 x1)) 17 (upd ((B2 17)) cs2 x2)) 18 (upd ((B2 18)) cs2 (nI i2))) 19 (upd ((B2 19)) cs2 (nI hd))) J K2 w := hO.to rfl
            refine W.widen (k := 0) (n := 0) (Nat.le_of_ble_eq_true rfl) (Nat.le_of_ble_eq_true rfl) ?_
            refine W.eq (g2 := F0 m 147 ls []) rfl ?_
            have hsw168 : ∀ x9 : Nat, x9 < cs → (upd ((B2 16)) cs2 x1) x9 = B 16 x9 := fun x9 hx9 => (if_neg (by omega)).trans ((fun x9 hx9 => (hsw2 x9 hx9).1) x9 hx9)
            have hsw169 : ∀ x9 : Nat, x9 < cs → (upd ((B2 17)) cs2 x2) x9 = B 17 x9 := fun x9 hx9 => (if_neg (by omega)).trans ((fun x9 hx9 => (hsw2 x9 hx9).2.1) x9 hx9)
            have hsw170 : ∀ x9 : Nat, x9 < cs → (upd ((B2 18)) cs2 (nI i2)) x9 = B 18 x9 := fun x9 hx9 => (if_neg (by omega)).trans ((fun x9 hx9 => (hsw2 x9 hx9).2.2.1) x9 hx9)
            have hsw171 : ∀ x9 : Nat, x9 < cs → (upd ((B2 19)) cs2 (nI hd)) x9 = B 19 x9 := fun x9 hx9 => (if_neg (by omega)).trans ((fun x9 hx9 => (hsw2 x9 hx9).2.2.2) x9 hx9)
            obtain ⟨Ag172, hev173⟩ : ∃ A5 : Nat → AS, okA → EvQ pb.1 pb.2.1 pb.2.2.1 pb.2.2.2 (B 16) (B 17) (B 18) (B 19) (upd ((B2 16)) cs2 x1) (upd ((B2 17)) cs2 x2) (upd ((B2 18)) cs2 (nI i2)) (upd ((B2 19)) cs2 (nI hd)) Ag A5 pd m9 sn lo cs (cs2 + 1) as9 as2 hd sl (rsO rt os) := ⟨(upS Ag2 (cs2 + 1) (rcA as2, hd, sl, (rsO rt os))), fun z => (hev2 z).trans (CaF.emit hcf (hev2 z).1 (by rw [List.length_append, hal2]; show i2 + (os.length + 1) ≤ 248; omega) (hal2.trans hnp9) hnp9 (hag2 z))⟩
            have hng9 : Nng (upd ((B2 18)) cs2 (nI i2)) := Nng.set hng2 (k := i2) (by omega)
            have hng174 := hng9
            refine lv_aload_n hx hb dX0_arguments_147 rfl (lv_at hl 4 rfl) ?_
            refine p_get (v := .int (nI rt)) (C := RX6) (Tc := TX6) (N := 12) (ci := 12) hx hb hq pin_wsX60 hown hE hP hO (by rw [hf152]; decide) (rep_3 hf152) rfl 7 (by decide) (hq _ pw_172) (fun _ h9 => h9) (congrArg (fun z => some (Value.int z)) hf155) dX0_arguments_148 ?_
            refine W_size (fun hz1 hz2 => ?_)
            refine vx_ret ?_
            have hz175 : SmW B (updA (updA (updA (updA B2 16 (upd ((B2 16)) cs2 x1)) 17 (upd ((B2 17)) cs2 x2)) 18 (upd ((B2 18)) cs2 (nI i2))) 19 (upd ((B2 19)) cs2 (nI hd))) cs := (fun x9 hx9 => ⟨hsw168 x9 hx9, hsw169 x9 hx9, hsw170 x9 hx9, hsw171 x9 hx9⟩)
            have hz176 : BdE K K2 := hbe2
            have hz177 : BeF K K2 := hbf2
            have hz178 : BeL K K2 none := hbl2
            have hz179 : BeI K K2 g q := hbi2
            have hz180 : Bth B (updA (updA (updA (updA B2 16 (upd ((B2 16)) cs2 x1)) 17 (upd ((B2 17)) cs2 x2)) 18 (upd ((B2 18)) cs2 (nI i2))) 19 (upd ((B2 19)) cs2 (nI hd))) := (show Thx (upd (upd (upd (upd (upd F 2 (nI sz)) 5 (nI cs)) 7 (nI hd)) 12 (nI vr)) 13 as9) (upd (upd (upd (upd (upd (upd (upd (upd (upd F 2 (nI sz)) 5 (nI cs)) 7 (nI hd)) 12 (nI vr)) 13 as9) 5 (nI (cs2 + 1))) 13 as2) 14 wt2) 15 wf2) B (updA (updA (updA (updA B2 16 (upd ((B2 16)) cs2 x1)) 17 (upd ((B2 17)) cs2 x2)) 18 (upd ((B2 18)) cs2 (nI i2))) 19 (upd ((B2 19)) cs2 (nI hd))) from (Thx.b (Thx.b8 (Thx.b (Thx.b (Thx.f (Thx.f (Thx.f (Thx.f (Bth.thx hbb2) (by omega)) (by omega)) (by omega)) (by omega)) (by omega) (by decide)) (by omega) (by decide)) hng174) (by omega) (by decide))).2
            have hz181 : BeR B (updA (updA (updA (updA B2 16 (upd ((B2 16)) cs2 x1)) 17 (upd ((B2 17)) cs2 x2)) 18 (upd ((B2 18)) cs2 (nI i2))) 19 (upd ((B2 19)) cs2 (nI hd))) := (BeR.up (k := 19) (f := (upd ((B2 19)) cs2 (nI hd))) (BeR.up (k := 18) (f := (upd ((B2 18)) cs2 (nI i2))) (BeR.up (k := 17) (f := (upd ((B2 17)) cs2 x2)) (BeR.up (k := 16) (f := (upd ((B2 16)) cs2 x1)) hbr2 (by omega)) (by omega)) (by omega)) (by omega))
            have hz182 : rt < 128 := (by omega)
            have hz183 : cs ≤ (cs2 + 1) ∧ (cs2 + 1) + 1 ≤ cs + 2 * (rE (g 2 q) - rM (g 2 q)) := (by omega)
            have hz184 : AsE as9 as2 := has2
            have hz185 : okA → EvB pb B (updA (updA (updA (updA B2 16 (upd ((B2 16)) cs2 x1)) 17 (upd ((B2 17)) cs2 x2)) 18 (upd ((B2 18)) cs2 (nI i2))) 19 (upd ((B2 19)) cs2 (nI hd))) Ag Ag172 pd m9 sn lo cs (cs2 + 1) as9 as2 hd sl (rsO rt os) ∧ cs < (cs2 + 1) := (fun z => ⟨hev173 z, by omega⟩)
            have hO : OKP G h0 a (upd (upd (upd (upd (upd (upd (upd F 2 (nI sz)) 5 (nI (cs2 + 1))) 7 (nI hd)) 12 (nI vr)) 13 as2) 14 wt2) 15 wf2) (updR (updR R 2 (.ref pq)) 3 (.ref mq)) Z (updA (updA (updA (updA B2 16 (upd ((B2 16)) cs2 x1)) 17 (upd ((B2 17)) cs2 x2)) 18 (upd ((B2 18)) cs2 (nI i2))) 19 (upd ((B2 19)) cs2 (nI hd))) J K2 w := hO.to rfl
            refine W.widen (k := 1) (n := 6) (by omega) (by omega) ?_
            have hzz1 : H.size ≤ s.heap.size + (0) := (by have z : 0 ≤ 0 := (by omega); omega)
            have hzz2 : hSl H ≤ hSl s.heap + (0) := (by have z : 0 ≤ 0 := (by omega); omega)
            exact W.iret (v := (nI rt)) hx hb hr (fun t99 ht99 hW99 => ⟨⟨_, (w, (K2, (updA (updA (updA (updA B2 16 (upd ((B2 16)) cs2 x1)) 17 (upd ((B2 17)) cs2 x2)) 18 (upd ((B2 18)) cs2 (nI i2))) 19 (upd ((B2 19)) cs2 (nI hd))), (cs2 + 1), as2, wt2, wf2, rt, Ag172)), rfl, ⟨rfl, hz175, hz176, hz177, hz178, hz179, hz180, hz181, hz182, hz183, hz184, hz185, hO⟩, by rw [ht99]; exact hP, hD, by rw [ht99]; exact hzz1, by rw [ht99]; exact hzz2⟩, hS.F ht99⟩) hS.2.2 dX0_arguments_151
          · have n186 : ¬ (np ≤ i2) := fun h9 => c161 ((nI_leI (a := np) (b := i2) (by omega) (by omega)).mpr h9)
            refine lv_aload_n hx hb dX0_arguments_122 rfl (lv_at hl 6 rfl) ?_
            refine c_get (v := .ref (a 1)) (C := RX0) (Tc := TX0) (N := 13) (ci := 0) hx hb hq pin_wsX00 hown hE hP hO 24 (sg_24 G h0 a _ _ _ _ _) rfl 0 (by decide) (hq _ pw_4) (fun _ h9 => h9) rfl dX0_arguments_123 ?_
            refine lv_bipush (v := 12) hx hb dX0_arguments_126 (by decide) ?_
            refine lv_aload_n hx hb dX0_arguments_128 rfl (lv_at hl 5 rfl) ?_
            refine p_get (v := .int (K2.2.1 4 q)) (C := RX7) (Tc := TX7) (N := 11) (ci := 13) hx hb hq pin_wsX70 hown hE hP hO (by rw [hf150]; decide) (rep_1 hf150) rfl 4 (by decide) (hq _ pw_171) (fun _ h9 => h9) rfl dX0_arguments_129 ?_
            have hO : OKW G h0 a (upd (upd (upd (upd (upd (upd (upd (upd (upd (upd F 2 (nI sz)) 5 (nI cs)) 7 (nI hd)) 12 (nI vr)) 13 as9) 5 (nI cs2)) 13 as2) 14 wt2) 15 wf2) 2 (nI sz)) (updR (updR R 2 (.ref pq)) 3 (.ref mq)) Z B2 J K2.1 (fun q99 x99 => x99 = rep G a K2 q99) w := hO.to rfl
            obtain ⟨_, qr190, hqr191⟩ := hO.2.1 2 _ (sg_2 G h0 a _ _ _ _ _)
            refine pn_V0 (G := G) (As := [.int 12, .int (K2.2.1 4 q)]) (rest := []) hx hb hml hown hq hE hX pX0_al hP hD hS hA hl.1 (K_fail l G h0 a (upd (upd (upd (upd (upd (upd (upd (upd (upd F 2 (nI sz)) 5 (nI cs)) 7 (nI hd)) 12 (nI vr)) 13 as9) 5 (nI cs2)) 13 as2) 14 wt2) 15 wf2) (updR (updR R 2 (.ref pq)) 3 (.ref mq)) Z B2 J K2.1 (fun q99 x99 => x99 = rep G a K2 q99) w 12 (K2.2.1 4 q) sz (by omega) hO hl0) (gV pw_64 pw_65 pw_66 pw_59 pw_43) hV_X10_fail qr190 7 hqr191 rfl rfl rfl (Nat.le_of_ble_eq_true rfl) dX0_arguments_132 ⟨(by show 0 + 1 ≤ 1; omega), (by show 0 + 6 ≤ 6; omega)⟩ ⟨(by show 6 + 1 ≤ (5 * n + 32); omega), (by show 8 + (3 + 11) + 100 ≤ (200 * n + 520); omega)⟩ (fun v189 u187 H locs hw188 hP hD hS => hw188.elim) (fun ux ce9 q9 H9 locs9 hux hP9 hD9 hS9 hce hcv hcl => pb_out ux (ThQ.up (Thx.same (Thx.f (Thx.f (Thx.f (Thx.f (Bth.thx hbb2) (by omega)) (by omega)) (by omega)) (by omega)) rfl) RhX.rfl hux) hnt hlocks hce hcv hcl hP9 hD9 hS9 (by show 0 + 1 ≤ 1; omega) (by show 0 + 6 ≤ 6; omega))
        · have hl : lv_has ls 7 [(6, .ref x9), (5, .int (nI i2)), (4, .int x2), (3, .int x1), (2, .ref m2), (1, .ref q), (0, .ref (a 4))] := hl
          refine W.eq (g2 := F0 m 29 ls []) rfl ?_
          have hxd := hpo2 x9 rfl
          have hxm := hxd.1
          have hxT := hxm.1
          have hxv : 1 ≤ g 0 x9 ∧ g 0 x9 + 1 ≤ n := ⟨hxm.2.1, (by have z := hxm.2.2.1; omega)⟩
          have hx5 := hxm.2.2.2
          have hx6 := hxd.2
          have hxl : 1 ≤ tlE g x9 ∧ 1 ≤ ndE g x9 := ⟨(by unfold tlE; omega), hx5.2.2.2.1⟩
          have htx : tlE g x9 = rE (g 2 x9) - rS (g 2 x9) := rfl
          have hxi : InE g q x9 := ⟨by omega, by omega⟩
          refine lv_aload hx hb dX0_arguments_29 (lv_at hl 0 rfl) ?_
          refine lv_ifnull hx hb dX0_arguments_31 ?_
          refine lv_iload hx hb dX0_arguments_34 (lv_at hl 1 rfl) ?_
          refine lv_aload_n hx hb dX0_arguments_36 rfl (lv_at hl 4 rfl) ?_
          refine p_get (v := .ref lp) (C := RX6) (Tc := TX6) (N := 12) (ci := 12) hx hb hq pin_wsX60 hown hE hP hO (by rw [hf152]; decide) (rep_3 hf152) rfl 4 (by decide) (hq _ pw_79) (fun _ h9 => h9) (congrArg (fun z => some (va_rf z)) hf153) dX0_arguments_37 ?_
          have hO : OKP G h0 a (upd (upd (upd (upd (upd (upd (upd F 2 (nI sz)) 5 (nI cs2)) 7 (nI hd)) 12 (nI vr)) 13 as2) 14 wt2) 15 wf2) (updR (updR R 2 (.ref pq)) 3 (.ref mq)) Z B2 J K2 w := hO.to rfl
          obtain ⟨qr195, hqr196⟩ := p_recv hO (by rw [hf154]; decide) (rep_5 hf154)
          refine pc_V0 (G := G) (As := []) (rest := [.int (nI i2)]) hx hb hml hown hq hE hX pX0_al hP hD hS hA hl.1 (L_size l G h0 a (upd (upd (upd (upd (upd (upd (upd F 2 (nI sz)) 5 (nI cs2)) 7 (nI hd)) 12 (nI vr)) 13 as2) 14 wt2) 15 wf2) (updR (updR R 2 (.ref pq)) 3 (.ref mq)) Z B2 J K2 w lp 1 np itp (BdE.lsc hbe2 hlc (by decide)).ls hO) (gV pw_86 pw_87 pw_88 pw_32 pw_16) hV_Jx4a65c_size_8abf5 qr195 10 hqr196 rfl rfl rfl (Nat.le_of_ble_eq_true rfl) dX0_arguments_40 ⟨(by show 0 + 0 ≤ 1; omega), (by show 0 + 0 ≤ 6; omega)⟩ ⟨(by show 2 + 1 ≤ (5 * n + 32); omega), (by show 8 + (1 + 11) + 60 ≤ (200 * n + 520); omega)⟩ (fun v194 u192 H locs hw193 hP hD hS => ?_)
          obtain ⟨w, _⟩ := u192
          obtain ⟨hw193, hO⟩ := hw193
          obtain rfl : v194 = some (.int (nI np)) := hw193
          have hO : OKP G h0 a (upd (upd (upd (upd (upd (upd (upd F 2 (nI sz)) 5 (nI cs2)) 7 (nI hd)) 12 (nI vr)) 13 as2) 14 wt2) 15 wf2) (updR (updR R 2 (.ref pq)) 3 (.ref mq)) Z B2 J K2 w := hO.to rfl
          refine W.widen (k := 0) (n := 0) (Nat.le_of_ble_eq_true rfl) (Nat.le_of_ble_eq_true rfl) ?_
          refine W.eq (g2 := F0 m 43 ls [.int (nI np), .int (nI i2)]) rfl ?_
          refine lv_icmp_lt (tgt := 63) hx hb dX0_arguments_43 (by decide) (fun c197 => ?_) (fun c197 => ?_)
          · have n198 : i2 < np := (nI_ltI (a := i2) (b := np) (by omega) (by omega)).mp c197
            refine lv_aload_n hx hb dX0_arguments_63 rfl (lv_at hl 6 rfl) ?_
            refine lv_aload hx hb dX0_arguments_64 (lv_at hl 0 rfl) ?_
            refine lv_aload_n hx hb dX0_arguments_66 rfl (lv_at hl 6 rfl) ?_
            refine lv_aload hx hb dX0_arguments_67 (lv_at hl 0 rfl) ?_
            have hO : OKP G h0 a (upd (upd (upd (upd (upd (upd (upd (upd (upd (upd (upd (upd (upd (upd F 2 (nI sz)) 5 (nI cs)) 7 (nI hd)) 12 (nI vr)) 13 as9) 5 (nI cs2)) 13 as2) 14 wt2) 15 wf2) 2 (nI sz)) 5 (nI cs2)) 7 (nI hd)) 12 (nI vr)) 13 as2) (updR (updR (updR (updR R 2 (.ref pq)) 3 (.ref mq)) 2 (.ref pq)) 3 (.ref mq)) Z B2 J K2 w := hO.to rfl
            obtain ⟨_, qr202, hqr203⟩ := hO.2.1 24 _ (sg_24 G h0 a _ _ _ _ _)
            refine pn_V0 (G := G) (As := [.ref x9]) (rest := [.ref x9, .ref (a 4)]) hx hb hml hown hq hE hX pX0_al hP hD hS hA hl.1 ((ihv (by omega)) h0 a (upd (upd (upd (upd (upd (upd (upd (upd (upd F 2 (nI sz)) 5 (nI cs)) 7 (nI hd)) 12 (nI vr)) 13 as9) 5 (nI cs2)) 13 as2) 14 wt2) 15 wf2) (updR (updR R 2 (.ref pq)) 3 (.ref mq)) Z B2 J K2 w pq dr ml nd nm cp it s9 x9 mq cs2 vr sz g rk pb Ag2 pd sl (ar ++ cR :: os) m9 sn lo hd c0 as2 okA (by omega) (BdE.wp hbe2 hwp) (BdE.pt hbe2 hwp hps) (BdE.rko hbe2 hrk) (by omega) (by omega) hng2 hf151 hxT ⟨hxv.1, (by have z9 := hxv; omega)⟩ (EkA.be hbe2 (hbr2 7 (by decide)) (hbr2 11 (by decide)) hek) (OwC.be hbe2 hmq hdr0 hcO) (NaB.be hbe2 hbf2 hwp hps.2.1 hdr0 (hbr2 11 (by decide)) hna) (EnV.of (hbr2 26 (by decide)) (hbr2 27 (by decide)) hen) (fun z => (hev2 z).1) (by omega) (by show (ar ++ cR :: os).length + ndE g x9 ≤ 248; rw [List.length_append, hal2]; show i2 + (os.length + 1) + ndE g x9 ≤ 248; omega) hxl hO hl0) (gV pw_173 pw_174 pw_175 pw_63 pw_224) hV_X0_value qr202 0 hqr203 rfl rfl rfl (Nat.le_of_ble_eq_true rfl) dX0_arguments_69 ⟨(by show 0 + 1 ≤ 1; omega), (by show 0 + 6 ≤ 6; omega)⟩ ⟨(by show (5 * (n - 1) + 34) + 1 ≤ (5 * n + 32); omega), (by show 8 + (3 + 11) + (200 * (n - 1) + 600) ≤ (200 * n + 520); omega)⟩ (fun v201 u199 H locs hw200 hP hD hS => ?_) (fun ux ce9 q9 H9 locs9 hux hP9 hD9 hS9 hce hcv hcl => pb_out ux (ThQ.up (Thx.same (Thx.same (Thx.same (Thx.same (Thx.same (Thx.f (Thx.f (Thx.f (Thx.f (Bth.thx hbb2) (by omega)) (by omega)) (by omega)) (by omega)) rfl) rfl) rfl) rfl) rfl) (show RhX (updR (updR R 2 (.ref pq)) 3 (.ref mq)) (updR (updR (updR (updR R 2 (.ref pq)) 3 (.ref mq)) 2 (.ref pq)) 3 (.ref mq)) from fun k9 hk9 => by unfold updR; simp only [show ¬ k9 = 1 by omega, show ¬ k9 = 2 by omega, show ¬ k9 = 3 by omega, show ¬ k9 = 4 by omega, if_false]) hux) hnt hlocks hce hcv hcl hP9 hD9 hS9 (by show 0 + 1 ≤ 1; omega) (by show 0 + 6 ≤ 6; omega))
            obtain ⟨w, K204, B205, cs206, as207, wt208, wf209, t210, Ag211, u212⟩ := u199
            obtain ⟨hw200, h213, h214, h215, h216, h217, h218, h219, h220, h221, h222, h223, h224, hO⟩ := hw200
            have h213 : SmW B2 B205 cs2 := h213
            have h214 : BdE K2 K204 := h214
            have h215 : BeF K2 K204 := h215
            have h216 : BeL K2 K204 none := h216
            have h217 : BeI K2 K204 g x9 := h217
            have h218 : Bth B2 B205 := h218
            have h219 : BeR B2 B205 := h219
            have h220 : t210 < 128 := h220
            have h221 : cs2 ≤ cs206 ∧ cs206 + 0 ≤ cs2 + 2 * tlE g x9 := h221
            have h222 : AsE as2 as207 ∧ AsE as2 wt208 ∧ AsE as2 wf209 := h222
            have h223 : okA → VaQ pb B2 B205 Ag2 Ag211 pd m9 sn lo cs2 cs206 as2 as207 wt208 wf209 hd sl (ar ++ cR :: os) t210 u212 (K2.2.1 0 x9) := h223
            have h224 : CaK (K2.2.1 0 x9) → cs206 + 2 ≤ cs2 + 2 * tlE g x9 := h224
            obtain rfl : v201 = some (.int (nI t210)) := hw200
            have hf225 : K204.1 pq = 7 := (BdE.T h214 hf143 (by decide))
            have hf226 : K204.2.2.1 18 pq = some (a 1) := (BdE.C h214 (by rw [hf143]; decide) 18).trans hf144
            have hf227 : K204.2.2.1 14 pq = some dr := (BdE.C h214 (by rw [hf143]; decide) 14).trans hf145
            have hf228 : K204.1 dr = 8 := (BdE.T h214 hf146 (by decide))
            have hf229 : K204.2.2.1 15 pq = some ml := (BdE.C h214 (by rw [hf143]; decide) 15).trans hf147
            have hf230 : K204.1 ml = 5 := (BdE.T h214 hf148 (by decide))
            have hf231 : K204.2.1 24 pq = (nI nd) := (BdE.I h214 (by rw [hf143]; decide) (by decide) (by decide)).trans hf149
            have hf232 : K204.1 q = 1 := (BdE.T h214 hf150 (by decide))
            have hf233 : K204.1 mq = 3 := (BdE.T h214 hf151 (by decide))
            have hf234 : K204.1 m2 = 3 := (BdE.T h214 hf152 (by decide))
            have hf235 : K204.2.2.1 6 m2 = some lp := (BdE.C h214 (by rw [hf152]; decide) 6).trans hf153
            have hf236 : K204.1 lp = 5 := (BdE.T h214 hf154 (by decide))
            have hf237 : K204.2.1 10 m2 = (nI rt) := (BdE.I h214 (by rw [hf152]; decide) (by decide) (by decide)).trans hf155
            have hf238 : K204.1 x9 = 1 := (BdE.T h214 hxT (by decide))
            have hO : OKP G h0 a (upd (upd (upd (upd (upd (upd (upd F 2 (nI sz)) 5 (nI cs206)) 7 (nI hd)) 12 (nI vr)) 13 as207) 14 wt208) 15 wf209) (updR (updR R 2 (.ref pq)) 3 (.ref mq)) Z B205 J K204 w := hO.to rfl
            refine W.widen (k := 0) (n := 0) (by show 0 + 0 ≤ 0; omega) (by show 0 + 0 ≤ 0; omega) ?_
            refine W.eq (g2 := F0 m 72 ls [.int (nI t210), .ref x9, .ref (a 4)]) rfl ?_
            have hbe239 := BdE.trans hbe2 h214
            have hbb240 : Bth B B205 := Bth.trans (show Thx (upd (upd (upd (upd (upd F 2 (nI sz)) 5 (nI cs)) 7 (nI hd)) 12 (nI vr)) 13 as9) (upd (upd (upd (upd (upd (upd (upd (upd (upd F 2 (nI sz)) 5 (nI cs)) 7 (nI hd)) 12 (nI vr)) 13 as9) 5 (nI cs2)) 13 as2) 14 wt2) 15 wf2) B B2 from (Thx.f (Thx.f (Thx.f (Thx.f (Bth.thx hbb2) (by omega)) (by omega)) (by omega)) (by omega))).2 h218
            have hng241 : Nng (B205 18) := h218.2 hng2
            have hsw242 : ∀ x9 : Nat, x9 < cs → (B205 16) x9 = B 16 x9 := fun x9 hx9 => ((h213 x9 (by omega)).1).trans ((fun x9 hx9 => (hsw2 x9 hx9).1) x9 hx9)
            have hsw243 : ∀ x9 : Nat, x9 < cs → (B205 17) x9 = B 17 x9 := fun x9 hx9 => ((h213 x9 (by omega)).2.1).trans ((fun x9 hx9 => (hsw2 x9 hx9).2.1) x9 hx9)
            have hsw244 : ∀ x9 : Nat, x9 < cs → (B205 18) x9 = B 18 x9 := fun x9 hx9 => ((h213 x9 (by omega)).2.2.1).trans ((fun x9 hx9 => (hsw2 x9 hx9).2.2.1) x9 hx9)
            have hsw245 : ∀ x9 : Nat, x9 < cs → (B205 19) x9 = B 19 x9 := fun x9 hx9 => ((h213 x9 (by omega)).2.2.2).trans ((fun x9 hx9 => (hsw2 x9 hx9).2.2.2) x9 hx9)
            have hbf246 := BeF.trans hbf2 h215 hbe2
            have hbl249 := BeL.trans hbl2 h216 hbe2
            have hbi250 := BeI.trans hbi2 h217 hbe2 hxi
            have hbr247 : BeR B B205 := BeR.trans hbr2 h219
            have hpt248 : (okA ∧ ¬ t210 = 63) → EvQ pb.1 pb.2.1 pb.2.2.1 pb.2.2.2 (B 16) (B 17) (B 18) (B 19) (B205 16) (B205 17) (B205 18) (B205 19) Ag Ag211 pd m9 sn lo cs cs206 as9 as207 hd sl (u212 :: (ar ++ cR :: os)) ∧ UTb u212 (nI t210) as207 wt208 wf209 := fun z => VaQ.part (B1 := B2) (hev2 z.1) (h223 z.1) h220 z.2
            have hev251 := fun z => (hpt248 z).1
            have has252 : AsE as9 as207 ∧ AsE as9 wt208 ∧ AsE as9 wf209 := ⟨AsE.trans has2 h222.1, AsE.trans has2 h222.2.1, AsE.trans has2 h222.2.2⟩
            refine lv_aload_n hx hb dX0_arguments_72 rfl (lv_at hl 6 rfl) ?_
            refine c_get (v := .ref (a 1)) (C := RX0) (Tc := TX0) (N := 13) (ci := 0) hx hb hq pin_wsX00 hown hE hP hO 24 (sg_24 G h0 a _ _ _ _ _) rfl 0 (by decide) (hq _ pw_4) (fun _ h9 => h9) rfl dX0_arguments_73 ?_
            refine lv_aload_n hx hb dX0_arguments_76 rfl (lv_at hl 4 rfl) ?_
            refine p_get (v := .ref lp) (C := RX6) (Tc := TX6) (N := 12) (ci := 12) hx hb hq pin_wsX60 hown hE hP hO (by rw [hf234]; decide) (rep_3 hf234) rfl 4 (by decide) (hq _ pw_79) (fun _ h9 => h9) (congrArg (fun z => some (va_rf z)) hf235) dX0_arguments_77 ?_
            refine lv_iload hx hb dX0_arguments_80 (lv_at hl 1 rfl) ?_
            have hO : OKP G h0 a (upd (upd (upd (upd (upd (upd (upd F 2 (nI sz)) 5 (nI cs206)) 7 (nI hd)) 12 (nI vr)) 13 as207) 14 wt208) 15 wf209) (updR (updR R 2 (.ref pq)) 3 (.ref mq)) Z B205 J K204 w := hO.to rfl
            obtain ⟨qr256, hqr257⟩ := p_recv hO (by rw [hf236]; decide) (rep_5 hf236)
            refine pc_V0 (G := G) (As := [.int (nI i2)]) (rest := [.ref (a 1), .int (nI t210), .ref x9, .ref (a 4)]) hx hb hml hown hq hE hX pX0_al hP hD hS hA hl.1 (L_get l G h0 a (upd (upd (upd (upd (upd (upd (upd F 2 (nI sz)) 5 (nI cs206)) 7 (nI hd)) 12 (nI vr)) 13 as207) 14 wt208) 15 wf209) (updR (updR R 2 (.ref pq)) 3 (.ref mq)) Z B205 J K204 w lp 1 np itp i2 (BdE.lsc hbe239 hlc (by decide)).ls (by omega) hO) (gV pw_89 pw_90 pw_91 pw_32 pw_25) hV_Jx4a65c_get_915e3 qr256 10 hqr257 rfl rfl rfl (Nat.le_of_ble_eq_true rfl) dX0_arguments_82 ⟨(by show 0 + 0 ≤ 1; omega), (by show 0 + 0 ≤ 6; omega)⟩ ⟨(by show 4 + 1 ≤ (5 * n + 32); omega), (by show 8 + (2 + 11) + 103 ≤ (200 * n + 520); omega)⟩ (fun v255 u253 H locs hw254 hP hD hS => ?_)
            obtain ⟨w, _⟩ := u253
            obtain ⟨hw254, hO⟩ := hw254
            obtain rfl : v255 = some (.ref (itp i2)) := hw254
            have hO : OKP G h0 a (upd (upd (upd (upd (upd (upd (upd F 2 (nI sz)) 5 (nI cs206)) 7 (nI hd)) 12 (nI vr)) 13 as207) 14 wt208) 15 wf209) (updR (updR R 2 (.ref pq)) 3 (.ref mq)) Z B205 J K204 w := hO.to rfl
            refine W.widen (k := 0) (n := 0) (Nat.le_of_ble_eq_true rfl) (Nat.le_of_ble_eq_true rfl) ?_
            refine W.eq (g2 := F0 m 85 ls [.ref (itp i2), .ref (a 1), .int (nI t210), .ref x9, .ref (a 4)]) rfl ?_
            have hf258 : K204.1 (itp i2) = 1 := (BdE.lsc hbe239 hlc (by decide)).T (by omega)
            refine p_cast (C := RX7) (Tc := TX7) (N := 11) (ci := 13) hx hb hown (hq _ pw_80) hE hP hO (by rw [hf258]; decide) (rep_1 hf258) rfl dX0_arguments_85 ?_
            refine p_get (v := .int (K204.2.1 2 (itp i2))) (C := RX7) (Tc := TX7) (N := 11) (ci := 13) hx hb hq pin_wsX70 hown hE hP hO (by rw [hf258]; decide) (rep_1 hf258) rfl 2 (by decide) (hq _ pw_82) (fun _ h9 => h9) rfl dX0_arguments_88 ?_
            have hO : OKW G h0 a (upd (upd (upd (upd (upd (upd (upd (upd F 2 (nI sz)) 5 (nI cs206)) 7 (nI hd)) 12 (nI vr)) 13 as207) 14 wt208) 15 wf209) 2 (nI sz)) (updR (updR R 2 (.ref pq)) 3 (.ref mq)) Z B205 J K204.1 (fun q99 x99 => x99 = rep G a K204 q99) w := hO.to rfl
            obtain ⟨_, qr262, hqr263⟩ := hO.2.1 2 _ (sg_2 G h0 a _ _ _ _ _)
            refine pc_V0 (G := G) (As := [.int (K204.2.1 2 (itp i2))]) (rest := [.int (nI t210), .ref x9, .ref (a 4)]) hx hb hml hown hq hE hX pX0_al hP hD hS hA hl.1 (Y_typeAt l G h0 a (upd (upd (upd (upd (upd (upd (upd F 2 (nI sz)) 5 (nI cs206)) 7 (nI hd)) 12 (nI vr)) 13 as207) 14 wt208) 15 wf209) (updR (updR R 2 (.ref pq)) 3 (.ref mq)) Z B205 J K204.1 (fun q99 x99 => x99 = rep G a K204 q99) w (K204.2.1 2 (itp i2)) sz nd (by omega) (NaB.be hbe239 hbf246 hwp hps.2.1 hdr0 (hbr247 11 (by decide)) hna).1.2.1 hO) (gV pw_92 pw_93 pw_94 pw_59 pw_36) hV_X10_typeAt qr262 7 hqr263 rfl rfl rfl (Nat.le_of_ble_eq_true rfl) dX0_arguments_91 ⟨(by show 0 + 0 ≤ 1; omega), (by show 0 + 0 ≤ 6; omega)⟩ ⟨(by show 2 + 1 ≤ (5 * n + 32); omega), (by show 8 + (2 + 11) + 60 ≤ (200 * n + 520); omega)⟩ (fun v261 u259 H locs hw260 hP hD hS => ?_)
            obtain ⟨w, _⟩ := u259
            obtain ⟨hw260, hO⟩ := hw260
            obtain rfl : v261 = some (.int (nI (tyN ((B205 11)) sz (K204.2.1 2 (itp i2))))) := hw260
            have hO : OKP G h0 a (upd (upd (upd (upd (upd (upd (upd F 2 (nI sz)) 5 (nI cs206)) 7 (nI hd)) 12 (nI vr)) 13 as207) 14 wt208) 15 wf209) (updR (updR R 2 (.ref pq)) 3 (.ref mq)) Z B205 J K204 w := hO.to rfl
            refine W.widen (k := 0) (n := 0) (Nat.le_of_ble_eq_true rfl) (Nat.le_of_ble_eq_true rfl) ?_
            refine W.eq (g2 := F0 m 94 ls [.int (nI (tyN ((B205 11)) sz (K204.2.1 2 (itp i2)))), .int (nI t210), .ref x9, .ref (a 4)]) rfl ?_
            obtain ⟨ty264, hty264, hvty264⟩ : ∃ z : Nat, tyN (B205 11) sz (K204.2.1 2 (itp i2)) = z ∧ TyV nd z := ⟨_, rfl, ((NaB.be hbe239 hbf246 hwp hps.2.1 hdr0 (hbr247 11 (by decide)) hna).1.2.1).V (by omega)⟩
            rw [hty264]
            have hlty264 := (hvty264).lt hna.1.1
            have hO : OKP G h0 a (upd (upd (upd (upd (upd (upd (upd (upd (upd (upd F 2 (nI sz)) 5 (nI cs)) 7 (nI hd)) 12 (nI vr)) 13 as9) 5 (nI cs206)) 13 as207) 14 wt208) 15 wf209) 2 (nI sz)) (updR (updR (updR R 2 (.ref pq)) 3 (.ref mq)) 2 (.ref pq)) Z B205 J K204 w := hO.to rfl
            obtain ⟨_, qr268, hqr269⟩ := hO.2.1 24 _ (sg_24 G h0 a _ _ _ _ _)
            refine pn_V0 (G := G) (As := [.ref x9, .int (nI t210), .int (nI ty264)]) (rest := []) hx hb hml hown hq hE hX pX0_al hP hD hS hA hl.1 (Y_fit l G h0 a (upd (upd (upd (upd (upd (upd (upd (upd (upd F 2 (nI sz)) 5 (nI cs)) 7 (nI hd)) 12 (nI vr)) 13 as9) 5 (nI cs206)) 13 as207) 14 wt208) 15 wf209) (updR (updR R 2 (.ref pq)) 3 (.ref mq)) Z B205 J K204 w pq dr ml nd x9 sz t210 ty264 g pb (by omega) (BdE.pt hbe239 hwp hps).1 (BdE.pt hbe239 hwp hps).2.1 hf238 (by omega) hna.1.1 (NaB.be hbe239 hbf246 hwp hps.2.1 hdr0 (hbr247 11 (by decide)) hna).1.2.2 hO hl0) (gV pw_176 pw_177 pw_178 pw_63 pw_114) hV_X0_fit qr268 0 hqr269 rfl rfl rfl (Nat.le_of_ble_eq_true rfl) dX0_arguments_94 ⟨(by show 0 + 1 ≤ 1; omega), (by show 0 + 6 ≤ 6; omega)⟩ ⟨(by show 7 + 1 ≤ (5 * n + 32); omega), (by show 8 + (4 + 11) + 122 ≤ (200 * n + 520); omega)⟩ (fun v267 u265 H locs hw266 hP hD hS => ?_) (fun ux ce9 q9 H9 locs9 hux hP9 hD9 hS9 hce hcv hcl => pb_out ux (ThQ.up (Thx.same (Thx.f (Thx.f (Thx.f (Thx.f (Bth.thx hbb240) (by omega)) (by omega)) (by omega)) (by omega)) rfl) (show RhX (updR (updR R 2 (.ref pq)) 3 (.ref mq)) (updR (updR (updR R 2 (.ref pq)) 3 (.ref mq)) 2 (.ref pq)) from fun k9 hk9 => by unfold updR; simp only [show ¬ k9 = 1 by omega, show ¬ k9 = 2 by omega, show ¬ k9 = 3 by omega, show ¬ k9 = 4 by omega, if_false]) hux) hnt hlocks hce hcv hcl hP9 hD9 hS9 (by show 0 + 1 ≤ 1; omega) (by show 0 + 6 ≤ 6; omega))
            obtain ⟨w, _⟩ := u265
            obtain ⟨hw266, h270, hO⟩ := hw266
            have h270 : FtQ pb t210 ty264 := h270
            obtain rfl : v267 = none := hw266
            have hO : OKP G h0 a (upd (upd (upd (upd (upd (upd (upd F 2 (nI sz)) 5 (nI cs206)) 7 (nI hd)) 12 (nI vr)) 13 as207) 14 wt208) 15 wf209) (updR (updR R 2 (.ref pq)) 3 (.ref mq)) Z B205 J K204 w := hO.to rfl
            refine W.widen (k := 0) (n := 0) (by show 0 + 0 ≤ 0; omega) (by show 0 + 0 ≤ 0; omega) ?_
            refine W.eq (g2 := F0 m 97 ls []) rfl ?_
            refine lv_iinc (v := (nI (i2 + 1))) (lv' := [(5, .int (nI (i2 + 1))), (6, .ref x9), (4, .int x2), (3, .int x1), (2, .ref m2), (1, .ref q), (0, .ref (a 4))]) hx hb dX0_arguments_97 hl (k := 1) rfl (nI_1 i2) (by decide) rfl (fun ls hl => ?_)
            refine lv_aload hx hb dX0_arguments_100 (lv_at hl 1 rfl) ?_
            rcases ho272 : K204.2.2.1 4 x9 with _ | o271
            · skip
              refine p_get (v := .null) (C := RX7) (Tc := TX7) (N := 11) (ci := 13) hx hb hq pin_wsX70 hown hE hP hO (by rw [hf238]; decide) (rep_1 hf238) rfl 10 (by decide) (hq _ pw_170) (fun _ h9 => h9) (congrArg (fun z => some (va_rf z)) ho272) dX0_arguments_102 ?_
              refine lv_astoreN (lv' := [(6, .null), (5, .int (nI (i2 + 1))), (4, .int x2), (3, .int x1), (2, .ref m2), (1, .ref q), (0, .ref (a 4))]) hx hb dX0_arguments_105 hl (by decide) rfl (fun ls hl => ?_)
              refine lv_goto (tgt := 29) hx hb dX0_arguments_107 (by decide) ?_
              have hut273 := fun z : okA => (hpt248 ⟨z, h270.1⟩).2
              have hev274 := fun z : okA => hev251 ⟨z, h270.1⟩
              have hag9 : okA → ArgL pb.1 (fun i => tyc (tyN (B 11) sz (K.2.1 2 (itp i)))) (u212 :: ar) := fun z => ⟨by show TL pb.1 u212 (tyc (tyN (B 11) sz (K.2.1 2 (itp ar.length)))); rw [hal2, ← BdE.I (f := 2) hbe239 (BdE.low hbe239 hlc (by decide) (i := i2) (by omega)) (by decide) (by decide), ← hbr247 11 (by decide), hty264, tyc_ne h270.2.1]; exact UTb.tlf (hut273 z) h220 h270, hag2 z⟩
              have hO : OKP G h0 a (upd (upd (upd (upd (upd (upd (upd F 2 (nI sz)) 5 (nI cs206)) 7 (nI hd)) 12 (nI vr)) 13 as207) 14 wt208) 15 wf209) (updR (updR R 2 (.ref pq)) 3 (.ref mq)) Z B205 J K204 w := hO.to rfl
              exact ih_g (i2 + 1) none K204 B205 cs206 as207 wt208 wf209 Ag211 (u212 :: ar) (rE (g 2 x9)) _ _ _ _ (by omega) (by omega) hbe239 hbf246 hbl249 hbi250 hbr247 ((show Thx (upd (upd (upd (upd (upd F 2 (nI sz)) 5 (nI cs)) 7 (nI hd)) 12 (nI vr)) 13 as9) (upd (upd (upd (upd (upd (upd (upd (upd (upd F 2 (nI sz)) 5 (nI cs)) 7 (nI hd)) 12 (nI vr)) 13 as9) 5 (nI cs206)) 13 as207) 14 wt208) 15 wf209) B B205 from (Thx.f (Thx.f (Thx.f (Thx.f (Bth.thx hbb240) (by omega)) (by omega)) (by omega)) (by omega))).2) hng241 (fun x9 hx9 => ⟨hsw242 x9 hx9, hsw243 x9 hx9, hsw244 x9 hx9, hsw245 x9 hx9⟩) has252.1 (by omega) (by omega) (by omega) (ArN.next (ArF.be hbe239 hqT har) (MmA.be h214 hxm) ho272) (by show ar.length + 1 = i2 + 1; omega) hag9 hev274 hP hD hS hO (lv_sub hl [0, 1, 2, 3, 4, 5, 6] rfl)
            · skip
              refine p_get (v := .ref o271) (C := RX7) (Tc := TX7) (N := 11) (ci := 13) hx hb hq pin_wsX70 hown hE hP hO (by rw [hf238]; decide) (rep_1 hf238) rfl 10 (by decide) (hq _ pw_170) (fun _ h9 => h9) (congrArg (fun z => some (va_rf z)) ho272) dX0_arguments_102 ?_
              refine lv_astore (lv' := [(6, .ref o271), (5, .int (nI (i2 + 1))), (4, .int x2), (3, .int x1), (2, .ref m2), (1, .ref q), (0, .ref (a 4))]) hx hb dX0_arguments_105 hl (by decide) rfl (fun ls hl => ?_)
              refine lv_goto (tgt := 29) hx hb dX0_arguments_107 (by decide) ?_
              have hut275 := fun z : okA => (hpt248 ⟨z, h270.1⟩).2
              have hev276 := fun z : okA => hev251 ⟨z, h270.1⟩
              have hag9 : okA → ArgL pb.1 (fun i => tyc (tyN (B 11) sz (K.2.1 2 (itp i)))) (u212 :: ar) := fun z => ⟨by show TL pb.1 u212 (tyc (tyN (B 11) sz (K.2.1 2 (itp ar.length)))); rw [hal2, ← BdE.I (f := 2) hbe239 (BdE.low hbe239 hlc (by decide) (i := i2) (by omega)) (by decide) (by decide), ← hbr247 11 (by decide), hty264, tyc_ne h270.2.1]; exact UTb.tlf (hut275 z) h220 h270, hag2 z⟩
              have hO : OKP G h0 a (upd (upd (upd (upd (upd (upd (upd F 2 (nI sz)) 5 (nI cs206)) 7 (nI hd)) 12 (nI vr)) 13 as207) 14 wt208) 15 wf209) (updR (updR R 2 (.ref pq)) 3 (.ref mq)) Z B205 J K204 w := hO.to rfl
              exact ih_g (i2 + 1) (some o271) K204 B205 cs206 as207 wt208 wf209 Ag211 (u212 :: ar) (rE (g 2 x9)) _ _ _ _ (by omega) (by omega) hbe239 hbf246 hbl249 hbi250 hbr247 ((show Thx (upd (upd (upd (upd (upd F 2 (nI sz)) 5 (nI cs)) 7 (nI hd)) 12 (nI vr)) 13 as9) (upd (upd (upd (upd (upd (upd (upd (upd (upd F 2 (nI sz)) 5 (nI cs)) 7 (nI hd)) 12 (nI vr)) 13 as9) 5 (nI cs206)) 13 as207) 14 wt208) 15 wf209) B B205 from (Thx.f (Thx.f (Thx.f (Thx.f (Bth.thx hbb240) (by omega)) (by omega)) (by omega)) (by omega))).2) hng241 (fun x9 hx9 => ⟨hsw242 x9 hx9, hsw243 x9 hx9, hsw244 x9 hx9, hsw245 x9 hx9⟩) has252.1 (by omega) (by omega) (by omega) (ArN.next (ArF.be hbe239 hqT har) (MmA.be h214 hxm) ho272) (by show ar.length + 1 = i2 + 1; omega) hag9 hev276 hP hD hS hO (lv_sub hl [0, 1, 2, 3, 4, 5, 6] rfl)
          · have n277 : ¬ (i2 < np) := fun h9 => c197 ((nI_ltI (a := i2) (b := np) (by omega) (by omega)).mpr h9)
            refine lv_aload_n hx hb dX0_arguments_46 rfl (lv_at hl 6 rfl) ?_
            refine c_get (v := .ref (a 1)) (C := RX0) (Tc := TX0) (N := 13) (ci := 0) hx hb hq pin_wsX00 hown hE hP hO 24 (sg_24 G h0 a _ _ _ _ _) rfl 0 (by decide) (hq _ pw_4) (fun _ h9 => h9) rfl dX0_arguments_47 ?_
            refine lv_bipush (v := 12) hx hb dX0_arguments_50 (by decide) ?_
            refine lv_aload hx hb dX0_arguments_52 (lv_at hl 0 rfl) ?_
            refine p_get (v := .int (K2.2.1 2 x9)) (C := RX7) (Tc := TX7) (N := 11) (ci := 13) hx hb hq pin_wsX70 hown hE hP hO (by rw [hxT]; decide) (rep_1 hxT) rfl 2 (by decide) (hq _ pw_82) (fun _ h9 => h9) rfl dX0_arguments_54 ?_
            have hO : OKW G h0 a (upd (upd (upd (upd (upd (upd (upd (upd (upd (upd F 2 (nI sz)) 5 (nI cs)) 7 (nI hd)) 12 (nI vr)) 13 as9) 5 (nI cs2)) 13 as2) 14 wt2) 15 wf2) 2 (nI sz)) (updR (updR R 2 (.ref pq)) 3 (.ref mq)) Z B2 J K2.1 (fun q99 x99 => x99 = rep G a K2 q99) w := hO.to rfl
            obtain ⟨_, qr281, hqr282⟩ := hO.2.1 2 _ (sg_2 G h0 a _ _ _ _ _)
            refine pn_V0 (G := G) (As := [.int 12, .int (K2.2.1 2 x9)]) (rest := []) hx hb hml hown hq hE hX pX0_al hP hD hS hA hl.1 (K_fail l G h0 a (upd (upd (upd (upd (upd (upd (upd (upd (upd F 2 (nI sz)) 5 (nI cs)) 7 (nI hd)) 12 (nI vr)) 13 as9) 5 (nI cs2)) 13 as2) 14 wt2) 15 wf2) (updR (updR R 2 (.ref pq)) 3 (.ref mq)) Z B2 J K2.1 (fun q99 x99 => x99 = rep G a K2 q99) w 12 (K2.2.1 2 x9) sz (by omega) hO hl0) (gV pw_64 pw_65 pw_66 pw_59 pw_43) hV_X10_fail qr281 7 hqr282 rfl rfl rfl (Nat.le_of_ble_eq_true rfl) dX0_arguments_57 ⟨(by show 0 + 1 ≤ 1; omega), (by show 0 + 6 ≤ 6; omega)⟩ ⟨(by show 6 + 1 ≤ (5 * n + 32); omega), (by show 8 + (3 + 11) + 100 ≤ (200 * n + 520); omega)⟩ (fun v280 u278 H locs hw279 hP hD hS => hw279.elim) (fun ux ce9 q9 H9 locs9 hux hP9 hD9 hS9 hce hcv hcl => pb_out ux (ThQ.up (Thx.same (Thx.f (Thx.f (Thx.f (Thx.f (Bth.thx hbb2) (by omega)) (by omega)) (by omega)) (by omega)) rfl) RhX.rfl hux) hnt hlocks hce hcv hcl hP9 hD9 hS9 (by show 0 + 1 ≤ 1; omega) (by show 0 + 6 ≤ 6; omega))
    have hO : OKP G h0 a (upd (upd (upd (upd (upd (upd (upd F 2 (nI sz)) 5 (nI cs)) 7 (nI hd)) 12 (nI vr)) 13 as9) 14 (F 14)) 15 (F 15)) (updR (updR R 2 (.ref pq)) 3 (.ref mq)) Z B J K w := hO.to rfl
    exact loop_g (np + 1) 0 none K B cs as9 (F 14) (F 15) Ag ([] : List Nat) (rM (g 2 q)) _ _ _ _ (by omega) (by omega) BdE.rfl BeF.rfl BeL.rfl BeI.rfl BeR.rfl ((show Thx (upd (upd (upd (upd (upd F 2 (nI sz)) 5 (nI cs)) 7 (nI hd)) 12 (nI vr)) 13 as9) (upd (upd (upd (upd (upd F 2 (nI sz)) 5 (nI cs)) 7 (nI hd)) 12 (nI vr)) 13 as9) B B from Thx.rfl).2) hng (fun x9 hx9 => ⟨(fun _ _ => rfl) x9 hx9, (fun _ _ => rfl) x9 hx9, (fun _ _ => rfl) x9 hx9, (fun _ _ => rfl) x9 hx9⟩) AsE.rfl (by omega) (by omega) (by omega) (ArN.first har ho142) rfl (fun _ => trivial) hev0 hP hD hS hO (lv_sub hl [0, 1, 6, 5, 4, 3, 2] rfl)
  · skip
    refine p_get (v := .ref o141) (C := RX7) (Tc := TX7) (N := 11) (ci := 13) hx hb hq pin_wsX70 hown hE hP hO (by rw [hqT]; decide) (rep_1 hqT) rfl 7 (by decide) (hq _ pw_169) (fun _ h9 => h9) (congrArg (fun z => some (va_rf z)) ho142) dX0_arguments_24 ?_
    refine lv_astore (lv' := [(6, .ref o141), (5, .int 0), (0, .ref (a 4)), (1, .ref q), (2, .ref m2), (3, .int x1), (4, .int x2)]) hx hb dX0_arguments_27 hl (by decide) rfl (fun ls hl => ?_)
    have loop_g : ∀ (n_g : Nat) (i2 : Nat) (o2 : Option Nat) (K2 : PK) (B2 : Nat → Nat → Int32) (cs2 : Nat) (as2 : Int32) (wt2 : Int32) (wf2 : Int32) (Ag2 : Nat → AS) (ar : List Nat) (p2 : Nat) (H : Heap) (locs : List Loc) (ls : Array Slot) (w : va_W), i2 ≤ np → np + 1 ≤ i2 + n_g → (BdE K K2) → (BeF K K2) → (BeL K K2 none) → (BeI K K2 g q) → (BeR B B2) → (Bth B B2) → (Nng (B2 18)) → (SmW B B2 cs) → (AsE as9 as2) → (cs ≤ cs2 ∧ cs2 ≤ cs + 2 * (p2 - rM (g 2 q))) → (rM (g 2 q) ≤ p2 ∧ p2 + 1 ≤ rE (g 2 q)) → (i2 + 1 ≤ ndE g q) → (ArN K2 g q p2 o2) → (ar.length = i2) → (okA → ArgL pb.1 (fun i => tyc (tyN (B 11) sz (K.2.1 2 (itp i)))) ar) → (okA → EvQ pb.1 pb.2.1 pb.2.2.1 pb.2.2.2 (B 16) (B 17) (B 18) (B 19) (B2 16) (B2 17) (B2 18) (B2 19) Ag Ag2 pd m9 sn lo cs cs2 as9 as2 hd sl (ar ++ cR :: os)) → va_P G.1 pCl w H → va_D A w → va_S A s.heap H locs → OKP G h0 a (upd (upd (upd (upd (upd (upd (upd F 2 (nI sz)) 5 (nI cs2)) 7 (nI hd)) 12 (nI vr)) 13 as2) 14 wt2) 15 wf2) (updR (updR R 2 (.ref pq)) 3 (.ref mq)) Z B2 J K2 w → lv_has ls 7 [(6, va_rf o2), (5, .int (nI i2)), (4, .int x2), (3, .int x1), (2, .ref m2), (1, .ref q), (0, .ref (a 4))] → W p l e (headSpec (Cond.code yX0_arguments cX0_arguments 7 (some .int) :: pw) ({ frames := (5 * n + 32), cells := 1, slots := 6, locals := (200 * n + 520) } : Room)).room s m ([.ref (a 4), .ref q, .ref m2, .int x1, .int x2] : List Value).toArray below meth c H locs 0 0 (vx_MQ below (pQn G A (fun (v : Option Value) (u : va_W × (PK × (Nat → Nat → Int32) × Nat × Int32 × Int32 × Int32 × Nat × (Nat → AS))) => v = some (.int (nI u.2.2.2.2.2.2.2.1)) ∧ (SmW B u.2.2.1 cs) ∧ (BdE K u.2.1) ∧ (BeF K u.2.1) ∧ (BeL K u.2.1 none) ∧ (BeI K u.2.1 g q) ∧ (Bth B u.2.2.1) ∧ (BeR B u.2.2.1) ∧ (u.2.2.2.2.2.2.2.1 < 128) ∧ (cs ≤ u.2.2.2.1 ∧ u.2.2.2.1 + 1 ≤ cs + 2 * (rE (g 2 q) - rM (g 2 q))) ∧ (AsE as9 u.2.2.2.2.1) ∧ (okA → EvB pb B u.2.2.1 Ag u.2.2.2.2.2.2.2.2 pd m9 sn lo cs u.2.2.2.1 as9 u.2.2.2.2.1 hd sl (rsO u.2.2.2.2.2.2.2.1 os) ∧ cs < u.2.2.2.1) ∧ (OKP G h0 a (upd (upd (upd (upd (upd (upd (upd F 2 (nI sz)) 5 (nI u.2.2.2.1)) 7 (nI hd)) 12 (nI vr)) 13 u.2.2.2.2.1) 14 u.2.2.2.2.2.1) 15 u.2.2.2.2.2.2.1) (updR (updR R 2 (.ref pq)) 3 (.ref mq)) Z u.2.2.1 J u.2.1 u.1)) (fun u => u.1) (fun (u : va_W × (PK × (Nat → Nat → Int32) × Nat × Int32 × Int32 × Int32 × Nat × (Nat → AS))) => 0) (fun (u : va_W × (PK × (Nat → Nat → Int32) × Nat × Int32 × Int32 × Int32 × Nat × (Nat → AS))) => 0)) (pXX G A (fun (u : va_W × (Nat → Int32) × (Nat → Value) × (Nat → Nat → Int32)) => ThQ G h0 a (upd (upd (upd (upd (upd F 2 (nI sz)) 5 (nI cs)) 7 (nI hd)) 12 (nI vr)) 13 as9) (updR (updR R 2 (.ref pq)) 3 (.ref mq)) Z B J u) (fun u => u.1)) ([.ref (a 4), .ref q, .ref m2, .int x1, .int x2] : List Value).toArray s ({ frames := (5 * n + 32), cells := 1, slots := 6, locals := (200 * n + 520) } : Room).cells ({ frames := (5 * n + 32), cells := 1, slots := 6, locals := (200 * n + 520) } : Room).slots A) (F0 m 29 ls []) := by
      intro n_g
      induction n_g with
      | zero => intro i2 o2 K2 B2 cs2 as2 wt2 wf2 Ag2 ar p2 H locs ls w hk_g hn_g; omega
      | succ n_g ih_g =>
        intro i2 o2 K2 B2 cs2 as2 wt2 wf2 Ag2 ar p2 H locs ls w hk_g hn_g hbe2 hbf2 hbl2 hbi2 hbr2 hbb2 hng2 hsw2 has2 hcs2 hpr2 hnd2 hpo2 hal2 hag2 hev2 hP hD hS hO hl
        have hf283 : K2.1 pq = 7 := (BdE.T hbe2 hp1 (by decide))
        have hf284 : K2.2.2.1 18 pq = some (a 1) := (BdE.C hbe2 (by rw [hp1]; decide) 18).trans hp2
        have hf285 : K2.2.2.1 14 pq = some dr := (BdE.C hbe2 (by rw [hp1]; decide) 14).trans hp3
        have hf286 : K2.1 dr = 8 := (BdE.T hbe2 hp4 (by decide))
        have hf287 : K2.2.2.1 15 pq = some ml := (BdE.C hbe2 (by rw [hp1]; decide) 15).trans hp5
        have hf288 : K2.1 ml = 5 := (BdE.T hbe2 hp6 (by decide))
        have hf289 : K2.2.1 24 pq = (nI nd) := (BdE.I hbe2 (by rw [hp1]; decide) (by decide) (by decide)).trans hp8
        have hf290 : K2.1 q = 1 := (BdE.T hbe2 hqT (by decide))
        have hf291 : K2.1 mq = 3 := (BdE.T hbe2 hmq (by decide))
        have hf292 : K2.1 m2 = 3 := (BdE.T hbe2 hm2 (by decide))
        have hf293 : K2.2.2.1 6 m2 = some lp := (BdE.C hbe2 (by rw [hm2]; decide) 6).trans hlp
        have hf294 : K2.1 lp = 5 := (BdE.T hbe2 hlc.1 (by decide))
        have hf295 : K2.2.1 10 m2 = (nI rt) := (BdE.I hbe2 (by rw [hm2]; decide) (by decide) (by decide)).trans hrt
        rcases o2 with _ | x9
        · have hl : lv_has ls 7 [(6, .null), (5, .int (nI i2)), (4, .int x2), (3, .int x1), (2, .ref m2), (1, .ref q), (0, .ref (a 4))] := hl
          refine W.eq (g2 := F0 m 29 ls []) rfl ?_
          refine lv_aloadN hx hb dX0_arguments_29 (lv_at hl 0 rfl) ?_
          refine lv_ifnullN (tgt := 110) hx hb dX0_arguments_31 (by decide) ?_
          refine lv_iload hx hb dX0_arguments_110 (lv_at hl 1 rfl) ?_
          refine lv_aload_n hx hb dX0_arguments_112 rfl (lv_at hl 4 rfl) ?_
          refine p_get (v := .ref lp) (C := RX6) (Tc := TX6) (N := 12) (ci := 12) hx hb hq pin_wsX60 hown hE hP hO (by rw [hf292]; decide) (rep_3 hf292) rfl 4 (by decide) (hq _ pw_79) (fun _ h9 => h9) (congrArg (fun z => some (va_rf z)) hf293) dX0_arguments_113 ?_
          have hO : OKP G h0 a (upd (upd (upd (upd (upd (upd (upd F 2 (nI sz)) 5 (nI cs2)) 7 (nI hd)) 12 (nI vr)) 13 as2) 14 wt2) 15 wf2) (updR (updR R 2 (.ref pq)) 3 (.ref mq)) Z B2 J K2 w := hO.to rfl
          obtain ⟨qr299, hqr300⟩ := p_recv hO (by rw [hf294]; decide) (rep_5 hf294)
          refine pc_V0 (G := G) (As := []) (rest := [.int (nI i2)]) hx hb hml hown hq hE hX pX0_al hP hD hS hA hl.1 (L_size l G h0 a (upd (upd (upd (upd (upd (upd (upd F 2 (nI sz)) 5 (nI cs2)) 7 (nI hd)) 12 (nI vr)) 13 as2) 14 wt2) 15 wf2) (updR (updR R 2 (.ref pq)) 3 (.ref mq)) Z B2 J K2 w lp 1 np itp (BdE.lsc hbe2 hlc (by decide)).ls hO) (gV pw_86 pw_87 pw_88 pw_32 pw_16) hV_Jx4a65c_size_8abf5 qr299 10 hqr300 rfl rfl rfl (Nat.le_of_ble_eq_true rfl) dX0_arguments_116 ⟨(by show 0 + 0 ≤ 1; omega), (by show 0 + 0 ≤ 6; omega)⟩ ⟨(by show 2 + 1 ≤ (5 * n + 32); omega), (by show 8 + (1 + 11) + 60 ≤ (200 * n + 520); omega)⟩ (fun v298 u296 H locs hw297 hP hD hS => ?_)
          obtain ⟨w, _⟩ := u296
          obtain ⟨hw297, hO⟩ := hw297
          obtain rfl : v298 = some (.int (nI np)) := hw297
          have hO : OKP G h0 a (upd (upd (upd (upd (upd (upd (upd F 2 (nI sz)) 5 (nI cs2)) 7 (nI hd)) 12 (nI vr)) 13 as2) 14 wt2) 15 wf2) (updR (updR R 2 (.ref pq)) 3 (.ref mq)) Z B2 J K2 w := hO.to rfl
          refine W.widen (k := 0) (n := 0) (Nat.le_of_ble_eq_true rfl) (Nat.le_of_ble_eq_true rfl) ?_
          refine W.eq (g2 := F0 m 119 ls [.int (nI np), .int (nI i2)]) rfl ?_
          refine lv_icmp_ge (tgt := 135) hx hb dX0_arguments_119 (by decide) (fun c301 => ?_) (fun c301 => ?_)
          · have n302 : np ≤ i2 := (nI_leI (a := np) (b := i2) (by omega) (by omega)).mp c301
            refine lv_aload_n hx hb dX0_arguments_135 rfl (lv_at hl 6 rfl) ?_
            refine c_get (v := .ref (a 2)) (C := RX0) (Tc := TX0) (N := 13) (ci := 0) hx hb hq pin_wsX00 hown hE hP hO 24 (sg_24 G h0 a _ _ _ _ _) rfl 1 (by decide) (hq _ pw_5) (fun _ h9 => h9) rfl dX0_arguments_136 ?_
            refine lv_iload_n hx hb dX0_arguments_139 rfl (lv_at hl 3 rfl) ?_
            refine lv_iload hx hb dX0_arguments_140 (lv_at hl 2 rfl) ?_
            refine lv_iload hx hb dX0_arguments_142 (lv_at hl 1 rfl) ?_
            have hnp9 : i2 = np := by omega
            have hO : OKW G h0 a (upd (upd (upd (upd (upd (upd (upd (upd (upd F 2 (nI sz)) 5 (nI cs2)) 7 (nI hd)) 12 (nI vr)) 13 as2) 14 wt2) 15 wf2) 5 (nI cs2)) 7 (nI hd)) (updR (updR R 2 (.ref pq)) 3 (.ref mq)) Z B2 J K2.1 (fun q99 x99 => x99 = rep G a K2 q99) w := hO.to rfl
            obtain ⟨_, qr306, hqr307⟩ := hO.2.1 13 _ (sg_13 G h0 a _ _ _ _ _)
            refine pc_V0 (G := G) (As := [.int x1, .int x2, .int (nI i2)]) (rest := []) hx hb hml hown hq hE hX pX0_al hP hD hS hA hl.1 (Y_emit l G h0 a (upd (upd (upd (upd (upd (upd (upd F 2 (nI sz)) 5 (nI cs2)) 7 (nI hd)) 12 (nI vr)) 13 as2) 14 wt2) 15 wf2) (updR (updR R 2 (.ref pq)) 3 (.ref mq)) Z B2 J K2.1 (fun q99 x99 => x99 = rep G a K2 q99) w x1 x2 (nI i2) cs2 hd (by omega) hO) (gV pw_129 pw_130 pw_131 pw_70 pw_115) hV_X1_emit qr306 1 hqr307 rfl rfl rfl (Nat.le_of_ble_eq_true rfl) dX0_arguments_144 ⟨(by show 0 + 0 ≤ 1; omega), (by show 0 + 0 ≤ 6; omega)⟩ ⟨(by show 2 + 1 ≤ (5 * n + 32); omega), (by show 8 + (4 + 11) + 60 ≤ (200 * n + 520); omega)⟩ (fun v305 u303 H locs hw304 hP hD hS => ?_)
            obtain ⟨w, _⟩ := u303
            obtain ⟨hw304, hO⟩ := hw304
            obtain rfl : v305 = none := hw304
            have hO : OKP G h0 a (upd (upd (upd (upd (upd (upd (upd F 2 (nI sz)) 5 (nI (cs2 + 1))) 7 (nI hd)) 12 (nI vr)) 13 as2) 14 wt2) 15 wf2) (updR (updR R 2 (.ref pq)) 3 (.ref mq)) Z (updA (updA (updA (updA B2 16 (upd ((B2 16)) cs2 x1)) 17 (upd ((B2 17)) cs2 x2)) 18 (upd ((B2 18)) cs2 (nI i2))) 19 (upd ((B2 19)) cs2 (nI hd))) J K2 w := hO.to rfl
            refine W.widen (k := 0) (n := 0) (Nat.le_of_ble_eq_true rfl) (Nat.le_of_ble_eq_true rfl) ?_
            refine W.eq (g2 := F0 m 147 ls []) rfl ?_
            have hsw308 : ∀ x9 : Nat, x9 < cs → (upd ((B2 16)) cs2 x1) x9 = B 16 x9 := fun x9 hx9 => (if_neg (by omega)).trans ((fun x9 hx9 => (hsw2 x9 hx9).1) x9 hx9)
            have hsw309 : ∀ x9 : Nat, x9 < cs → (upd ((B2 17)) cs2 x2) x9 = B 17 x9 := fun x9 hx9 => (if_neg (by omega)).trans ((fun x9 hx9 => (hsw2 x9 hx9).2.1) x9 hx9)
            have hsw310 : ∀ x9 : Nat, x9 < cs → (upd ((B2 18)) cs2 (nI i2)) x9 = B 18 x9 := fun x9 hx9 => (if_neg (by omega)).trans ((fun x9 hx9 => (hsw2 x9 hx9).2.2.1) x9 hx9)
            have hsw311 : ∀ x9 : Nat, x9 < cs → (upd ((B2 19)) cs2 (nI hd)) x9 = B 19 x9 := fun x9 hx9 => (if_neg (by omega)).trans ((fun x9 hx9 => (hsw2 x9 hx9).2.2.2) x9 hx9)
            obtain ⟨Ag312, hev313⟩ : ∃ A5 : Nat → AS, okA → EvQ pb.1 pb.2.1 pb.2.2.1 pb.2.2.2 (B 16) (B 17) (B 18) (B 19) (upd ((B2 16)) cs2 x1) (upd ((B2 17)) cs2 x2) (upd ((B2 18)) cs2 (nI i2)) (upd ((B2 19)) cs2 (nI hd)) Ag A5 pd m9 sn lo cs (cs2 + 1) as9 as2 hd sl (rsO rt os) := ⟨(upS Ag2 (cs2 + 1) (rcA as2, hd, sl, (rsO rt os))), fun z => (hev2 z).trans (CaF.emit hcf (hev2 z).1 (by rw [List.length_append, hal2]; show i2 + (os.length + 1) ≤ 248; omega) (hal2.trans hnp9) hnp9 (hag2 z))⟩
            have hng9 : Nng (upd ((B2 18)) cs2 (nI i2)) := Nng.set hng2 (k := i2) (by omega)
            have hng314 := hng9
            refine lv_aload_n hx hb dX0_arguments_147 rfl (lv_at hl 4 rfl) ?_
            refine p_get (v := .int (nI rt)) (C := RX6) (Tc := TX6) (N := 12) (ci := 12) hx hb hq pin_wsX60 hown hE hP hO (by rw [hf292]; decide) (rep_3 hf292) rfl 7 (by decide) (hq _ pw_172) (fun _ h9 => h9) (congrArg (fun z => some (Value.int z)) hf295) dX0_arguments_148 ?_
            refine W_size (fun hz1 hz2 => ?_)
            refine vx_ret ?_
            have hz315 : SmW B (updA (updA (updA (updA B2 16 (upd ((B2 16)) cs2 x1)) 17 (upd ((B2 17)) cs2 x2)) 18 (upd ((B2 18)) cs2 (nI i2))) 19 (upd ((B2 19)) cs2 (nI hd))) cs := (fun x9 hx9 => ⟨hsw308 x9 hx9, hsw309 x9 hx9, hsw310 x9 hx9, hsw311 x9 hx9⟩)
            have hz316 : BdE K K2 := hbe2
            have hz317 : BeF K K2 := hbf2
            have hz318 : BeL K K2 none := hbl2
            have hz319 : BeI K K2 g q := hbi2
            have hz320 : Bth B (updA (updA (updA (updA B2 16 (upd ((B2 16)) cs2 x1)) 17 (upd ((B2 17)) cs2 x2)) 18 (upd ((B2 18)) cs2 (nI i2))) 19 (upd ((B2 19)) cs2 (nI hd))) := (show Thx (upd (upd (upd (upd (upd F 2 (nI sz)) 5 (nI cs)) 7 (nI hd)) 12 (nI vr)) 13 as9) (upd (upd (upd (upd (upd (upd (upd (upd (upd F 2 (nI sz)) 5 (nI cs)) 7 (nI hd)) 12 (nI vr)) 13 as9) 5 (nI (cs2 + 1))) 13 as2) 14 wt2) 15 wf2) B (updA (updA (updA (updA B2 16 (upd ((B2 16)) cs2 x1)) 17 (upd ((B2 17)) cs2 x2)) 18 (upd ((B2 18)) cs2 (nI i2))) 19 (upd ((B2 19)) cs2 (nI hd))) from (Thx.b (Thx.b8 (Thx.b (Thx.b (Thx.f (Thx.f (Thx.f (Thx.f (Bth.thx hbb2) (by omega)) (by omega)) (by omega)) (by omega)) (by omega) (by decide)) (by omega) (by decide)) hng314) (by omega) (by decide))).2
            have hz321 : BeR B (updA (updA (updA (updA B2 16 (upd ((B2 16)) cs2 x1)) 17 (upd ((B2 17)) cs2 x2)) 18 (upd ((B2 18)) cs2 (nI i2))) 19 (upd ((B2 19)) cs2 (nI hd))) := (BeR.up (k := 19) (f := (upd ((B2 19)) cs2 (nI hd))) (BeR.up (k := 18) (f := (upd ((B2 18)) cs2 (nI i2))) (BeR.up (k := 17) (f := (upd ((B2 17)) cs2 x2)) (BeR.up (k := 16) (f := (upd ((B2 16)) cs2 x1)) hbr2 (by omega)) (by omega)) (by omega)) (by omega))
            have hz322 : rt < 128 := (by omega)
            have hz323 : cs ≤ (cs2 + 1) ∧ (cs2 + 1) + 1 ≤ cs + 2 * (rE (g 2 q) - rM (g 2 q)) := (by omega)
            have hz324 : AsE as9 as2 := has2
            have hz325 : okA → EvB pb B (updA (updA (updA (updA B2 16 (upd ((B2 16)) cs2 x1)) 17 (upd ((B2 17)) cs2 x2)) 18 (upd ((B2 18)) cs2 (nI i2))) 19 (upd ((B2 19)) cs2 (nI hd))) Ag Ag312 pd m9 sn lo cs (cs2 + 1) as9 as2 hd sl (rsO rt os) ∧ cs < (cs2 + 1) := (fun z => ⟨hev313 z, by omega⟩)
            have hO : OKP G h0 a (upd (upd (upd (upd (upd (upd (upd F 2 (nI sz)) 5 (nI (cs2 + 1))) 7 (nI hd)) 12 (nI vr)) 13 as2) 14 wt2) 15 wf2) (updR (updR R 2 (.ref pq)) 3 (.ref mq)) Z (updA (updA (updA (updA B2 16 (upd ((B2 16)) cs2 x1)) 17 (upd ((B2 17)) cs2 x2)) 18 (upd ((B2 18)) cs2 (nI i2))) 19 (upd ((B2 19)) cs2 (nI hd))) J K2 w := hO.to rfl
            refine W.widen (k := 1) (n := 6) (by omega) (by omega) ?_
            have hzz1 : H.size ≤ s.heap.size + (0) := (by have z : 0 ≤ 0 := (by omega); omega)
            have hzz2 : hSl H ≤ hSl s.heap + (0) := (by have z : 0 ≤ 0 := (by omega); omega)
            exact W.iret (v := (nI rt)) hx hb hr (fun t99 ht99 hW99 => ⟨⟨_, (w, (K2, (updA (updA (updA (updA B2 16 (upd ((B2 16)) cs2 x1)) 17 (upd ((B2 17)) cs2 x2)) 18 (upd ((B2 18)) cs2 (nI i2))) 19 (upd ((B2 19)) cs2 (nI hd))), (cs2 + 1), as2, wt2, wf2, rt, Ag312)), rfl, ⟨rfl, hz315, hz316, hz317, hz318, hz319, hz320, hz321, hz322, hz323, hz324, hz325, hO⟩, by rw [ht99]; exact hP, hD, by rw [ht99]; exact hzz1, by rw [ht99]; exact hzz2⟩, hS.F ht99⟩) hS.2.2 dX0_arguments_151
          · have n326 : ¬ (np ≤ i2) := fun h9 => c301 ((nI_leI (a := np) (b := i2) (by omega) (by omega)).mpr h9)
            refine lv_aload_n hx hb dX0_arguments_122 rfl (lv_at hl 6 rfl) ?_
            refine c_get (v := .ref (a 1)) (C := RX0) (Tc := TX0) (N := 13) (ci := 0) hx hb hq pin_wsX00 hown hE hP hO 24 (sg_24 G h0 a _ _ _ _ _) rfl 0 (by decide) (hq _ pw_4) (fun _ h9 => h9) rfl dX0_arguments_123 ?_
            refine lv_bipush (v := 12) hx hb dX0_arguments_126 (by decide) ?_
            refine lv_aload_n hx hb dX0_arguments_128 rfl (lv_at hl 5 rfl) ?_
            refine p_get (v := .int (K2.2.1 4 q)) (C := RX7) (Tc := TX7) (N := 11) (ci := 13) hx hb hq pin_wsX70 hown hE hP hO (by rw [hf290]; decide) (rep_1 hf290) rfl 4 (by decide) (hq _ pw_171) (fun _ h9 => h9) rfl dX0_arguments_129 ?_
            have hO : OKW G h0 a (upd (upd (upd (upd (upd (upd (upd (upd (upd (upd F 2 (nI sz)) 5 (nI cs)) 7 (nI hd)) 12 (nI vr)) 13 as9) 5 (nI cs2)) 13 as2) 14 wt2) 15 wf2) 2 (nI sz)) (updR (updR R 2 (.ref pq)) 3 (.ref mq)) Z B2 J K2.1 (fun q99 x99 => x99 = rep G a K2 q99) w := hO.to rfl
            obtain ⟨_, qr330, hqr331⟩ := hO.2.1 2 _ (sg_2 G h0 a _ _ _ _ _)
            refine pn_V0 (G := G) (As := [.int 12, .int (K2.2.1 4 q)]) (rest := []) hx hb hml hown hq hE hX pX0_al hP hD hS hA hl.1 (K_fail l G h0 a (upd (upd (upd (upd (upd (upd (upd (upd (upd F 2 (nI sz)) 5 (nI cs)) 7 (nI hd)) 12 (nI vr)) 13 as9) 5 (nI cs2)) 13 as2) 14 wt2) 15 wf2) (updR (updR R 2 (.ref pq)) 3 (.ref mq)) Z B2 J K2.1 (fun q99 x99 => x99 = rep G a K2 q99) w 12 (K2.2.1 4 q) sz (by omega) hO hl0) (gV pw_64 pw_65 pw_66 pw_59 pw_43) hV_X10_fail qr330 7 hqr331 rfl rfl rfl (Nat.le_of_ble_eq_true rfl) dX0_arguments_132 ⟨(by show 0 + 1 ≤ 1; omega), (by show 0 + 6 ≤ 6; omega)⟩ ⟨(by show 6 + 1 ≤ (5 * n + 32); omega), (by show 8 + (3 + 11) + 100 ≤ (200 * n + 520); omega)⟩ (fun v329 u327 H locs hw328 hP hD hS => hw328.elim) (fun ux ce9 q9 H9 locs9 hux hP9 hD9 hS9 hce hcv hcl => pb_out ux (ThQ.up (Thx.same (Thx.f (Thx.f (Thx.f (Thx.f (Bth.thx hbb2) (by omega)) (by omega)) (by omega)) (by omega)) rfl) RhX.rfl hux) hnt hlocks hce hcv hcl hP9 hD9 hS9 (by show 0 + 1 ≤ 1; omega) (by show 0 + 6 ≤ 6; omega))
        · have hl : lv_has ls 7 [(6, .ref x9), (5, .int (nI i2)), (4, .int x2), (3, .int x1), (2, .ref m2), (1, .ref q), (0, .ref (a 4))] := hl
          refine W.eq (g2 := F0 m 29 ls []) rfl ?_
          have hxd := hpo2 x9 rfl
          have hxm := hxd.1
          have hxT := hxm.1
          have hxv : 1 ≤ g 0 x9 ∧ g 0 x9 + 1 ≤ n := ⟨hxm.2.1, (by have z := hxm.2.2.1; omega)⟩
          have hx5 := hxm.2.2.2
          have hx6 := hxd.2
          have hxl : 1 ≤ tlE g x9 ∧ 1 ≤ ndE g x9 := ⟨(by unfold tlE; omega), hx5.2.2.2.1⟩
          have htx : tlE g x9 = rE (g 2 x9) - rS (g 2 x9) := rfl
          have hxi : InE g q x9 := ⟨by omega, by omega⟩
          refine lv_aload hx hb dX0_arguments_29 (lv_at hl 0 rfl) ?_
          refine lv_ifnull hx hb dX0_arguments_31 ?_
          refine lv_iload hx hb dX0_arguments_34 (lv_at hl 1 rfl) ?_
          refine lv_aload_n hx hb dX0_arguments_36 rfl (lv_at hl 4 rfl) ?_
          refine p_get (v := .ref lp) (C := RX6) (Tc := TX6) (N := 12) (ci := 12) hx hb hq pin_wsX60 hown hE hP hO (by rw [hf292]; decide) (rep_3 hf292) rfl 4 (by decide) (hq _ pw_79) (fun _ h9 => h9) (congrArg (fun z => some (va_rf z)) hf293) dX0_arguments_37 ?_
          have hO : OKP G h0 a (upd (upd (upd (upd (upd (upd (upd F 2 (nI sz)) 5 (nI cs2)) 7 (nI hd)) 12 (nI vr)) 13 as2) 14 wt2) 15 wf2) (updR (updR R 2 (.ref pq)) 3 (.ref mq)) Z B2 J K2 w := hO.to rfl
          obtain ⟨qr335, hqr336⟩ := p_recv hO (by rw [hf294]; decide) (rep_5 hf294)
          refine pc_V0 (G := G) (As := []) (rest := [.int (nI i2)]) hx hb hml hown hq hE hX pX0_al hP hD hS hA hl.1 (L_size l G h0 a (upd (upd (upd (upd (upd (upd (upd F 2 (nI sz)) 5 (nI cs2)) 7 (nI hd)) 12 (nI vr)) 13 as2) 14 wt2) 15 wf2) (updR (updR R 2 (.ref pq)) 3 (.ref mq)) Z B2 J K2 w lp 1 np itp (BdE.lsc hbe2 hlc (by decide)).ls hO) (gV pw_86 pw_87 pw_88 pw_32 pw_16) hV_Jx4a65c_size_8abf5 qr335 10 hqr336 rfl rfl rfl (Nat.le_of_ble_eq_true rfl) dX0_arguments_40 ⟨(by show 0 + 0 ≤ 1; omega), (by show 0 + 0 ≤ 6; omega)⟩ ⟨(by show 2 + 1 ≤ (5 * n + 32); omega), (by show 8 + (1 + 11) + 60 ≤ (200 * n + 520); omega)⟩ (fun v334 u332 H locs hw333 hP hD hS => ?_)
          obtain ⟨w, _⟩ := u332
          obtain ⟨hw333, hO⟩ := hw333
          obtain rfl : v334 = some (.int (nI np)) := hw333
          have hO : OKP G h0 a (upd (upd (upd (upd (upd (upd (upd F 2 (nI sz)) 5 (nI cs2)) 7 (nI hd)) 12 (nI vr)) 13 as2) 14 wt2) 15 wf2) (updR (updR R 2 (.ref pq)) 3 (.ref mq)) Z B2 J K2 w := hO.to rfl
          refine W.widen (k := 0) (n := 0) (Nat.le_of_ble_eq_true rfl) (Nat.le_of_ble_eq_true rfl) ?_
          refine W.eq (g2 := F0 m 43 ls [.int (nI np), .int (nI i2)]) rfl ?_
          refine lv_icmp_lt (tgt := 63) hx hb dX0_arguments_43 (by decide) (fun c337 => ?_) (fun c337 => ?_)
          · have n338 : i2 < np := (nI_ltI (a := i2) (b := np) (by omega) (by omega)).mp c337
            refine lv_aload_n hx hb dX0_arguments_63 rfl (lv_at hl 6 rfl) ?_
            refine lv_aload hx hb dX0_arguments_64 (lv_at hl 0 rfl) ?_
            refine lv_aload_n hx hb dX0_arguments_66 rfl (lv_at hl 6 rfl) ?_
            refine lv_aload hx hb dX0_arguments_67 (lv_at hl 0 rfl) ?_
            have hO : OKP G h0 a (upd (upd (upd (upd (upd (upd (upd (upd (upd (upd (upd (upd (upd (upd F 2 (nI sz)) 5 (nI cs)) 7 (nI hd)) 12 (nI vr)) 13 as9) 5 (nI cs2)) 13 as2) 14 wt2) 15 wf2) 2 (nI sz)) 5 (nI cs2)) 7 (nI hd)) 12 (nI vr)) 13 as2) (updR (updR (updR (updR R 2 (.ref pq)) 3 (.ref mq)) 2 (.ref pq)) 3 (.ref mq)) Z B2 J K2 w := hO.to rfl
            obtain ⟨_, qr342, hqr343⟩ := hO.2.1 24 _ (sg_24 G h0 a _ _ _ _ _)
            refine pn_V0 (G := G) (As := [.ref x9]) (rest := [.ref x9, .ref (a 4)]) hx hb hml hown hq hE hX pX0_al hP hD hS hA hl.1 ((ihv (by omega)) h0 a (upd (upd (upd (upd (upd (upd (upd (upd (upd F 2 (nI sz)) 5 (nI cs)) 7 (nI hd)) 12 (nI vr)) 13 as9) 5 (nI cs2)) 13 as2) 14 wt2) 15 wf2) (updR (updR R 2 (.ref pq)) 3 (.ref mq)) Z B2 J K2 w pq dr ml nd nm cp it s9 x9 mq cs2 vr sz g rk pb Ag2 pd sl (ar ++ cR :: os) m9 sn lo hd c0 as2 okA (by omega) (BdE.wp hbe2 hwp) (BdE.pt hbe2 hwp hps) (BdE.rko hbe2 hrk) (by omega) (by omega) hng2 hf291 hxT ⟨hxv.1, (by have z9 := hxv; omega)⟩ (EkA.be hbe2 (hbr2 7 (by decide)) (hbr2 11 (by decide)) hek) (OwC.be hbe2 hmq hdr0 hcO) (NaB.be hbe2 hbf2 hwp hps.2.1 hdr0 (hbr2 11 (by decide)) hna) (EnV.of (hbr2 26 (by decide)) (hbr2 27 (by decide)) hen) (fun z => (hev2 z).1) (by omega) (by show (ar ++ cR :: os).length + ndE g x9 ≤ 248; rw [List.length_append, hal2]; show i2 + (os.length + 1) + ndE g x9 ≤ 248; omega) hxl hO hl0) (gV pw_173 pw_174 pw_175 pw_63 pw_224) hV_X0_value qr342 0 hqr343 rfl rfl rfl (Nat.le_of_ble_eq_true rfl) dX0_arguments_69 ⟨(by show 0 + 1 ≤ 1; omega), (by show 0 + 6 ≤ 6; omega)⟩ ⟨(by show (5 * (n - 1) + 34) + 1 ≤ (5 * n + 32); omega), (by show 8 + (3 + 11) + (200 * (n - 1) + 600) ≤ (200 * n + 520); omega)⟩ (fun v341 u339 H locs hw340 hP hD hS => ?_) (fun ux ce9 q9 H9 locs9 hux hP9 hD9 hS9 hce hcv hcl => pb_out ux (ThQ.up (Thx.same (Thx.same (Thx.same (Thx.same (Thx.same (Thx.f (Thx.f (Thx.f (Thx.f (Bth.thx hbb2) (by omega)) (by omega)) (by omega)) (by omega)) rfl) rfl) rfl) rfl) rfl) (show RhX (updR (updR R 2 (.ref pq)) 3 (.ref mq)) (updR (updR (updR (updR R 2 (.ref pq)) 3 (.ref mq)) 2 (.ref pq)) 3 (.ref mq)) from fun k9 hk9 => by unfold updR; simp only [show ¬ k9 = 1 by omega, show ¬ k9 = 2 by omega, show ¬ k9 = 3 by omega, show ¬ k9 = 4 by omega, if_false]) hux) hnt hlocks hce hcv hcl hP9 hD9 hS9 (by show 0 + 1 ≤ 1; omega) (by show 0 + 6 ≤ 6; omega))
            obtain ⟨w, K344, B345, cs346, as347, wt348, wf349, t350, Ag351, u352⟩ := u339
            obtain ⟨hw340, h353, h354, h355, h356, h357, h358, h359, h360, h361, h362, h363, h364, hO⟩ := hw340
            have h353 : SmW B2 B345 cs2 := h353
            have h354 : BdE K2 K344 := h354
            have h355 : BeF K2 K344 := h355
            have h356 : BeL K2 K344 none := h356
            have h357 : BeI K2 K344 g x9 := h357
            have h358 : Bth B2 B345 := h358
            have h359 : BeR B2 B345 := h359
            have h360 : t350 < 128 := h360
            have h361 : cs2 ≤ cs346 ∧ cs346 + 0 ≤ cs2 + 2 * tlE g x9 := h361
            have h362 : AsE as2 as347 ∧ AsE as2 wt348 ∧ AsE as2 wf349 := h362
            have h363 : okA → VaQ pb B2 B345 Ag2 Ag351 pd m9 sn lo cs2 cs346 as2 as347 wt348 wf349 hd sl (ar ++ cR :: os) t350 u352 (K2.2.1 0 x9) := h363
            have h364 : CaK (K2.2.1 0 x9) → cs346 + 2 ≤ cs2 + 2 * tlE g x9 := h364
            obtain rfl : v341 = some (.int (nI t350)) := hw340
            have hf365 : K344.1 pq = 7 := (BdE.T h354 hf283 (by decide))
            have hf366 : K344.2.2.1 18 pq = some (a 1) := (BdE.C h354 (by rw [hf283]; decide) 18).trans hf284
            have hf367 : K344.2.2.1 14 pq = some dr := (BdE.C h354 (by rw [hf283]; decide) 14).trans hf285
            have hf368 : K344.1 dr = 8 := (BdE.T h354 hf286 (by decide))
            have hf369 : K344.2.2.1 15 pq = some ml := (BdE.C h354 (by rw [hf283]; decide) 15).trans hf287
            have hf370 : K344.1 ml = 5 := (BdE.T h354 hf288 (by decide))
            have hf371 : K344.2.1 24 pq = (nI nd) := (BdE.I h354 (by rw [hf283]; decide) (by decide) (by decide)).trans hf289
            have hf372 : K344.1 q = 1 := (BdE.T h354 hf290 (by decide))
            have hf373 : K344.1 mq = 3 := (BdE.T h354 hf291 (by decide))
            have hf374 : K344.1 m2 = 3 := (BdE.T h354 hf292 (by decide))
            have hf375 : K344.2.2.1 6 m2 = some lp := (BdE.C h354 (by rw [hf292]; decide) 6).trans hf293
            have hf376 : K344.1 lp = 5 := (BdE.T h354 hf294 (by decide))
            have hf377 : K344.2.1 10 m2 = (nI rt) := (BdE.I h354 (by rw [hf292]; decide) (by decide) (by decide)).trans hf295
            have hf378 : K344.1 x9 = 1 := (BdE.T h354 hxT (by decide))
            have hO : OKP G h0 a (upd (upd (upd (upd (upd (upd (upd F 2 (nI sz)) 5 (nI cs346)) 7 (nI hd)) 12 (nI vr)) 13 as347) 14 wt348) 15 wf349) (updR (updR R 2 (.ref pq)) 3 (.ref mq)) Z B345 J K344 w := hO.to rfl
            refine W.widen (k := 0) (n := 0) (by show 0 + 0 ≤ 0; omega) (by show 0 + 0 ≤ 0; omega) ?_
            refine W.eq (g2 := F0 m 72 ls [.int (nI t350), .ref x9, .ref (a 4)]) rfl ?_
            have hbe379 := BdE.trans hbe2 h354
            have hbb380 : Bth B B345 := Bth.trans (show Thx (upd (upd (upd (upd (upd F 2 (nI sz)) 5 (nI cs)) 7 (nI hd)) 12 (nI vr)) 13 as9) (upd (upd (upd (upd (upd (upd (upd (upd (upd F 2 (nI sz)) 5 (nI cs)) 7 (nI hd)) 12 (nI vr)) 13 as9) 5 (nI cs2)) 13 as2) 14 wt2) 15 wf2) B B2 from (Thx.f (Thx.f (Thx.f (Thx.f (Bth.thx hbb2) (by omega)) (by omega)) (by omega)) (by omega))).2 h358
            have hng381 : Nng (B345 18) := h358.2 hng2
            have hsw382 : ∀ x9 : Nat, x9 < cs → (B345 16) x9 = B 16 x9 := fun x9 hx9 => ((h353 x9 (by omega)).1).trans ((fun x9 hx9 => (hsw2 x9 hx9).1) x9 hx9)
            have hsw383 : ∀ x9 : Nat, x9 < cs → (B345 17) x9 = B 17 x9 := fun x9 hx9 => ((h353 x9 (by omega)).2.1).trans ((fun x9 hx9 => (hsw2 x9 hx9).2.1) x9 hx9)
            have hsw384 : ∀ x9 : Nat, x9 < cs → (B345 18) x9 = B 18 x9 := fun x9 hx9 => ((h353 x9 (by omega)).2.2.1).trans ((fun x9 hx9 => (hsw2 x9 hx9).2.2.1) x9 hx9)
            have hsw385 : ∀ x9 : Nat, x9 < cs → (B345 19) x9 = B 19 x9 := fun x9 hx9 => ((h353 x9 (by omega)).2.2.2).trans ((fun x9 hx9 => (hsw2 x9 hx9).2.2.2) x9 hx9)
            have hbf386 := BeF.trans hbf2 h355 hbe2
            have hbl389 := BeL.trans hbl2 h356 hbe2
            have hbi390 := BeI.trans hbi2 h357 hbe2 hxi
            have hbr387 : BeR B B345 := BeR.trans hbr2 h359
            have hpt388 : (okA ∧ ¬ t350 = 63) → EvQ pb.1 pb.2.1 pb.2.2.1 pb.2.2.2 (B 16) (B 17) (B 18) (B 19) (B345 16) (B345 17) (B345 18) (B345 19) Ag Ag351 pd m9 sn lo cs cs346 as9 as347 hd sl (u352 :: (ar ++ cR :: os)) ∧ UTb u352 (nI t350) as347 wt348 wf349 := fun z => VaQ.part (B1 := B2) (hev2 z.1) (h363 z.1) h360 z.2
            have hev391 := fun z => (hpt388 z).1
            have has392 : AsE as9 as347 ∧ AsE as9 wt348 ∧ AsE as9 wf349 := ⟨AsE.trans has2 h362.1, AsE.trans has2 h362.2.1, AsE.trans has2 h362.2.2⟩
            refine lv_aload_n hx hb dX0_arguments_72 rfl (lv_at hl 6 rfl) ?_
            refine c_get (v := .ref (a 1)) (C := RX0) (Tc := TX0) (N := 13) (ci := 0) hx hb hq pin_wsX00 hown hE hP hO 24 (sg_24 G h0 a _ _ _ _ _) rfl 0 (by decide) (hq _ pw_4) (fun _ h9 => h9) rfl dX0_arguments_73 ?_
            refine lv_aload_n hx hb dX0_arguments_76 rfl (lv_at hl 4 rfl) ?_
            refine p_get (v := .ref lp) (C := RX6) (Tc := TX6) (N := 12) (ci := 12) hx hb hq pin_wsX60 hown hE hP hO (by rw [hf374]; decide) (rep_3 hf374) rfl 4 (by decide) (hq _ pw_79) (fun _ h9 => h9) (congrArg (fun z => some (va_rf z)) hf375) dX0_arguments_77 ?_
            refine lv_iload hx hb dX0_arguments_80 (lv_at hl 1 rfl) ?_
            have hO : OKP G h0 a (upd (upd (upd (upd (upd (upd (upd F 2 (nI sz)) 5 (nI cs346)) 7 (nI hd)) 12 (nI vr)) 13 as347) 14 wt348) 15 wf349) (updR (updR R 2 (.ref pq)) 3 (.ref mq)) Z B345 J K344 w := hO.to rfl
            obtain ⟨qr396, hqr397⟩ := p_recv hO (by rw [hf376]; decide) (rep_5 hf376)
            refine pc_V0 (G := G) (As := [.int (nI i2)]) (rest := [.ref (a 1), .int (nI t350), .ref x9, .ref (a 4)]) hx hb hml hown hq hE hX pX0_al hP hD hS hA hl.1 (L_get l G h0 a (upd (upd (upd (upd (upd (upd (upd F 2 (nI sz)) 5 (nI cs346)) 7 (nI hd)) 12 (nI vr)) 13 as347) 14 wt348) 15 wf349) (updR (updR R 2 (.ref pq)) 3 (.ref mq)) Z B345 J K344 w lp 1 np itp i2 (BdE.lsc hbe379 hlc (by decide)).ls (by omega) hO) (gV pw_89 pw_90 pw_91 pw_32 pw_25) hV_Jx4a65c_get_915e3 qr396 10 hqr397 rfl rfl rfl (Nat.le_of_ble_eq_true rfl) dX0_arguments_82 ⟨(by show 0 + 0 ≤ 1; omega), (by show 0 + 0 ≤ 6; omega)⟩ ⟨(by show 4 + 1 ≤ (5 * n + 32); omega), (by show 8 + (2 + 11) + 103 ≤ (200 * n + 520); omega)⟩ (fun v395 u393 H locs hw394 hP hD hS => ?_)
            obtain ⟨w, _⟩ := u393
            obtain ⟨hw394, hO⟩ := hw394
            obtain rfl : v395 = some (.ref (itp i2)) := hw394
            have hO : OKP G h0 a (upd (upd (upd (upd (upd (upd (upd F 2 (nI sz)) 5 (nI cs346)) 7 (nI hd)) 12 (nI vr)) 13 as347) 14 wt348) 15 wf349) (updR (updR R 2 (.ref pq)) 3 (.ref mq)) Z B345 J K344 w := hO.to rfl
            refine W.widen (k := 0) (n := 0) (Nat.le_of_ble_eq_true rfl) (Nat.le_of_ble_eq_true rfl) ?_
            refine W.eq (g2 := F0 m 85 ls [.ref (itp i2), .ref (a 1), .int (nI t350), .ref x9, .ref (a 4)]) rfl ?_
            have hf398 : K344.1 (itp i2) = 1 := (BdE.lsc hbe379 hlc (by decide)).T (by omega)
            refine p_cast (C := RX7) (Tc := TX7) (N := 11) (ci := 13) hx hb hown (hq _ pw_80) hE hP hO (by rw [hf398]; decide) (rep_1 hf398) rfl dX0_arguments_85 ?_
            refine p_get (v := .int (K344.2.1 2 (itp i2))) (C := RX7) (Tc := TX7) (N := 11) (ci := 13) hx hb hq pin_wsX70 hown hE hP hO (by rw [hf398]; decide) (rep_1 hf398) rfl 2 (by decide) (hq _ pw_82) (fun _ h9 => h9) rfl dX0_arguments_88 ?_
            have hO : OKW G h0 a (upd (upd (upd (upd (upd (upd (upd (upd F 2 (nI sz)) 5 (nI cs346)) 7 (nI hd)) 12 (nI vr)) 13 as347) 14 wt348) 15 wf349) 2 (nI sz)) (updR (updR R 2 (.ref pq)) 3 (.ref mq)) Z B345 J K344.1 (fun q99 x99 => x99 = rep G a K344 q99) w := hO.to rfl
            obtain ⟨_, qr402, hqr403⟩ := hO.2.1 2 _ (sg_2 G h0 a _ _ _ _ _)
            refine pc_V0 (G := G) (As := [.int (K344.2.1 2 (itp i2))]) (rest := [.int (nI t350), .ref x9, .ref (a 4)]) hx hb hml hown hq hE hX pX0_al hP hD hS hA hl.1 (Y_typeAt l G h0 a (upd (upd (upd (upd (upd (upd (upd F 2 (nI sz)) 5 (nI cs346)) 7 (nI hd)) 12 (nI vr)) 13 as347) 14 wt348) 15 wf349) (updR (updR R 2 (.ref pq)) 3 (.ref mq)) Z B345 J K344.1 (fun q99 x99 => x99 = rep G a K344 q99) w (K344.2.1 2 (itp i2)) sz nd (by omega) (NaB.be hbe379 hbf386 hwp hps.2.1 hdr0 (hbr387 11 (by decide)) hna).1.2.1 hO) (gV pw_92 pw_93 pw_94 pw_59 pw_36) hV_X10_typeAt qr402 7 hqr403 rfl rfl rfl (Nat.le_of_ble_eq_true rfl) dX0_arguments_91 ⟨(by show 0 + 0 ≤ 1; omega), (by show 0 + 0 ≤ 6; omega)⟩ ⟨(by show 2 + 1 ≤ (5 * n + 32); omega), (by show 8 + (2 + 11) + 60 ≤ (200 * n + 520); omega)⟩ (fun v401 u399 H locs hw400 hP hD hS => ?_)
            obtain ⟨w, _⟩ := u399
            obtain ⟨hw400, hO⟩ := hw400
            obtain rfl : v401 = some (.int (nI (tyN ((B345 11)) sz (K344.2.1 2 (itp i2))))) := hw400
            have hO : OKP G h0 a (upd (upd (upd (upd (upd (upd (upd F 2 (nI sz)) 5 (nI cs346)) 7 (nI hd)) 12 (nI vr)) 13 as347) 14 wt348) 15 wf349) (updR (updR R 2 (.ref pq)) 3 (.ref mq)) Z B345 J K344 w := hO.to rfl
            refine W.widen (k := 0) (n := 0) (Nat.le_of_ble_eq_true rfl) (Nat.le_of_ble_eq_true rfl) ?_
            refine W.eq (g2 := F0 m 94 ls [.int (nI (tyN ((B345 11)) sz (K344.2.1 2 (itp i2)))), .int (nI t350), .ref x9, .ref (a 4)]) rfl ?_
            obtain ⟨ty404, hty404, hvty404⟩ : ∃ z : Nat, tyN (B345 11) sz (K344.2.1 2 (itp i2)) = z ∧ TyV nd z := ⟨_, rfl, ((NaB.be hbe379 hbf386 hwp hps.2.1 hdr0 (hbr387 11 (by decide)) hna).1.2.1).V (by omega)⟩
            rw [hty404]
            have hlty404 := (hvty404).lt hna.1.1
            have hO : OKP G h0 a (upd (upd (upd (upd (upd (upd (upd (upd (upd (upd F 2 (nI sz)) 5 (nI cs)) 7 (nI hd)) 12 (nI vr)) 13 as9) 5 (nI cs346)) 13 as347) 14 wt348) 15 wf349) 2 (nI sz)) (updR (updR (updR R 2 (.ref pq)) 3 (.ref mq)) 2 (.ref pq)) Z B345 J K344 w := hO.to rfl
            obtain ⟨_, qr408, hqr409⟩ := hO.2.1 24 _ (sg_24 G h0 a _ _ _ _ _)
            refine pn_V0 (G := G) (As := [.ref x9, .int (nI t350), .int (nI ty404)]) (rest := []) hx hb hml hown hq hE hX pX0_al hP hD hS hA hl.1 (Y_fit l G h0 a (upd (upd (upd (upd (upd (upd (upd (upd (upd F 2 (nI sz)) 5 (nI cs)) 7 (nI hd)) 12 (nI vr)) 13 as9) 5 (nI cs346)) 13 as347) 14 wt348) 15 wf349) (updR (updR R 2 (.ref pq)) 3 (.ref mq)) Z B345 J K344 w pq dr ml nd x9 sz t350 ty404 g pb (by omega) (BdE.pt hbe379 hwp hps).1 (BdE.pt hbe379 hwp hps).2.1 hf378 (by omega) hna.1.1 (NaB.be hbe379 hbf386 hwp hps.2.1 hdr0 (hbr387 11 (by decide)) hna).1.2.2 hO hl0) (gV pw_176 pw_177 pw_178 pw_63 pw_114) hV_X0_fit qr408 0 hqr409 rfl rfl rfl (Nat.le_of_ble_eq_true rfl) dX0_arguments_94 ⟨(by show 0 + 1 ≤ 1; omega), (by show 0 + 6 ≤ 6; omega)⟩ ⟨(by show 7 + 1 ≤ (5 * n + 32); omega), (by show 8 + (4 + 11) + 122 ≤ (200 * n + 520); omega)⟩ (fun v407 u405 H locs hw406 hP hD hS => ?_) (fun ux ce9 q9 H9 locs9 hux hP9 hD9 hS9 hce hcv hcl => pb_out ux (ThQ.up (Thx.same (Thx.f (Thx.f (Thx.f (Thx.f (Bth.thx hbb380) (by omega)) (by omega)) (by omega)) (by omega)) rfl) (show RhX (updR (updR R 2 (.ref pq)) 3 (.ref mq)) (updR (updR (updR R 2 (.ref pq)) 3 (.ref mq)) 2 (.ref pq)) from fun k9 hk9 => by unfold updR; simp only [show ¬ k9 = 1 by omega, show ¬ k9 = 2 by omega, show ¬ k9 = 3 by omega, show ¬ k9 = 4 by omega, if_false]) hux) hnt hlocks hce hcv hcl hP9 hD9 hS9 (by show 0 + 1 ≤ 1; omega) (by show 0 + 6 ≤ 6; omega))
            obtain ⟨w, _⟩ := u405
            obtain ⟨hw406, h410, hO⟩ := hw406
            have h410 : FtQ pb t350 ty404 := h410
            obtain rfl : v407 = none := hw406
            have hO : OKP G h0 a (upd (upd (upd (upd (upd (upd (upd F 2 (nI sz)) 5 (nI cs346)) 7 (nI hd)) 12 (nI vr)) 13 as347) 14 wt348) 15 wf349) (updR (updR R 2 (.ref pq)) 3 (.ref mq)) Z B345 J K344 w := hO.to rfl
            refine W.widen (k := 0) (n := 0) (by show 0 + 0 ≤ 0; omega) (by show 0 + 0 ≤ 0; omega) ?_
            refine W.eq (g2 := F0 m 97 ls []) rfl ?_
            refine lv_iinc (v := (nI (i2 + 1))) (lv' := [(5, .int (nI (i2 + 1))), (6, .ref x9), (4, .int x2), (3, .int x1), (2, .ref m2), (1, .ref q), (0, .ref (a 4))]) hx hb dX0_arguments_97 hl (k := 1) rfl (nI_1 i2) (by decide) rfl (fun ls hl => ?_)
            refine lv_aload hx hb dX0_arguments_100 (lv_at hl 1 rfl) ?_
            rcases ho412 : K344.2.2.1 4 x9 with _ | o411
            · skip
              refine p_get (v := .null) (C := RX7) (Tc := TX7) (N := 11) (ci := 13) hx hb hq pin_wsX70 hown hE hP hO (by rw [hf378]; decide) (rep_1 hf378) rfl 10 (by decide) (hq _ pw_170) (fun _ h9 => h9) (congrArg (fun z => some (va_rf z)) ho412) dX0_arguments_102 ?_
              refine lv_astoreN (lv' := [(6, .null), (5, .int (nI (i2 + 1))), (4, .int x2), (3, .int x1), (2, .ref m2), (1, .ref q), (0, .ref (a 4))]) hx hb dX0_arguments_105 hl (by decide) rfl (fun ls hl => ?_)
              refine lv_goto (tgt := 29) hx hb dX0_arguments_107 (by decide) ?_
              have hut413 := fun z : okA => (hpt388 ⟨z, h410.1⟩).2
              have hev414 := fun z : okA => hev391 ⟨z, h410.1⟩
              have hag9 : okA → ArgL pb.1 (fun i => tyc (tyN (B 11) sz (K.2.1 2 (itp i)))) (u352 :: ar) := fun z => ⟨by show TL pb.1 u352 (tyc (tyN (B 11) sz (K.2.1 2 (itp ar.length)))); rw [hal2, ← BdE.I (f := 2) hbe379 (BdE.low hbe379 hlc (by decide) (i := i2) (by omega)) (by decide) (by decide), ← hbr387 11 (by decide), hty404, tyc_ne h410.2.1]; exact UTb.tlf (hut413 z) h360 h410, hag2 z⟩
              have hO : OKP G h0 a (upd (upd (upd (upd (upd (upd (upd F 2 (nI sz)) 5 (nI cs346)) 7 (nI hd)) 12 (nI vr)) 13 as347) 14 wt348) 15 wf349) (updR (updR R 2 (.ref pq)) 3 (.ref mq)) Z B345 J K344 w := hO.to rfl
              exact ih_g (i2 + 1) none K344 B345 cs346 as347 wt348 wf349 Ag351 (u352 :: ar) (rE (g 2 x9)) _ _ _ _ (by omega) (by omega) hbe379 hbf386 hbl389 hbi390 hbr387 ((show Thx (upd (upd (upd (upd (upd F 2 (nI sz)) 5 (nI cs)) 7 (nI hd)) 12 (nI vr)) 13 as9) (upd (upd (upd (upd (upd (upd (upd (upd (upd F 2 (nI sz)) 5 (nI cs)) 7 (nI hd)) 12 (nI vr)) 13 as9) 5 (nI cs346)) 13 as347) 14 wt348) 15 wf349) B B345 from (Thx.f (Thx.f (Thx.f (Thx.f (Bth.thx hbb380) (by omega)) (by omega)) (by omega)) (by omega))).2) hng381 (fun x9 hx9 => ⟨hsw382 x9 hx9, hsw383 x9 hx9, hsw384 x9 hx9, hsw385 x9 hx9⟩) has392.1 (by omega) (by omega) (by omega) (ArN.next (ArF.be hbe379 hqT har) (MmA.be h354 hxm) ho412) (by show ar.length + 1 = i2 + 1; omega) hag9 hev414 hP hD hS hO (lv_sub hl [0, 1, 2, 3, 4, 5, 6] rfl)
            · skip
              refine p_get (v := .ref o411) (C := RX7) (Tc := TX7) (N := 11) (ci := 13) hx hb hq pin_wsX70 hown hE hP hO (by rw [hf378]; decide) (rep_1 hf378) rfl 10 (by decide) (hq _ pw_170) (fun _ h9 => h9) (congrArg (fun z => some (va_rf z)) ho412) dX0_arguments_102 ?_
              refine lv_astore (lv' := [(6, .ref o411), (5, .int (nI (i2 + 1))), (4, .int x2), (3, .int x1), (2, .ref m2), (1, .ref q), (0, .ref (a 4))]) hx hb dX0_arguments_105 hl (by decide) rfl (fun ls hl => ?_)
              refine lv_goto (tgt := 29) hx hb dX0_arguments_107 (by decide) ?_
              have hut415 := fun z : okA => (hpt388 ⟨z, h410.1⟩).2
              have hev416 := fun z : okA => hev391 ⟨z, h410.1⟩
              have hag9 : okA → ArgL pb.1 (fun i => tyc (tyN (B 11) sz (K.2.1 2 (itp i)))) (u352 :: ar) := fun z => ⟨by show TL pb.1 u352 (tyc (tyN (B 11) sz (K.2.1 2 (itp ar.length)))); rw [hal2, ← BdE.I (f := 2) hbe379 (BdE.low hbe379 hlc (by decide) (i := i2) (by omega)) (by decide) (by decide), ← hbr387 11 (by decide), hty404, tyc_ne h410.2.1]; exact UTb.tlf (hut415 z) h360 h410, hag2 z⟩
              have hO : OKP G h0 a (upd (upd (upd (upd (upd (upd (upd F 2 (nI sz)) 5 (nI cs346)) 7 (nI hd)) 12 (nI vr)) 13 as347) 14 wt348) 15 wf349) (updR (updR R 2 (.ref pq)) 3 (.ref mq)) Z B345 J K344 w := hO.to rfl
              exact ih_g (i2 + 1) (some o411) K344 B345 cs346 as347 wt348 wf349 Ag351 (u352 :: ar) (rE (g 2 x9)) _ _ _ _ (by omega) (by omega) hbe379 hbf386 hbl389 hbi390 hbr387 ((show Thx (upd (upd (upd (upd (upd F 2 (nI sz)) 5 (nI cs)) 7 (nI hd)) 12 (nI vr)) 13 as9) (upd (upd (upd (upd (upd (upd (upd (upd (upd F 2 (nI sz)) 5 (nI cs)) 7 (nI hd)) 12 (nI vr)) 13 as9) 5 (nI cs346)) 13 as347) 14 wt348) 15 wf349) B B345 from (Thx.f (Thx.f (Thx.f (Thx.f (Bth.thx hbb380) (by omega)) (by omega)) (by omega)) (by omega))).2) hng381 (fun x9 hx9 => ⟨hsw382 x9 hx9, hsw383 x9 hx9, hsw384 x9 hx9, hsw385 x9 hx9⟩) has392.1 (by omega) (by omega) (by omega) (ArN.next (ArF.be hbe379 hqT har) (MmA.be h354 hxm) ho412) (by show ar.length + 1 = i2 + 1; omega) hag9 hev416 hP hD hS hO (lv_sub hl [0, 1, 2, 3, 4, 5, 6] rfl)
          · have n417 : ¬ (i2 < np) := fun h9 => c337 ((nI_ltI (a := i2) (b := np) (by omega) (by omega)).mpr h9)
            refine lv_aload_n hx hb dX0_arguments_46 rfl (lv_at hl 6 rfl) ?_
            refine c_get (v := .ref (a 1)) (C := RX0) (Tc := TX0) (N := 13) (ci := 0) hx hb hq pin_wsX00 hown hE hP hO 24 (sg_24 G h0 a _ _ _ _ _) rfl 0 (by decide) (hq _ pw_4) (fun _ h9 => h9) rfl dX0_arguments_47 ?_
            refine lv_bipush (v := 12) hx hb dX0_arguments_50 (by decide) ?_
            refine lv_aload hx hb dX0_arguments_52 (lv_at hl 0 rfl) ?_
            refine p_get (v := .int (K2.2.1 2 x9)) (C := RX7) (Tc := TX7) (N := 11) (ci := 13) hx hb hq pin_wsX70 hown hE hP hO (by rw [hxT]; decide) (rep_1 hxT) rfl 2 (by decide) (hq _ pw_82) (fun _ h9 => h9) rfl dX0_arguments_54 ?_
            have hO : OKW G h0 a (upd (upd (upd (upd (upd (upd (upd (upd (upd (upd F 2 (nI sz)) 5 (nI cs)) 7 (nI hd)) 12 (nI vr)) 13 as9) 5 (nI cs2)) 13 as2) 14 wt2) 15 wf2) 2 (nI sz)) (updR (updR R 2 (.ref pq)) 3 (.ref mq)) Z B2 J K2.1 (fun q99 x99 => x99 = rep G a K2 q99) w := hO.to rfl
            obtain ⟨_, qr421, hqr422⟩ := hO.2.1 2 _ (sg_2 G h0 a _ _ _ _ _)
            refine pn_V0 (G := G) (As := [.int 12, .int (K2.2.1 2 x9)]) (rest := []) hx hb hml hown hq hE hX pX0_al hP hD hS hA hl.1 (K_fail l G h0 a (upd (upd (upd (upd (upd (upd (upd (upd (upd F 2 (nI sz)) 5 (nI cs)) 7 (nI hd)) 12 (nI vr)) 13 as9) 5 (nI cs2)) 13 as2) 14 wt2) 15 wf2) (updR (updR R 2 (.ref pq)) 3 (.ref mq)) Z B2 J K2.1 (fun q99 x99 => x99 = rep G a K2 q99) w 12 (K2.2.1 2 x9) sz (by omega) hO hl0) (gV pw_64 pw_65 pw_66 pw_59 pw_43) hV_X10_fail qr421 7 hqr422 rfl rfl rfl (Nat.le_of_ble_eq_true rfl) dX0_arguments_57 ⟨(by show 0 + 1 ≤ 1; omega), (by show 0 + 6 ≤ 6; omega)⟩ ⟨(by show 6 + 1 ≤ (5 * n + 32); omega), (by show 8 + (3 + 11) + 100 ≤ (200 * n + 520); omega)⟩ (fun v420 u418 H locs hw419 hP hD hS => hw419.elim) (fun ux ce9 q9 H9 locs9 hux hP9 hD9 hS9 hce hcv hcl => pb_out ux (ThQ.up (Thx.same (Thx.f (Thx.f (Thx.f (Thx.f (Bth.thx hbb2) (by omega)) (by omega)) (by omega)) (by omega)) rfl) RhX.rfl hux) hnt hlocks hce hcv hcl hP9 hD9 hS9 (by show 0 + 1 ≤ 1; omega) (by show 0 + 6 ≤ 6; omega))
    have hO : OKP G h0 a (upd (upd (upd (upd (upd (upd (upd F 2 (nI sz)) 5 (nI cs)) 7 (nI hd)) 12 (nI vr)) 13 as9) 14 (F 14)) 15 (F 15)) (updR (updR R 2 (.ref pq)) 3 (.ref mq)) Z B J K w := hO.to rfl
    exact loop_g (np + 1) 0 (some o141) K B cs as9 (F 14) (F 15) Ag ([] : List Nat) (rM (g 2 q)) _ _ _ _ (by omega) (by omega) BdE.rfl BeF.rfl BeL.rfl BeI.rfl BeR.rfl ((show Thx (upd (upd (upd (upd (upd F 2 (nI sz)) 5 (nI cs)) 7 (nI hd)) 12 (nI vr)) 13 as9) (upd (upd (upd (upd (upd F 2 (nI sz)) 5 (nI cs)) 7 (nI hd)) 12 (nI vr)) 13 as9) B B from Thx.rfl).2) hng (fun x9 hx9 => ⟨(fun _ _ => rfl) x9 hx9, (fun _ _ => rfl) x9 hx9, (fun _ _ => rfl) x9 hx9, (fun _ _ => rfl) x9 hx9⟩) AsE.rfl (by omega) (by omega) (by omega) (ArN.first har ho142) rfl (fun _ => trivial) hev0 hP hD hS hO (lv_sub hl [0, 1, 6, 5, 4, 3, 2] rfl)
