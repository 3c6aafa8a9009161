set_option maxHeartbeats 2000000 in
set_option maxRecDepth 100000 in
theorem Y_addReg (l : Launch) (G : pT) (h0 : Nat) (a : Nat → Nat) (F : Nat → Int32) (R : Nat → Value) (Z : Int64) (B : Nat → Nat → Int32) (J : Nat → Nat → Int64) (T : Nat → Nat) (Pi : Nat → va_E → Prop) (w : va_W) (st : Nat) (en : Nat) (so : Nat) (rg : Nat) (gr : Nat) (cs : Nat) (nd : Nat) (cl : Int32) (Q9 : RX) (hgr : rg ≤ 625 ∧ rg ≤ gr ∧ (rg = 625 ∨ rg = gr)) (hrq : RgQx B Q9 gr nd) (hbd : st ≤ 10000 ∧ en ≤ 10000 ∧ cs < 10000 ∧ so ≤ 1000) (hcl : cl = -1 ∨ ∃ c : Nat, c < nd ∧ cl = nI c) (hO : OKW G h0 a (upd (upd F 5 (nI cs)) 6 (nI rg)) R Z B J T Pi w) : PM l G pX0 yX1_addRegion cX1_addRegion 5 none ({ frames := 2, cells := 0, slots := 0, locals := 60 }) [.ref (a 2), .int (nI st), .int (nI en), .int cl, .int (nI so)] w (fun (v : Option Value) (u : va_W × (Nat × (Nat → Int32) × (Nat → Int32) × (Nat → Int32) × (Nat → Int32) × (Nat → Int32))) => v = none ∧ (RgQx (updA (updA (updA (updA (updA B (20) u.2.2.1) (21) u.2.2.2.1) (22) u.2.2.2.2.1) (23) u.2.2.2.2.2.1) (24) u.2.2.2.2.2.2) (upQx Q9 gr st en cs so cl 0) (gr + 1) nd) ∧ (u.2.1 ≤ 625 ∧ u.2.1 ≤ gr + 1 ∧ (u.2.1 = 625 ∨ u.2.1 = gr + 1)) ∧ (OKW G h0 a (upd (upd F 5 (nI cs)) 6 (nI u.2.1)) R Z (updA (updA (updA (updA (updA B 20 u.2.2.1) 21 u.2.2.2.1) 22 u.2.2.2.2.1) 23 u.2.2.2.2.2.1) 24 u.2.2.2.2.2.2) J T Pi u.1)) (fun u => u.1) := by
  intro sz
  refine Met.ofW (cc := cX1_addRegion) (maxL := 5) (ret := none) (by decide) rfl ?_
  intro p e s m args below meth c s₁ B9 hml hv
  obtain ⟨rfl, hsz, hP, hD0, hE, hX⟩ := hv
  have hx := B9.exec
  have hb := B9.bytes
  have hr := B9.returns
  have hts := atoms_spec (ws := Cond.code yX1_addRegion cX1_addRegion 5 none :: pw) B9.pre
  have hq : ∀ w ∈ pw, w.before _ s = true := fun w h => hts w (List.mem_cons_of_mem _ h)
  have hown : s.vm.findClass RX1 = some m.cls := findClass_of_methodNamed B9.named
  have hlocks := B9.notSynchronized
  subst hsz
  have hD := hD0.self (sz := s.heap.size)
  have hA : ∀ q : Nat, s.heap.size ≤ q → va_A w s.heap.size q := fun q h => Or.inr h
  generalize va_A w s.heap.size = A at hD hE hA ⊢
  have hS : va_S A s.heap s.heap [] := va_S.rf
  have hl := lv_entry ([.ref (a 2), .int (nI st), .int (nI en), .int cl, .int (nI so)]) (n := 5) (Nat.le_of_ble_eq_true rfl)
  rw [lg_entry_eq]
  generalize (lg_sl ([.ref (a 2), .int (nI st), .int (nI en), .int cl, .int (nI so)]) ++ List.replicate (5 - (lg_sl ([.ref (a 2), .int (nI st), .int (nI en), .int cl, .int (nI so)])).length) Slot.unset).toArray = ls at hl ⊢
  have hl : lv_has ls 5 [(0, .ref (a 2)), (1, .int (nI st)), (2, .int (nI en)), (3, .int cl), (4, .int (nI so))] := hl
  refine lv_aload_n hx hb dX1_addRegion_0 rfl (lv_at hl 0 rfl) ?_
  refine c_get (v := .int (nI rg)) (C := RX1) (Tc := TX1) (N := 13) (ci := 1) hx hb hq pin_wsX10 hown hE hP hO 13 (sg_13 G h0 a _ _ _ _ _) rfl 10 (by decide) (hq _ pw_12) (fun _ h9 => h9) rfl dX1_addRegion_1 ?_
  refine lv_sipush (v := 625) hx hb dX1_addRegion_4 (by decide) ?_
  refine lv_icmp_ge (tgt := 74) hx hb dX1_addRegion_7 (by decide) (fun c1 => ?_) (fun c1 => ?_)
  · have n2 : 625 ≤ rg := (nI_leI (a := 625) (b := rg) (by omega) (by omega)).mp c1
    have hz3 : RgQx (updA (updA (updA (updA (updA B (20) (B 20)) (21) (B 21)) (22) (B 22)) (23) (B 23)) (24) (B 24)) (upQx Q9 gr st en cs so cl 0) (gr + 1) nd := (RgQx.rows (B := B) (RgQx.full hrq (by omega)) (fun i9 h1 h2 => by rcases (show i9 = 20 ∨ i9 = 21 ∨ i9 = 22 ∨ i9 = 23 ∨ i9 = 24 by omega) with e9 | e9 | e9 | e9 | e9 <;> subst e9 <;> rfl))
    have hz4 : rg ≤ 625 ∧ rg ≤ gr + 1 ∧ (rg = 625 ∨ rg = gr + 1) := (by omega)
    have hO : OKW G h0 a (upd (upd F 5 (nI cs)) 6 (nI rg)) R Z (updA (updA (updA (updA (updA B 20 (B 20)) 21 (B 21)) 22 (B 22)) 23 (B 23)) 24 (B 24)) J T Pi w := hO.to rfl
    exact W.vret hx hb hr (fun t99 ht99 hW99 => ⟨⟨_, (w, (rg, (B 20), (B 21), (B 22), (B 23), (B 24))), rfl, ⟨rfl, hz3, hz4, hO⟩, by rw [ht99]; exact hP, hD⟩, hS.F ht99⟩) hS.2.2 dX1_addRegion_74
  · have n5 : ¬ (625 ≤ rg) := fun h9 => c1 ((nI_leI (a := 625) (b := rg) (by omega) (by omega)).mpr h9)
    refine lv_aload_n hx hb dX1_addRegion_10 rfl (lv_at hl 0 rfl) ?_
    refine c_get (v := .ref (a 20)) (C := RX1) (Tc := TX1) (N := 13) (ci := 1) hx hb hq pin_wsX10 hown hE hP hO 13 (sg_13 G h0 a _ _ _ _ _) rfl 5 (by decide) (hq _ pw_295) (fun _ h9 => h9) rfl dX1_addRegion_11 ?_
    refine lv_aload_n hx hb dX1_addRegion_14 rfl (lv_at hl 0 rfl) ?_
    refine c_get (v := .int (nI rg)) (C := RX1) (Tc := TX1) (N := 13) (ci := 1) hx hb hq pin_wsX10 hown hE hP hO 13 (sg_13 G h0 a _ _ _ _ _) rfl 10 (by decide) (hq _ pw_12) (fun _ h9 => h9) rfl dX1_addRegion_15 ?_
    refine lv_iload_n hx hb dX1_addRegion_18 rfl (lv_at hl 1 rfl) ?_
    refine c_sti (f := (B 20)) (n := 625) (t0 := 0) hx hb hE hP hD hS hO 18 (sg_18 G h0 a _ _ _ _ _) rfl (vp_in_nI (by omega) (by decide)) (sb_20 G h0 a _ _ _ _ _ _) dX1_addRegion_19 (fun H locs w hP hD hS hO => ?_)
    rw [(nI_clamp (show rg < 2 ^ 31 by omega))] at hO
    refine lv_aload_n hx hb dX1_addRegion_20 rfl (lv_at hl 0 rfl) ?_
    refine c_get (v := .ref (a 21)) (C := RX1) (Tc := TX1) (N := 13) (ci := 1) hx hb hq pin_wsX10 hown hE hP hO 13 (sg_13 G h0 a _ _ _ _ _) rfl 6 (by decide) (hq _ pw_296) (fun _ h9 => h9) rfl dX1_addRegion_21 ?_
    refine lv_aload_n hx hb dX1_addRegion_24 rfl (lv_at hl 0 rfl) ?_
    refine c_get (v := .int (nI rg)) (C := RX1) (Tc := TX1) (N := 13) (ci := 1) hx hb hq pin_wsX10 hown hE hP hO 13 (sg_13 G h0 a _ _ _ _ _) rfl 10 (by decide) (hq _ pw_12) (fun _ h9 => h9) rfl dX1_addRegion_25 ?_
    refine lv_iload_n hx hb dX1_addRegion_28 rfl (lv_at hl 2 rfl) ?_
    refine c_sti (f := (B 21)) (n := 625) (t0 := 0) hx hb hE hP hD hS hO 19 (sg_19 G h0 a _ _ _ _ _) rfl (vp_in_nI (by omega) (by decide)) (sb_21 G h0 a _ _ _ _ _ _) dX1_addRegion_29 (fun H locs w hP hD hS hO => ?_)
    rw [(nI_clamp (show rg < 2 ^ 31 by omega))] at hO
    refine lv_aload_n hx hb dX1_addRegion_30 rfl (lv_at hl 0 rfl) ?_
    refine c_get (v := .ref (a 22)) (C := RX1) (Tc := TX1) (N := 13) (ci := 1) hx hb hq pin_wsX10 hown hE hP hO 13 (sg_13 G h0 a _ _ _ _ _) rfl 7 (by decide) (hq _ pw_297) (fun _ h9 => h9) rfl dX1_addRegion_31 ?_
    refine lv_aload_n hx hb dX1_addRegion_34 rfl (lv_at hl 0 rfl) ?_
    refine c_get (v := .int (nI rg)) (C := RX1) (Tc := TX1) (N := 13) (ci := 1) hx hb hq pin_wsX10 hown hE hP hO 13 (sg_13 G h0 a _ _ _ _ _) rfl 10 (by decide) (hq _ pw_12) (fun _ h9 => h9) rfl dX1_addRegion_35 ?_
    refine lv_aload_n hx hb dX1_addRegion_38 rfl (lv_at hl 0 rfl) ?_
    refine c_get (v := .int (nI cs)) (C := RX1) (Tc := TX1) (N := 13) (ci := 1) hx hb hq pin_wsX10 hown hE hP hO 13 (sg_13 G h0 a _ _ _ _ _) rfl 4 (by decide) (hq _ pw_11) (fun _ h9 => h9) rfl dX1_addRegion_39 ?_
    refine c_sti (f := (B 22)) (n := 625) (t0 := 0) hx hb hE hP hD hS hO 20 (sg_20 G h0 a _ _ _ _ _) rfl (vp_in_nI (by omega) (by decide)) (sb_22 G h0 a _ _ _ _ _ _) dX1_addRegion_42 (fun H locs w hP hD hS hO => ?_)
    rw [(nI_clamp (show rg < 2 ^ 31 by omega))] at hO
    refine lv_aload_n hx hb dX1_addRegion_43 rfl (lv_at hl 0 rfl) ?_
    refine c_get (v := .ref (a 23)) (C := RX1) (Tc := TX1) (N := 13) (ci := 1) hx hb hq pin_wsX10 hown hE hP hO 13 (sg_13 G h0 a _ _ _ _ _) rfl 8 (by decide) (hq _ pw_298) (fun _ h9 => h9) rfl dX1_addRegion_44 ?_
    refine lv_aload_n hx hb dX1_addRegion_47 rfl (lv_at hl 0 rfl) ?_
    refine c_get (v := .int (nI rg)) (C := RX1) (Tc := TX1) (N := 13) (ci := 1) hx hb hq pin_wsX10 hown hE hP hO 13 (sg_13 G h0 a _ _ _ _ _) rfl 10 (by decide) (hq _ pw_12) (fun _ h9 => h9) rfl dX1_addRegion_48 ?_
    refine lv_iload_n hx hb dX1_addRegion_51 rfl (lv_at hl 3 rfl) ?_
    refine c_sti (f := (B 23)) (n := 625) (t0 := 0) hx hb hE hP hD hS hO 21 (sg_21 G h0 a _ _ _ _ _) rfl (vp_in_nI (by omega) (by decide)) (sb_23 G h0 a _ _ _ _ _ _) dX1_addRegion_52 (fun H locs w hP hD hS hO => ?_)
    rw [(nI_clamp (show rg < 2 ^ 31 by omega))] at hO
    refine lv_aload_n hx hb dX1_addRegion_53 rfl (lv_at hl 0 rfl) ?_
    refine c_get (v := .ref (a 24)) (C := RX1) (Tc := TX1) (N := 13) (ci := 1) hx hb hq pin_wsX10 hown hE hP hO 13 (sg_13 G h0 a _ _ _ _ _) rfl 9 (by decide) (hq _ pw_299) (fun _ h9 => h9) rfl dX1_addRegion_54 ?_
    refine lv_aload_n hx hb dX1_addRegion_57 rfl (lv_at hl 0 rfl) ?_
    refine c_get (v := .int (nI rg)) (C := RX1) (Tc := TX1) (N := 13) (ci := 1) hx hb hq pin_wsX10 hown hE hP hO 13 (sg_13 G h0 a _ _ _ _ _) rfl 10 (by decide) (hq _ pw_12) (fun _ h9 => h9) rfl dX1_addRegion_58 ?_
    refine lv_iload hx hb dX1_addRegion_61 (lv_at hl 4 rfl) ?_
    refine c_sti (f := (B 24)) (n := 625) (t0 := 0) hx hb hE hP hD hS hO 22 (sg_22 G h0 a _ _ _ _ _) rfl (vp_in_nI (by omega) (by decide)) (sb_24 G h0 a _ _ _ _ _ _) dX1_addRegion_63 (fun H locs w hP hD hS hO => ?_)
    rw [(nI_clamp (show rg < 2 ^ 31 by omega))] at hO
    refine lv_aload_n hx hb dX1_addRegion_64 rfl (lv_at hl 0 rfl) ?_
    refine lv_dup hx hb dX1_addRegion_65 rfl ?_
    refine c_get (v := .int (nI rg)) (C := RX1) (Tc := TX1) (N := 13) (ci := 1) hx hb hq pin_wsX10 hown hE hP hO 13 (sg_13 G h0 a _ _ _ _ _) rfl 10 (by decide) (hq _ pw_12) (fun _ h9 => h9) rfl dX1_addRegion_66 ?_
    refine lv_iconst (v := 1) hx hb dX1_addRegion_69 (by decide) ?_
    refine lv_iadd hx hb dX1_addRegion_70 ?_
    refine lv_topi (fun x6 e7 => ?_)
    obtain rfl : x6 = nI (rg + 1) := e7.trans (nI_add (rg) (1))
    refine c_put (v := .int (nI (rg + 1))) (ty := .int) (C := RX1) (Tc := TX1) (N := 13) (ci := 1) hx hb hq pin_wsX10 tyX1 tyX1_ok nmX1 hown hE hP hD hS hO 13 (sg_13 G h0 a _ _ _ _ _) rfl 10 (by decide) (hq _ pw_12) (fun _ h9 => h9) rfl (by decide +kernel) rfl rfl (Nat.le_of_ble_eq_true rfl) (sf_6 G h0 a _ _ _ _ _ (nI (rg + 1))) dX1_addRegion_71 (fun H locs w hP hD hS hO => ?_)
    have hrgg : rg = gr := by omega
    have hz8 : RgQx (updA (updA (updA (updA (updA B (20) (upd (B 20) rg (nI st))) (21) (upd (B 21) rg (nI en))) (22) (upd (B 22) rg (nI cs))) (23) (upd (B 23) rg cl)) (24) (upd (B 24) rg (nI so))) (upQx Q9 gr st en cs so cl 0) (gr + 1) nd := (by subst hrgg; exact RgQx.add hrq (by omega) rfl rfl rfl rfl rfl hbd hcl)
    have hz9 : (rg + 1) ≤ 625 ∧ (rg + 1) ≤ gr + 1 ∧ ((rg + 1) = 625 ∨ (rg + 1) = gr + 1) := (by omega)
    have hO : OKW G h0 a (upd (upd F 5 (nI cs)) 6 (nI (rg + 1))) R Z (updA (updA (updA (updA (updA B 20 (upd (B 20) rg (nI st))) 21 (upd (B 21) rg (nI en))) 22 (upd (B 22) rg (nI cs))) 23 (upd (B 23) rg cl)) 24 (upd (B 24) rg (nI so))) J T Pi w := hO.to rfl
    exact W.vret hx hb hr (fun t99 ht99 hW99 => ⟨⟨_, (w, ((rg + 1), (upd (B 20) rg (nI st)), (upd (B 21) rg (nI en)), (upd (B 22) rg (nI cs)), (upd (B 23) rg cl), (upd (B 24) rg (nI so)))), rfl, ⟨rfl, hz8, hz9, hO⟩, by rw [ht99]; exact hP, hD⟩, hS.F ht99⟩) hS.2.2 dX1_addRegion_74
set_option maxHeartbeats 60000000 in
set_option maxRecDepth 100000 in
theorem Y_catch (l : Launch) (G : pT) (h0 : Nat) (a : Nat → Nat) (F : Nat → Int32) (R : Nat → Value) (Z : Int64) (B : Nat → Nat → Int32) (J : Nat → Nat → Int64) (K : PK) (w : va_W) (pq : Nat) (dr : Nat) (ml : Nat) (nd : Nat) (nm : Nat) (cp : Nat) (it : Nat → Nat) (s9 : Nat) (q : Nat) (mq : Nat) (cs : Nat) (vr : Nat) (sz : Nat) (n : Nat) (q1 : Nat) (hdX : Nat) (t9 : Nat) (slX : Nat → Nat) (osX : List Nat) (hd : Nat) (dp : Nat) (rg : Nat) (ls9 : Int32) (lp9 : Option Nat) (g : Nat → Nat → Nat) (rk : Nat → Nat) (pb : PNb) (Ag : Nat → AS) (Q9 : RX) (pd : Nat → Prop) (sl : Nat → Nat) (m9 : Nat) (lw : Nat) (c0 : Nat) (rt : Nat) (gr : Nat) (as9 : Int32) (hdL : Nat) (slL : Nat → Nat) (xb : List Nat) (xc : List Nat) (rL : Prop) (hsz : sz ≤ 5000) (hwp : WPr G K g) (hps : PgT G K g (a 1) pq dr ml nd nm cp it s9) (hrk : RkO K rk) (hcs : cs ≤ 10000) (hvr : vr ≤ 30) (hng : Nng (B 18)) (hmq : K.1 mq = 3) (hqT : K.1 q = 1) (hqL : 1 ≤ g 0 q ∧ g 0 q ≤ n) (hrt : K.2.1 10 mq = nI rt) (hrv : TyV nd rt ∧ (bX pb).2.2.2.2.1 m9 = rt) (hdp : dp ≤ 71) (hrg : rg ≤ 625) (hhd : hd ≤ 41 + vr) (hlo : LpO K lp9) (hek : EkA pb K g (B 7) (B 11) sz) (hcO : OwC K dr mq c0) (hna : NaB pb G K (B 11) dr nd sz) (hen : EnV (B 26) (B 27) nd vr hd c0 sl) (hao : AsO as9) (hem : EmB pb B Ag pd m9 dp lw cs (-1) hdX slX osX) (hwf0 : WfA (1, hd, sl, [])) (ht9 : tyN (B 11) sz (K.2.1 2 q) = t9) (htn : t9 < nd) (hlo9 : lw ≤ cs) (hrm : cs + 2 * tlE g q ≤ 9999) (hgr : rg ≤ 625 ∧ rg ≤ gr ∧ (rg = 625 ∨ rg = gr)) (hns : hd + ndE g q ≤ 41 + vr) (hsk : SkA K g (B 11) sz nd) (hlp : LpS K (B 16) (B 17) Ag pd lp9 lw cs hd sl hdL slL xb xc) (hrq : RgQx B Q9 gr nd) (hrL : ¬ as9 = -1 → rL) (hlr : LpR K lp9 rL) (hc0 : K.2.2.1 0 q = some q1) (ht0 : K.1 q1 = 1) (hv0 : 1 ≤ g 0 q1 ∧ g 0 q1 + 1 ≤ n) (hkd : K.2.1 0 q = 35) (ist : IhZ l G n) (hO : OKP G h0 a (upd (upd (upd (upd (upd (upd (upd (upd F 2 (nI sz)) 5 (nI cs)) 6 (nI rg)) 7 (nI hd)) 8 (nI dp)) 12 (nI vr)) 13 as9) 16 ls9) (updR (updR (updR R 2 (.ref pq)) 3 (.ref mq)) 4 (va_rf lp9)) Z B J K w) (hl0 : l.stackTraces = false) : PBn l G pX0 yX0_catchBlock cX0_catchBlock 5 none ({ frames := (5 * n + 46), cells := ((rE (g 2 q) - rS (g 2 q)) + 1), slots := (6 * (rE (g 2 q) - rS (g 2 q)) + 6), locals := (200 * n + 1120) }) [.ref (a 4), .ref q] w (fun (v : Option Value) (u : va_W × (PK × (Nat → Nat → Int32) × Nat × Int32 × Int32 × Int32 × Nat × (Nat → AS) × Nat × Nat × Int32 × RX × (Nat → Prop) × List Nat × List Nat)) => v = none ∧ (SmW B u.2.2.1 cs) ∧ (BdE K u.2.1) ∧ (BeF K u.2.1) ∧ (BeL K u.2.1 lp9) ∧ (Bth B u.2.2.1) ∧ (BtR B u.2.2.1) ∧ (cs ≤ u.2.2.2.1 ∧ u.2.2.2.1 + 10 ≤ cs + 2 * tlE g q) ∧ (dp ≤ u.2.2.2.2.2.2.2.1 ∧ u.2.2.2.2.2.2.2.1 ≤ 71) ∧ (AsO u.2.2.2.2.1) ∧ (VrS B u.2.2.1 vr) ∧ (gr ≤ u.2.2.2.2.2.2.2.2.2.2.1 ∧ u.2.2.2.2.2.2.2.2.2.1 ≤ 625 ∧ u.2.2.2.2.2.2.2.2.2.1 ≤ u.2.2.2.2.2.2.2.2.2.2.1 ∧ (u.2.2.2.2.2.2.2.2.2.1 = 625 ∨ u.2.2.2.2.2.2.2.2.2.1 = u.2.2.2.2.2.2.2.2.2.2.1)) ∧ (EnV (u.2.2.1 26) (u.2.2.1 27) nd vr hd c0 sl) ∧ (CaW pb.1 pb.2.1 pb.2.2.1 pb.2.2.2 Ag u.2.2.2.2.2.2.2.2.1 Q9 u.2.2.2.2.2.2.2.2.2.2.2.2.1 pd u.2.2.2.2.2.2.2.2.2.2.2.2.2.1 m9 u.2.2.2.2.2.2.2.1 lw cs u.2.2.2.1 as9 u.2.2.2.2.1 hd sl t9 gr u.2.2.2.2.2.2.2.2.2.2.1 (u.2.2.1 16) (u.2.2.1 17) (u.2.2.1 18) (u.2.2.1 19)) ∧ (LpS u.2.1 (u.2.2.1 16) (u.2.2.1 17) u.2.2.2.2.2.2.2.2.1 u.2.2.2.2.2.2.2.2.2.2.2.2.2.1 lp9 lw u.2.2.2.1 hd sl hdL slL u.2.2.2.2.2.2.2.2.2.2.2.2.2.2.1 u.2.2.2.2.2.2.2.2.2.2.2.2.2.2.2) ∧ (PdS pd u.2.2.2.2.2.2.2.2.2.2.2.2.2.1 xb u.2.2.2.2.2.2.2.2.2.2.2.2.2.2.1 xc u.2.2.2.2.2.2.2.2.2.2.2.2.2.2.2 [] cs u.2.2.2.1) ∧ (RgQx u.2.2.1 u.2.2.2.2.2.2.2.2.2.2.2.2.1 u.2.2.2.2.2.2.2.2.2.2.1 nd) ∧ (LpR u.2.1 lp9 rL) ∧ (OKP G h0 a (upd (upd (upd (upd (upd (upd (upd (upd (upd (upd F 2 (nI sz)) 5 (nI u.2.2.2.1)) 6 (nI u.2.2.2.2.2.2.2.2.2.1)) 7 (nI hd)) 8 (nI u.2.2.2.2.2.2.2.1)) 12 (nI vr)) 13 u.2.2.2.2.1) 14 u.2.2.2.2.2.1) 15 u.2.2.2.2.2.2.1) 16 u.2.2.2.2.2.2.2.2.2.2.2.1) (updR (updR (updR R 2 (.ref pq)) 3 (.ref mq)) 4 (va_rf lp9)) Z u.2.2.1 J u.2.1 u.1)) (fun u => u.1) (fun (u : va_W × (PK × (Nat → Nat → Int32) × Nat × Int32 × Int32 × Int32 × Nat × (Nat → AS) × Nat × Nat × Int32 × RX × (Nat → Prop) × List Nat × List Nat)) => (rE (g 2 q) - rS (g 2 q))) (fun (u : va_W × (PK × (Nat → Nat → Int32) × Nat × Int32 × Int32 × Int32 × Nat × (Nat → AS) × Nat × Nat × Int32 × RX × (Nat → Prop) × List Nat × List Nat)) => (6 * (rE (g 2 q) - rS (g 2 q)))) (fun (u : va_W × (Nat → Int32) × (Nat → Value) × (Nat → Nat → Int32)) => ThQ G h0 a (upd (upd (upd (upd (upd (upd (upd (upd F 2 (nI sz)) 5 (nI cs)) 6 (nI rg)) 7 (nI hd)) 8 (nI dp)) 12 (nI vr)) 13 as9) 16 ls9) (updR (updR (updR R 2 (.ref pq)) 3 (.ref mq)) 4 (va_rf lp9)) Z B J u) (fun u => u.1) := by
  intro sz
  refine vx_ofW (cc := cX0_catchBlock) (maxL := 5) (ret := none) (by decide) rfl ?_
  intro p e s m args below meth c s₁ B9 hml hnt hv
  obtain ⟨rfl, hsz, hP, hD0, hE, hX⟩ := hv
  have hx := B9.exec
  have hb := B9.bytes
  have hr := B9.returns
  have hts := atoms_spec (ws := Cond.code yX0_catchBlock cX0_catchBlock 5 none :: pw) B9.pre
  have hq : ∀ w ∈ pw, w.before _ s = true := fun w h => hts w (List.mem_cons_of_mem _ h)
  have hown : s.vm.findClass RX0 = some m.cls := findClass_of_methodNamed B9.named
  have hlocks := B9.notSynchronized
  subst hsz
  have hD := hD0.self (sz := s.heap.size)
  have hA : ∀ q : Nat, s.heap.size ≤ q → va_A w s.heap.size q := fun q h => Or.inr h
  generalize va_A w s.heap.size = A at hD hE hA ⊢
  have hS : va_S A s.heap s.heap [] := va_S.rf
  have hl := lv_entry ([.ref (a 4), .ref q]) (n := 5) (Nat.le_of_ble_eq_true rfl)
  rw [lg_entry_eq]
  generalize (lg_sl ([.ref (a 4), .ref q]) ++ List.replicate (5 - (lg_sl ([.ref (a 4), .ref q])).length) Slot.unset).toArray = ls at hl ⊢
  have hl : lv_has ls 5 [(0, .ref (a 4)), (1, .ref q)] := hl
  have hpg := hps.1
  have hp1 := hpg.1
  have hp2 := hpg.2.1
  have hp3 := hpg.2.2.1
  have hp4 := hpg.2.2.2.1
  have hp5 := hpg.2.2.2.2.1
  have hp6 := hpg.2.2.2.2.2.1
  have hp8 := hpg.2.2.2.2.2.2.2.1
  have hp9 := hpg.2.2.2.2.2.2.2.2
  have hdr0 : ¬ K.1 dr = 0 := by rw [hp4]; decide
  have hrl := hrv.1.lt hna.1.1
  have hskq := hsk q hqT hqL.1
  have htlq9 : tlE g q = rE (g 2 q) - rS (g 2 q) := rfl
  have hwfa := hwf0
  have hnd := hwp.1 q hqT hqL.1
  have hsc1 := (hskq.2.2.2.2.2.2.2.2.2.1 hkd).2 q1 hc0
  have htq : tlE g q = rE (g 2 q) - rS (g 2 q) := rfl
  have htq1 : tlE g q1 = rE (g 2 q1) - rS (g 2 q1) := rfl
  have hk1 := NdO.k35 hnd hkd (by decide) hc0
  have h379 := hna.1.1
  have htc9 : tyc t9 = t9 := tyc_ne (by omega)
  refine lv_aload_n hx hb dX0_catchBlock_0 rfl (lv_at hl 0 rfl) ?_
  refine c_get (v := .int (nI vr)) (C := RX0) (Tc := TX0) (N := 13) (ci := 0) hx hb hq pin_wsX00 hown hE hP hO 24 (sg_24 G h0 a _ _ _ _ _) rfl 5 (by decide) (hq _ pw_42) (fun _ h9 => h9) rfl dX0_catchBlock_1 ?_
  refine lv_istore_n (lv' := [(2, .int (nI vr)), (0, .ref (a 4)), (1, .ref q)]) hx hb dX0_catchBlock_4 rfl hl (by decide) rfl (fun ls hl => ?_)
  refine lv_aload_n hx hb dX0_catchBlock_5 rfl (lv_at hl 1 rfl) ?_
  refine c_get (v := .ref (a 2)) (C := RX0) (Tc := TX0) (N := 13) (ci := 0) hx hb hq pin_wsX00 hown hE hP hO 24 (sg_24 G h0 a _ _ _ _ _) rfl 1 (by decide) (hq _ pw_5) (fun _ h9 => h9) rfl dX0_catchBlock_6 ?_
  refine c_get (v := .int (nI hd)) (C := RX1) (Tc := TX1) (N := 13) (ci := 1) hx hb hq pin_wsX10 hown hE hP hO 13 (sg_13 G h0 a _ _ _ _ _) rfl 11 (by decide) (hq _ pw_54) (fun _ h9 => h9) rfl dX0_catchBlock_9 ?_
  refine lv_istore_n (lv' := [(3, .int (nI hd)), (2, .int (nI vr)), (0, .ref (a 4)), (1, .ref q)]) hx hb dX0_catchBlock_12 rfl hl (by decide) rfl (fun ls hl => ?_)
  refine lv_aload_n hx hb dX0_catchBlock_13 rfl (lv_at hl 2 rfl) ?_
  refine lv_aload_n hx hb dX0_catchBlock_14 rfl (lv_at hl 3 rfl) ?_
  refine p_get (v := .int (K.2.1 1 q)) (C := RX7) (Tc := TX7) (N := 11) (ci := 13) hx hb hq pin_wsX70 hown hE hP hO (by rw [hqT]; decide) (rep_1 hqT) rfl 1 (by decide) (hq _ pw_81) (fun _ h9 => h9) rfl dX0_catchBlock_15 ?_
  refine lv_aload_n hx hb dX0_catchBlock_18 rfl (lv_at hl 2 rfl) ?_
  refine c_get (v := .ref (a 1)) (C := RX0) (Tc := TX0) (N := 13) (ci := 0) hx hb hq pin_wsX00 hown hE hP hO 24 (sg_24 G h0 a _ _ _ _ _) rfl 0 (by decide) (hq _ pw_4) (fun _ h9 => h9) rfl dX0_catchBlock_19 ?_
  refine lv_aload_n hx hb dX0_catchBlock_22 rfl (lv_at hl 3 rfl) ?_
  refine p_get (v := .int (K.2.1 2 q)) (C := RX7) (Tc := TX7) (N := 11) (ci := 13) hx hb hq pin_wsX70 hown hE hP hO (by rw [hqT]; decide) (rep_1 hqT) rfl 2 (by decide) (hq _ pw_82) (fun _ h9 => h9) rfl dX0_catchBlock_23 ?_
  have hO : OKW G h0 a (upd (upd (upd (upd (upd (upd (upd (upd (upd F 2 (nI sz)) 5 (nI cs)) 6 (nI rg)) 7 (nI hd)) 8 (nI dp)) 12 (nI vr)) 13 as9) 16 ls9) 2 (nI sz)) (updR (updR (updR R 2 (.ref pq)) 3 (.ref mq)) 4 (va_rf lp9)) Z B J K.1 (fun q99 x99 => x99 = rep G a K q99) w := hO.to rfl
  obtain ⟨_, qr4, hqr5⟩ := hO.2.1 2 _ (sg_2 G h0 a _ _ _ _ _)
  refine pc_V0 (G := G) (As := [.int (K.2.1 2 q)]) (rest := [.int (K.2.1 1 q), .ref (a 4)]) hx hb hml hown hq hE hX pX0_al hP hD hS hA hl.1 (Y_typeAt l G h0 a (upd (upd (upd (upd (upd (upd (upd (upd F 2 (nI sz)) 5 (nI cs)) 6 (nI rg)) 7 (nI hd)) 8 (nI dp)) 12 (nI vr)) 13 as9) 16 ls9) (updR (updR (updR R 2 (.ref pq)) 3 (.ref mq)) 4 (va_rf lp9)) Z B J K.1 (fun q99 x99 => x99 = rep G a K q99) w (K.2.1 2 q) sz nd (by omega) (NaB.be BdE.rfl BeF.rfl hwp hps.2.1 hdr0 (BtR.rfl 11 (by decide)) hna).1.2.1 hO) (gV pw_92 pw_93 pw_94 pw_59 pw_36) hV_X10_typeAt qr4 7 hqr5 rfl rfl rfl (Nat.le_of_ble_eq_true rfl) dX0_catchBlock_26 ⟨(by show 0 + 0 ≤ ((rE (g 2 q) - rS (g 2 q)) + 1); omega), (by show 0 + 0 ≤ (6 * (rE (g 2 q) - rS (g 2 q)) + 6); omega)⟩ ⟨(by show 2 + 1 ≤ (5 * n + 46); omega), (by show 8 + (2 + 11) + 60 ≤ (200 * n + 1120); omega)⟩ (fun v3 u1 H locs hw2 hP hD hS => ?_)
  obtain ⟨w, _⟩ := u1
  obtain ⟨hw2, hO⟩ := hw2
  obtain rfl : v3 = some (.int (nI (tyN ((B 11)) sz (K.2.1 2 q)))) := hw2
  have hO : OKP G h0 a (upd (upd (upd (upd (upd (upd (upd (upd F 2 (nI sz)) 5 (nI cs)) 6 (nI rg)) 7 (nI hd)) 8 (nI dp)) 12 (nI vr)) 13 as9) 16 ls9) (updR (updR (updR R 2 (.ref pq)) 3 (.ref mq)) 4 (va_rf lp9)) Z B J K w := hO.to rfl
  refine W.widen (k := 0) (n := 0) (Nat.le_of_ble_eq_true rfl) (Nat.le_of_ble_eq_true rfl) ?_
  refine W.eq (g2 := F0 m 29 ls [.int (nI (tyN ((B 11)) sz (K.2.1 2 q))), .int (K.2.1 1 q), .ref (a 4)]) rfl ?_
  obtain ⟨ty6, hty6, hvty6⟩ : ∃ z : Nat, tyN (B 11) sz (K.2.1 2 q) = z ∧ TyV nd z := ⟨_, rfl, ((NaB.be BdE.rfl BeF.rfl hwp hps.2.1 hdr0 (BtR.rfl 11 (by decide)) hna).1.2.1).V (by omega)⟩
  rw [hty6]
  have hlty6 := (hvty6).lt hna.1.1
  obtain rfl : t9 = ty6 := ht9.symm.trans hty6
  have hvt9 := hvty6
  have hO : OKW G h0 a (upd (upd (upd (upd (upd (upd (upd (upd (upd (upd (upd (upd (upd F 2 (nI sz)) 5 (nI cs)) 6 (nI rg)) 7 (nI hd)) 8 (nI dp)) 12 (nI vr)) 13 as9) 16 ls9) 2 (nI sz)) 7 (nI hd)) 8 (nI dp)) 12 (nI vr)) 13 as9) (updR (updR (updR R 2 (.ref pq)) 3 (.ref mq)) 4 (va_rf lp9)) Z B J K.1 (fun q99 x99 => x99 = rep G a K q99) w := hO.to rfl
  obtain ⟨_, qr10, hqr11⟩ := hO.2.1 24 _ (sg_24 G h0 a _ _ _ _ _)
  refine pn_V0 (G := G) (As := [.int (K.2.1 1 q), .int (nI t9)]) (rest := []) hx hb hml hown hq hE hX pX0_al hP hD hS hA hl.1 (Y_declare l G h0 a (upd (upd (upd (upd (upd (upd (upd (upd F 2 (nI sz)) 5 (nI cs)) 6 (nI rg)) 7 (nI hd)) 8 (nI dp)) 12 (nI vr)) 13 as9) 16 ls9) (updR (updR (updR R 2 (.ref pq)) 3 (.ref mq)) 4 (va_rf lp9)) Z B J K.1 (fun q99 x99 => x99 = rep G a K q99) w (K.2.1 1 q) t9 vr hd dp sz nd c0 as9 sl (by omega) (by omega) (by omega) (by omega) hen hvt9 hao hO hl0) (gV pw_95 pw_96 pw_97 pw_63 pw_71) hV_X0_declare qr10 0 hqr11 rfl rfl rfl (Nat.le_of_ble_eq_true rfl) dX0_catchBlock_29 ⟨(by show 0 + 1 ≤ ((rE (g 2 q) - rS (g 2 q)) + 1); omega), (by show 0 + 6 ≤ (6 * (rE (g 2 q) - rS (g 2 q)) + 6); omega)⟩ ⟨(by show 7 + 1 ≤ (5 * n + 46); omega), (by show 8 + (4 + 11) + 122 ≤ (200 * n + 1120); omega)⟩ (fun v9 u7 H locs hw8 hP hD hS => ?_) (fun ux ce9 q9 H9 locs9 hux hP9 hD9 hS9 hce hcv hcl => pb_out ux (ThQ.up (Thx.same (Thx.same (Thx.same (Thx.same (Thx.same Thx.rfl rfl) rfl) rfl) rfl) rfl) RhX.rfl hux) hnt hlocks hce hcv hcl hP9 hD9 hS9 (by show 0 + 1 ≤ ((rE (g 2 q) - rS (g 2 q)) + 1); omega) (by show 0 + 6 ≤ (6 * (rE (g 2 q) - rS (g 2 q)) + 6); omega))
  obtain ⟨w, dp12, as13, f14⟩ := u7
  obtain ⟨hw8, h15, h16, h17, h18, hO⟩ := hw8
  have h15 : vr + 1 ≤ 30 := h15
  have h16 : dp12 ≤ 1000 := h16
  have h17 : dp ≤ dp12 ∧ hd + 1 ≤ dp12 ∧ (dp12 = dp ∨ dp12 = hd + 1) := h17
  have h18 : AsO as13 ∧ (as13 = -1 ↔ as9 = -1) := h18
  obtain rfl : v9 = some (.int (nI vr)) := hw8
  have hO : OKP G h0 a (upd (upd (upd (upd (upd (upd (upd (upd F 2 (nI sz)) 5 (nI cs)) 6 (nI rg)) 7 (nI (hd + 1))) 8 (nI dp12)) 12 (nI (vr + 1))) 13 as13) 16 ls9) (updR (updR (updR R 2 (.ref pq)) 3 (.ref mq)) 4 (va_rf lp9)) Z (updA (updA (updA B 25 f14) 26 (upd ((B 26)) vr (nI t9))) 27 (upd ((B 27)) vr (nI hd))) J K w := hO.to rfl
  refine W.widen (k := 0) (n := 0) (by show 0 + 0 ≤ 0; omega) (by show 0 + 0 ≤ 0; omega) ?_
  refine W.eq (g2 := F0 m 32 ls [.int (nI vr)]) rfl ?_
  have henD := EnV.add hen hvt9
  rw [htc9] at henD
  have hvsD : VrS B (updA (updA (updA B 25 f14) 26 (upd ((B 26)) vr (nI t9))) 27 (upd ((B 27)) vr (nI hd))) vr := fun i9 hi9 => ⟨if_neg (by omega), if_neg (by omega)⟩
  refine lv_istore (lv' := [(4, .int (nI vr)), (3, .int (nI hd)), (2, .int (nI vr)), (0, .ref (a 4)), (1, .ref q)]) hx hb dX0_catchBlock_32 hl (by decide) rfl (fun ls hl => ?_)
  refine lv_aload_n hx hb dX0_catchBlock_34 rfl (lv_at hl 3 rfl) ?_
  refine lv_dup hx hb dX0_catchBlock_35 rfl ?_
  refine c_get (v := .int as13) (C := RX0) (Tc := TX0) (N := 13) (ci := 0) hx hb hq pin_wsX00 hown hE hP hO 24 (sg_24 G h0 a _ _ _ _ _) rfl 8 (by decide) (hq _ pw_55) (fun _ h9 => h9) rfl dX0_catchBlock_36 ?_
  refine lv_iconst (v := 1) hx hb dX0_catchBlock_39 (by decide) ?_
  refine lv_iload hx hb dX0_catchBlock_40 (lv_at hl 0 rfl) ?_
  refine lv_ishl hx hb dX0_catchBlock_42 ?_
  refine lv_topi (fun x19 e20 => ?_)
  obtain rfl : x19 = ((1 : Int32) <<< (nI vr)) := e20.trans (congrArg (fun z9 => (1 : Int32) <<< z9) (nI_and31 _ (by omega)))
  refine lv_ior hx hb dX0_catchBlock_43 ?_
  refine lv_topi (fun x21 e22 => ?_)
  obtain rfl : x21 = (as13 ||| ((1 : Int32) <<< (nI vr))) := e22
  refine c_put (v := .int (as13 ||| ((1 : Int32) <<< (nI vr)))) (ty := .int) (C := RX0) (Tc := TX0) (N := 13) (ci := 0) hx hb hq pin_wsX00 tyX0 tyX0_ok nmX0 hown hE hP hD hS hO 24 (sg_24 G h0 a _ _ _ _ _) rfl 8 (by decide) (hq _ pw_55) (fun _ h9 => h9) rfl (by decide +kernel) rfl rfl (Nat.le_of_ble_eq_true rfl) (sf_13 G h0 a _ _ _ _ _ (as13 ||| ((1 : Int32) <<< (nI vr)))) dX0_catchBlock_44 (fun H locs w hP hD hS hO => ?_)
  refine lv_aload_n hx hb dX0_catchBlock_47 rfl (lv_at hl 3 rfl) ?_
  refine lv_aload_n hx hb dX0_catchBlock_48 rfl (lv_at hl 4 rfl) ?_
  refine p_get (v := .ref q1) (C := RX7) (Tc := TX7) (N := 11) (ci := 13) hx hb hq pin_wsX70 hown hE hP hO (by rw [hqT]; decide) (rep_1 hqT) rfl 6 (by decide) (hq _ pw_180) (fun _ h9 => h9) (congrArg (fun z => some (va_rf z)) hc0) dX0_catchBlock_49 ?_
  have hbiD := AsO.bit (v := vr) h18.1 (by omega)
  obtain ⟨A9, hA9⟩ : ∃ A5 : Nat → AS, A5 = (upS Ag cs (rcA (as13 ||| ((1 : Int32) <<< (nI vr))), hd + 1, upM sl hd t9, ([] : List Nat))) := ⟨_, rfl⟩
  have hemC : EmS pb.1 pb.2.1 pb.2.2.1 pb.2.2.2 (B 16) (B 17) (B 18) (B 19) A9 pd m9 dp12 lw cs (as13 ||| ((1 : Int32) <<< (nI vr))) (hd + 1) (upM sl hd t9) ([] : List Nat) := by rw [hA9]; exact EmS.re hem (by omega) (WfA.more hwf0 (by omega)) (by omega)
  have hstC : StW pb.1 pb.2.1 pb.2.2.1 pb.2.2.2 A9 A9 Q9 Q9 pd pd m9 dp12 lw cs cs (as13 ||| ((1 : Int32) <<< (nI vr))) (as13 ||| ((1 : Int32) <<< (nI vr))) (hd + 1) (hd + 1) (upM sl hd t9) (upM sl hd t9) gr gr (B 16) (B 17) (B 18) (B 19) ([] : List Nat) := StW.nil hemC
  have hlp23 : LpS K (B 16) (B 17) A9 pd lp9 lw cs (hd + 1) (upM sl hd t9) hdL slL xb xc := LpS.same hlp (fun _ _ _ _ _ => rfl) (fun z9 hz9 => ⟨rfl, rfl, by rw [hA9]; exact upS_ne (by omega)⟩) (fun _ h9 => h9) hlp.1 (Nat.le_refl _) ⟨by omega, upM_lo⟩
  have hrq24 : RgQx (updA (updA (updA B 25 f14) 26 (upd ((B 26)) vr (nI t9))) 27 (upd ((B 27)) vr (nI hd))) Q9 gr nd := RgQx.rows hrq (fun i9 h1 h2 => by rcases (show i9 = 20 ∨ i9 = 21 ∨ i9 = 22 ∨ i9 = 23 ∨ i9 = 24 by omega) with e9 | e9 | e9 | e9 | e9 <;> subst e9 <;> rfl)
  have hrLC : ¬ (as13 ||| ((1 : Int32) <<< (nI vr))) = -1 → rL := fun z9 => hrL (fun e9 => z9 (hbiD.2.mpr (h18.2.mpr e9)))
  have htl25 : tlE g q1 = rE (g 2 q1) - rS (g 2 q1) := rfl
  have hO : OKP G h0 a (upd (upd (upd (upd (upd (upd (upd (upd (upd (upd (upd (upd (upd (upd (upd (upd (upd (upd (upd (upd F 2 (nI sz)) 5 (nI cs)) 6 (nI rg)) 7 (nI hd)) 8 (nI dp)) 12 (nI vr)) 13 as9) 16 ls9) 7 (nI (hd + 1))) 8 (nI dp12)) 12 (nI (vr + 1))) 13 (as13 ||| ((1 : Int32) <<< (nI vr)))) 2 (nI sz)) 5 (nI cs)) 6 (nI rg)) 7 (nI (hd + 1))) 8 (nI dp12)) 12 (nI (vr + 1))) 13 (as13 ||| ((1 : Int32) <<< (nI vr)))) 16 ls9) (updR (updR (updR (updR (updR (updR R 2 (.ref pq)) 3 (.ref mq)) 4 (va_rf lp9)) 2 (.ref pq)) 3 (.ref mq)) 4 (va_rf lp9)) Z (updA (updA (updA B 25 f14) 26 (upd ((B 26)) vr (nI t9))) 27 (upd ((B 27)) vr (nI hd))) J K w := hO.to rfl
  obtain ⟨_, qr29, hqr30⟩ := hO.2.1 24 _ (sg_24 G h0 a _ _ _ _ _)
  refine pn_V0 (G := G) (As := [.ref q1]) (rest := []) hx hb hml hown hq hE hX pX0_al hP hD hS hA hl.1 (Y_block l G h0 a (upd (upd (upd (upd (upd (upd (upd (upd (upd (upd (upd (upd F 2 (nI sz)) 5 (nI cs)) 6 (nI rg)) 7 (nI hd)) 8 (nI dp)) 12 (nI vr)) 13 as9) 16 ls9) 7 (nI (hd + 1))) 8 (nI dp12)) 12 (nI (vr + 1))) 13 (as13 ||| ((1 : Int32) <<< (nI vr)))) (updR (updR (updR R 2 (.ref pq)) 3 (.ref mq)) 4 (va_rf lp9)) Z (updA (updA (updA B 25 f14) 26 (upd ((B 26)) vr (nI t9))) 27 (upd ((B 27)) vr (nI hd))) J K w pq dr ml nd nm cp it s9 q1 mq cs (vr + 1) sz (n - 1) (hd + 1) dp12 rg ls9 lp9 g rk pb A9 Q9 pd (upM sl hd t9) m9 lw c0 rt gr (as13 ||| ((1 : Int32) <<< (nI vr))) hdL slL xb xc rL (by omega) (BdE.wp BdE.rfl hwp) (BdE.pt BdE.rfl hwp hps) (BdE.rko BdE.rfl hrk) (by omega) (by omega) hng hmq ht0 ⟨hv0.1, (by have z9 := hv0; omega)⟩ hrt hrv (by omega) (by omega) (by omega) (LpO.be BdE.rfl hlo) (EkA.be BdE.rfl ((BtR.up (BtR.up (BtR.up BtR.rfl (by omega)) (by omega)) (by omega)) 7 (by decide)) ((BtR.up (BtR.up (BtR.up BtR.rfl (by omega)) (by omega)) (by omega)) 11 (by decide)) hek) (OwC.be BdE.rfl hmq hdr0 hcO) (NaB.be BdE.rfl BeF.rfl hwp hps.2.1 hdr0 ((BtR.up (BtR.up (BtR.up BtR.rfl (by omega)) (by omega)) (by omega)) 11 (by decide)) hna) henD hbiD.1 hstC.1 (by omega) (by omega) (by omega) (SkA.be BdE.rfl ((BtR.up (BtR.up (BtR.up BtR.rfl (by omega)) (by omega)) (by omega)) 11 (by decide)) hsk) hlp23 hrq24 hrLC hlr hk1 (IhZ.lo ist) hO hl0) (gV pw_307 pw_308 pw_309 pw_63 pw_358) hV_X0_block qr29 0 hqr30 rfl rfl rfl (Nat.le_of_ble_eq_true rfl) dX0_catchBlock_52 ⟨(by show 0 + ((rE (g 2 q1) - rS (g 2 q1) - 2) + 1) ≤ ((rE (g 2 q) - rS (g 2 q)) + 1); omega), (by show 0 + (6 * (rE (g 2 q1) - rS (g 2 q1) - 2) + 6) ≤ (6 * (rE (g 2 q) - rS (g 2 q)) + 6); omega)⟩ ⟨(by show (5 * (n - 1) + 46) + 1 ≤ (5 * n + 46); omega), (by show 8 + (5 + 11) + (200 * (n - 1) + 1120) ≤ (200 * n + 1120); omega)⟩ (fun v28 u26 H locs hw27 hP hD hS => ?_) (fun ux ce9 q9 H9 locs9 hux hP9 hD9 hS9 hce hcv hcl => pb_out ux (ThQ.up (Thx.same (Thx.same (Thx.same (Thx.same (Thx.same (Thx.same (Thx.same (Thx.same (Thx.b (Thx.b (Thx.b (Thx.f (Thx.f (Thx.f (Thx.f Thx.rfl (by omega)) (by omega)) (by omega)) (by omega)) (by omega) (by decide)) (by omega) (by decide)) (by omega) (by decide)) rfl) rfl) rfl) rfl) rfl) rfl) rfl) rfl) (show RhX (updR (updR (updR R 2 (.ref pq)) 3 (.ref mq)) 4 (va_rf lp9)) (updR (updR (updR (updR (updR (updR R 2 (.ref pq)) 3 (.ref mq)) 4 (va_rf lp9)) 2 (.ref pq)) 3 (.ref mq)) 4 (va_rf lp9)) from fun k9 hk9 => by unfold updR; simp only [show ¬ k9 = 1 by omega, show ¬ k9 = 2 by omega, show ¬ k9 = 3 by omega, show ¬ k9 = 4 by omega, if_false]) hux) hnt hlocks hce hcv hcl hP9 hD9 hS9 (by show 0 + ((rE (g 2 q1) - rS (g 2 q1) - 2) + 1) ≤ ((rE (g 2 q) - rS (g 2 q)) + 1); omega) (by show 0 + (6 * (rE (g 2 q1) - rS (g 2 q1) - 2) + 6) ≤ (6 * (rE (g 2 q) - rS (g 2 q)) + 6); omega))
  obtain ⟨w, K31, B32, cs33, as34, wt35, wf36, dp37, Ag38, rg39, gr40, ls41, Q42, pd43, xb44, xc45⟩ := u26
  obtain ⟨hw27, h46, h47, h48, h49, h50, h51, h52, h53, h54, h55, h56, h57, h58, h59, h60, h61, h62, hO⟩ := hw27
  have h46 : SmW (updA (updA (updA B 25 f14) 26 (upd ((B 26)) vr (nI t9))) 27 (upd ((B 27)) vr (nI hd))) B32 cs := h46
  have h47 : BdE K K31 := h47
  have h48 : BeF K K31 := h48
  have h49 : BeL K K31 lp9 := h49
  have h50 : Bth (updA (updA (updA B 25 f14) 26 (upd ((B 26)) vr (nI t9))) 27 (upd ((B 27)) vr (nI hd))) B32 := h50
  have h51 : BtR (updA (updA (updA B 25 f14) 26 (upd ((B 26)) vr (nI t9))) 27 (upd ((B 27)) vr (nI hd))) B32 := h51
  have h52 : cs ≤ cs33 ∧ cs33 + 4 ≤ cs + 2 * tlE g q1 := h52
  have h53 : dp12 ≤ dp37 ∧ dp37 ≤ 71 := h53
  have h54 : AsO as34 := h54
  have h55 : VrS (updA (updA (updA B 25 f14) 26 (upd ((B 26)) vr (nI t9))) 27 (upd ((B 27)) vr (nI hd))) B32 (vr + 1) := h55
  have h56 : gr ≤ gr40 ∧ rg39 ≤ 625 ∧ rg39 ≤ gr40 ∧ (rg39 = 625 ∨ rg39 = gr40) := h56
  have h57 : EnV (B32 26) (B32 27) nd (vr + 1) (hd + 1) c0 (upM sl hd t9) := h57
  have h58 : StW pb.1 pb.2.1 pb.2.2.1 pb.2.2.2 A9 Ag38 Q9 Q42 pd pd43 m9 dp37 lw cs cs33 (as13 ||| ((1 : Int32) <<< (nI vr))) as34 (hd + 1) (hd + 1) (upM sl hd t9) (upM sl hd t9) gr gr40 (B32 16) (B32 17) (B32 18) (B32 19) [] := h58
  have h59 : LpS K31 (B32 16) (B32 17) Ag38 pd43 lp9 lw cs33 (hd + 1) (upM sl hd t9) hdL slL xb44 xc45 := h59
  have h60 : PdS pd pd43 xb xb44 xc xc45 [] cs cs33 := h60
  have h61 : RgQx B32 Q42 gr40 nd := h61
  have h62 : LpR K31 lp9 rL := h62
  obtain rfl : v28 = none := hw27
  have hf63 : K31.1 pq = 7 := (BdE.T h47 hp1 (by decide))
  have hf64 : K31.2.2.1 18 pq = some (a 1) := (BdE.C h47 (by rw [hp1]; decide) 18).trans hp2
  have hf65 : K31.2.2.1 14 pq = some dr := (BdE.C h47 (by rw [hp1]; decide) 14).trans hp3
  have hf66 : K31.1 dr = 8 := (BdE.T h47 hp4 (by decide))
  have hf67 : K31.2.2.1 15 pq = some ml := (BdE.C h47 (by rw [hp1]; decide) 15).trans hp5
  have hf68 : K31.1 ml = 5 := (BdE.T h47 hp6 (by decide))
  have hf69 : K31.2.1 24 pq = (nI nd) := (BdE.I h47 (by rw [hp1]; decide) (by decide) (by decide)).trans hp8
  have hf70 : K31.1 q = 1 := (BdE.T h47 hqT (by decide))
  have hf71 : K31.1 mq = 3 := (BdE.T h47 hmq (by decide))
  have hf72 : K31.2.1 10 mq = (nI rt) := (BdE.I h47 (by rw [hmq]; decide) (by decide) (by decide)).trans hrt
  have hf73 : K31.2.2.1 0 q = some q1 := (BdE.C h47 (by rw [hqT]; decide) 0).trans hc0
  have hf74 : K31.1 q1 = 1 := (BdE.T h47 ht0 (by decide))
  have hf75 : K31.2.1 0 q1 = 21 := (BdE.I h47 (by rw [ht0]; decide) (by decide) (by decide)).trans hk1
  have hO : OKP G h0 a (upd (upd (upd (upd (upd (upd (upd (upd (upd (upd F 2 (nI sz)) 5 (nI cs33)) 6 (nI rg39)) 7 (nI (hd + 1))) 8 (nI dp37)) 12 (nI (vr + 1))) 13 as34) 14 wt35) 15 wf36) 16 ls41) (updR (updR (updR R 2 (.ref pq)) 3 (.ref mq)) 4 (va_rf lp9)) Z B32 J K31 w := hO.to rfl
  refine W.widen (k := (rE (g 2 q1) - rS (g 2 q1) - 2)) (n := (6 * (rE (g 2 q1) - rS (g 2 q1) - 2))) (by show 0 + (rE (g 2 q1) - rS (g 2 q1) - 2) ≤ (rE (g 2 q1) - rS (g 2 q1) - 2); omega) (by show 0 + (6 * (rE (g 2 q1) - rS (g 2 q1) - 2)) ≤ (6 * (rE (g 2 q1) - rS (g 2 q1) - 2)); omega) ?_
  refine W.eq (g2 := F0 m 55 ls []) rfl ?_
  have hbe76 := BdE.trans BdE.rfl h47
  have hbb77 : Bth B B32 := Bth.trans (show Thx (upd (upd (upd (upd (upd (upd (upd (upd F 2 (nI sz)) 5 (nI cs)) 6 (nI rg)) 7 (nI hd)) 8 (nI dp)) 12 (nI vr)) 13 as9) 16 ls9) (upd (upd (upd (upd (upd (upd (upd (upd (upd (upd (upd (upd F 2 (nI sz)) 5 (nI cs)) 6 (nI rg)) 7 (nI hd)) 8 (nI dp)) 12 (nI vr)) 13 as9) 16 ls9) 7 (nI (hd + 1))) 8 (nI dp12)) 12 (nI (vr + 1))) 13 (as13 ||| ((1 : Int32) <<< (nI vr)))) B (updA (updA (updA B 25 f14) 26 (upd ((B 26)) vr (nI t9))) 27 (upd ((B 27)) vr (nI hd))) from (Thx.b (Thx.b (Thx.b (Thx.f (Thx.f (Thx.f (Thx.f Thx.rfl (by omega)) (by omega)) (by omega)) (by omega)) (by omega) (by decide)) (by omega) (by decide)) (by omega) (by decide))).2 h50
  have hng78 : Nng (B32 18) := h50.2 hng
  have hsw79 : ∀ x9 : Nat, x9 < cs → (B32 16) x9 = B 16 x9 := fun x9 hx9 => ((h46 x9 (by omega)).1).trans ((fun _ _ => rfl) x9 hx9)
  have hsw80 : ∀ x9 : Nat, x9 < cs → (B32 17) x9 = B 17 x9 := fun x9 hx9 => ((h46 x9 (by omega)).2.1).trans ((fun _ _ => rfl) x9 hx9)
  have hsw81 : ∀ x9 : Nat, x9 < cs → (B32 18) x9 = B 18 x9 := fun x9 hx9 => ((h46 x9 (by omega)).2.2.1).trans ((fun _ _ => rfl) x9 hx9)
  have hsw82 : ∀ x9 : Nat, x9 < cs → (B32 19) x9 = B 19 x9 := fun x9 hx9 => ((h46 x9 (by omega)).2.2.2).trans ((fun _ _ => rfl) x9 hx9)
  have hbf83 := BeF.trans BeF.rfl h48 BdE.rfl
  have hbl85 : BeL K K31 lp9 := BeL.trans BeL.rfl h49 BdE.rfl
  have hbr84 : BtR B B32 := BtR.trans (BtR.up (BtR.up (BtR.up BtR.rfl (by omega)) (by omega)) (by omega)) h51
  have hvs86 : VrS B B32 vr := VrS.trans hvsD h55 (by omega)
  have hst87 : StW pb.1 pb.2.1 pb.2.2.1 pb.2.2.2 A9 Ag38 Q9 Q42 pd pd43 m9 dp37 lw cs cs33 (as13 ||| ((1 : Int32) <<< (nI vr))) as34 (hd + 1) (hd + 1) (upM sl hd t9) (upM sl hd t9) gr gr40 (B32 16) (B32 17) (B32 18) (B32 19) ([] : List Nat) := StW.seq hstC (by omega) (fun x9 hx9 => ⟨(h46 x9 hx9).1, (h46 x9 hx9).2.1⟩) h58
  have hsn88 := hst87.1.2.2.2.1
  have hpd89 : PdS pd pd43 xb xb44 xc xc45 ([] : List Nat) cs cs33 := PdS.call (PdS.rfl (cs1 := cs)) h60 (by omega) (by omega)
  refine lv_aload_n hx hb dX0_catchBlock_55 rfl (lv_at hl 3 rfl) ?_
  refine lv_iload_n hx hb dX0_catchBlock_56 rfl (lv_at hl 2 rfl) ?_
  refine lv_iload_n hx hb dX0_catchBlock_57 rfl (lv_at hl 1 rfl) ?_
  have hO : OKW G h0 a (upd (upd (upd (upd (upd (upd (upd (upd (upd (upd F 2 (nI sz)) 5 (nI cs33)) 6 (nI rg39)) 7 (nI (hd + 1))) 8 (nI dp37)) 12 (nI (vr + 1))) 13 as34) 14 wt35) 15 wf36) 16 ls41) (updR (updR (updR R 2 (.ref pq)) 3 (.ref mq)) 4 (va_rf lp9)) Z B32 J K31.1 (fun q99 x99 => x99 = rep G a K31 q99) w := hO.to rfl
  obtain ⟨_, qr93, hqr94⟩ := hO.2.1 24 _ (sg_24 G h0 a _ _ _ _ _)
  refine pc_V0 (G := G) (As := [.int (nI vr), .int (nI hd)]) (rest := []) hx hb hml hown hq hE hX pX0_al hP hD hS hA hl.1 (B_endScope l G h0 a (upd (upd (upd (upd (upd (upd (upd (upd (upd (upd F 2 (nI sz)) 5 (nI cs33)) 6 (nI rg39)) 7 (nI (hd + 1))) 8 (nI dp37)) 12 (nI (vr + 1))) 13 as34) 14 wt35) 15 wf36) 16 ls41) (updR (updR (updR R 2 (.ref pq)) 3 (.ref mq)) 4 (va_rf lp9)) Z B32 J K31.1 (fun q99 x99 => x99 = rep G a K31 q99) w (nI vr) (nI hd) hO) (gV pw_303 pw_304 pw_305 pw_63 pw_99) hV_X0_endScope qr93 0 hqr94 rfl rfl rfl (Nat.le_of_ble_eq_true rfl) dX0_catchBlock_58 ⟨(by show (rE (g 2 q1) - rS (g 2 q1) - 2) + 0 ≤ ((rE (g 2 q) - rS (g 2 q)) + 1); omega), (by show (6 * (rE (g 2 q1) - rS (g 2 q1) - 2)) + 0 ≤ (6 * (rE (g 2 q) - rS (g 2 q)) + 6); omega)⟩ ⟨(by show 2 + 1 ≤ (5 * n + 46); omega), (by show 8 + (3 + 11) + 60 ≤ (200 * n + 1120); omega)⟩ (fun v92 u90 H locs hw91 hP hD hS => ?_)
  obtain ⟨w, _⟩ := u90
  obtain ⟨hw91, hO⟩ := hw91
  obtain rfl : v92 = none := hw91
  have hO : OKP G h0 a (upd (upd (upd (upd (upd (upd (upd (upd (upd (upd F 2 (nI sz)) 5 (nI cs33)) 6 (nI rg39)) 7 (nI hd)) 8 (nI dp37)) 12 (nI vr)) 13 as34) 14 wt35) 15 wf36) 16 ls41) (updR (updR (updR R 2 (.ref pq)) 3 (.ref mq)) 4 (va_rf lp9)) Z B32 J K31 w := hO.to rfl
  refine W.widen (k := (rE (g 2 q1) - rS (g 2 q1) - 2)) (n := (6 * (rE (g 2 q1) - rS (g 2 q1) - 2))) (by show (rE (g 2 q1) - rS (g 2 q1) - 2) + 0 ≤ (rE (g 2 q1) - rS (g 2 q1) - 2); omega) (by show (6 * (rE (g 2 q1) - rS (g 2 q1) - 2)) + 0 ≤ (6 * (rE (g 2 q1) - rS (g 2 q1) - 2)); omega) ?_
  refine W.eq (g2 := F0 m 61 ls []) rfl ?_
  obtain ⟨A8, hcaw, hagC⟩ : ∃ A3 : Nat → AS, CaW pb.1 pb.2.1 pb.2.2.1 pb.2.2.2 Ag A3 Q9 Q42 pd pd43 m9 dp37 lw cs cs33 as9 as34 hd sl t9 gr gr40 (B32 16) (B32 17) (B32 18) (B32 19) ∧ ∀ z : Nat, z < cs33 → A3 z = Ag38 z := StW.caw (by rw [hA9] at hst87; exact hst87) (hbiD.2.trans h18.2) (WfA.low9 hwf0) (by omega)
  have hlp95 : LpS K31 (B32 16) (B32 17) A8 pd43 lp9 lw cs33 hd sl hdL slL xb44 xc45 := LpS.same (LpS.to h59 hlp) (fun _ _ _ _ _ => rfl) (fun z9 hz9 => ⟨rfl, rfl, hagC z9 hz9⟩) (fun _ h9 => h9) h59.1 (Nat.le_refl _) ⟨Nat.le_refl _, fun _ _ => rfl⟩
  have hen96 : EnV (B32 26) (B32 27) nd vr hd c0 sl := EnV.back hen hvs86
  refine W_size (fun hz1 hz2 => ?_)
  refine vx_ret ?_
  have hz97 : SmW B B32 cs := (fun x9 hx9 => ⟨hsw79 x9 hx9, hsw80 x9 hx9, hsw81 x9 hx9, hsw82 x9 hx9⟩)
  have hz98 : BdE K K31 := hbe76
  have hz99 : BeF K K31 := hbf83
  have hz100 : BeL K K31 lp9 := hbl85
  have hz101 : Bth B B32 := (show Thx (upd (upd (upd (upd (upd (upd (upd (upd F 2 (nI sz)) 5 (nI cs)) 6 (nI rg)) 7 (nI hd)) 8 (nI dp)) 12 (nI vr)) 13 as9) 16 ls9) (upd (upd (upd (upd (upd (upd (upd (upd (upd (upd (upd (upd (upd (upd (upd F 2 (nI sz)) 5 (nI cs)) 6 (nI rg)) 7 (nI hd)) 8 (nI dp)) 12 (nI vr)) 13 as9) 16 ls9) 5 (nI cs33)) 6 (nI rg39)) 8 (nI dp37)) 13 as34) 14 wt35) 15 wf36) 16 ls41) B B32 from (Thx.f (Thx.f (Thx.f (Thx.f (Thx.f (Thx.f (Thx.f (Bth.thx hbb77) (by omega)) (by omega)) (by omega)) (by omega)) (by omega)) (by omega)) (by omega))).2
  have hz102 : BtR B B32 := hbr84
  have hz103 : cs ≤ cs33 ∧ cs33 + 10 ≤ cs + 2 * tlE g q := (by omega)
  have hz104 : dp ≤ dp37 ∧ dp37 ≤ 71 := (by omega)
  have hz105 : AsO as34 := h54
  have hz106 : VrS B B32 vr := hvs86
  have hz107 : gr ≤ gr40 ∧ rg39 ≤ 625 ∧ rg39 ≤ gr40 ∧ (rg39 = 625 ∨ rg39 = gr40) := (by omega)
  have hz108 : EnV (B32 26) (B32 27) nd vr hd c0 sl := hen96
  have hz109 : CaW pb.1 pb.2.1 pb.2.2.1 pb.2.2.2 Ag A8 Q9 Q42 pd pd43 m9 dp37 lw cs cs33 as9 as34 hd sl t9 gr gr40 (B32 16) (B32 17) (B32 18) (B32 19) := hcaw
  have hz110 : LpS K31 (B32 16) (B32 17) A8 pd43 lp9 lw cs33 hd sl hdL slL xb44 xc45 := hlp95
  have hz111 : PdS pd pd43 xb xb44 xc xc45 [] cs cs33 := hpd89
  have hz112 : RgQx B32 Q42 gr40 nd := h61
  have hz113 : LpR K31 lp9 rL := h62
  have hO : OKP G h0 a (upd (upd (upd (upd (upd (upd (upd (upd (upd (upd F 2 (nI sz)) 5 (nI cs33)) 6 (nI rg39)) 7 (nI hd)) 8 (nI dp37)) 12 (nI vr)) 13 as34) 14 wt35) 15 wf36) 16 ls41) (updR (updR (updR R 2 (.ref pq)) 3 (.ref mq)) 4 (va_rf lp9)) Z B32 J K31 w := hO.to rfl
  refine W.widen (k := ((rE (g 2 q) - rS (g 2 q)) + 1)) (n := (6 * (rE (g 2 q) - rS (g 2 q)) + 6)) (by omega) (by omega) ?_
  have hzz1 : H.size ≤ s.heap.size + ((rE (g 2 q) - rS (g 2 q))) := (by have z : (rE (g 2 q1) - rS (g 2 q1) - 2) ≤ (rE (g 2 q) - rS (g 2 q)) := (by omega); omega)
  have hzz2 : hSl H ≤ hSl s.heap + ((6 * (rE (g 2 q) - rS (g 2 q)))) := (by have z : (6 * (rE (g 2 q1) - rS (g 2 q1) - 2)) ≤ (6 * (rE (g 2 q) - rS (g 2 q))) := (by omega); omega)
  exact W.vret hx hb hr (fun t99 ht99 hW99 => ⟨⟨_, (w, (K31, B32, cs33, as34, wt35, wf36, dp37, A8, rg39, gr40, ls41, Q42, pd43, xb44, xc45)), rfl, ⟨rfl, hz97, hz98, hz99, hz100, hz101, hz102, hz103, hz104, hz105, hz106, hz107, hz108, hz109, hz110, hz111, hz112, hz113, hO⟩, by rw [ht99]; exact hP, hD, by rw [ht99]; exact hzz1, by rw [ht99]; exact hzz2⟩, hS.F ht99⟩) hS.2.2 dX0_catchBlock_61
set_option maxHeartbeats 60000000 in
set_option maxRecDepth 100000 in
theorem Y_last (l : Launch) (G : pT) (h0 : Nat) (a : Nat → Nat) (F : Nat → Int32) (R : Nat → Value) (Z : Int64) (B : Nat → Nat → Int32) (J : Nat → Nat → Int64) (K : PK) (w : va_W) (pq : Nat) (dr : Nat) (ml : Nat) (nd : Nat) (nm : Nat) (cp : Nat) (it : Nat → Nat) (s9 : Nat) (q : Nat) (mq : Nat) (cs : Nat) (vr : Nat) (sz : Nat) (n : Nat) (hdX : Nat) (slX : Nat → Nat) (osX : List Nat) (pdX : Nat → Prop) (xs : List Nat) (Lx : Nat → Int32) (st9 : Int32) (hd : Nat) (dp : Nat) (rg : Nat) (ls9 : Int32) (lp9 : Option Nat) (g : Nat → Nat → Nat) (rk : Nat → Nat) (pb : PNb) (Ag : Nat → AS) (Q9 : RX) (sl : Nat → Nat) (m9 : Nat) (lw : Nat) (c0 : Nat) (rt : Nat) (gr : Nat) (as9 : Int32) (hdL : Nat) (slL : Nat → Nat) (xb : List Nat) (xc : List Nat) (rL : Prop) (hsz : sz ≤ 5000) (hwp : WPr G K g) (hps : PgT G K g (a 1) pq dr ml nd nm cp it s9) (hrk : RkO K rk) (hcs : cs ≤ 10000) (hvr : vr ≤ 30) (hng : Nng (B 18)) (hmq : K.1 mq = 3) (hqT : K.1 q = 1) (hqL : 1 ≤ g 0 q ∧ g 0 q ≤ n) (hrt : K.2.1 10 mq = nI rt) (hrv : TyV nd rt ∧ (bX pb).2.2.2.2.1 m9 = rt) (hdp : dp ≤ 71) (hrg : rg ≤ 625) (hhd : hd ≤ 41 + vr) (hlo : LpO K lp9) (hek : EkA pb K g (B 7) (B 11) sz) (hcO : OwC K dr mq c0) (hna : NaB pb G K (B 11) dr nd sz) (hen : EnV (B 26) (B 27) nd vr hd c0 sl) (hao : AsO as9) (hem : EmS pb.1 pb.2.1 pb.2.2.1 pb.2.2.2 (B 16) Lx (B 18) (B 19) Ag pdX m9 dp lw cs (-1) hdX slX osX) (hLx : B 17 = aim Lx xs cs) (hpx : ∀ z : Nat, z ∈ xs → pdX z) (hent : EntJ (B 16) (B 18) Ag xs lw cs hd sl st9) (hbst : ¬ st9 = -1 → ¬ as9 = -1) (hwf0 : WfA (1, hd, sl, [])) (hlo9 : lw ≤ cs) (hrm : cs + 2 * tlE g q ≤ 9999) (hgr : rg ≤ 625 ∧ rg ≤ gr ∧ (rg = 625 ∨ rg = gr)) (hns : hd + 2 + ndE g q ≤ 41 + vr) (hsk : SkA K g (B 11) sz nd) (hlp : LpS K (B 16) (B 17) Ag (pdm pdX xs) lp9 lw cs hd sl hdL slL xb xc) (hrq : RgQx B Q9 gr nd) (hrL : ¬ as9 = -1 → rL) (hlr : LpR K lp9 rL) (hkd : K.2.1 0 q = 21) (ist : IhZ l G n) (hO : OKP G h0 a (upd (upd (upd (upd (upd (upd (upd (upd F 2 (nI sz)) 5 (nI cs)) 6 (nI rg)) 7 (nI hd)) 8 (nI dp)) 12 (nI vr)) 13 as9) 16 ls9) (updR (updR (updR R 2 (.ref pq)) 3 (.ref mq)) 4 (va_rf lp9)) Z B J K w) (hl0 : l.stackTraces = false) : PBn l G pX0 yX0_last cX0_last 3 none ({ frames := (5 * n + 48), cells := ((rE (g 2 q) - rS (g 2 q) - 2) + 1), slots := (6 * (rE (g 2 q) - rS (g 2 q) - 2) + 6), locals := (200 * n + 1160) }) [.ref (a 4), .ref q, .int (nI hd)] w (fun (v : Option Value) (u : va_W × (PK × (Nat → Nat → Int32) × Nat × Int32 × Int32 × Int32 × Nat × (Nat → AS) × Nat × Nat × Int32 × RX × (Nat → Prop) × List Nat × List Nat × Nat × (Nat → Int32) × (Nat → Int32) × (Nat → Int32) × (Nat → Int32))) => v = none ∧ (SmW B u.2.2.1 cs) ∧ (BdE K u.2.1) ∧ (BeF K u.2.1) ∧ (BeL K u.2.1 lp9) ∧ (Bth B u.2.2.1) ∧ (BtR B u.2.2.1) ∧ (cs ≤ u.2.2.2.1 ∧ u.2.2.2.1 + 3 ≤ cs + 2 * tlE g q) ∧ (dp ≤ u.2.2.2.2.2.2.2.1 ∧ u.2.2.2.2.2.2.2.1 ≤ 71) ∧ (AsO u.2.2.2.2.1) ∧ (VrS B u.2.2.1 vr) ∧ (gr ≤ u.2.2.2.2.2.2.2.2.2.2.1 ∧ u.2.2.2.2.2.2.2.2.2.1 ≤ 625 ∧ u.2.2.2.2.2.2.2.2.2.1 ≤ u.2.2.2.2.2.2.2.2.2.2.1 ∧ (u.2.2.2.2.2.2.2.2.2.1 = 625 ∨ u.2.2.2.2.2.2.2.2.2.1 = u.2.2.2.2.2.2.2.2.2.2.1)) ∧ (EnV (u.2.2.1 26) (u.2.2.1 27) nd vr hd c0 sl) ∧ (StW pb.1 pb.2.1 pb.2.2.1 pb.2.2.2 (upS Ag cs (rcA as9, hd + 2, (slQ sl hd cs (f9Q st9)), [])) u.2.2.2.2.2.2.2.2.1 Q9 u.2.2.2.2.2.2.2.2.2.2.2.2.1 (pdm pdX xs) u.2.2.2.2.2.2.2.2.2.2.2.2.2.1 m9 u.2.2.2.2.2.2.2.1 lw cs u.2.2.2.2.2.2.2.2.2.2.2.2.2.2.2.2.1 as9 u.2.2.2.2.1 (hd + 2) (hd + 2) (slQ sl hd cs (f9Q st9)) (slQ sl hd cs (f9Q st9)) gr u.2.2.2.2.2.2.2.2.2.2.1 u.2.2.2.2.2.2.2.2.2.2.2.2.2.2.2.2.2.1 u.2.2.2.2.2.2.2.2.2.2.2.2.2.2.2.2.2.2.1 u.2.2.2.2.2.2.2.2.2.2.2.2.2.2.2.2.2.2.2.1 u.2.2.2.2.2.2.2.2.2.2.2.2.2.2.2.2.2.2.2.2 [] ∧ (u.2.2.1 16 = upd u.2.2.2.2.2.2.2.2.2.2.2.2.2.2.2.2.2.1 u.2.2.2.2.2.2.2.2.2.2.2.2.2.2.2.2.1 30 ∧ u.2.2.1 17 = upd u.2.2.2.2.2.2.2.2.2.2.2.2.2.2.2.2.2.2.1 u.2.2.2.2.2.2.2.2.2.2.2.2.2.2.2.2.1 (nI hd) ∧ u.2.2.1 18 = upd u.2.2.2.2.2.2.2.2.2.2.2.2.2.2.2.2.2.2.2.1 u.2.2.2.2.2.2.2.2.2.2.2.2.2.2.2.2.1 0 ∧ u.2.2.1 19 = upd u.2.2.2.2.2.2.2.2.2.2.2.2.2.2.2.2.2.2.2.2 u.2.2.2.2.2.2.2.2.2.2.2.2.2.2.2.2.1 (nI (hd + 2)))) ∧ (LpS u.2.1 (u.2.2.1 16) (u.2.2.1 17) u.2.2.2.2.2.2.2.2.1 u.2.2.2.2.2.2.2.2.2.2.2.2.2.1 lp9 lw u.2.2.2.1 hd sl hdL slL u.2.2.2.2.2.2.2.2.2.2.2.2.2.2.1 u.2.2.2.2.2.2.2.2.2.2.2.2.2.2.2.1) ∧ (PdS (pdm pdX xs) u.2.2.2.2.2.2.2.2.2.2.2.2.2.1 xb u.2.2.2.2.2.2.2.2.2.2.2.2.2.2.1 xc u.2.2.2.2.2.2.2.2.2.2.2.2.2.2.2.1 [] cs u.2.2.2.1) ∧ (RgQx u.2.2.1 u.2.2.2.2.2.2.2.2.2.2.2.2.1 u.2.2.2.2.2.2.2.2.2.2.1 nd) ∧ (LpR u.2.1 lp9 rL) ∧ (u.2.2.2.1 = u.2.2.2.2.2.2.2.2.2.2.2.2.2.2.2.2.1 + 1) ∧ (OKP G h0 a (upd (upd (upd (upd (upd (upd (upd (upd (upd (upd F 2 (nI sz)) 5 (nI u.2.2.2.1)) 6 (nI u.2.2.2.2.2.2.2.2.2.1)) 7 (nI hd)) 8 (nI u.2.2.2.2.2.2.2.1)) 12 (nI vr)) 13 u.2.2.2.2.1) 14 u.2.2.2.2.2.1) 15 u.2.2.2.2.2.2.1) 16 u.2.2.2.2.2.2.2.2.2.2.2.1) (updR (updR (updR R 2 (.ref pq)) 3 (.ref mq)) 4 (va_rf lp9)) Z u.2.2.1 J u.2.1 u.1)) (fun u => u.1) (fun (u : va_W × (PK × (Nat → Nat → Int32) × Nat × Int32 × Int32 × Int32 × Nat × (Nat → AS) × Nat × Nat × Int32 × RX × (Nat → Prop) × List Nat × List Nat × Nat × (Nat → Int32) × (Nat → Int32) × (Nat → Int32) × (Nat → Int32))) => (rE (g 2 q) - rS (g 2 q) - 2)) (fun (u : va_W × (PK × (Nat → Nat → Int32) × Nat × Int32 × Int32 × Int32 × Nat × (Nat → AS) × Nat × Nat × Int32 × RX × (Nat → Prop) × List Nat × List Nat × Nat × (Nat → Int32) × (Nat → Int32) × (Nat → Int32) × (Nat → Int32))) => (6 * (rE (g 2 q) - rS (g 2 q) - 2))) (fun (u : va_W × (Nat → Int32) × (Nat → Value) × (Nat → Nat → Int32)) => ThQ G h0 a (upd (upd (upd (upd (upd (upd (upd (upd F 2 (nI sz)) 5 (nI cs)) 6 (nI rg)) 7 (nI hd)) 8 (nI dp)) 12 (nI vr)) 13 as9) 16 ls9) (updR (updR (updR R 2 (.ref pq)) 3 (.ref mq)) 4 (va_rf lp9)) Z B J u) (fun u => u.1) := by
  intro sz
  refine vx_ofW (cc := cX0_last) (maxL := 3) (ret := none) (by decide) rfl ?_
  intro p e s m args below meth c s₁ B9 hml hnt hv
  obtain ⟨rfl, hsz, hP, hD0, hE, hX⟩ := hv
  have hx := B9.exec
  have hb := B9.bytes
  have hr := B9.returns
  have hts := atoms_spec (ws := Cond.code yX0_last cX0_last 3 none :: pw) B9.pre
  have hq : ∀ w ∈ pw, w.before _ s = true := fun w h => hts w (List.mem_cons_of_mem _ h)
  have hown : s.vm.findClass RX0 = some m.cls := findClass_of_methodNamed B9.named
  have hlocks := B9.notSynchronized
  subst hsz
  have hD := hD0.self (sz := s.heap.size)
  have hA : ∀ q : Nat, s.heap.size ≤ q → va_A w s.heap.size q := fun q h => Or.inr h
  generalize va_A w s.heap.size = A at hD hE hA ⊢
  have hS : va_S A s.heap s.heap [] := va_S.rf
  have hl := lv_entry ([.ref (a 4), .ref q, .int (nI hd)]) (n := 3) (Nat.le_of_ble_eq_true rfl)
  rw [lg_entry_eq]
  generalize (lg_sl ([.ref (a 4), .ref q, .int (nI hd)]) ++ List.replicate (3 - (lg_sl ([.ref (a 4), .ref q, .int (nI hd)])).length) Slot.unset).toArray = ls at hl ⊢
  have hl : lv_has ls 3 [(0, .ref (a 4)), (1, .ref q), (2, .int (nI hd))] := hl
  have hpg := hps.1
  have hp1 := hpg.1
  have hp2 := hpg.2.1
  have hp3 := hpg.2.2.1
  have hp4 := hpg.2.2.2.1
  have hp5 := hpg.2.2.2.2.1
  have hp6 := hpg.2.2.2.2.2.1
  have hp8 := hpg.2.2.2.2.2.2.2.1
  have hp9 := hpg.2.2.2.2.2.2.2.2
  have hdr0 : ¬ K.1 dr = 0 := by rw [hp4]; decide
  have hrl := hrv.1.lt hna.1.1
  have hskq := hsk q hqT hqL.1
  have htlq9 : tlE g q = rE (g 2 q) - rS (g 2 q) := rfl
  have hwfa := hwf0
  have htq : tlE g q = rE (g 2 q) - rS (g 2 q) := rfl
  refine lv_aload_n hx hb dX0_last_0 rfl (lv_at hl 0 rfl) ?_
  refine c_get (v := .ref (a 2)) (C := RX0) (Tc := TX0) (N := 13) (ci := 0) hx hb hq pin_wsX00 hown hE hP hO 24 (sg_24 G h0 a _ _ _ _ _) rfl 1 (by decide) (hq _ pw_5) (fun _ h9 => h9) rfl dX0_last_1 ?_
  refine lv_iconst (v := 2) hx hb dX0_last_4 (by decide) ?_
  have hO : OKW G h0 a (upd (upd (upd (upd (upd (upd (upd (upd (upd (upd F 2 (nI sz)) 5 (nI cs)) 6 (nI rg)) 7 (nI hd)) 8 (nI dp)) 12 (nI vr)) 13 as9) 16 ls9) 7 (nI hd)) 8 (nI dp)) (updR (updR (updR R 2 (.ref pq)) 3 (.ref mq)) 4 (va_rf lp9)) Z B J K.1 (fun q99 x99 => x99 = rep G a K q99) w := hO.to rfl
  obtain ⟨_, qr4, hqr5⟩ := hO.2.1 13 _ (sg_13 G h0 a _ _ _ _ _)
  refine pc_V0 (G := G) (As := [.int (nI 2)]) (rest := []) hx hb hml hown hq hE hX pX0_al hP hD hS hA hl.1 (Y_hold l G h0 a (upd (upd (upd (upd (upd (upd (upd (upd F 2 (nI sz)) 5 (nI cs)) 6 (nI rg)) 7 (nI hd)) 8 (nI dp)) 12 (nI vr)) 13 as9) 16 ls9) (updR (updR (updR R 2 (.ref pq)) 3 (.ref mq)) 4 (va_rf lp9)) Z B J K.1 (fun q99 x99 => x99 = rep G a K q99) w 2 hd dp (by omega) (by omega) hO) (gV pw_67 pw_68 pw_69 pw_70 pw_49) hV_X1_hold qr4 1 hqr5 rfl rfl rfl (Nat.le_of_ble_eq_true rfl) dX0_last_5 ⟨(by show 0 + 0 ≤ ((rE (g 2 q) - rS (g 2 q) - 2) + 1); omega), (by show 0 + 0 ≤ (6 * (rE (g 2 q) - rS (g 2 q) - 2) + 6); omega)⟩ ⟨(by show 2 + 1 ≤ (5 * n + 48); omega), (by show 8 + (2 + 11) + 60 ≤ (200 * n + 1160); omega)⟩ (fun v3 u1 H locs hw2 hP hD hS => ?_)
  obtain ⟨w, dp6⟩ := u1
  obtain ⟨hw2, h7, h8, hO⟩ := hw2
  have h7 : dp6 ≤ 1000 := h7
  have h8 : dp ≤ dp6 ∧ hd + 2 ≤ dp6 ∧ (dp6 = dp ∨ dp6 = hd + 2) := h8
  obtain rfl : v3 = none := hw2
  have hO : OKP G h0 a (upd (upd (upd (upd (upd (upd (upd (upd F 2 (nI sz)) 5 (nI cs)) 6 (nI rg)) 7 (nI (hd + 2))) 8 (nI dp6)) 12 (nI vr)) 13 as9) 16 ls9) (updR (updR (updR R 2 (.ref pq)) 3 (.ref mq)) 4 (va_rf lp9)) Z B J K w := hO.to rfl
  refine W.widen (k := 0) (n := 0) (Nat.le_of_ble_eq_true rfl) (Nat.le_of_ble_eq_true rfl) ?_
  refine W.eq (g2 := F0 m 8 ls []) rfl ?_
  refine lv_aload_n hx hb dX0_last_8 rfl (lv_at hl 0 rfl) ?_
  refine lv_aload_n hx hb dX0_last_9 rfl (lv_at hl 1 rfl) ?_
  obtain ⟨A9, hA9⟩ : ∃ A5 : Nat → AS, A5 = (upS Ag cs (rcA as9, hd + 2, (slQ sl hd cs (f9Q st9)), [])) := ⟨_, rfl⟩
  have hemC : EmS pb.1 pb.2.1 pb.2.2.1 pb.2.2.2 (B 16) (B 17) (B 18) (B 19) A9 (pdm pdX xs) m9 dp6 lw cs as9 (hd + 2) (slQ sl hd cs (f9Q st9)) ([] : List Nat) := by rw [hA9, hLx]; exact EmS.ent2 hem (by omega) (by omega) hpx hent hbst hwf0
  have hstC : StW pb.1 pb.2.1 pb.2.2.1 pb.2.2.2 A9 A9 Q9 Q9 (pdm pdX xs) (pdm pdX xs) m9 dp6 lw cs cs as9 as9 (hd + 2) (hd + 2) (slQ sl hd cs (f9Q st9)) (slQ sl hd cs (f9Q st9)) gr gr (B 16) (B 17) (B 18) (B 19) ([] : List Nat) := StW.nil hemC
  have hlp9 : LpS K (B 16) (B 17) A9 (pdm pdX xs) lp9 lw cs (hd + 2) (slQ sl hd cs (f9Q st9)) hdL slL xb xc := LpS.same hlp (fun _ _ _ _ _ => rfl) (fun z9 hz9 => ⟨rfl, rfl, by rw [hA9]; exact upS_ne (by omega)⟩) (fun _ h9 => h9) hlp.1 (Nat.le_refl _) ⟨by omega, slQ_lo⟩
  have henC := EnV.up (sl2 := (slQ sl hd cs (f9Q st9))) (hd2 := hd + 2) hen (by omega) slQ_lo
  have htl10 : tlE g q = rE (g 2 q) - rS (g 2 q) := rfl
  have hO : OKP G h0 a (upd (upd (upd (upd (upd (upd (upd (upd (upd (upd (upd (upd (upd (upd (upd (upd (upd (upd F 2 (nI sz)) 5 (nI cs)) 6 (nI rg)) 7 (nI hd)) 8 (nI dp)) 12 (nI vr)) 13 as9) 16 ls9) 7 (nI (hd + 2))) 8 (nI dp6)) 2 (nI sz)) 5 (nI cs)) 6 (nI rg)) 7 (nI (hd + 2))) 8 (nI dp6)) 12 (nI vr)) 13 as9) 16 ls9) (updR (updR (updR (updR (updR (updR R 2 (.ref pq)) 3 (.ref mq)) 4 (va_rf lp9)) 2 (.ref pq)) 3 (.ref mq)) 4 (va_rf lp9)) Z B J K w := hO.to rfl
  obtain ⟨_, qr14, hqr15⟩ := hO.2.1 24 _ (sg_24 G h0 a _ _ _ _ _)
  refine pn_V0 (G := G) (As := [.ref q]) (rest := []) hx hb hml hown hq hE hX pX0_al hP hD hS hA hl.1 (Y_block l G h0 a (upd (upd (upd (upd (upd (upd (upd (upd (upd (upd F 2 (nI sz)) 5 (nI cs)) 6 (nI rg)) 7 (nI hd)) 8 (nI dp)) 12 (nI vr)) 13 as9) 16 ls9) 7 (nI (hd + 2))) 8 (nI dp6)) (updR (updR (updR R 2 (.ref pq)) 3 (.ref mq)) 4 (va_rf lp9)) Z B J K w pq dr ml nd nm cp it s9 q mq cs vr sz n (hd + 2) dp6 rg ls9 lp9 g rk pb A9 Q9 (pdm pdX xs) (slQ sl hd cs (f9Q st9)) m9 lw c0 rt gr as9 hdL slL xb xc rL (by omega) (BdE.wp BdE.rfl hwp) (BdE.pt BdE.rfl hwp hps) (BdE.rko BdE.rfl hrk) (by omega) (by omega) hng hmq hqT hqL hrt hrv (by omega) (by omega) (by omega) (LpO.be BdE.rfl hlo) (EkA.be BdE.rfl (BtR.rfl 7 (by decide)) (BtR.rfl 11 (by decide)) hek) (OwC.be BdE.rfl hmq hdr0 hcO) (NaB.be BdE.rfl BeF.rfl hwp hps.2.1 hdr0 (BtR.rfl 11 (by decide)) hna) henC hao hstC.1 (by omega) (by omega) (by omega) (SkA.be BdE.rfl (BtR.rfl 11 (by decide)) hsk) hlp9 hrq (fun z9 => hrL (hstC.2.2.2.2.2.1 z9)) hlr hkd ist hO hl0) (gV pw_307 pw_308 pw_309 pw_63 pw_358) hV_X0_block qr14 0 hqr15 rfl rfl rfl (Nat.le_of_ble_eq_true rfl) dX0_last_10 ⟨(by show 0 + ((rE (g 2 q) - rS (g 2 q) - 2) + 1) ≤ ((rE (g 2 q) - rS (g 2 q) - 2) + 1); omega), (by show 0 + (6 * (rE (g 2 q) - rS (g 2 q) - 2) + 6) ≤ (6 * (rE (g 2 q) - rS (g 2 q) - 2) + 6); omega)⟩ ⟨(by show (5 * n + 46) + 1 ≤ (5 * n + 48); omega), (by show 8 + (5 + 11) + (200 * n + 1120) ≤ (200 * n + 1160); omega)⟩ (fun v13 u11 H locs hw12 hP hD hS => ?_) (fun ux ce9 q9 H9 locs9 hux hP9 hD9 hS9 hce hcv hcl => pb_out ux (ThQ.up (Thx.same (Thx.same (Thx.same (Thx.same (Thx.same (Thx.same (Thx.same (Thx.same (Thx.f (Thx.f Thx.rfl (by omega)) (by omega)) rfl) rfl) rfl) rfl) rfl) rfl) rfl) rfl) (show RhX (updR (updR (updR R 2 (.ref pq)) 3 (.ref mq)) 4 (va_rf lp9)) (updR (updR (updR (updR (updR (updR R 2 (.ref pq)) 3 (.ref mq)) 4 (va_rf lp9)) 2 (.ref pq)) 3 (.ref mq)) 4 (va_rf lp9)) from fun k9 hk9 => by unfold updR; simp only [show ¬ k9 = 1 by omega, show ¬ k9 = 2 by omega, show ¬ k9 = 3 by omega, show ¬ k9 = 4 by omega, if_false]) hux) hnt hlocks hce hcv hcl hP9 hD9 hS9 (by show 0 + ((rE (g 2 q) - rS (g 2 q) - 2) + 1) ≤ ((rE (g 2 q) - rS (g 2 q) - 2) + 1); omega) (by show 0 + (6 * (rE (g 2 q) - rS (g 2 q) - 2) + 6) ≤ (6 * (rE (g 2 q) - rS (g 2 q) - 2) + 6); omega))
  obtain ⟨w, K16, B17, cs18, as19, wt20, wf21, dp22, Ag23, rg24, gr25, ls26, Q27, pd28, xb29, xc30⟩ := u11
  obtain ⟨hw12, h31, h32, h33, h34, h35, h36, h37, h38, h39, h40, h41, h42, h43, h44, h45, h46, h47, hO⟩ := hw12
  have h31 : SmW B B17 cs := h31
  have h32 : BdE K K16 := h32
  have h33 : BeF K K16 := h33
  have h34 : BeL K K16 lp9 := h34
  have h35 : Bth B B17 := h35
  have h36 : BtR B B17 := h36
  have h37 : cs ≤ cs18 ∧ cs18 + 4 ≤ cs + 2 * tlE g q := h37
  have h38 : dp6 ≤ dp22 ∧ dp22 ≤ 71 := h38
  have h39 : AsO as19 := h39
  have h40 : VrS B B17 vr := h40
  have h41 : gr ≤ gr25 ∧ rg24 ≤ 625 ∧ rg24 ≤ gr25 ∧ (rg24 = 625 ∨ rg24 = gr25) := h41
  have h42 : EnV (B17 26) (B17 27) nd vr (hd + 2) c0 (slQ sl hd cs (f9Q st9)) := h42
  have h43 : StW pb.1 pb.2.1 pb.2.2.1 pb.2.2.2 A9 Ag23 Q9 Q27 (pdm pdX xs) pd28 m9 dp22 lw cs cs18 as9 as19 (hd + 2) (hd + 2) (slQ sl hd cs (f9Q st9)) (slQ sl hd cs (f9Q st9)) gr gr25 (B17 16) (B17 17) (B17 18) (B17 19) [] := h43
  have h44 : LpS K16 (B17 16) (B17 17) Ag23 pd28 lp9 lw cs18 (hd + 2) (slQ sl hd cs (f9Q st9)) hdL slL xb29 xc30 := h44
  have h45 : PdS (pdm pdX xs) pd28 xb xb29 xc xc30 [] cs cs18 := h45
  have h46 : RgQx B17 Q27 gr25 nd := h46
  have h47 : LpR K16 lp9 rL := h47
  obtain rfl : v13 = none := hw12
  have hf48 : K16.1 pq = 7 := (BdE.T h32 hp1 (by decide))
  have hf49 : K16.2.2.1 18 pq = some (a 1) := (BdE.C h32 (by rw [hp1]; decide) 18).trans hp2
  have hf50 : K16.2.2.1 14 pq = some dr := (BdE.C h32 (by rw [hp1]; decide) 14).trans hp3
  have hf51 : K16.1 dr = 8 := (BdE.T h32 hp4 (by decide))
  have hf52 : K16.2.2.1 15 pq = some ml := (BdE.C h32 (by rw [hp1]; decide) 15).trans hp5
  have hf53 : K16.1 ml = 5 := (BdE.T h32 hp6 (by decide))
  have hf54 : K16.2.1 24 pq = (nI nd) := (BdE.I h32 (by rw [hp1]; decide) (by decide) (by decide)).trans hp8
  have hf55 : K16.1 q = 1 := (BdE.T h32 hqT (by decide))
  have hf56 : K16.1 mq = 3 := (BdE.T h32 hmq (by decide))
  have hf57 : K16.2.1 10 mq = (nI rt) := (BdE.I h32 (by rw [hmq]; decide) (by decide) (by decide)).trans hrt
  have hO : OKP G h0 a (upd (upd (upd (upd (upd (upd (upd (upd (upd (upd F 2 (nI sz)) 5 (nI cs18)) 6 (nI rg24)) 7 (nI (hd + 2))) 8 (nI dp22)) 12 (nI vr)) 13 as19) 14 wt20) 15 wf21) 16 ls26) (updR (updR (updR R 2 (.ref pq)) 3 (.ref mq)) 4 (va_rf lp9)) Z B17 J K16 w := hO.to rfl
  refine W.widen (k := (rE (g 2 q) - rS (g 2 q) - 2)) (n := (6 * (rE (g 2 q) - rS (g 2 q) - 2))) (by show 0 + (rE (g 2 q) - rS (g 2 q) - 2) ≤ (rE (g 2 q) - rS (g 2 q) - 2); omega) (by show 0 + (6 * (rE (g 2 q) - rS (g 2 q) - 2)) ≤ (6 * (rE (g 2 q) - rS (g 2 q) - 2)); omega) ?_
  refine W.eq (g2 := F0 m 13 ls []) rfl ?_
  have hbe58 := BdE.trans BdE.rfl h32
  have hbb59 : Bth B B17 := Bth.trans (show Thx (upd (upd (upd (upd (upd (upd (upd (upd F 2 (nI sz)) 5 (nI cs)) 6 (nI rg)) 7 (nI hd)) 8 (nI dp)) 12 (nI vr)) 13 as9) 16 ls9) (upd (upd (upd (upd (upd (upd (upd (upd (upd (upd F 2 (nI sz)) 5 (nI cs)) 6 (nI rg)) 7 (nI hd)) 8 (nI dp)) 12 (nI vr)) 13 as9) 16 ls9) 7 (nI (hd + 2))) 8 (nI dp6)) B B from (Thx.f (Thx.f Thx.rfl (by omega)) (by omega))).2 h35
  have hng60 : Nng (B17 18) := h35.2 hng
  have hsw61 : ∀ x9 : Nat, x9 < cs → (B17 16) x9 = B 16 x9 := fun x9 hx9 => ((h31 x9 (by omega)).1).trans ((fun _ _ => rfl) x9 hx9)
  have hsw62 : ∀ x9 : Nat, x9 < cs → (B17 17) x9 = B 17 x9 := fun x9 hx9 => ((h31 x9 (by omega)).2.1).trans ((fun _ _ => rfl) x9 hx9)
  have hsw63 : ∀ x9 : Nat, x9 < cs → (B17 18) x9 = B 18 x9 := fun x9 hx9 => ((h31 x9 (by omega)).2.2.1).trans ((fun _ _ => rfl) x9 hx9)
  have hsw64 : ∀ x9 : Nat, x9 < cs → (B17 19) x9 = B 19 x9 := fun x9 hx9 => ((h31 x9 (by omega)).2.2.2).trans ((fun _ _ => rfl) x9 hx9)
  have hbf65 := BeF.trans BeF.rfl h33 BdE.rfl
  have hbl67 : BeL K K16 lp9 := BeL.trans BeL.rfl h34 BdE.rfl
  have hbr66 : BtR B B17 := BtR.trans BtR.rfl h36
  have hvs68 : VrS B B17 vr := VrS.trans VrS.rfl h40 (by omega)
  have hst69 : StW pb.1 pb.2.1 pb.2.2.1 pb.2.2.2 A9 Ag23 Q9 Q27 (pdm pdX xs) pd28 m9 dp22 lw cs cs18 as9 as19 (hd + 2) (hd + 2) (slQ sl hd cs (f9Q st9)) (slQ sl hd cs (f9Q st9)) gr gr25 (B17 16) (B17 17) (B17 18) (B17 19) ([] : List Nat) := StW.seq hstC (by omega) (fun x9 hx9 => ⟨(h31 x9 hx9).1, (h31 x9 hx9).2.1⟩) h43
  have hsn70 := hst69.1.2.2.2.1
  have hpd71 : PdS (pdm pdX xs) pd28 xb xb29 xc xc30 ([] : List Nat) cs cs18 := PdS.call (PdS.rfl (cs1 := cs)) h45 (by omega) (by omega)
  refine lv_aload_n hx hb dX0_last_13 rfl (lv_at hl 0 rfl) ?_
  refine c_get (v := .ref (a 2)) (C := RX0) (Tc := TX0) (N := 13) (ci := 0) hx hb hq pin_wsX00 hown hE hP hO 24 (sg_24 G h0 a _ _ _ _ _) rfl 1 (by decide) (hq _ pw_5) (fun _ h9 => h9) rfl dX0_last_14 ?_
  refine lv_bipush (v := 30) hx hb dX0_last_17 (by decide) ?_
  refine lv_iload_n hx hb dX0_last_19 rfl (lv_at hl 2 rfl) ?_
  refine lv_iconst (v := 0) hx hb dX0_last_20 (by decide) ?_
  have hO : OKW G h0 a (upd (upd (upd (upd (upd (upd (upd (upd (upd (upd (upd (upd F 2 (nI sz)) 5 (nI cs18)) 6 (nI rg24)) 7 (nI (hd + 2))) 8 (nI dp22)) 12 (nI vr)) 13 as19) 14 wt20) 15 wf21) 16 ls26) 5 (nI cs18)) 7 (nI (hd + 2))) (updR (updR (updR R 2 (.ref pq)) 3 (.ref mq)) 4 (va_rf lp9)) Z B17 J K16.1 (fun q99 x99 => x99 = rep G a K16 q99) w := hO.to rfl
  obtain ⟨_, qr75, hqr76⟩ := hO.2.1 13 _ (sg_13 G h0 a _ _ _ _ _)
  refine pc_V0 (G := G) (As := [.int 30, .int (nI hd), .int 0]) (rest := []) hx hb hml hown hq hE hX pX0_al hP hD hS hA hl.1 (Y_emit l G h0 a (upd (upd (upd (upd (upd (upd (upd (upd (upd (upd F 2 (nI sz)) 5 (nI cs18)) 6 (nI rg24)) 7 (nI (hd + 2))) 8 (nI dp22)) 12 (nI vr)) 13 as19) 14 wt20) 15 wf21) 16 ls26) (updR (updR (updR R 2 (.ref pq)) 3 (.ref mq)) 4 (va_rf lp9)) Z B17 J K16.1 (fun q99 x99 => x99 = rep G a K16 q99) w 30 (nI hd) 0 cs18 (hd + 2) (by omega) hO) (gV pw_129 pw_130 pw_131 pw_70 pw_115) hV_X1_emit qr75 1 hqr76 rfl rfl rfl (Nat.le_of_ble_eq_true rfl) dX0_last_21 ⟨(by show (rE (g 2 q) - rS (g 2 q) - 2) + 0 ≤ ((rE (g 2 q) - rS (g 2 q) - 2) + 1); omega), (by show (6 * (rE (g 2 q) - rS (g 2 q) - 2)) + 0 ≤ (6 * (rE (g 2 q) - rS (g 2 q) - 2) + 6); omega)⟩ ⟨(by show 2 + 1 ≤ (5 * n + 48); omega), (by show 8 + (4 + 11) + 60 ≤ (200 * n + 1160); omega)⟩ (fun v74 u72 H locs hw73 hP hD hS => ?_)
  obtain ⟨w, _⟩ := u72
  obtain ⟨hw73, hO⟩ := hw73
  obtain rfl : v74 = none := hw73
  have hO : OKP G h0 a (upd (upd (upd (upd (upd (upd (upd (upd (upd (upd F 2 (nI sz)) 5 (nI (cs18 + 1))) 6 (nI rg24)) 7 (nI (hd + 2))) 8 (nI dp22)) 12 (nI vr)) 13 as19) 14 wt20) 15 wf21) 16 ls26) (updR (updR (updR R 2 (.ref pq)) 3 (.ref mq)) 4 (va_rf lp9)) Z (updA (updA (updA (updA B17 16 (upd ((B17 16)) cs18 30)) 17 (upd ((B17 17)) cs18 (nI hd))) 18 (upd ((B17 18)) cs18 0)) 19 (upd ((B17 19)) cs18 (nI (hd + 2)))) J K16 w := hO.to rfl
  refine W.widen (k := (rE (g 2 q) - rS (g 2 q) - 2)) (n := (6 * (rE (g 2 q) - rS (g 2 q) - 2))) (by show (rE (g 2 q) - rS (g 2 q) - 2) + 0 ≤ (rE (g 2 q) - rS (g 2 q) - 2); omega) (by show (6 * (rE (g 2 q) - rS (g 2 q) - 2)) + 0 ≤ (6 * (rE (g 2 q) - rS (g 2 q) - 2)); omega) ?_
  refine W.eq (g2 := F0 m 24 ls []) rfl ?_
  have hsw77 : ∀ x9 : Nat, x9 < cs → (upd ((B17 16)) cs18 30) x9 = B 16 x9 := fun x9 hx9 => (if_neg (by omega)).trans (hsw61 x9 hx9)
  have hsw78 : ∀ x9 : Nat, x9 < cs → (upd ((B17 17)) cs18 (nI hd)) x9 = B 17 x9 := fun x9 hx9 => (if_neg (by omega)).trans (hsw62 x9 hx9)
  have hsw79 : ∀ x9 : Nat, x9 < cs → (upd ((B17 18)) cs18 0) x9 = B 18 x9 := fun x9 hx9 => (if_neg (by omega)).trans (hsw63 x9 hx9)
  have hsw80 : ∀ x9 : Nat, x9 < cs → (upd ((B17 19)) cs18 (nI (hd + 2))) x9 = B 19 x9 := fun x9 hx9 => (if_neg (by omega)).trans (hsw64 x9 hx9)
  have hlp81 : LpS K16 (upd ((B17 16)) cs18 30) (upd ((B17 17)) cs18 (nI hd)) Ag23 pd28 lp9 lw (cs18 + 1) hd sl hdL slL xb29 xc30 := LpS.same (LpS.to h44 hlp) (fun _ _ _ _ _ => rfl) (fun z9 hz9 => ⟨if_neg (by omega), if_neg (by omega), rfl⟩) (fun _ h9 => h9) (fun z9 h9 => Nat.lt_succ_of_lt (h44.1 z9 h9)) (by omega) ⟨Nat.le_refl _, fun _ _ => rfl⟩
  have hpd82 : PdS (pdm pdX xs) pd28 xb xb29 xc xc30 ([] : List Nat) cs (cs18 + 1) := PdS.wk hpd71 (by omega)
  have hng83 : Nng (upd ((B17 18)) cs18 0) := Nng.set hng60 (k := 0) (by omega)
  have hen84 : EnV (B17 26) (B17 27) nd vr hd c0 sl := EnV.back hen hvs68
  refine lv_aload_n hx hb dX0_last_24 rfl (lv_at hl 0 rfl) ?_
  refine c_get (v := .ref (a 2)) (C := RX0) (Tc := TX0) (N := 13) (ci := 0) hx hb hq pin_wsX00 hown hE hP hO 24 (sg_24 G h0 a _ _ _ _ _) rfl 1 (by decide) (hq _ pw_5) (fun _ h9 => h9) rfl dX0_last_25 ?_
  refine lv_iload_n hx hb dX0_last_28 rfl (lv_at hl 2 rfl) ?_
  refine c_put (v := .int (nI hd)) (ty := .int) (C := RX1) (Tc := TX1) (N := 13) (ci := 1) hx hb hq pin_wsX10 tyX1 tyX1_ok nmX1 hown hE hP hD hS hO 13 (sg_13 G h0 a _ _ _ _ _) rfl 11 (by decide) (hq _ pw_54) (fun _ h9 => h9) rfl (by decide +kernel) rfl rfl (Nat.le_of_ble_eq_true rfl) (sf_7 G h0 a _ _ _ _ _ (nI hd)) dX0_last_29 (fun H locs w hP hD hS hO => ?_)
  refine W_size (fun hz1 hz2 => ?_)
  refine vx_ret ?_
  have hz85 : SmW B (updA (updA (updA (updA B17 16 (upd ((B17 16)) cs18 30)) 17 (upd ((B17 17)) cs18 (nI hd))) 18 (upd ((B17 18)) cs18 0)) 19 (upd ((B17 19)) cs18 (nI (hd + 2)))) cs := (fun x9 hx9 => ⟨hsw77 x9 hx9, hsw78 x9 hx9, hsw79 x9 hx9, hsw80 x9 hx9⟩)
  have hz86 : BdE K K16 := hbe58
  have hz87 : BeF K K16 := hbf65
  have hz88 : BeL K K16 lp9 := hbl67
  have hz89 : Bth B (updA (updA (updA (updA B17 16 (upd ((B17 16)) cs18 30)) 17 (upd ((B17 17)) cs18 (nI hd))) 18 (upd ((B17 18)) cs18 0)) 19 (upd ((B17 19)) cs18 (nI (hd + 2)))) := (show Thx (upd (upd (upd (upd (upd (upd (upd (upd F 2 (nI sz)) 5 (nI cs)) 6 (nI rg)) 7 (nI hd)) 8 (nI dp)) 12 (nI vr)) 13 as9) 16 ls9) (upd (upd (upd (upd (upd (upd (upd (upd (upd (upd (upd (upd (upd (upd (upd F 2 (nI sz)) 5 (nI cs)) 6 (nI rg)) 7 (nI hd)) 8 (nI dp)) 12 (nI vr)) 13 as9) 16 ls9) 5 (nI (cs18 + 1))) 6 (nI rg24)) 8 (nI dp22)) 13 as19) 14 wt20) 15 wf21) 16 ls26) B (updA (updA (updA (updA B17 16 (upd ((B17 16)) cs18 30)) 17 (upd ((B17 17)) cs18 (nI hd))) 18 (upd ((B17 18)) cs18 0)) 19 (upd ((B17 19)) cs18 (nI (hd + 2)))) from (Thx.b (Thx.b8 (Thx.b (Thx.b (Thx.f (Thx.f (Thx.f (Thx.f (Thx.f (Thx.f (Thx.f (Bth.thx hbb59) (by omega)) (by omega)) (by omega)) (by omega)) (by omega)) (by omega)) (by omega)) (by omega) (by decide)) (by omega) (by decide)) hng83) (by omega) (by decide))).2
  have hz90 : BtR B (updA (updA (updA (updA B17 16 (upd ((B17 16)) cs18 30)) 17 (upd ((B17 17)) cs18 (nI hd))) 18 (upd ((B17 18)) cs18 0)) 19 (upd ((B17 19)) cs18 (nI (hd + 2)))) := (BtR.up (BtR.up (BtR.up (BtR.up hbr66 (by omega)) (by omega)) (by omega)) (by omega))
  have hz91 : cs ≤ (cs18 + 1) ∧ (cs18 + 1) + 3 ≤ cs + 2 * tlE g q := (by omega)
  have hz92 : dp ≤ dp22 ∧ dp22 ≤ 71 := (by omega)
  have hz93 : AsO as19 := h39
  have hz94 : VrS B (updA (updA (updA (updA B17 16 (upd ((B17 16)) cs18 30)) 17 (upd ((B17 17)) cs18 (nI hd))) 18 (upd ((B17 18)) cs18 0)) 19 (upd ((B17 19)) cs18 (nI (hd + 2)))) vr := hvs68
  have hz95 : gr ≤ gr25 ∧ rg24 ≤ 625 ∧ rg24 ≤ gr25 ∧ (rg24 = 625 ∨ rg24 = gr25) := (by omega)
  have hz96 : EnV ((updA (updA (updA (updA B17 16 (upd ((B17 16)) cs18 30)) 17 (upd ((B17 17)) cs18 (nI hd))) 18 (upd ((B17 18)) cs18 0)) 19 (upd ((B17 19)) cs18 (nI (hd + 2)))) 26) ((updA (updA (updA (updA B17 16 (upd ((B17 16)) cs18 30)) 17 (upd ((B17 17)) cs18 (nI hd))) 18 (upd ((B17 18)) cs18 0)) 19 (upd ((B17 19)) cs18 (nI (hd + 2)))) 27) nd vr hd c0 sl := hen84
  have hz97 : StW pb.1 pb.2.1 pb.2.2.1 pb.2.2.2 (upS Ag cs (rcA as9, hd + 2, (slQ sl hd cs (f9Q st9)), [])) Ag23 Q9 Q27 (pdm pdX xs) pd28 m9 dp22 lw cs cs18 as9 as19 (hd + 2) (hd + 2) (slQ sl hd cs (f9Q st9)) (slQ sl hd cs (f9Q st9)) gr gr25 (B17 16) (B17 17) (B17 18) (B17 19) [] ∧ ((updA (updA (updA (updA B17 16 (upd ((B17 16)) cs18 30)) 17 (upd ((B17 17)) cs18 (nI hd))) 18 (upd ((B17 18)) cs18 0)) 19 (upd ((B17 19)) cs18 (nI (hd + 2)))) 16 = upd (B17 16) cs18 30 ∧ (updA (updA (updA (updA B17 16 (upd ((B17 16)) cs18 30)) 17 (upd ((B17 17)) cs18 (nI hd))) 18 (upd ((B17 18)) cs18 0)) 19 (upd ((B17 19)) cs18 (nI (hd + 2)))) 17 = upd (B17 17) cs18 (nI hd) ∧ (updA (updA (updA (updA B17 16 (upd ((B17 16)) cs18 30)) 17 (upd ((B17 17)) cs18 (nI hd))) 18 (upd ((B17 18)) cs18 0)) 19 (upd ((B17 19)) cs18 (nI (hd + 2)))) 18 = upd (B17 18) cs18 0 ∧ (updA (updA (updA (updA B17 16 (upd ((B17 16)) cs18 30)) 17 (upd ((B17 17)) cs18 (nI hd))) 18 (upd ((B17 18)) cs18 0)) 19 (upd ((B17 19)) cs18 (nI (hd + 2)))) 19 = upd (B17 19) cs18 (nI (hd + 2))) := ⟨by rw [hA9] at hst69; exact hst69, rfl, rfl, rfl, rfl⟩
  have hz98 : LpS K16 ((updA (updA (updA (updA B17 16 (upd ((B17 16)) cs18 30)) 17 (upd ((B17 17)) cs18 (nI hd))) 18 (upd ((B17 18)) cs18 0)) 19 (upd ((B17 19)) cs18 (nI (hd + 2)))) 16) ((updA (updA (updA (updA B17 16 (upd ((B17 16)) cs18 30)) 17 (upd ((B17 17)) cs18 (nI hd))) 18 (upd ((B17 18)) cs18 0)) 19 (upd ((B17 19)) cs18 (nI (hd + 2)))) 17) Ag23 pd28 lp9 lw (cs18 + 1) hd sl hdL slL xb29 xc30 := hlp81
  have hz99 : PdS (pdm pdX xs) pd28 xb xb29 xc xc30 [] cs (cs18 + 1) := hpd82
  have hz100 : RgQx (updA (updA (updA (updA B17 16 (upd ((B17 16)) cs18 30)) 17 (upd ((B17 17)) cs18 (nI hd))) 18 (upd ((B17 18)) cs18 0)) 19 (upd ((B17 19)) cs18 (nI (hd + 2)))) Q27 gr25 nd := h46
  have hz101 : LpR K16 lp9 rL := h47
  have hz102 : (cs18 + 1) = cs18 + 1 := rfl
  have hO : OKP G h0 a (upd (upd (upd (upd (upd (upd (upd (upd (upd (upd F 2 (nI sz)) 5 (nI (cs18 + 1))) 6 (nI rg24)) 7 (nI hd)) 8 (nI dp22)) 12 (nI vr)) 13 as19) 14 wt20) 15 wf21) 16 ls26) (updR (updR (updR R 2 (.ref pq)) 3 (.ref mq)) 4 (va_rf lp9)) Z (updA (updA (updA (updA B17 16 (upd ((B17 16)) cs18 30)) 17 (upd ((B17 17)) cs18 (nI hd))) 18 (upd ((B17 18)) cs18 0)) 19 (upd ((B17 19)) cs18 (nI (hd + 2)))) J K16 w := hO.to rfl
  refine W.widen (k := ((rE (g 2 q) - rS (g 2 q) - 2) + 1)) (n := (6 * (rE (g 2 q) - rS (g 2 q) - 2) + 6)) (by omega) (by omega) ?_
  have hzz1 : H.size ≤ s.heap.size + ((rE (g 2 q) - rS (g 2 q) - 2)) := (by have z : (rE (g 2 q) - rS (g 2 q) - 2) ≤ (rE (g 2 q) - rS (g 2 q) - 2) := (by omega); omega)
  have hzz2 : hSl H ≤ hSl s.heap + ((6 * (rE (g 2 q) - rS (g 2 q) - 2))) := (by have z : (6 * (rE (g 2 q) - rS (g 2 q) - 2)) ≤ (6 * (rE (g 2 q) - rS (g 2 q) - 2)) := (by omega); omega)
  exact W.vret hx hb hr (fun t99 ht99 hW99 => ⟨⟨_, (w, (K16, (updA (updA (updA (updA B17 16 (upd ((B17 16)) cs18 30)) 17 (upd ((B17 17)) cs18 (nI hd))) 18 (upd ((B17 18)) cs18 0)) 19 (upd ((B17 19)) cs18 (nI (hd + 2)))), (cs18 + 1), as19, wt20, wf21, dp22, Ag23, rg24, gr25, ls26, Q27, pd28, xb29, xc30, cs18, (B17 16), (B17 17), (B17 18), (B17 19))), rfl, ⟨rfl, hz85, hz86, hz87, hz88, hz89, hz90, hz91, hz92, hz93, hz94, hz95, hz96, hz97, hz98, hz99, hz100, hz101, hz102, hO⟩, by rw [ht99]; exact hP, hD, by rw [ht99]; exact hzz1, by rw [ht99]; exact hzz2⟩, hS.F ht99⟩) hS.2.2 dX0_last_32
