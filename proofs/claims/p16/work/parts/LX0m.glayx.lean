set_option maxHeartbeats 40000000 in
set_option maxRecDepth 100000 in
theorem N_layFields (l : Launch) (G : pT) (h0 : Nat) (a : Nat → Nat) (F : Nat → Int32) (R : Nat → Value) (Z : Int64) (B : Nat → Nat → Int32) (J : Nat → Nat → Int64) (K : PK) (w : va_W) (pq : Nat) (dr : Nat) (ml : Nat) (nd : Nat) (nm : Nat) (cp : Nat) (it : Nat → Nat) (s9 : Nat) (d0 : Nat) (k0 : Nat) (ll : Nat) (lk : Nat) (cl0 : Nat) (ck : Nat) (it0 : Nat → Nat) (itk : Nat → Nat) (rk : Nat → Nat) (f8 : Nat → Nat) (f9 : Nat → Nat) (er : Nat → Option Nat) (g : Nat → Nat → Nat) (K0 : PK) (hly : LyB G K g rk f8 f9 er (a 1) pq dr ml nd nm cp it s9 (k0 + 1)) (hk0 : k0 < nd) (he0 : er k0 = some d0) (hd0 : K.1 d0 = 4) (hll : K.2.2.1 11 d0 = some ll) (hg3 : g 3 ll = 4) (hg4 : g 4 ll = d0) (hlc0 : LsC G K ll 1 0 it0 cl0) (hcl0 : cl0 ≤ 10) (hlk : LsC G K lk 3 0 itk ck) (hgk : g 3 lk = 5) (hck : K.2.2.1 12 d0 = some lk) (hs9 : s9 ≤ 5000) (hz0 : LyS g K0 K) (hw0 : WPr G K0 g) (hfu : FuO G K0) (hd00 : K0.1 d0 = 4) (hO : OKP G h0 a F R Z B J K w) (hl0 : l.stackTraces = false) : PBn l G pX0 yX9_layFields cX9_layFields 4 none ({ frames := 7, cells := (s9 / 2 + 1), slots := (60 + 5 * s9), locals := 171 }) [.ref pq, .ref d0] w (fun (v : Option Value) (u : va_W × (PK × Nat × Nat × (Nat → Nat))) => v = none ∧ (LyB G u.2.1 g rk f8 f9 er (a 1) pq dr ml nd nm cp it s9 (k0 + 1)) ∧ (LsC G u.2.1 ll 1 u.2.2.1 u.2.2.2.2 u.2.2.2.1) ∧ (2 * u.2.2.1 ≤ s9) ∧ (u.2.2.2.1 ≤ 10 + 2 * u.2.2.1) ∧ (LsC G u.2.1 lk 3 0 itk ck) ∧ (u.2.1.1 d0 = 4) ∧ (u.2.1.2.2.1 12 d0 = some lk) ∧ (cl0 ≤ u.2.2.2.1) ∧ (LyS g K0 u.2.1) ∧ (∃ f : Nat, LyP G K0 f d0 u.2.2.1 u.2.2.2.2) ∧ (LyU G ll K u.2.1 u.2.2.1 u.2.2.2.2) ∧ (OKP G h0 a F R Z B J u.2.1 u.1)) (fun u => u.1) (fun (u : va_W × (PK × Nat × Nat × (Nat → Nat))) => u.2.2.1) (fun (u : va_W × (PK × Nat × Nat × (Nat → Nat))) => (4 * (u.2.2.2.1 - cl0))) (fun (u : va_W × (Nat → Int32) × (Nat → Value) × (Nat → Nat → Int32)) => ThQ G h0 a F R Z B J u) (fun u => u.1) := by
  intro sz
  refine vx_ofW (cc := cX9_layFields) (maxL := 4) (ret := none) (by decide) rfl ?_
  intro p e s m args below meth c s₁ B9 hml hnt hv
  obtain ⟨rfl, hsz, hP, hD0, hE, hX⟩ := hv
  have hx := B9.exec
  have hb := B9.bytes
  have hr := B9.returns
  have hts := atoms_spec (ws := Cond.code yX9_layFields cX9_layFields 4 none :: pw) B9.pre
  have hq : ∀ w ∈ pw, w.before _ s = true := fun w h => hts w (List.mem_cons_of_mem _ h)
  have hown : s.vm.findClass RX9 = some m.cls := findClass_of_methodNamed B9.named
  have hlocks := B9.notSynchronized
  subst hsz
  have hD := hD0.self (sz := s.heap.size)
  have hA : ∀ q : Nat, s.heap.size ≤ q → va_A w s.heap.size q := fun q h => Or.inr h
  generalize va_A w s.heap.size = A at hD hE hA ⊢
  have hS : va_S A s.heap s.heap [] := va_S.rf
  have hl := lv_entry ([.ref pq, .ref d0]) (n := 4) (Nat.le_of_ble_eq_true rfl)
  rw [lg_entry_eq]
  generalize (lg_sl ([.ref pq, .ref d0]) ++ List.replicate (4 - (lg_sl ([.ref pq, .ref d0])).length) Slot.unset).toArray = ls at hl ⊢
  have hl : lv_has ls 4 [(0, .ref pq), (1, .ref d0)] := hl
  have hsm := LyB.sum hly
  refine lv_aload_n hx hb dX9_layFields_0 rfl (lv_at hl 1 rfl) ?_
  refine lv_astore_n (lv' := [(2, .ref d0), (0, .ref pq), (1, .ref d0)]) hx hb dX9_layFields_1 rfl hl (by decide) rfl (fun ls hl => ?_)
  have loop_2 : ∀ (n_2 : Nat) (i2 : Nat) (K2 : PK) (nl2 : Nat) (cl2 : Nat) (it2 : Nat → Nat) (o2 : Option Nat) (H : Heap) (locs : List Loc) (ls : Array Slot) (w : va_W), i2 ≤ 101 → 101 + 1 ≤ i2 + n_2 → (LyB G K2 g rk f8 f9 er (a 1) pq dr ml nd nm cp it s9 (k0 + 1)) → (LsC G K2 ll 1 nl2 it2 cl2) → (cl2 ≤ 10 + 2 * nl2 ∧ cl0 ≤ cl2) → (LsC G K2 lk 3 0 itk ck) → (K2.1 d0 = 4) → (K2.2.2.1 11 d0 = some ll) → (K2.2.2.1 12 d0 = some lk) → (LyS g K0 K2) → (LyT G ll K K2) → (ChL K2 rk er f8 nd nl2 i2 o2) → (LyC G K0 d0 o2 nl2 it2) → (∀ h : Nat, o2 = some h → K0.1 h = 4) → va_P G.1 pCl w H → va_D A w → va_S A s.heap H locs → OKP G h0 a F R Z B J K2 w → lv_has ls 4 [(2, va_rf o2), (1, .ref d0), (0, .ref pq)] → W p l e (headSpec (Cond.code yX9_layFields cX9_layFields 4 none :: pw) ({ frames := 7, cells := (s9 / 2 + 1), slots := (60 + 5 * s9), locals := 171 } : Room)).room s m ([.ref pq, .ref d0] : List Value).toArray below meth c H locs nl2 (4 * (cl2 - cl0)) (vx_MQ below (pQn G A (fun (v : Option Value) (u : va_W × (PK × Nat × Nat × (Nat → Nat))) => v = none ∧ (LyB G u.2.1 g rk f8 f9 er (a 1) pq dr ml nd nm cp it s9 (k0 + 1)) ∧ (LsC G u.2.1 ll 1 u.2.2.1 u.2.2.2.2 u.2.2.2.1) ∧ (2 * u.2.2.1 ≤ s9) ∧ (u.2.2.2.1 ≤ 10 + 2 * u.2.2.1) ∧ (LsC G u.2.1 lk 3 0 itk ck) ∧ (u.2.1.1 d0 = 4) ∧ (u.2.1.2.2.1 12 d0 = some lk) ∧ (cl0 ≤ u.2.2.2.1) ∧ (LyS g K0 u.2.1) ∧ (∃ f : Nat, LyP G K0 f d0 u.2.2.1 u.2.2.2.2) ∧ (LyU G ll K u.2.1 u.2.2.1 u.2.2.2.2) ∧ (OKP G h0 a F R Z B J u.2.1 u.1)) (fun u => u.1) (fun (u : va_W × (PK × Nat × Nat × (Nat → Nat))) => u.2.2.1) (fun (u : va_W × (PK × Nat × Nat × (Nat → Nat))) => (4 * (u.2.2.2.1 - cl0)))) (pXX G A (fun (u : va_W × (Nat → Int32) × (Nat → Value) × (Nat → Nat → Int32)) => ThQ G h0 a F R Z B J u) (fun u => u.1)) ([.ref pq, .ref d0] : List Value).toArray s ({ frames := 7, cells := (s9 / 2 + 1), slots := (60 + 5 * s9), locals := 171 } : Room).cells ({ frames := 7, cells := (s9 / 2 + 1), slots := (60 + 5 * s9), locals := 171 } : Room).slots A) (F0 m 2 ls []) := by
    intro n_2
    induction n_2 with
    | zero => intro i2 K2 nl2 cl2 it2 o2 H locs ls w hk_2 hn_2; omega
    | succ n_2 ih_2 =>
      intro i2 K2 nl2 cl2 it2 o2 H locs ls w hk_2 hn_2 hly2 hlc2 hcb2 hlk2 hd2 hll2 hck2 hlz2 hlu2 hch2 hyc2 hd92 hP hD hS hO hl
      have htl := hlc2.1
      rcases o2 with _ | dH
      · have hl : lv_has ls 4 [(2, .null), (1, .ref d0), (0, .ref pq)] := hl
        refine W.eq (g2 := F0 m 2 ls []) rfl ?_
        have hnn := hch2.2 rfl
        refine lv_aload_nN hx hb dX9_layFields_2 rfl (lv_at hl 0 rfl) ?_
        refine lv_ifnullN (tgt := 53) hx hb dX9_layFields_3 (by decide) ?_
        refine lv_iconst (v := 0) hx hb dX9_layFields_53 (by decide) ?_
        refine lv_istore_n (lv' := [(2, .int 0), (1, .ref d0), (0, .ref pq)]) hx hb dX9_layFields_54 rfl hl (by decide) rfl (fun ls hl => ?_)
        have loop_4 : ∀ (n_4 : Nat) (i4 : Nat) (K4 : PK) (nl4 : Nat) (cl4 : Nat) (it4 : Nat → Nat) (H : Heap) (locs : List Loc) (ls : Array Slot) (w : va_W), i4 ≤ nl2 → nl2 + 1 ≤ i4 + n_4 → (LyB G K4 g rk f8 f9 er (a 1) pq dr ml nd nm cp it s9 (k0 + 1)) → (LsC G K4 ll 1 nl4 it4 cl4) → (cl4 ≤ 10 + 2 * nl4 ∧ cl0 ≤ cl4) → (LsC G K4 lk 3 0 itk ck) → (K4.1 d0 = 4) → (K4.2.2.1 11 d0 = some ll) → (K4.2.2.1 12 d0 = some lk) → (LyS g K0 K4) → (LyU G ll K K4 i4 it4) → (∃ f : Nat, LyP G K0 f d0 nl4 it4) → (nl4 ≤ sumN f8 nd) → (nl4 = nl2) → va_P G.1 pCl w H → va_D A w → va_S A s.heap H locs → OKP G h0 a F R Z B J K4 w → lv_has ls 4 [(2, .int (nI i4)), (1, .ref d0), (0, .ref pq)] → W p l e (headSpec (Cond.code yX9_layFields cX9_layFields 4 none :: pw) ({ frames := 7, cells := (s9 / 2 + 1), slots := (60 + 5 * s9), locals := 171 } : Room)).room s m ([.ref pq, .ref d0] : List Value).toArray below meth c H locs nl4 (4 * (cl4 - cl0)) (vx_MQ below (pQn G A (fun (v : Option Value) (u : va_W × (PK × Nat × Nat × (Nat → Nat))) => v = none ∧ (LyB G u.2.1 g rk f8 f9 er (a 1) pq dr ml nd nm cp it s9 (k0 + 1)) ∧ (LsC G u.2.1 ll 1 u.2.2.1 u.2.2.2.2 u.2.2.2.1) ∧ (2 * u.2.2.1 ≤ s9) ∧ (u.2.2.2.1 ≤ 10 + 2 * u.2.2.1) ∧ (LsC G u.2.1 lk 3 0 itk ck) ∧ (u.2.1.1 d0 = 4) ∧ (u.2.1.2.2.1 12 d0 = some lk) ∧ (cl0 ≤ u.2.2.2.1) ∧ (LyS g K0 u.2.1) ∧ (∃ f : Nat, LyP G K0 f d0 u.2.2.1 u.2.2.2.2) ∧ (LyU G ll K u.2.1 u.2.2.1 u.2.2.2.2) ∧ (OKP G h0 a F R Z B J u.2.1 u.1)) (fun u => u.1) (fun (u : va_W × (PK × Nat × Nat × (Nat → Nat))) => u.2.2.1) (fun (u : va_W × (PK × Nat × Nat × (Nat → Nat))) => (4 * (u.2.2.2.1 - cl0)))) (pXX G A (fun (u : va_W × (Nat → Int32) × (Nat → Value) × (Nat → Nat → Int32)) => ThQ G h0 a F R Z B J u) (fun u => u.1)) ([.ref pq, .ref d0] : List Value).toArray s ({ frames := 7, cells := (s9 / 2 + 1), slots := (60 + 5 * s9), locals := 171 } : Room).cells ({ frames := 7, cells := (s9 / 2 + 1), slots := (60 + 5 * s9), locals := 171 } : Room).slots A) (F0 m 55 ls []) := by
          intro n_4
          induction n_4 with
          | zero => intro i4 K4 nl4 cl4 it4 H locs ls w hk_4 hn_4; omega
          | succ n_4 ih_4 =>
            intro i4 K4 nl4 cl4 it4 H locs ls w hk_4 hn_4 hly4 hlc4 hcb4 hlk4 hd4 hll4 hck4 hlz4 hlu4 hyP4 hnn4 hnl4 hP hD hS hO hl
            have htl := hlc4.1
            refine lv_iload_n hx hb dX9_layFields_55 rfl (lv_at hl 0 rfl) ?_
            refine lv_aload_n hx hb dX9_layFields_56 rfl (lv_at hl 1 rfl) ?_
            refine p_get (v := .ref ll) (C := RX2) (Tc := TX2) (N := 13) (ci := 2) hx hb hq pin_wsX20 hown hE hP hO (by rw [hd4]; decide) (rep_4 hd4) rfl 11 (by decide) (hq _ pw_1169) (fun _ h9 => h9) (congrArg (fun z => some (va_rf z)) hll4) dX9_layFields_57 ?_
            have hO : OKP G h0 a F R Z B J K4 w := hO.to rfl
            obtain ⟨qr4, hqr5⟩ := p_recv hO (by rw [htl]; decide) (rep_5 htl)
            refine pc_V0 (G := G) (As := []) (rest := [.int (nI i4)]) hx hb hml hown hq hE hX pX0_al hP hD hS hA hl.1 (L_size l G h0 a F R Z B J K4 w ll 1 nl4 it4 hlc4.ls hO) (gV pw_516 pw_87 pw_88 pw_32 pw_16) hV_Jx4a65c_size_8abf5 qr4 10 hqr5 rfl rfl rfl (Nat.le_of_ble_eq_true rfl) dX9_layFields_60 ⟨(by show nl4 + 0 ≤ (s9 / 2 + 1); omega), (by show (4 * (cl4 - cl0)) + 0 ≤ (60 + 5 * s9); omega)⟩ ⟨Nat.le_of_ble_eq_true rfl, Nat.le_of_ble_eq_true rfl⟩ (fun v3 u1 H locs hw2 hP hD hS => ?_)
            obtain ⟨w, _⟩ := u1
            obtain ⟨hw2, hO⟩ := hw2
            obtain rfl : v3 = some (.int (nI nl4)) := hw2
            have hO : OKP G h0 a F R Z B J K4 w := hO.to rfl
            refine W.widen (k := nl4) (n := (4 * (cl4 - cl0))) (by show nl4 + 0 ≤ nl4; omega) (by show (4 * (cl4 - cl0)) + 0 ≤ (4 * (cl4 - cl0)); omega) ?_
            refine W.eq (g2 := F0 m 63 ls [.int (nI nl4), .int (nI i4)]) rfl ?_
            refine lv_icmp_ge (tgt := 87) hx hb dX9_layFields_63 (by decide) (fun c6 => ?_) (fun c6 => ?_)
            · have n7 : nl4 ≤ i4 := (nI_leI (a := nl4) (b := i4) (by omega) (by omega)).mp c6
              refine W_size (fun hz1 hz2 => ?_)
              refine vx_ret ?_
              have hz8 : LyB G K4 g rk f8 f9 er (a 1) pq dr ml nd nm cp it s9 (k0 + 1) := hly4
              have hz9 : LsC G K4 ll 1 nl4 it4 cl4 := hlc4
              have hz10 : 2 * nl4 ≤ s9 := (by omega)
              have hz11 : cl4 ≤ 10 + 2 * nl4 := (by omega)
              have hz12 : LsC G K4 lk 3 0 itk ck := hlk4
              have hz13 : K4.1 d0 = 4 := hd4
              have hz14 : K4.2.2.1 12 d0 = some lk := hck4
              have hz15 : cl0 ≤ cl4 := (by omega)
              have hz16 : LyS g K0 K4 := hlz4
              have hz17 : ∃ f : Nat, LyP G K0 f d0 nl4 it4 := hyP4
              have hz18 : LyU G ll K K4 nl4 it4 := (by have z9 : i4 = nl4 := (by omega); rw [← z9]; exact hlu4)
              have hO : OKP G h0 a F R Z B J K4 w := hO.to rfl
              refine W.widen (k := (s9 / 2 + 1)) (n := (60 + 5 * s9)) (by omega) (by omega) ?_
              have hzz1 : H.size ≤ s.heap.size + (nl4) := (by have z : nl4 ≤ nl4 := (by omega); omega)
              have hzz2 : hSl H ≤ hSl s.heap + ((4 * (cl4 - cl0))) := (by have z : (4 * (cl4 - cl0)) ≤ (4 * (cl4 - cl0)) := (by omega); omega)
              exact W.vret hx hb hr (fun t99 ht99 hW99 => ⟨⟨_, (w, (K4, nl4, cl4, it4)), rfl, ⟨rfl, hz8, hz9, hz10, hz11, hz12, hz13, hz14, hz15, hz16, hz17, hz18, hO⟩, by rw [ht99]; exact hP, hD, by rw [ht99]; exact hzz1, by rw [ht99]; exact hzz2⟩, hS.F ht99⟩) hS.2.2 dX9_layFields_87
            · have n19 : ¬ (nl4 ≤ i4) := fun h9 => c6 ((nI_leI (a := nl4) (b := i4) (by omega) (by omega)).mpr h9)
              refine lv_aload_n hx hb dX9_layFields_66 rfl (lv_at hl 1 rfl) ?_
              refine p_get (v := .ref ll) (C := RX2) (Tc := TX2) (N := 13) (ci := 2) hx hb hq pin_wsX20 hown hE hP hO (by rw [hd4]; decide) (rep_4 hd4) rfl 11 (by decide) (hq _ pw_1169) (fun _ h9 => h9) (congrArg (fun z => some (va_rf z)) hll4) dX9_layFields_67 ?_
              refine lv_iload_n hx hb dX9_layFields_70 rfl (lv_at hl 0 rfl) ?_
              have hO : OKP G h0 a F R Z B J K4 w := hO.to rfl
              obtain ⟨qr23, hqr24⟩ := p_recv hO (by rw [htl]; decide) (rep_5 htl)
              refine pc_V0 (G := G) (As := [.int (nI i4)]) (rest := []) hx hb hml hown hq hE hX pX0_al hP hD hS hA hl.1 (L_get l G h0 a F R Z B J K4 w ll 1 nl4 it4 i4 hlc4.ls (by omega) hO) (gV pw_517 pw_90 pw_91 pw_32 pw_25) hV_Jx4a65c_get_915e3 qr23 10 hqr24 rfl rfl rfl (Nat.le_of_ble_eq_true rfl) dX9_layFields_71 ⟨(by show nl4 + 0 ≤ (s9 / 2 + 1); omega), (by show (4 * (cl4 - cl0)) + 0 ≤ (60 + 5 * s9); omega)⟩ ⟨Nat.le_of_ble_eq_true rfl, Nat.le_of_ble_eq_true rfl⟩ (fun v22 u20 H locs hw21 hP hD hS => ?_)
              obtain ⟨w, _⟩ := u20
              obtain ⟨hw21, hO⟩ := hw21
              obtain rfl : v22 = some (.ref (it4 i4)) := hw21
              have hO : OKP G h0 a F R Z B J K4 w := hO.to rfl
              refine W.widen (k := nl4) (n := (4 * (cl4 - cl0))) (by show nl4 + 0 ≤ nl4; omega) (by show (4 * (cl4 - cl0)) + 0 ≤ (4 * (cl4 - cl0)); omega) ?_
              refine W.eq (g2 := F0 m 74 ls [.ref (it4 i4)]) rfl ?_
              have hf25 : K4.1 (it4 i4) = 1 := hlc4.T (by omega)
              refine p_cast (C := RX7) (Tc := TX7) (N := 11) (ci := 13) hx hb hown (hq _ pw_1090) hE hP hO (by rw [hf25]; decide) (rep_1 hf25) rfl dX9_layFields_74 ?_
              refine lv_iload_n hx hb dX9_layFields_77 rfl (lv_at hl 0 rfl) ?_
              refine p_put (v := .int (nI i4)) (ty := .int) (C := RX7) (Tc := TX7) (N := 11) (ci := 13) (K' := (kI K4 5 (it4 i4) (nI i4))) hx hb hq pin_wsX70 tyX7 tyX7_ok nmX7 hown hE hP hD hS hO (by rw [hf25]; decide) (rep_1 hf25) rfl 5 (by decide) (hq _ pw_1170) (fun _ h9 => h9) rfl (by decide +kernel) rfl rfl (Nat.le_of_ble_eq_true rfl) rfl (by rw [rep_1 (show (kI K4 5 (it4 i4) (nI i4)).1 (it4 i4) = 1 from hf25), pi_5] <;> rfl) (fun p9 hp9 => rep_kI hp9) dX9_layFields_78 (fun H locs w hP hD hS hO => ?_)
              obtain ⟨K26, hK27⟩ : ∃ z : PK, z = (kI K4 5 (it4 i4) (nI i4)) := ⟨_, rfl⟩
              rw [← hK27] at hO
              have hf28 : K26.1 d0 = 4 := (by rw [hK27]; exact hd4)
              have hf29 : K26.2.2.1 11 d0 = some ll := (by rw [hK27]; exact hll4)
              have hf30 : K26.1 ll = 5 := (by rw [hK27]; exact htl)
              have hf31 : K26.1 (it4 i4) = 1 := (by rw [hK27]; exact hf25)
              have hf32 : K26.2.1 5 (it4 i4) = (nI i4) := by rw [hK27]; exact kI_eq
              have hq33 : LyB G K26 g rk f8 f9 er (a 1) pq dr ml nd nm cp it s9 (k0 + 1) := by rw [hK27]; exact LyB.kI hly4 (Or.inl rfl)
              have hq34 : LsC G K26 ll 1 nl4 it4 cl4 := by rw [hK27]; exact LsC.kI (by decide) hlc4
              have hq35 : LsC G K26 lk 3 0 itk ck := by rw [hK27]; exact LsC.kI (by decide) hlk4
              have hq36 : K26.2.2.1 12 d0 = some lk := by rw [hK27]; exact hck4
              have hlz37 : LyS g K0 K26 := by rw [hK27]; exact LyS.kI5 hlz4 hf25
              obtain ⟨fY, hY⟩ := hyP4
              have hlu38 : LyU G ll K K26 (i4 + 1) it4 := by rw [hK27]; exact LyU.put hlu4 hf25 (fun j hj e => by have z := LyP.pos (fun d p h1 h2 => (hw0.2.2.1 d h1).2.2.2.2.1 p h2) hfu hd00 hd00 hY hY (i := j) (j := i4) (by omega) (by omega) e; omega)
              have hyP4 : ∃ f : Nat, LyP G K0 f d0 nl4 it4 := ⟨fY, hY⟩
              refine lv_iinc (v := (nI (i4 + 1))) (lv' := [(2, .int (nI (i4 + 1))), (1, .ref d0), (0, .ref pq)]) hx hb dX9_layFields_81 hl (k := 0) rfl (nI_1 i4) (by decide) rfl (fun ls hl => ?_)
              refine lv_goto (tgt := 55) hx hb dX9_layFields_84 (by decide) ?_
              refine W.widen (k := nl4) (n := (4 * (cl4 - cl0))) (by show nl4 ≤ _; omega) (by show (4 * (cl4 - cl0)) ≤ _; omega) ?_
              have hO : OKP G h0 a F R Z B J K26 w := hO.to rfl
              exact ih_4 (i4 + 1) K26 nl4 cl4 it4 _ _ _ _ (by omega) (by omega) hq33 hq34 (by omega) hq35 hf28 hf29 hq36 hlz37 hlu38 hyP4 (by omega) (by omega) hP hD hS hO (lv_sub hl [0, 1, 2] rfl)
        refine W.widen (k := nl2) (n := (4 * (cl2 - cl0))) (by show nl2 ≤ _; omega) (by show (4 * (cl2 - cl0)) ≤ _; omega) ?_
        have hO : OKP G h0 a F R Z B J K2 w := hO.to rfl
        exact loop_4 (nl2 + 1) 0 K2 nl2 cl2 it2 _ _ _ _ (by omega) (by omega) hly2 hlc2 (by omega) hlk2 hd2 hll2 hck2 hlz2 (LyU.of hlu2) (LyC.fin hyc2) (by omega) (by omega) hP hD hS hO (lv_sub hl [0, 1, 2] rfl)
      · have hl : lv_has ls 4 [(2, .ref dH), (1, .ref d0), (0, .ref pq)] := hl
        refine W.eq (g2 := F0 m 2 ls []) rfl ?_
        obtain ⟨hcT, hcR, hcN, jL, hjL, heL⟩ := hch2.1 dH rfl
        have hsg := sumGt_le (ff := f8) (rx := rkx rk er) (r := rk dH) (n := nd)
        have hst := sumGt_all (ff := f8) (n := nd) hjL (show rkx rk er jL = rk dH by unfold rkx; rw [heL])
        obtain ⟨lf, hflf, htlf, hrlf, holf⟩ := (hly2.1.2.2.1 dH hcT).1
        obtain ⟨nlf, itlf, cplf, hlclf, hnblf, _⟩ := hly2.1.2.1 lf htlf
        rw [hrlf] at hlclf hnblf
        have hlclf : LsC G K2 lf 1 nlf itlf cplf := hlclf
        have hnblf : nlf ≤ 20 := hnblf
        have hn8 := LyB.n8 hly2 hjL heL hflf hlclf
        have hd9H := hd92 dH rfl
        obtain ⟨itF, hFl0, hFl1⟩ := LyS.fl hlz2 hw0 hd9H hflf hlclf
        refine lv_aload_n hx hb dX9_layFields_2 rfl (lv_at hl 0 rfl) ?_
        refine lv_ifnull hx hb dX9_layFields_3 ?_
        refine lv_aload_n hx hb dX9_layFields_6 rfl (lv_at hl 0 rfl) ?_
        refine p_get (v := .ref lf) (C := RX2) (Tc := TX2) (N := 13) (ci := 2) hx hb hq pin_wsX20 hown hE hP hO (by rw [hcT]; decide) (rep_4 hcT) rfl 7 (by decide) (hq _ pw_1089) (fun _ h9 => h9) (congrArg (fun z => some (va_rf z)) hflf) dX9_layFields_7 ?_
        have hO : OKP G h0 a F R Z B J K2 w := hO.to rfl
        obtain ⟨qr42, hqr43⟩ := p_recv hO (by rw [htlf]; decide) (rep_5 htlf)
        refine pc_V0 (G := G) (As := []) (rest := []) hx hb hml hown hq hE hX pX0_al hP hD hS hA hl.1 (L_size l G h0 a F R Z B J K2 w lf 1 nlf itlf hlclf.ls hO) (gV pw_516 pw_87 pw_88 pw_32 pw_16) hV_Jx4a65c_size_8abf5 qr42 10 hqr43 rfl rfl rfl (Nat.le_of_ble_eq_true rfl) dX9_layFields_10 ⟨(by show nl2 + 0 ≤ (s9 / 2 + 1); omega), (by show (4 * (cl2 - cl0)) + 0 ≤ (60 + 5 * s9); omega)⟩ ⟨Nat.le_of_ble_eq_true rfl, Nat.le_of_ble_eq_true rfl⟩ (fun v41 u39 H locs hw40 hP hD hS => ?_)
        obtain ⟨w, _⟩ := u39
        obtain ⟨hw40, hO⟩ := hw40
        obtain rfl : v41 = some (.int (nI nlf)) := hw40
        have hO : OKP G h0 a F R Z B J K2 w := hO.to rfl
        refine W.widen (k := nl2) (n := (4 * (cl2 - cl0))) (by show nl2 + 0 ≤ nl2; omega) (by show (4 * (cl2 - cl0)) + 0 ≤ (4 * (cl2 - cl0)); omega) ?_
        refine W.eq (g2 := F0 m 13 ls [.int (nI nlf)]) rfl ?_
        refine lv_iconst (v := 1) hx hb dX9_layFields_13 (by decide) ?_
        refine lv_isub hx hb dX9_layFields_14 ?_
        refine lv_topi (fun x44 e45 => ?_)
        refine lv_istore_n (lv' := [(3, .int x44), (2, .ref dH), (1, .ref d0), (0, .ref pq)]) hx hb dX9_layFields_15 rfl hl (by decide) rfl (fun ls hl => ?_)
        have loop_3 : ∀ (n_3 : Nat) (u3 : Nat) (K3 : PK) (nl3 : Nat) (cl3 : Nat) (it3 : Nat → Nat) (x3 : Int32) (H : Heap) (locs : List Loc) (ls : Array Slot) (w : va_W), u3 ≤ nlf → nlf + 1 ≤ u3 + n_3 → (LyB G K3 g rk f8 f9 er (a 1) pq dr ml nd nm cp it s9 (k0 + 1)) → (LsC G K3 ll 1 nl3 it3 cl3) → (cl3 ≤ 10 + 2 * nl3 ∧ cl0 ≤ cl3) → (LsC G K3 lk 3 0 itk ck) → (K3.1 d0 = 4) → (K3.2.2.1 11 d0 = some ll) → (K3.2.2.1 12 d0 = some lk) → (LyS g K0 K3) → (LyT G ll K K3) → (∀ i : Nat, i < u3 → it3 i = itlf (nlf - u3 + i)) → (∀ i : Nat, i < nl2 → it3 (u3 + i) = it2 i) → (nl3 = nl2 + u3) → (x3 = nI (nlf - u3) - 1) → (K3.1 dH = 4) → (K3.2.2.1 8 dH = some lf) → (LsC G K3 lf 1 nlf itlf cplf) → va_P G.1 pCl w H → va_D A w → va_S A s.heap H locs → OKP G h0 a F R Z B J K3 w → lv_has ls 4 [(3, .int x3), (2, .ref dH), (1, .ref d0), (0, .ref pq)] → W p l e (headSpec (Cond.code yX9_layFields cX9_layFields 4 none :: pw) ({ frames := 7, cells := (s9 / 2 + 1), slots := (60 + 5 * s9), locals := 171 } : Room)).room s m ([.ref pq, .ref d0] : List Value).toArray below meth c H locs nl3 (4 * (cl3 - cl0)) (vx_MQ below (pQn G A (fun (v : Option Value) (u : va_W × (PK × Nat × Nat × (Nat → Nat))) => v = none ∧ (LyB G u.2.1 g rk f8 f9 er (a 1) pq dr ml nd nm cp it s9 (k0 + 1)) ∧ (LsC G u.2.1 ll 1 u.2.2.1 u.2.2.2.2 u.2.2.2.1) ∧ (2 * u.2.2.1 ≤ s9) ∧ (u.2.2.2.1 ≤ 10 + 2 * u.2.2.1) ∧ (LsC G u.2.1 lk 3 0 itk ck) ∧ (u.2.1.1 d0 = 4) ∧ (u.2.1.2.2.1 12 d0 = some lk) ∧ (cl0 ≤ u.2.2.2.1) ∧ (LyS g K0 u.2.1) ∧ (∃ f : Nat, LyP G K0 f d0 u.2.2.1 u.2.2.2.2) ∧ (LyU G ll K u.2.1 u.2.2.1 u.2.2.2.2) ∧ (OKP G h0 a F R Z B J u.2.1 u.1)) (fun u => u.1) (fun (u : va_W × (PK × Nat × Nat × (Nat → Nat))) => u.2.2.1) (fun (u : va_W × (PK × Nat × Nat × (Nat → Nat))) => (4 * (u.2.2.2.1 - cl0)))) (pXX G A (fun (u : va_W × (Nat → Int32) × (Nat → Value) × (Nat → Nat → Int32)) => ThQ G h0 a F R Z B J u) (fun u => u.1)) ([.ref pq, .ref d0] : List Value).toArray s ({ frames := 7, cells := (s9 / 2 + 1), slots := (60 + 5 * s9), locals := 171 } : Room).cells ({ frames := 7, cells := (s9 / 2 + 1), slots := (60 + 5 * s9), locals := 171 } : Room).slots A) (F0 m 16 ls []) := by
          intro n_3
          induction n_3 with
          | zero => intro u3 K3 nl3 cl3 it3 x3 H locs ls w hk_3 hn_3; omega
          | succ n_3 ih_3 =>
            intro u3 K3 nl3 cl3 it3 x3 H locs ls w hk_3 hn_3 hly3 hlc3 hcb3 hlk3 hd3 hll3 hck3 hlz3 hlu3 hf93 hf83 hnl3 hx3 hT3 hf3 hlf3 hP hD hS hO hl
            have htl := hlc3.1
            have htf := hlf3.1
            rcases dec_cases (by omega) hx3 with ⟨ht0, hxm⟩ | ⟨m3, ht0, hxm⟩
            · rw [hxm] at hl
              refine lv_iload_n hx hb dX9_layFields_16 rfl (lv_at hl 0 rfl) ?_
              refine lv_if_lt (tgt := 45) hx hb dX9_layFields_17 (by decide) (fun c46 => ?_) (fun c46 => absurd c46 (by decide))
              refine lv_aload_n hx hb dX9_layFields_45 rfl (lv_at hl 1 rfl) ?_
              rcases ho48 : K3.2.2.1 10 dH with _ | o47
              · skip
                refine p_get (v := .null) (C := RX2) (Tc := TX2) (N := 13) (ci := 2) hx hb hq pin_wsX20 hown hE hP hO (by rw [hT3]; decide) (rep_4 hT3) rfl 9 (by decide) (hq _ pw_1138) (fun _ h9 => h9) (congrArg (fun z => some (va_rf z)) ho48) dX9_layFields_46 ?_
                refine lv_astore_nN (lv' := [(2, .null), (3, .int (-1)), (1, .ref d0), (0, .ref pq)]) hx hb dX9_layFields_49 rfl hl (by decide) rfl (fun ls hl => ?_)
                refine lv_goto (tgt := 2) hx hb dX9_layFields_50 (by decide) ?_
                refine W.widen (k := nl3) (n := (4 * (cl3 - cl0))) (by show nl3 ≤ _; omega) (by show (4 * (cl3 - cl0)) ≤ _; omega) ?_
                have hO : OKP G h0 a F R Z B J K3 w := hO.to rfl
                exact ih_2 (i2 + 1) K3 nl3 cl3 it3 none _ _ _ _ (by omega) (by omega) hly3 hlc3 (by omega) hlk3 hd3 hll3 hck3 hlz3 hlu3 (ChL.up hly3.2.2.1 hly3.2.1.a hly3.2.2.2.2.1 hT3 hcR (by omega) hjL heL ho48) (LyC.up hyc2 hFl0 (by omega) (fun i hi => by have z9 := hf93 i (by omega); rw [show nlf - u3 + i = i by omega] at z9; exact z9.trans (hFl1 i hi)) (fun i hi => by have z9 := hf83 i hi; rw [show u3 = nlf by omega] at z9; exact z9) ((LyS.C hlz3 hd9H (by decide) (by decide) (by decide) 10).symm.trans ho48)) (fun h e => by cases e) hP hD hS hO (lv_sub hl [0, 2, 3] rfl)
              · skip
                refine p_get (v := .ref o47) (C := RX2) (Tc := TX2) (N := 13) (ci := 2) hx hb hq pin_wsX20 hown hE hP hO (by rw [hT3]; decide) (rep_4 hT3) rfl 9 (by decide) (hq _ pw_1138) (fun _ h9 => h9) (congrArg (fun z => some (va_rf z)) ho48) dX9_layFields_46 ?_
                refine lv_astore_n (lv' := [(2, .ref o47), (3, .int (-1)), (1, .ref d0), (0, .ref pq)]) hx hb dX9_layFields_49 rfl hl (by decide) rfl (fun ls hl => ?_)
                refine lv_goto (tgt := 2) hx hb dX9_layFields_50 (by decide) ?_
                refine W.widen (k := nl3) (n := (4 * (cl3 - cl0))) (by show nl3 ≤ _; omega) (by show (4 * (cl3 - cl0)) ≤ _; omega) ?_
                have hO : OKP G h0 a F R Z B J K3 w := hO.to rfl
                exact ih_2 (i2 + 1) K3 nl3 cl3 it3 (some o47) _ _ _ _ (by omega) (by omega) hly3 hlc3 (by omega) hlk3 hd3 hll3 hck3 hlz3 hlu3 (ChL.up hly3.2.2.1 hly3.2.1.a hly3.2.2.2.2.1 hT3 hcR (by omega) hjL heL ho48) (LyC.up hyc2 hFl0 (by omega) (fun i hi => by have z9 := hf93 i (by omega); rw [show nlf - u3 + i = i by omega] at z9; exact z9.trans (hFl1 i hi)) (fun i hi => by have z9 := hf83 i hi; rw [show u3 = nlf by omega] at z9; exact z9) ((LyS.C hlz3 hd9H (by decide) (by decide) (by decide) 10).symm.trans ho48)) (fun h e => by cases e; exact (hw0.2.2.1 dH hd9H).2.2.2.2.1 _ ((LyS.C hlz3 hd9H (by decide) (by decide) (by decide) 10).symm.trans ho48)) hP hD hS hO (lv_sub hl [0, 2, 3] rfl)
            · rw [hxm] at hl
              refine lv_iload_n hx hb dX9_layFields_16 rfl (lv_at hl 0 rfl) ?_
              refine lv_if_lt (tgt := 45) hx hb dX9_layFields_17 (by decide) (fun c49 => (absurd c49 (nI_pos (by omega)))) (fun c49 => ?_)
              refine lv_aload_n hx hb dX9_layFields_20 rfl (lv_at hl 2 rfl) ?_
              refine p_get (v := .ref ll) (C := RX2) (Tc := TX2) (N := 13) (ci := 2) hx hb hq pin_wsX20 hown hE hP hO (by rw [hd3]; decide) (rep_4 hd3) rfl 11 (by decide) (hq _ pw_1169) (fun _ h9 => h9) (congrArg (fun z => some (va_rf z)) hll3) dX9_layFields_21 ?_
              refine lv_iconst (v := 0) hx hb dX9_layFields_24 (by decide) ?_
              refine lv_aload_n hx hb dX9_layFields_25 rfl (lv_at hl 1 rfl) ?_
              refine p_get (v := .ref lf) (C := RX2) (Tc := TX2) (N := 13) (ci := 2) hx hb hq pin_wsX20 hown hE hP hO (by rw [hT3]; decide) (rep_4 hT3) rfl 7 (by decide) (hq _ pw_1089) (fun _ h9 => h9) (congrArg (fun z => some (va_rf z)) hf3) dX9_layFields_26 ?_
              refine lv_iload_n hx hb dX9_layFields_29 rfl (lv_at hl 0 rfl) ?_
              have hO : OKP G h0 a F R Z B J K3 w := hO.to rfl
              obtain ⟨qr53, hqr54⟩ := p_recv hO (by rw [htf]; decide) (rep_5 htf)
              refine pc_V0 (G := G) (As := [.int (nI m3)]) (rest := [.int 0, .ref ll]) hx hb hml hown hq hE hX pX0_al hP hD hS hA hl.1 (L_get l G h0 a F R Z B J K3 w lf 1 nlf itlf m3 hlf3.ls (by omega) hO) (gV pw_517 pw_90 pw_91 pw_32 pw_25) hV_Jx4a65c_get_915e3 qr53 10 hqr54 rfl rfl rfl (Nat.le_of_ble_eq_true rfl) dX9_layFields_30 ⟨(by show nl3 + 0 ≤ (s9 / 2 + 1); omega), (by show (4 * (cl3 - cl0)) + 0 ≤ (60 + 5 * s9); omega)⟩ ⟨Nat.le_of_ble_eq_true rfl, Nat.le_of_ble_eq_true rfl⟩ (fun v52 u50 H locs hw51 hP hD hS => ?_)
              obtain ⟨w, _⟩ := u50
              obtain ⟨hw51, hO⟩ := hw51
              obtain rfl : v52 = some (.ref (itlf m3)) := hw51
              have hO : OKP G h0 a F R Z B J K3 w := hO.to rfl
              refine W.widen (k := nl3) (n := (4 * (cl3 - cl0))) (by show nl3 + 0 ≤ nl3; omega) (by show (4 * (cl3 - cl0)) + 0 ≤ (4 * (cl3 - cl0)); omega) ?_
              refine W.eq (g2 := F0 m 33 ls [.ref (itlf m3), .int 0, .ref ll]) rfl ?_
              have hf55 : K3.1 (itlf m3) = 1 := hlf3.T (by omega)
              refine p_cast (C := RX7) (Tc := TX7) (N := 11) (ci := 13) hx hb hown (hq _ pw_1090) hE hP hO (by rw [hf55]; decide) (rep_1 hf55) rfl dX9_layFields_33 ?_
              have hO : OKP G h0 a F R Z B J K3 w := hO.to rfl
              obtain ⟨qr59, hqr60⟩ := p_recv hO (by rw [htl]; decide) (rep_5 htl)
              refine pn_V0 (G := G) (As := [.int 0, .ref (itlf m3)]) (rest := []) hx hb hml hown hq hE hX pX0_al hP hD hS hA hl.1 (L_insC l G h0 a F R Z B J K3 w ll nl3 it3 cl3 (itlf m3) hlc3 hf55 (by omega) (by omega) hO hl0) (gV pw_1171 pw_1172 pw_1173 pw_32 pw_1168) hV_Jx4a65c_add_7a177 qr59 10 hqr60 rfl rfl rfl (Nat.le_of_ble_eq_true rfl) dX9_layFields_36 ⟨(by show nl3 + 1 ≤ (s9 / 2 + 1); omega), (by show (4 * (cl3 - cl0)) + (10 + nl3 + nl3 / 2) ≤ (60 + 5 * s9); omega)⟩ ⟨Nat.le_of_ble_eq_true rfl, Nat.le_of_ble_eq_true rfl⟩ (fun v58 u56 H locs hw57 hP hD hS => ?_) (fun ux ce9 q9 H9 locs9 hux hP9 hD9 hS9 hce hcv hcl => pb_out ux (ThQ.up Thx.rfl RhX.rfl hux) hnt hlocks hce hcv hcl hP9 hD9 hS9 (by show nl3 + 1 ≤ (s9 / 2 + 1); omega) (by show (4 * (cl3 - cl0)) + (10 + nl3 + nl3 / 2) ≤ (60 + 5 * s9); omega))
              obtain ⟨w, K61, d62⟩ := u56
              obtain ⟨hw57, h63, h64, h65, h66, hO⟩ := hw57
              have h63 : LsC G K61 ll 1 (nl3 + 1) (shQ it3 (itlf m3)) (cl3 + d62) := h63
              have h64 : AdQ K3 K61 ll := h64
              have h65 : N6 K3 K61 := h65
              have h66 : cl3 + d62 ≤ 10 + 2 * (nl3 + 1) := h66
              obtain rfl : v58 = none := hw57
              have hO : OKP G h0 a F R Z B J K61 w := hO.to rfl
              refine W.widen (k := (nl3 + 1)) (n := ((4 * (cl3 - cl0)) + (4 * d62))) (by show nl3 + 1 ≤ (nl3 + 1); omega) (by show (4 * (cl3 - cl0)) + (4 * d62) ≤ ((4 * (cl3 - cl0)) + (4 * d62)); omega) ?_
              refine W.eq (g2 := F0 m 39 ls []) rfl ?_
              have hly67 : LyB G K61 g rk f8 f9 er (a 1) pq dr ml nd nm cp it s9 (k0 + 1) := LyB.add hly3 h64 h65 htl (Or.inl hg3) (by rw [szL_of h63, szL_of hlc3]) (by rw [hg3]; exact h63) (by omega) (LyB.other hly3 hk0 he0 hg4)
              have hlf68 := LsC.other h64 htl (by decide) (fun z => by have z2 := hrlf; rw [z, hg3] at z2; exact absurd z2 (by decide)) hlf3
              have hlk69 := LsC.other h64 htl (by decide) (fun z => by have z2 := hgk; rw [z, hg3] at z2; exact absurd z2 (by decide)) hlk3
              have hf70 : K61.1 d0 = 4 := (AdQ.sm h64 (by rw [hd3]; decide) (fun z => by have z2 := hd3; rw [z, htl] at z2; exact absurd z2 (by decide)) (by rw [hd3]; decide)).1.trans hd3
              have hf71 : K61.1 dH = 4 := (AdQ.sm h64 (by rw [hT3]; decide) (fun z => by have z2 := hT3; rw [z, htl] at z2; exact absurd z2 (by decide)) (by rw [hT3]; decide)).1.trans hT3
              have hf72 : K61.2.2.1 11 d0 = some ll := ((AdQ.sm h64 (by rw [hd3]; decide) (fun z => by have z2 := hd3; rw [z, htl] at z2; exact absurd z2 (by decide)) (by rw [hd3]; decide)).2.2.1 11).trans hll3
              have hf73 : K61.2.2.1 12 d0 = some lk := ((AdQ.sm h64 (by rw [hd3]; decide) (fun z => by have z2 := hd3; rw [z, htl] at z2; exact absurd z2 (by decide)) (by rw [hd3]; decide)).2.2.1 12).trans hck3
              have hf74 : K61.2.2.1 8 dH = some lf := ((AdQ.sm h64 (by rw [hT3]; decide) (fun z => by have z2 := hT3; rw [z, htl] at z2; exact absurd z2 (by decide)) (by rw [hT3]; decide)).2.2.1 8).trans hf3
              have hlz75 : LyS g K0 K61 := LyS.add hlz3 h64 h65 htl (Or.inl hg3)
              have hlu76 : LyT G ll K K61 := LyT.add hlu3 h64 htl
              have htl9 := h63.1
              obtain ⟨x77, e78⟩ : ∃ y : Int32, y = (nI m3) + (-1) := ⟨_, rfl⟩
              refine lv_iinc (v := x77) (lv' := [(3, .int x77), (2, .ref dH), (1, .ref d0), (0, .ref pq)]) hx hb dX9_layFields_39 hl (k := 0) rfl (by rw [e78]; rfl) (by decide) rfl (fun ls hl => ?_)
              refine lv_goto (tgt := 16) hx hb dX9_layFields_42 (by decide) ?_
              refine W.widen (k := (nl3 + 1)) (n := (4 * ((cl3 + d62) - cl0))) (by show (nl3 + 1) ≤ _; omega) (by show ((4 * (cl3 - cl0)) + (4 * d62)) ≤ _; omega) ?_
              have hO : OKP G h0 a F R Z B J K61 w := hO.to rfl
              exact ih_3 (u3 + 1) K61 (nl3 + 1) (cl3 + d62) (shQ it3 (itlf m3)) x77 _ _ _ _ (by omega) (by omega) hly67 h63 (by omega) hlk69 hf70 hf72 hf73 hlz75 hlu76 (shQ_f hf93 (by rw [show nlf - (u3 + 1) = m3 by omega]) (by omega)) (shQ_b hf83) (by omega) (e78.trans (dec_up (by omega))) hf71 hf74 hlf68 hP hD hS hO (lv_sub hl [0, 1, 2, 3] rfl)
        refine W.widen (k := nl2) (n := (4 * (cl2 - cl0))) (by show nl2 ≤ _; omega) (by show (4 * (cl2 - cl0)) ≤ _; omega) ?_
        have hO : OKP G h0 a F R Z B J K2 w := hO.to rfl
        exact loop_3 (nlf + 1) 0 K2 nl2 cl2 it2 x44 _ _ _ _ (by omega) (by omega) hly2 hlc2 (by omega) hlk2 hd2 hll2 hck2 hlz2 hlu2 (fun i h => absurd h (by omega)) (fun i _ => by rw [Nat.zero_add]) (by omega) e45 hcT hflf hlclf hP hD hS hO (lv_sub hl [0, 1, 2, 3] rfl)
  refine W.widen (k := 0) (n := (4 * (cl0 - cl0))) (by show 0 ≤ _; omega) (by show 0 ≤ _; omega) ?_
  have hO : OKP G h0 a F R Z B J K w := hO.to rfl
  exact loop_2 (101 + 1) 0 K 0 cl0 it0 (some d0) _ _ _ _ (by omega) (by omega) hly hlc0 (by omega) hlk hd0 hll hck hz0 LyT.rfl ⟨fun h hh => by cases hh; exact ⟨hd0, Or.inl rfl, Nat.zero_le _, k0, hk0, he0⟩, fun hh => by cases hh⟩ LyC.start (fun h e => by cases e; exact hd00) hP hD hS hO (lv_sub hl [0, 2, 1] rfl)
