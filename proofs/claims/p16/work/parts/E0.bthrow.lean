def Thx (F F' : Nat → Int32) (B B' : Nat → Nat → Int32) : Prop := (∀ k : Nat, ¬ (4 ≤ k ∧ k ≤ 16) → F' k = F k) ∧ (∀ i : Nat, ¬ (i = 10 ∨ i = 11 ∨ (16 ≤ i ∧ i ≤ 27)) → B' i = B i) ∧ (Nng (B 18) → Nng (B' 18))
/-- references that a throw leaves as they were -/
def RhX (R R' : Nat → Value) : Prop := ∀ k : Nat, (k = 0 ∨ 5 ≤ k) → R' k = R k
theorem RhX.rfl {R : Nat → Value} : RhX R R := fun _ _ => Eq.refl _
theorem RhX.trans {R R1 R2 : Nat → Value} (h : RhX R R1) (g : RhX R1 R2) : RhX R R2 := fun k hk => (g k hk).trans (h k hk)
def ThQ (G : pT) (h0 : Nat) (a : Nat → Nat) (F : Nat → Int32) (R : Nat → Value) (Z : Int64) (B : Nat → Nat → Int32) (J : Nat → Nat → Int64) (u : va_W × (Nat → Int32) × (Nat → Value) × (Nat → Nat → Int32)) : Prop := Thx F u.2.1 B u.2.2.2 ∧ RhX R u.2.2.1 ∧ OKW G h0 a u.2.1 u.2.2.1 Z u.2.2.2 J (fun _ => 0) (fun _ _ => True) u.1
section TH
variable {F F1 F2 : Nat → Int32} {B B1 B2 : Nat → Nat → Int32} {G : pT} {h0 : Nat} {a : Nat → Nat} {R R1 : Nat → Value} {Z : Int64} {J : Nat → Nat → Int64} {T : Nat → Nat} {Pi : Nat → va_E → Prop} {w : va_W}
theorem Thx.rfl : Thx F F B B := ⟨fun _ _ => Eq.refl _, fun _ _ => Eq.refl _, id⟩
theorem Thx.trans (h : Thx F F1 B B1) (g : Thx F1 F2 B1 B2) : Thx F F2 B B2 := ⟨fun k hk => (g.1 k hk).trans (h.1 k hk), fun i hi => (g.2.1 i hi).trans (h.2.1 i hi), fun z => g.2.2 (h.2.2 z)⟩
theorem Thx.f {k : Nat} {v : Int32} (h : Thx F F1 B B1) (hk : 4 ≤ k ∧ k ≤ 16) : Thx F (upd F1 k v) B B1 := ⟨fun j hj => (if_neg (fun z => hj (by omega))).trans (h.1 j hj), h.2⟩
theorem Thx.b {i : Nat} {f : Nat → Int32} (h : Thx F F1 B B1) (hi : i = 10 ∨ i = 11 ∨ (16 ≤ i ∧ i ≤ 27)) (h8 : ¬ i = 18) : Thx F F1 B (updA B1 i f) := ⟨h.1, fun j hj => (if_neg (fun z => hj (by omega))).trans (h.2.1 j hj), fun z => by
  show Nng (if 18 = i then f else B1 18)
  rw [if_neg (fun z => h8 z.symm)]; exact h.2.2 z⟩
theorem Thx.b8 {f : Nat → Int32} (h : Thx F F1 B B1) (hf : Nng f) : Thx F F1 B (updA B1 18 f) := ⟨h.1, fun j hj => (if_neg (fun z => hj (by omega))).trans (h.2.1 j hj), fun _ => hf⟩
theorem Thx.same {k : Nat} {v : Int32} (h : Thx F F1 B B1) (hv : v = F1 k) : Thx F (upd F1 k v) B B1 := ⟨fun j hj => by
  by_cases z : j = k
  · subst z; exact (if_pos (Eq.refl _)).trans (hv.trans (h.1 j hj))
  · exact (if_neg z).trans (h.1 j hj), h.2⟩
theorem OKW.gone (hO : OKW G h0 a F R Z B J T Pi w) : OKW G h0 a F R Z B J (fun _ => 0) (fun _ _ => True) w := ⟨hO.1, fun k x hk => ⟨Eq.refl _, (hO.2.1 k x hk).2⟩, fun _ _ _ _ => trivial, fun _ h => absurd (Eq.refl _) h⟩
theorem ThQ.of (h : Thx F F1 B B1) (hr : RhX R R1) (hO : OKW G h0 a F1 R1 Z B1 J T Pi w) : ThQ G h0 a F R Z B J (w, F1, R1, B1) := ⟨h, hr, hO.gone⟩
theorem ThQ.up {u : va_W × (Nat → Int32) × (Nat → Value) × (Nat → Nat → Int32)} (h : Thx F F1 B B1) (hr : RhX R R1) (g : ThQ G h0 a F1 R1 Z B1 J u) : ThQ G h0 a F R Z B J u := ⟨h.trans g.1, hr.trans g.2.1, g.2.2⟩
end TH
def tkN (f : Nat → Int32) (sz : Nat) (e x : Int32) : Int32 := if x < 0 ∨ nI sz ≤ x then e else f x.toNatClampNeg
theorem tkN_in {f : Nat → Int32} {sz i : Nat} {e : Int32} (hi : i < sz) (hs : sz ≤ 100000) : tkN f sz e (nI i) = f i := by
  unfold tkN
  rw [if_neg (fun z => ?_), nI_clamp (by omega)]
  rcases z with z | z
  · have := (nI_ltI (a := i) (b := 0) (by omega) (by omega)).mp z
    omega
  · have := (nI_leI (a := sz) (b := i) (by omega) (by omega)).mp z
    omega
theorem tkN_out {f : Nat → Int32} {sz : Nat} {e x : Int32} (h : x < 0 ∨ nI sz ≤ x) : tkN f sz e x = e := if_pos h
/-- the kind is seen, or not -/
def SeQ (kd : Nat → Int32) (sz a : Nat) (x : Int32) (r : Nat) : Prop := (r = 1 → tkN kd sz 67 (nI a) = x) ∧ (r = 0 → ¬ tkN kd sz 67 (nI a) = x)
/-- roles below stay -/
def RoS (ro r1 : Nat → Int32) (a : Nat) : Prop := ∀ i : Nat, i < a → r1 i = ro i
theorem RoS.upd {ro r1 : Nat → Int32} {a i : Nat} {v : Int32} (h : RoS ro r1 a) (hi : a ≤ i) : RoS ro (_root_.Jvm.Pilot.@@N@@.upd r1 i v) a := fun j hj => by
  rw [show _root_.Jvm.Pilot.@@N@@.upd r1 i v j = r1 j from if_neg (by omega)]
  exact h j hj
theorem tok_in {r x : Int32} {at9 sz : Nat} (hr : r = 67 ∨ ∃ t : Nat, nI at9 = nI t ∧ t < sz) (e : r = x) (hx : ¬ x = 67) (h1 : at9 ≤ 6000) (h2 : sz ≤ 5000) : at9 < sz := by
  rcases hr with h | ⟨t, h, h3⟩
  · exact absurd (e.symm.trans h) hx
  · have := (nI_eq (a := at9) (b := t) (by omega) (by omega)).mp h
    omega
theorem dX10_fail_0 : decode cX10_fail 0 = .ok (.aload_n 0, 1) := by decide +kernel
theorem dX10_fail_1 : decode cX10_fail 1 = .ok (.iload_n 1, 1) := by decide +kernel
theorem dX10_fail_2 : decode cX10_fail 2 = .ok (.bipush 16, 2) := by decide +kernel
theorem dX10_fail_4 : decode cX10_fail 4 = .ok (.iload_n 2, 1) := by decide +kernel
theorem dX10_fail_5 : decode cX10_fail 5 = .ok (.ifCond .lt 20, 3) := by decide +kernel
theorem dX10_fail_25 : decode cX10_fail 25 = .ok (.aload_n 0, 1) := by decide +kernel
theorem dX10_fail_26 : decode cX10_fail 26 = .ok (.getfield 76, 3) := by decide +kernel
theorem dX10_fail_29 : decode cX10_fail 29 = .ok (.imul, 1) := by decide +kernel
theorem dX10_fail_30 : decode cX10_fail 30 = .ok (.iadd, 1) := by decide +kernel
theorem dX10_fail_31 : decode cX10_fail 31 = .ok (.putfield 87, 3) := by decide +kernel
theorem dX10_fail_34 : decode cX10_fail 34 = .ok (.new 148, 3) := by decide +kernel
theorem dX10_fail_37 : decode cX10_fail 37 = .ok (.dup, 1) := by decide +kernel
theorem dX10_fail_38 : decode cX10_fail 38 = .ok (.ldc 150, 2) := by decide +kernel
theorem dX10_fail_40 : decode cX10_fail 40 = .ok (.invokespecial 152, 3) := by decide +kernel
theorem dX10_fail_43 : decode cX10_fail 43 = .ok (.athrow, 1) := by decide +kernel
theorem dX10_fail_8 : decode cX10_fail 8 = .ok (.iload_n 2, 1) := by decide +kernel
theorem dX10_fail_9 : decode cX10_fail 9 = .ok (.aload_n 0, 1) := by decide +kernel
theorem dX10_fail_10 : decode cX10_fail 10 = .ok (.getfield 84, 3) := by decide +kernel
theorem dX10_fail_13 : decode cX10_fail 13 = .ok (.if_icmp .ge 12, 3) := by decide +kernel
theorem dX10_fail_16 : decode cX10_fail 16 = .ok (.aload_n 0, 1) := by decide +kernel
theorem dX10_fail_17 : decode cX10_fail 17 = .ok (.getfield 39, 3) := by decide +kernel
theorem dX10_fail_20 : decode cX10_fail 20 = .ok (.iload_n 2, 1) := by decide +kernel
theorem dX10_fail_21 : decode cX10_fail 21 = .ok (.iaload, 1) := by decide +kernel
theorem dX10_fail_22 : decode cX10_fail 22 = .ok (.goto 7, 3) := by decide +kernel
set_option maxHeartbeats 2000000 in
set_option maxRecDepth 100000 in
theorem K_fail (l : Launch) (G : pT) (h0 : Nat) (a : Nat → Nat) (F : Nat → Int32) (R : Nat → Value) (Z : Int64) (B : Nat → Nat → Int32) (J : Nat → Nat → Int64) (T : Nat → Nat) (Pi : Nat → va_E → Prop) (w : va_W) (x1 : Int32) (x2 : Int32) (sz : Nat) (hsz : sz ≤ 5000) (hO : OKW G h0 a (upd F 2 (nI sz)) R Z B J T Pi w) (hl0 : l.stackTraces = false) : PBn l G pX0 yX10_fail cX10_fail 3 none ({ frames := 6, cells := 1, slots := 6, locals := 100 }) [.ref (a 1), .int x1, .int x2] w (fun (v : Option Value) (u : va_W × (Unit)) => False) (fun u => u.1) (fun (u : va_W × (Unit)) => 0) (fun (u : va_W × (Unit)) => 0) (fun (u : va_W × (Nat → Int32) × (Nat → Value) × (Nat → Nat → Int32)) => ThQ G h0 a (upd F 2 (nI sz)) R Z B J u) (fun u => u.1) := by
  intro sz
  refine vx_ofW (cc := cX10_fail) (maxL := 3) (ret := none) (by decide) rfl ?_
  intro p e s m args below meth c s₁ B9 hml hnt hv
  obtain ⟨rfl, hsz, hP, hD0, hE, hX⟩ := hv
  have hx := B9.exec
  have hb := B9.bytes
  have hr := B9.returns
  have hts := atoms_spec (ws := Cond.code yX10_fail cX10_fail 3 none :: pw) B9.pre
  have hq : ∀ w ∈ pw, w.before _ s = true := fun w h => hts w (List.mem_cons_of_mem _ h)
  have hown : s.vm.findClass RX10 = some m.cls := findClass_of_methodNamed B9.named
  have hlocks := B9.notSynchronized
  subst hsz
  have hD := hD0.self (sz := s.heap.size)
  have hA : ∀ q : Nat, s.heap.size ≤ q → va_A w s.heap.size q := fun q h => Or.inr h
  generalize va_A w s.heap.size = A at hD hE hA ⊢
  have hS : va_S A s.heap s.heap [] := va_S.rf
  have hl := lv_entry ([.ref (a 1), .int x1, .int x2]) (n := 3) (Nat.le_of_ble_eq_true rfl)
  rw [lg_entry_eq]
  generalize (lg_sl ([.ref (a 1), .int x1, .int x2]) ++ List.replicate (3 - (lg_sl ([.ref (a 1), .int x1, .int x2])).length) Slot.unset).toArray = ls at hl ⊢
  have hl : lv_has ls 3 [(0, .ref (a 1)), (1, .int x1), (2, .int x2)] := hl
  refine lv_aload_n hx hb dX10_fail_0 rfl (lv_at hl 0 rfl) ?_
  refine lv_iload_n hx hb dX10_fail_1 rfl (lv_at hl 1 rfl) ?_
  refine lv_bipush (v := 16) hx hb dX10_fail_2 (by decide) ?_
  refine lv_iload_n hx hb dX10_fail_4 rfl (lv_at hl 2 rfl) ?_
  refine lv_if_lt (tgt := 25) hx hb dX10_fail_5 (by decide) (fun c1 => ?_) (fun c1 => ?_)
  · refine lv_aload_n hx hb dX10_fail_25 rfl (lv_at hl 0 rfl) ?_
    refine c_get (v := .int (F 1)) (C := RX10) (Tc := TX10) (N := 15) (ci := 7) hx hb hq pin_wsX100 hown hE hP hO 2 (sg_2 G h0 a _ _ _ _ _) rfl 2 (by decide) (hq _ pw_47) (fun _ h9 => h9) rfl dX10_fail_26 ?_
    refine lv_imul hx hb dX10_fail_29 ?_
    refine lv_topi (fun x3 e4 => ?_)
    refine lv_iadd hx hb dX10_fail_30 ?_
    refine lv_topi (fun x5 e6 => ?_)
    refine c_put (v := .int x5) (ty := .int) (C := RX10) (Tc := TX10) (N := 15) (ci := 7) hx hb hq pin_wsX100 tyX10 tyX10_ok nmX10 hown hE hP hD hS hO 2 (sg_2 G h0 a _ _ _ _ _) rfl 14 (by decide) (hq _ pw_48) (fun _ h9 => h9) rfl (by decide +kernel) rfl rfl (Nat.le_of_ble_eq_true rfl) (sf_4 G h0 a _ _ _ _ _ x5) dX10_fail_31 (fun H locs w hP hD hS hO => ?_)
    have hO9 : OKW G h0 a (upd (upd F 2 (nI sz)) 4 x5) R Z B J T Pi w := hO.to rfl
    exact pb_throw (w, (upd (upd F 2 (nI sz)) 4 x5), R, B) (ThQ.of (Thx.f Thx.rfl (by omega)) RhX.rfl hO9) hx hb hl0 hown hq hE xf_IS pw_44 pw_45 (hE.2.2.1 17 (by decide)) xw_0 xb_0 hE.pc.1 xg_0 hnt hlocks hml hl.1 hP hD hS dX10_fail_34 dX10_fail_37 dX10_fail_38 dX10_fail_40 dX10_fail_43 (Nat.le_of_ble_eq_true rfl) (Nat.le_of_ble_eq_true rfl) (by show 0 + 1 ≤ 1; omega) (by show 0 + 6 ≤ 6; omega) (by show 0 + 1 ≤ 1; omega) (by show 0 + 6 ≤ 6; omega)
  · obtain ⟨t9, ht_t9, hb_t9⟩ := nI_nn2 c1
    rw [ht_t9] at hl
    refine lv_iload_n hx hb dX10_fail_8 rfl (lv_at hl 2 rfl) ?_
    refine lv_aload_n hx hb dX10_fail_9 rfl (lv_at hl 0 rfl) ?_
    refine c_get (v := .int (nI sz)) (C := RX10) (Tc := TX10) (N := 15) (ci := 7) hx hb hq pin_wsX100 hown hE hP hO 2 (sg_2 G h0 a _ _ _ _ _) rfl 8 (by decide) (hq _ pw_37) (fun _ h9 => h9) rfl dX10_fail_10 ?_
    refine lv_icmp_ge (tgt := 25) hx hb dX10_fail_13 (by decide) (fun c7 => ?_) (fun c7 => ?_)
    · have n8 : sz ≤ t9 := (nI_leI (a := sz) (b := t9) (by omega) (by omega)).mp c7
      refine lv_aload_n hx hb dX10_fail_25 rfl (lv_at hl 0 rfl) ?_
      refine c_get (v := .int (F 1)) (C := RX10) (Tc := TX10) (N := 15) (ci := 7) hx hb hq pin_wsX100 hown hE hP hO 2 (sg_2 G h0 a _ _ _ _ _) rfl 2 (by decide) (hq _ pw_47) (fun _ h9 => h9) rfl dX10_fail_26 ?_
      refine lv_imul hx hb dX10_fail_29 ?_
      refine lv_topi (fun x9 e10 => ?_)
      refine lv_iadd hx hb dX10_fail_30 ?_
      refine lv_topi (fun x11 e12 => ?_)
      refine c_put (v := .int x11) (ty := .int) (C := RX10) (Tc := TX10) (N := 15) (ci := 7) hx hb hq pin_wsX100 tyX10 tyX10_ok nmX10 hown hE hP hD hS hO 2 (sg_2 G h0 a _ _ _ _ _) rfl 14 (by decide) (hq _ pw_48) (fun _ h9 => h9) rfl (by decide +kernel) rfl rfl (Nat.le_of_ble_eq_true rfl) (sf_4 G h0 a _ _ _ _ _ x11) dX10_fail_31 (fun H locs w hP hD hS hO => ?_)
      have hO9 : OKW G h0 a (upd (upd F 2 (nI sz)) 4 x11) R Z B J T Pi w := hO.to rfl
      exact pb_throw (w, (upd (upd F 2 (nI sz)) 4 x11), R, B) (ThQ.of (Thx.f Thx.rfl (by omega)) RhX.rfl hO9) hx hb hl0 hown hq hE xf_IS pw_44 pw_45 (hE.2.2.1 17 (by decide)) xw_0 xb_0 hE.pc.1 xg_0 hnt hlocks hml hl.1 hP hD hS dX10_fail_34 dX10_fail_37 dX10_fail_38 dX10_fail_40 dX10_fail_43 (Nat.le_of_ble_eq_true rfl) (Nat.le_of_ble_eq_true rfl) (by show 0 + 1 ≤ 1; omega) (by show 0 + 6 ≤ 6; omega) (by show 0 + 1 ≤ 1; omega) (by show 0 + 6 ≤ 6; omega)
    · have n13 : ¬ (sz ≤ t9) := fun h9 => c7 ((nI_leI (a := sz) (b := t9) (by omega) (by omega)).mpr h9)
      refine lv_aload_n hx hb dX10_fail_16 rfl (lv_at hl 0 rfl) ?_
      refine c_get (v := .ref (a 8)) (C := RX10) (Tc := TX10) (N := 15) (ci := 7) hx hb hq pin_wsX100 hown hE hP hO 2 (sg_2 G h0 a _ _ _ _ _) rfl 4 (by decide) (hq _ pw_46) (fun _ h9 => h9) rfl dX10_fail_17 ?_
      refine lv_iload_n hx hb dX10_fail_20 rfl (lv_at hl 2 rfl) ?_
      refine c_ldi (f := (B 8)) (n := 5000) (t0 := 0) hx hb hE hP hO 5 (sg_5 G h0 a _ _ _ _ _) rfl (vp_in_nI (by omega) (by decide)) dX10_fail_21 ?_
      rw [(nI_clamp (show t9 < 2 ^ 31 by omega))]
      refine lv_topi (fun x14 e15 => ?_)
      refine lv_goto (tgt := 29) hx hb dX10_fail_22 (by decide) ?_
      refine lv_imul hx hb dX10_fail_29 ?_
      refine lv_topi (fun x16 e17 => ?_)
      refine lv_iadd hx hb dX10_fail_30 ?_
      refine lv_topi (fun x18 e19 => ?_)
      refine c_put (v := .int x18) (ty := .int) (C := RX10) (Tc := TX10) (N := 15) (ci := 7) hx hb hq pin_wsX100 tyX10 tyX10_ok nmX10 hown hE hP hD hS hO 2 (sg_2 G h0 a _ _ _ _ _) rfl 14 (by decide) (hq _ pw_48) (fun _ h9 => h9) rfl (by decide +kernel) rfl rfl (Nat.le_of_ble_eq_true rfl) (sf_4 G h0 a _ _ _ _ _ x18) dX10_fail_31 (fun H locs w hP hD hS hO => ?_)
      have hO9 : OKW G h0 a (upd (upd F 2 (nI sz)) 4 x18) R Z B J T Pi w := hO.to rfl
      exact pb_throw (w, (upd (upd F 2 (nI sz)) 4 x18), R, B) (ThQ.of (Thx.f Thx.rfl (by omega)) RhX.rfl hO9) hx hb hl0 hown hq hE xf_IS pw_44 pw_45 (hE.2.2.1 17 (by decide)) xw_0 xb_0 hE.pc.1 xg_0 hnt hlocks hml hl.1 hP hD hS dX10_fail_34 dX10_fail_37 dX10_fail_38 dX10_fail_40 dX10_fail_43 (Nat.le_of_ble_eq_true rfl) (Nat.le_of_ble_eq_true rfl) (by show 0 + 1 ≤ 1; omega) (by show 0 + 6 ≤ 6; omega) (by show 0 + 1 ≤ 1; omega) (by show 0 + 6 ≤ 6; omega)
set_option maxHeartbeats 2000000 in
set_option maxRecDepth 100000 in
theorem K_kindX (l : Launch) (G : pT) (h0 : Nat) (a : Nat → Nat) (F : Nat → Int32) (R : Nat → Value) (Z : Int64) (B : Nat → Nat → Int32) (J : Nat → Nat → Int64) (T : Nat → Nat) (Pi : Nat → va_E → Prop) (w : va_W) (x : Int32) (sz : Nat) (hsz : sz ≤ 5000) (hO : OKW G h0 a (upd F 2 (nI sz)) R Z B J T Pi w) : PM l G pX0 yX10_kindAt cX10_kindAt 2 (some .int) ({ frames := 2, cells := 0, slots := 0, locals := 60 }) [.ref (a 1), .int x] w (fun (v : Option Value) (u : va_W × (Int32)) => v = some (.int u.2) ∧ (u.2 = 67 ∨ ∃ t : Nat, x = nI t ∧ t < sz) ∧ (u.2 = tkN (B 7) sz 67 x) ∧ (OKW G h0 a (upd F 2 (nI sz)) R Z B J T Pi u.1)) (fun u => u.1) := by
  intro sz
  refine Met.ofW (cc := cX10_kindAt) (maxL := 2) (ret := (some .int)) (by decide) rfl ?_
  intro p e s m args below meth c s₁ B9 hml hv
  obtain ⟨rfl, hsz, hP, hD0, hE, hX⟩ := hv
  have hx := B9.exec
  have hb := B9.bytes
  have hr := B9.returns
  have hts := atoms_spec (ws := Cond.code yX10_kindAt cX10_kindAt 2 (some .int) :: pw) B9.pre
  have hq : ∀ w ∈ pw, w.before _ s = true := fun w h => hts w (List.mem_cons_of_mem _ h)
  have hown : s.vm.findClass RX10 = some m.cls := findClass_of_methodNamed B9.named
  have hlocks := B9.notSynchronized
  subst hsz
  have hD := hD0.self (sz := s.heap.size)
  have hA : ∀ q : Nat, s.heap.size ≤ q → va_A w s.heap.size q := fun q h => Or.inr h
  generalize va_A w s.heap.size = A at hD hE hA ⊢
  have hS : va_S A s.heap s.heap [] := va_S.rf
  have hl := lv_entry ([.ref (a 1), .int x]) (n := 2) (Nat.le_of_ble_eq_true rfl)
  rw [lg_entry_eq]
  generalize (lg_sl ([.ref (a 1), .int x]) ++ List.replicate (2 - (lg_sl ([.ref (a 1), .int x])).length) Slot.unset).toArray = ls at hl ⊢
  have hl : lv_has ls 2 [(0, .ref (a 1)), (1, .int x)] := hl
  refine lv_iload_n hx hb dX10_kindAt_0 rfl (lv_at hl 1 rfl) ?_
  refine lv_if_lt (tgt := 21) hx hb dX10_kindAt_1 (by decide) (fun c1 => ?_) (fun c1 => ?_)
  · refine lv_bipush (v := 67) hx hb dX10_kindAt_21 (by decide) ?_
    have hz2 : (67 : Int32) = 67 ∨ ∃ t : Nat, x = nI t ∧ t < sz := (Or.inl rfl)
    have hz3 : (67 : Int32) = tkN (B 7) sz 67 x := (tkN_out (Or.inl c1)).symm
    have hO : OKW G h0 a (upd F 2 (nI sz)) R Z B J T Pi w := hO.to rfl
    exact W.iret (v := 67) hx hb hr (fun t99 ht99 hW99 => ⟨⟨_, (w, (67 : Int32)), rfl, ⟨rfl, hz2, hz3, hO⟩, by rw [ht99]; exact hP, hD⟩, hS.F ht99⟩) hS.2.2 dX10_kindAt_23
  · obtain ⟨t9, ht_t9, hb_t9⟩ := nI_nn2 c1
    rw [ht_t9] at hl
    refine lv_iload_n hx hb dX10_kindAt_4 rfl (lv_at hl 1 rfl) ?_
    refine lv_aload_n hx hb dX10_kindAt_5 rfl (lv_at hl 0 rfl) ?_
    refine c_get (v := .int (nI sz)) (C := RX10) (Tc := TX10) (N := 15) (ci := 7) hx hb hq pin_wsX100 hown hE hP hO 2 (sg_2 G h0 a _ _ _ _ _) rfl 8 (by decide) (hq _ pw_37) (fun _ h9 => h9) rfl dX10_kindAt_6 ?_
    refine lv_icmp_ge (tgt := 21) hx hb dX10_kindAt_9 (by decide) (fun c4 => ?_) (fun c4 => ?_)
    · have n5 : sz ≤ t9 := (nI_leI (a := sz) (b := t9) (by omega) (by omega)).mp c4
      refine lv_bipush (v := 67) hx hb dX10_kindAt_21 (by decide) ?_
      have hz6 : (67 : Int32) = 67 ∨ ∃ t : Nat, x = nI t ∧ t < sz := (Or.inl rfl)
      have hz7 : (67 : Int32) = tkN (B 7) sz 67 x := (by rw [ht_t9]; exact (tkN_out (Or.inr c4)).symm)
      have hO : OKW G h0 a (upd F 2 (nI sz)) R Z B J T Pi w := hO.to rfl
      exact W.iret (v := 67) hx hb hr (fun t99 ht99 hW99 => ⟨⟨_, (w, (67 : Int32)), rfl, ⟨rfl, hz6, hz7, hO⟩, by rw [ht99]; exact hP, hD⟩, hS.F ht99⟩) hS.2.2 dX10_kindAt_23
    · have n8 : ¬ (sz ≤ t9) := fun h9 => c4 ((nI_leI (a := sz) (b := t9) (by omega) (by omega)).mpr h9)
      refine lv_aload_n hx hb dX10_kindAt_12 rfl (lv_at hl 0 rfl) ?_
      refine c_get (v := .ref (a 7)) (C := RX10) (Tc := TX10) (N := 15) (ci := 7) hx hb hq pin_wsX100 hown hE hP hO 2 (sg_2 G h0 a _ _ _ _ _) rfl 3 (by decide) (hq _ pw_127) (fun _ h9 => h9) rfl dX10_kindAt_13 ?_
      refine lv_iload_n hx hb dX10_kindAt_16 rfl (lv_at hl 1 rfl) ?_
      refine c_ldi (f := (B 7)) (n := 5000) (t0 := 0) hx hb hE hP hO 4 (sg_4 G h0 a _ _ _ _ _) rfl (vp_in_nI (by omega) (by decide)) dX10_kindAt_17 ?_
      rw [(nI_clamp (show t9 < 2 ^ 31 by omega))]
      refine lv_goto (tgt := 23) hx hb dX10_kindAt_18 (by decide) ?_
      have hz9 : ((B 7) t9) = 67 ∨ ∃ t : Nat, x = nI t ∧ t < sz := (Or.inr ⟨t9, ht_t9, by omega⟩)
      have hz10 : ((B 7) t9) = tkN (B 7) sz 67 x := (by rw [ht_t9]; exact (tkN_in (by omega) (by omega)).symm)
      have hO : OKW G h0 a (upd F 2 (nI sz)) R Z B J T Pi w := hO.to rfl
      exact W.iret (v := ((B 7) t9)) hx hb hr (fun t99 ht99 hW99 => ⟨⟨_, (w, ((B 7) t9)), rfl, ⟨rfl, hz9, hz10, hO⟩, by rw [ht99]; exact hP, hD⟩, hS.F ht99⟩) hS.2.2 dX10_kindAt_23
set_option maxHeartbeats 2000000 in
set_option maxRecDepth 100000 in
theorem K_giveRoleX (l : Launch) (G : pT) (h0 : Nat) (a : Nat → Nat) (F : Nat → Int32) (R : Nat → Value) (Z : Int64) (B : Nat → Nat → Int32) (J : Nat → Nat → Int64) (T : Nat → Nat) (Pi : Nat → va_E → Prop) (w : va_W) (t9 : Nat) (y : Int32) (sz : Nat) (hsz : sz ≤ 5000) (ht9 : t9 < sz) (hy : vp_nar .byte y.toInt8.toInt32 = y) (hO : OKW G h0 a (upd F 2 (nI sz)) R Z B J T Pi w) : PM l G pX0 yX10_giveRole cX10_giveRole 3 none ({ frames := 2, cells := 0, slots := 0, locals := 60 }) [.ref (a 1), .int (nI t9), .int y] w (fun (v : Option Value) (u : va_W × (Unit)) => v = none ∧ (OKW G h0 a (upd F 2 (nI sz)) R Z (updA B 10 (upd (B 10) t9 y)) J T Pi u.1)) (fun u => u.1) := by
  intro sz
  refine Met.ofW (cc := cX10_giveRole) (maxL := 3) (ret := none) (by decide) rfl ?_
  intro p e s m args below meth c s₁ B9 hml hv
  obtain ⟨rfl, hsz, hP, hD0, hE, hX⟩ := hv
  have hx := B9.exec
  have hb := B9.bytes
  have hr := B9.returns
  have hts := atoms_spec (ws := Cond.code yX10_giveRole cX10_giveRole 3 none :: pw) B9.pre
  have hq : ∀ w ∈ pw, w.before _ s = true := fun w h => hts w (List.mem_cons_of_mem _ h)
  have hown : s.vm.findClass RX10 = some m.cls := findClass_of_methodNamed B9.named
  have hlocks := B9.notSynchronized
  subst hsz
  have hD := hD0.self (sz := s.heap.size)
  have hA : ∀ q : Nat, s.heap.size ≤ q → va_A w s.heap.size q := fun q h => Or.inr h
  generalize va_A w s.heap.size = A at hD hE hA ⊢
  have hS : va_S A s.heap s.heap [] := va_S.rf
  have hl := lv_entry ([.ref (a 1), .int (nI t9), .int y]) (n := 3) (Nat.le_of_ble_eq_true rfl)
  rw [lg_entry_eq]
  generalize (lg_sl ([.ref (a 1), .int (nI t9), .int y]) ++ List.replicate (3 - (lg_sl ([.ref (a 1), .int (nI t9), .int y])).length) Slot.unset).toArray = ls at hl ⊢
  have hl : lv_has ls 3 [(0, .ref (a 1)), (1, .int (nI t9)), (2, .int y)] := hl
  refine lv_iload_n hx hb dX10_giveRole_0 rfl (lv_at hl 1 rfl) ?_
  refine lv_if_lt (tgt := 20) hx hb dX10_giveRole_1 (by decide) (fun c1 => (absurd c1 (nI_pos (by omega)))) (fun c1 => ?_)
  refine lv_iload_n hx hb dX10_giveRole_4 rfl (lv_at hl 1 rfl) ?_
  refine lv_aload_n hx hb dX10_giveRole_5 rfl (lv_at hl 0 rfl) ?_
  refine c_get (v := .int (nI sz)) (C := RX10) (Tc := TX10) (N := 15) (ci := 7) hx hb hq pin_wsX100 hown hE hP hO 2 (sg_2 G h0 a _ _ _ _ _) rfl 8 (by decide) (hq _ pw_37) (fun _ h9 => h9) rfl dX10_giveRole_6 ?_
  refine lv_icmp_ge (tgt := 20) hx hb dX10_giveRole_9 (by decide) (fun c2 => (by have n3 : sz ≤ t9 := (nI_leI (a := sz) (b := t9) (by omega) (by omega)).mp c2; omega)) (fun c2 => ?_)
  refine lv_aload_n hx hb dX10_giveRole_12 rfl (lv_at hl 0 rfl) ?_
  refine c_get (v := .ref (a 10)) (C := RX10) (Tc := TX10) (N := 15) (ci := 7) hx hb hq pin_wsX100 hown hE hP hO 2 (sg_2 G h0 a _ _ _ _ _) rfl 6 (by decide) (hq _ pw_820) (fun _ h9 => h9) rfl dX10_giveRole_13 ?_
  refine lv_iload_n hx hb dX10_giveRole_16 rfl (lv_at hl 1 rfl) ?_
  refine lv_iload_n hx hb dX10_giveRole_17 rfl (lv_at hl 2 rfl) ?_
  refine lv_i2b hx hb dX10_giveRole_18 rfl ?_
  refine lv_topi (fun x4 e5 => ?_)
  refine c_stb (f := (B 10)) (n := 5000) (t0 := 1) hx hb hE hP hD hS hO 7 (sg_7 G h0 a _ _ _ _ _) rfl (vp_in_nI (by omega) (by decide)) (sb_10 G h0 a _ _ _ _ _ _) dX10_giveRole_19 (fun H locs w hP hD hS hO => ?_)
  rw [(nI_clamp (show t9 < 2 ^ 31 by omega))] at hO
  rw [e5, hy] at hO
  have hO : OKW G h0 a (upd F 2 (nI sz)) R Z (updA B 10 (upd (B 10) t9 y)) J T Pi w := hO.to rfl
  exact W.vret hx hb hr (fun t99 ht99 hW99 => ⟨⟨_, (w, ()), rfl, ⟨rfl, hO⟩, by rw [ht99]; exact hP, hD⟩, hS.F ht99⟩) hS.2.2 dX10_giveRole_20
theorem dX8_sees_0 : decode cX8_sees 0 = .ok (.aload_n 0, 1) := by decide +kernel
theorem dX8_sees_1 : decode cX8_sees 1 = .ok (.getfield 7, 3) := by decide +kernel
theorem dX8_sees_4 : decode cX8_sees 4 = .ok (.aload_n 0, 1) := by decide +kernel
theorem dX8_sees_5 : decode cX8_sees 5 = .ok (.getfield 17, 3) := by decide +kernel
theorem dX8_sees_8 : decode cX8_sees 8 = .ok (.invokevirtual 57, 3) := by decide +kernel
theorem dX8_sees_11 : decode cX8_sees 11 = .ok (.iload_n 1, 1) := by decide +kernel
theorem dX8_sees_12 : decode cX8_sees 12 = .ok (.if_icmp .ne 7, 3) := by decide +kernel
theorem dX8_sees_19 : decode cX8_sees 19 = .ok (.iconst 0, 1) := by decide +kernel
theorem dX8_sees_20 : decode cX8_sees 20 = .ok (.ireturn, 1) := by decide +kernel
theorem dX8_sees_15 : decode cX8_sees 15 = .ok (.iconst 1, 1) := by decide +kernel
theorem dX8_sees_16 : decode cX8_sees 16 = .ok (.goto 4, 3) := by decide +kernel
theorem hV_X10_kindAt : yX10_kindAt.cls = RX10 ∧ yX10_kindAt.cls ≠ "java/lang/invoke/MethodHandle" ∧ yX10_kindAt.cls ≠ "java/lang/invoke/VarHandle" ∧ (parseMethodDescriptor yX10_kindAt.desc).map (fun d => d.parameters.length) = some 1 := by decide +kernel
set_option maxHeartbeats 2000000 in
set_option maxRecDepth 100000 in
theorem P_sees (l : Launch) (G : pT) (h0 : Nat) (a : Nat → Nat) (F : Nat → Int32) (R : Nat → Value) (Z : Int64) (B : Nat → Nat → Int32) (J : Nat → Nat → Int64) (T : Nat → Nat) (Pi : Nat → va_E → Prop) (w : va_W) (x : Int32) (at9 : Nat) (sz : Nat) (hsz : sz ≤ 5000) (hat : at9 ≤ sz) (hO : OKW G h0 a (upd (upd F 2 (nI sz)) 9 (nI at9)) R Z B J T Pi w) : PM l G pX0 yX8_sees cX8_sees 2 (some .boolean) ({ frames := 3, cells := 0, slots := 0, locals := 81 }) [.ref (a 3), .int x] w (fun (v : Option Value) (u : va_W × (Nat)) => v = some (.int (nI u.2)) ∧ (u.2 ≤ 1) ∧ (SeQ (B 7) sz at9 x u.2) ∧ (OKW G h0 a (upd (upd F 2 (nI sz)) 9 (nI at9)) R Z B J T Pi u.1)) (fun u => u.1) := by
  intro sz
  refine Met.ofW (cc := cX8_sees) (maxL := 2) (ret := (some .boolean)) (by decide) rfl ?_
  intro p e s m args below meth c s₁ B9 hml hv
  obtain ⟨rfl, hsz, hP, hD0, hE, hX⟩ := hv
  have hx := B9.exec
  have hb := B9.bytes
  have hr := B9.returns
  have hts := atoms_spec (ws := Cond.code yX8_sees cX8_sees 2 (some .boolean) :: pw) B9.pre
  have hq : ∀ w ∈ pw, w.before _ s = true := fun w h => hts w (List.mem_cons_of_mem _ h)
  have hown : s.vm.findClass RX8 = some m.cls := findClass_of_methodNamed B9.named
  have hlocks := B9.notSynchronized
  subst hsz
  have hD := hD0.self (sz := s.heap.size)
  have hA : ∀ q : Nat, s.heap.size ≤ q → va_A w s.heap.size q := fun q h => Or.inr h
  generalize va_A w s.heap.size = A at hD hE hA ⊢
  have hS : va_S A s.heap s.heap [] := va_S.rf
  have hl := lv_entry ([.ref (a 3), .int x]) (n := 2) (Nat.le_of_ble_eq_true rfl)
  rw [lg_entry_eq]
  generalize (lg_sl ([.ref (a 3), .int x]) ++ List.replicate (2 - (lg_sl ([.ref (a 3), .int x])).length) Slot.unset).toArray = ls at hl ⊢
  have hl : lv_has ls 2 [(0, .ref (a 3)), (1, .int x)] := hl
  refine lv_aload_n hx hb dX8_sees_0 rfl (lv_at hl 0 rfl) ?_
  refine c_get (v := .ref (a 1)) (C := RX8) (Tc := TX8) (N := 5) (ci := 5) hx hb hq pin_wsX80 hown hE hP hO 23 (sg_23 G h0 a _ _ _ _ _) rfl 0 (by decide) (hq _ pw_774) (fun _ h9 => h9) rfl dX8_sees_1 ?_
  refine lv_aload_n hx hb dX8_sees_4 rfl (lv_at hl 0 rfl) ?_
  refine c_get (v := .int (nI at9)) (C := RX8) (Tc := TX8) (N := 5) (ci := 5) hx hb hq pin_wsX80 hown hE hP hO 23 (sg_23 G h0 a _ _ _ _ _) rfl 2 (by decide) (hq _ pw_776) (fun _ h9 => h9) rfl dX8_sees_5 ?_
  have hO : OKW G h0 a (upd (upd (upd F 2 (nI sz)) 9 (nI at9)) 2 (nI sz)) R Z B J T Pi w := hO.to rfl
  obtain ⟨_, qr4, hqr5⟩ := hO.2.1 2 _ (sg_2 G h0 a _ _ _ _ _)
  refine pc_V0 (G := G) (As := [.int (nI at9)]) (rest := []) hx hb hml hown hq hE hX pX0_al hP hD hS hA hl.1 (K_kindX l G h0 a (upd (upd F 2 (nI sz)) 9 (nI at9)) R Z B J T Pi w (nI at9) sz (by omega) hO) (gV pw_777 pw_193 pw_194 pw_59 pw_126) hV_X10_kindAt qr4 7 hqr5 rfl rfl rfl (Nat.le_of_ble_eq_true rfl) dX8_sees_8 ⟨Nat.le_of_ble_eq_true rfl, Nat.le_of_ble_eq_true rfl⟩ ⟨Nat.le_of_ble_eq_true rfl, Nat.le_of_ble_eq_true rfl⟩ (fun v3 u1 H locs hw2 hP hD hS => ?_)
  obtain ⟨w, r6⟩ := u1
  obtain ⟨hw2, h7, h8, hO⟩ := hw2
  have h7 : r6 = 67 ∨ ∃ t : Nat, (nI at9) = nI t ∧ t < sz := h7
  have h8 : r6 = tkN ((B 7)) sz 67 (nI at9) := h8
  obtain rfl : v3 = some (.int r6) := hw2
  have hO : OKW G h0 a (upd (upd F 2 (nI sz)) 9 (nI at9)) R Z B J T Pi w := hO.to rfl
  refine W.widen (k := 0) (n := 0) (Nat.le_of_ble_eq_true rfl) (Nat.le_of_ble_eq_true rfl) ?_
  refine W.eq (g2 := F0 m 11 ls [.int r6]) rfl ?_
  refine lv_iload_n hx hb dX8_sees_11 rfl (lv_at hl 1 rfl) ?_
  refine lv_icmp_ne (tgt := 19) hx hb dX8_sees_12 (by decide) (fun c9 => ?_) (fun c9 => ?_)
  · refine lv_iconst (v := 0) hx hb dX8_sees_19 (by decide) ?_
    have hz10 : 0 ≤ 1 := (by omega)
    have hz11 : SeQ (B 7) sz at9 x 0 := ⟨fun z => absurd z (by decide), fun _ => (fun z => c9 (h8.trans z))⟩
    have hO : OKW G h0 a (upd (upd F 2 (nI sz)) 9 (nI at9)) R Z B J T Pi w := hO.to rfl
    exact W.zret (v := 0) hx hb hr rfl (fun t99 ht99 hW99 => ⟨⟨_, (w, 0), rfl, ⟨rfl, hz10, hz11, hO⟩, by rw [ht99]; exact hP, hD⟩, hS.F ht99⟩) hS.2.2 dX8_sees_20
  · refine lv_iconst (v := 1) hx hb dX8_sees_15 (by decide) ?_
    refine lv_goto (tgt := 20) hx hb dX8_sees_16 (by decide) ?_
    have hz12 : 1 ≤ 1 := (by omega)
    have hz13 : SeQ (B 7) sz at9 x 1 := ⟨fun _ => (h8.symm.trans c9), fun z => absurd z (by decide)⟩
    have hO : OKW G h0 a (upd (upd F 2 (nI sz)) 9 (nI at9)) R Z B J T Pi w := hO.to rfl
    exact W.zret (v := 1) hx hb hr rfl (fun t99 ht99 hW99 => ⟨⟨_, (w, 1), rfl, ⟨rfl, hz12, hz13, hO⟩, by rw [ht99]; exact hP, hD⟩, hS.F ht99⟩) hS.2.2 dX8_sees_20
theorem dX8_takeIf_0 : decode cX8_takeIf 0 = .ok (.aload_n 0, 1) := by decide +kernel
theorem dX8_takeIf_1 : decode cX8_takeIf 1 = .ok (.getfield 7, 3) := by decide +kernel
theorem dX8_takeIf_4 : decode cX8_takeIf 4 = .ok (.aload_n 0, 1) := by decide +kernel
theorem dX8_takeIf_5 : decode cX8_takeIf 5 = .ok (.getfield 17, 3) := by decide +kernel
theorem dX8_takeIf_8 : decode cX8_takeIf 8 = .ok (.invokevirtual 57, 3) := by decide +kernel
theorem dX8_takeIf_11 : decode cX8_takeIf 11 = .ok (.iload_n 1, 1) := by decide +kernel
theorem dX8_takeIf_12 : decode cX8_takeIf 12 = .ok (.if_icmp .eq 5, 3) := by decide +kernel
theorem dX8_takeIf_17 : decode cX8_takeIf 17 = .ok (.aload_n 0, 1) := by decide +kernel
theorem dX8_takeIf_18 : decode cX8_takeIf 18 = .ok (.dup, 1) := by decide +kernel
theorem dX8_takeIf_19 : decode cX8_takeIf 19 = .ok (.getfield 17, 3) := by decide +kernel
theorem dX8_takeIf_22 : decode cX8_takeIf 22 = .ok (.iconst 1, 1) := by decide +kernel
theorem dX8_takeIf_23 : decode cX8_takeIf 23 = .ok (.iadd, 1) := by decide +kernel
theorem dX8_takeIf_24 : decode cX8_takeIf 24 = .ok (.putfield 17, 3) := by decide +kernel
theorem dX8_takeIf_27 : decode cX8_takeIf 27 = .ok (.iconst 1, 1) := by decide +kernel
theorem dX8_takeIf_28 : decode cX8_takeIf 28 = .ok (.ireturn, 1) := by decide +kernel
theorem dX8_takeIf_15 : decode cX8_takeIf 15 = .ok (.iconst 0, 1) := by decide +kernel
theorem dX8_takeIf_16 : decode cX8_takeIf 16 = .ok (.ireturn, 1) := by decide +kernel
set_option maxHeartbeats 2000000 in
set_option maxRecDepth 100000 in
theorem P_takeIf (l : Launch) (G : pT) (h0 : Nat) (a : Nat → Nat) (F : Nat → Int32) (R : Nat → Value) (Z : Int64) (B : Nat → Nat → Int32) (J : Nat → Nat → Int64) (T : Nat → Nat) (Pi : Nat → va_E → Prop) (w : va_W) (x : Int32) (at9 : Nat) (sz : Nat) (hsz : sz ≤ 5000) (hat : at9 ≤ sz) (hx9 : ¬ x = 67) (hO : OKW G h0 a (upd (upd F 2 (nI sz)) 9 (nI at9)) R Z B J T Pi w) : PM l G pX0 yX8_takeIf cX8_takeIf 2 (some .boolean) ({ frames := 3, cells := 0, slots := 0, locals := 81 }) [.ref (a 3), .int x] w (fun (v : Option Value) (u : va_W × (Nat)) => v = some (.int (nI u.2)) ∧ (u.2 ≤ 1) ∧ (at9 + u.2 ≤ sz) ∧ (SeQ (B 7) sz at9 x u.2) ∧ (OKW G h0 a (upd (upd F 2 (nI sz)) 9 (nI (at9 + u.2))) R Z B J T Pi u.1)) (fun u => u.1) := by
  intro sz
  refine Met.ofW (cc := cX8_takeIf) (maxL := 2) (ret := (some .boolean)) (by decide) rfl ?_
  intro p e s m args below meth c s₁ B9 hml hv
  obtain ⟨rfl, hsz, hP, hD0, hE, hX⟩ := hv
  have hx := B9.exec
  have hb := B9.bytes
  have hr := B9.returns
  have hts := atoms_spec (ws := Cond.code yX8_takeIf cX8_takeIf 2 (some .boolean) :: pw) B9.pre
  have hq : ∀ w ∈ pw, w.before _ s = true := fun w h => hts w (List.mem_cons_of_mem _ h)
  have hown : s.vm.findClass RX8 = some m.cls := findClass_of_methodNamed B9.named
  have hlocks := B9.notSynchronized
  subst hsz
  have hD := hD0.self (sz := s.heap.size)
  have hA : ∀ q : Nat, s.heap.size ≤ q → va_A w s.heap.size q := fun q h => Or.inr h
  generalize va_A w s.heap.size = A at hD hE hA ⊢
  have hS : va_S A s.heap s.heap [] := va_S.rf
  have hl := lv_entry ([.ref (a 3), .int x]) (n := 2) (Nat.le_of_ble_eq_true rfl)
  rw [lg_entry_eq]
  generalize (lg_sl ([.ref (a 3), .int x]) ++ List.replicate (2 - (lg_sl ([.ref (a 3), .int x])).length) Slot.unset).toArray = ls at hl ⊢
  have hl : lv_has ls 2 [(0, .ref (a 3)), (1, .int x)] := hl
  refine lv_aload_n hx hb dX8_takeIf_0 rfl (lv_at hl 0 rfl) ?_
  refine c_get (v := .ref (a 1)) (C := RX8) (Tc := TX8) (N := 5) (ci := 5) hx hb hq pin_wsX80 hown hE hP hO 23 (sg_23 G h0 a _ _ _ _ _) rfl 0 (by decide) (hq _ pw_774) (fun _ h9 => h9) rfl dX8_takeIf_1 ?_
  refine lv_aload_n hx hb dX8_takeIf_4 rfl (lv_at hl 0 rfl) ?_
  refine c_get (v := .int (nI at9)) (C := RX8) (Tc := TX8) (N := 5) (ci := 5) hx hb hq pin_wsX80 hown hE hP hO 23 (sg_23 G h0 a _ _ _ _ _) rfl 2 (by decide) (hq _ pw_776) (fun _ h9 => h9) rfl dX8_takeIf_5 ?_
  have hO : OKW G h0 a (upd (upd (upd F 2 (nI sz)) 9 (nI at9)) 2 (nI sz)) R Z B J T Pi w := hO.to rfl
  obtain ⟨_, qr4, hqr5⟩ := hO.2.1 2 _ (sg_2 G h0 a _ _ _ _ _)
  refine pc_V0 (G := G) (As := [.int (nI at9)]) (rest := []) hx hb hml hown hq hE hX pX0_al hP hD hS hA hl.1 (K_kindX l G h0 a (upd (upd F 2 (nI sz)) 9 (nI at9)) R Z B J T Pi w (nI at9) sz (by omega) hO) (gV pw_777 pw_193 pw_194 pw_59 pw_126) hV_X10_kindAt qr4 7 hqr5 rfl rfl rfl (Nat.le_of_ble_eq_true rfl) dX8_takeIf_8 ⟨Nat.le_of_ble_eq_true rfl, Nat.le_of_ble_eq_true rfl⟩ ⟨Nat.le_of_ble_eq_true rfl, Nat.le_of_ble_eq_true rfl⟩ (fun v3 u1 H locs hw2 hP hD hS => ?_)
  obtain ⟨w, r6⟩ := u1
  obtain ⟨hw2, h7, h8, hO⟩ := hw2
  have h7 : r6 = 67 ∨ ∃ t : Nat, (nI at9) = nI t ∧ t < sz := h7
  have h8 : r6 = tkN ((B 7)) sz 67 (nI at9) := h8
  obtain rfl : v3 = some (.int r6) := hw2
  have hO : OKW G h0 a (upd (upd F 2 (nI sz)) 9 (nI at9)) R Z B J T Pi w := hO.to rfl
  refine W.widen (k := 0) (n := 0) (Nat.le_of_ble_eq_true rfl) (Nat.le_of_ble_eq_true rfl) ?_
  refine W.eq (g2 := F0 m 11 ls [.int r6]) rfl ?_
  refine lv_iload_n hx hb dX8_takeIf_11 rfl (lv_at hl 1 rfl) ?_
  refine lv_icmp_eq (tgt := 17) hx hb dX8_takeIf_12 (by decide) (fun c9 => ?_) (fun c9 => ?_)
  · have htk := tok_in h7 c9 hx9 (by omega) hsz
    refine lv_aload_n hx hb dX8_takeIf_17 rfl (lv_at hl 0 rfl) ?_
    refine lv_dup hx hb dX8_takeIf_18 rfl ?_
    refine c_get (v := .int (nI at9)) (C := RX8) (Tc := TX8) (N := 5) (ci := 5) hx hb hq pin_wsX80 hown hE hP hO 23 (sg_23 G h0 a _ _ _ _ _) rfl 2 (by decide) (hq _ pw_776) (fun _ h9 => h9) rfl dX8_takeIf_19 ?_
    refine lv_iconst (v := 1) hx hb dX8_takeIf_22 (by decide) ?_
    refine lv_iadd hx hb dX8_takeIf_23 ?_
    refine lv_topi (fun x10 e11 => ?_)
    obtain rfl : x10 = nI (at9 + 1) := e11.trans (nI_add (at9) (1))
    refine c_put (v := .int (nI (at9 + 1))) (ty := .int) (C := RX8) (Tc := TX8) (N := 5) (ci := 5) hx hb hq pin_wsX80 tyX8 tyX8_ok nmX8 hown hE hP hD hS hO 23 (sg_23 G h0 a _ _ _ _ _) rfl 2 (by decide) (hq _ pw_776) (fun _ h9 => h9) rfl (by decide +kernel) rfl rfl (Nat.le_of_ble_eq_true rfl) (sf_9 G h0 a _ _ _ _ _ (nI (at9 + 1))) dX8_takeIf_24 (fun H locs w hP hD hS hO => ?_)
    refine lv_iconst (v := 1) hx hb dX8_takeIf_27 (by decide) ?_
    have hz12 : 1 ≤ 1 := (by omega)
    have hz13 : at9 + 1 ≤ sz := (by omega)
    have hz14 : SeQ (B 7) sz at9 x 1 := ⟨fun _ => (h8.symm.trans c9), fun z => absurd z (by decide)⟩
    have hO : OKW G h0 a (upd (upd F 2 (nI sz)) 9 (nI (at9 + 1))) R Z B J T Pi w := hO.to rfl
    exact W.zret (v := 1) hx hb hr rfl (fun t99 ht99 hW99 => ⟨⟨_, (w, 1), rfl, ⟨rfl, hz12, hz13, hz14, hO⟩, by rw [ht99]; exact hP, hD⟩, hS.F ht99⟩) hS.2.2 dX8_takeIf_28
  · refine lv_iconst (v := 0) hx hb dX8_takeIf_15 (by decide) ?_
    have hz15 : 0 ≤ 1 := (by omega)
    have hz16 : at9 + 0 ≤ sz := (by omega)
    have hz17 : SeQ (B 7) sz at9 x 0 := ⟨fun z => absurd z (by decide), fun _ => (fun z => c9 (h8.trans z))⟩
    have hO : OKW G h0 a (upd (upd F 2 (nI sz)) 9 (nI (at9 + 0))) R Z B J T Pi w := hO.to rfl
    exact W.zret (v := 0) hx hb hr rfl (fun t99 ht99 hW99 => ⟨⟨_, (w, 0), rfl, ⟨rfl, hz15, hz16, hz17, hO⟩, by rw [ht99]; exact hP, hD⟩, hS.F ht99⟩) hS.2.2 dX8_takeIf_16
theorem dX8_take_0 : decode cX8_take 0 = .ok (.aload_n 0, 1) := by decide +kernel
theorem dX8_take_1 : decode cX8_take 1 = .ok (.getfield 7, 3) := by decide +kernel
theorem dX8_take_4 : decode cX8_take 4 = .ok (.aload_n 0, 1) := by decide +kernel
theorem dX8_take_5 : decode cX8_take 5 = .ok (.getfield 17, 3) := by decide +kernel
theorem dX8_take_8 : decode cX8_take 8 = .ok (.invokevirtual 57, 3) := by decide +kernel
theorem dX8_take_11 : decode cX8_take 11 = .ok (.iload_n 1, 1) := by decide +kernel
theorem dX8_take_12 : decode cX8_take 12 = .ok (.if_icmp .eq 15, 3) := by decide +kernel
theorem dX8_take_27 : decode cX8_take 27 = .ok (.aload_n 0, 1) := by decide +kernel
theorem dX8_take_28 : decode cX8_take 28 = .ok (.dup, 1) := by decide +kernel
theorem dX8_take_29 : decode cX8_take 29 = .ok (.getfield 17, 3) := by decide +kernel
theorem dX8_take_32 : decode cX8_take 32 = .ok (.iconst 1, 1) := by decide +kernel
theorem dX8_take_33 : decode cX8_take 33 = .ok (.iadd, 1) := by decide +kernel
theorem dX8_take_34 : decode cX8_take 34 = .ok (.putfield 17, 3) := by decide +kernel
theorem dX8_take_37 : decode cX8_take 37 = .ok (.aload_n 0, 1) := by decide +kernel
theorem dX8_take_38 : decode cX8_take 38 = .ok (.getfield 17, 3) := by decide +kernel
theorem dX8_take_41 : decode cX8_take 41 = .ok (.iconst 1, 1) := by decide +kernel
theorem dX8_take_42 : decode cX8_take 42 = .ok (.isub, 1) := by decide +kernel
theorem dX8_take_43 : decode cX8_take 43 = .ok (.ireturn, 1) := by decide +kernel
theorem dX8_take_15 : decode cX8_take 15 = .ok (.aload_n 0, 1) := by decide +kernel
theorem dX8_take_16 : decode cX8_take 16 = .ok (.getfield 7, 3) := by decide +kernel
theorem dX8_take_19 : decode cX8_take 19 = .ok (.iconst 1, 1) := by decide +kernel
theorem dX8_take_20 : decode cX8_take 20 = .ok (.aload_n 0, 1) := by decide +kernel
theorem dX8_take_21 : decode cX8_take 21 = .ok (.getfield 17, 3) := by decide +kernel
theorem dX8_take_24 : decode cX8_take 24 = .ok (.invokevirtual 60, 3) := by decide +kernel
theorem hV_X10_fail : yX10_fail.cls = RX10 ∧ yX10_fail.cls ≠ "java/lang/invoke/MethodHandle" ∧ yX10_fail.cls ≠ "java/lang/invoke/VarHandle" ∧ (parseMethodDescriptor yX10_fail.desc).map (fun d => d.parameters.length) = some 2 := by decide +kernel
set_option maxHeartbeats 2000000 in
set_option maxRecDepth 100000 in
theorem P_take (l : Launch) (G : pT) (h0 : Nat) (a : Nat → Nat) (F : Nat → Int32) (R : Nat → Value) (Z : Int64) (B : Nat → Nat → Int32) (J : Nat → Nat → Int64) (T : Nat → Nat) (Pi : Nat → va_E → Prop) (w : va_W) (x : Int32) (at9 : Nat) (sz : Nat) (hsz : sz ≤ 5000) (hat : at9 ≤ sz) (hx9 : ¬ x = 67) (hO : OKW G h0 a (upd (upd F 2 (nI sz)) 9 (nI at9)) R Z B J T Pi w) (hl0 : l.stackTraces = false) : PBn l G pX0 yX8_take cX8_take 2 (some .int) ({ frames := 7, cells := 1, slots := 6, locals := 122 }) [.ref (a 3), .int x] w (fun (v : Option Value) (u : va_W × (Unit)) => v = some (.int (nI at9)) ∧ (at9 + 1 ≤ sz) ∧ (tkN (B 7) sz 67 (nI at9) = x) ∧ (OKW G h0 a (upd (upd F 2 (nI sz)) 9 (nI (at9 + 1))) R Z B J T Pi u.1)) (fun u => u.1) (fun (u : va_W × (Unit)) => 0) (fun (u : va_W × (Unit)) => 0) (fun (u : va_W × (Nat → Int32) × (Nat → Value) × (Nat → Nat → Int32)) => ThQ G h0 a (upd (upd F 2 (nI sz)) 9 (nI at9)) R Z B J u) (fun u => u.1) := by
  intro sz
  refine vx_ofW (cc := cX8_take) (maxL := 2) (ret := (some .int)) (by decide) rfl ?_
  intro p e s m args below meth c s₁ B9 hml hnt hv
  obtain ⟨rfl, hsz, hP, hD0, hE, hX⟩ := hv
  have hx := B9.exec
  have hb := B9.bytes
  have hr := B9.returns
  have hts := atoms_spec (ws := Cond.code yX8_take cX8_take 2 (some .int) :: pw) B9.pre
  have hq : ∀ w ∈ pw, w.before _ s = true := fun w h => hts w (List.mem_cons_of_mem _ h)
  have hown : s.vm.findClass RX8 = some m.cls := findClass_of_methodNamed B9.named
  have hlocks := B9.notSynchronized
  subst hsz
  have hD := hD0.self (sz := s.heap.size)
  have hA : ∀ q : Nat, s.heap.size ≤ q → va_A w s.heap.size q := fun q h => Or.inr h
  generalize va_A w s.heap.size = A at hD hE hA ⊢
  have hS : va_S A s.heap s.heap [] := va_S.rf
  have hl := lv_entry ([.ref (a 3), .int x]) (n := 2) (Nat.le_of_ble_eq_true rfl)
  rw [lg_entry_eq]
  generalize (lg_sl ([.ref (a 3), .int x]) ++ List.replicate (2 - (lg_sl ([.ref (a 3), .int x])).length) Slot.unset).toArray = ls at hl ⊢
  have hl : lv_has ls 2 [(0, .ref (a 3)), (1, .int x)] := hl
  refine lv_aload_n hx hb dX8_take_0 rfl (lv_at hl 0 rfl) ?_
  refine c_get (v := .ref (a 1)) (C := RX8) (Tc := TX8) (N := 5) (ci := 5) hx hb hq pin_wsX80 hown hE hP hO 23 (sg_23 G h0 a _ _ _ _ _) rfl 0 (by decide) (hq _ pw_774) (fun _ h9 => h9) rfl dX8_take_1 ?_
  refine lv_aload_n hx hb dX8_take_4 rfl (lv_at hl 0 rfl) ?_
  refine c_get (v := .int (nI at9)) (C := RX8) (Tc := TX8) (N := 5) (ci := 5) hx hb hq pin_wsX80 hown hE hP hO 23 (sg_23 G h0 a _ _ _ _ _) rfl 2 (by decide) (hq _ pw_776) (fun _ h9 => h9) rfl dX8_take_5 ?_
  have hO : OKW G h0 a (upd (upd (upd F 2 (nI sz)) 9 (nI at9)) 2 (nI sz)) R Z B J T Pi w := hO.to rfl
  obtain ⟨_, qr4, hqr5⟩ := hO.2.1 2 _ (sg_2 G h0 a _ _ _ _ _)
  refine pc_V0 (G := G) (As := [.int (nI at9)]) (rest := []) hx hb hml hown hq hE hX pX0_al hP hD hS hA hl.1 (K_kindX l G h0 a (upd (upd F 2 (nI sz)) 9 (nI at9)) R Z B J T Pi w (nI at9) sz (by omega) hO) (gV pw_777 pw_193 pw_194 pw_59 pw_126) hV_X10_kindAt qr4 7 hqr5 rfl rfl rfl (Nat.le_of_ble_eq_true rfl) dX8_take_8 ⟨(by show 0 + 0 ≤ 1; omega), (by show 0 + 0 ≤ 6; omega)⟩ ⟨Nat.le_of_ble_eq_true rfl, Nat.le_of_ble_eq_true rfl⟩ (fun v3 u1 H locs hw2 hP hD hS => ?_)
  obtain ⟨w, r6⟩ := u1
  obtain ⟨hw2, h7, h8, hO⟩ := hw2
  have h7 : r6 = 67 ∨ ∃ t : Nat, (nI at9) = nI t ∧ t < sz := h7
  have h8 : r6 = tkN ((B 7)) sz 67 (nI at9) := h8
  obtain rfl : v3 = some (.int r6) := hw2
  have hO : OKW G h0 a (upd (upd F 2 (nI sz)) 9 (nI at9)) R Z B J T Pi w := hO.to rfl
  refine W.widen (k := 0) (n := 0) (Nat.le_of_ble_eq_true rfl) (Nat.le_of_ble_eq_true rfl) ?_
  refine W.eq (g2 := F0 m 11 ls [.int r6]) rfl ?_
  refine lv_iload_n hx hb dX8_take_11 rfl (lv_at hl 1 rfl) ?_
  refine lv_icmp_eq (tgt := 27) hx hb dX8_take_12 (by decide) (fun c9 => ?_) (fun c9 => ?_)
  · have htk := tok_in h7 c9 hx9 (by omega) hsz
    refine lv_aload_n hx hb dX8_take_27 rfl (lv_at hl 0 rfl) ?_
    refine lv_dup hx hb dX8_take_28 rfl ?_
    refine c_get (v := .int (nI at9)) (C := RX8) (Tc := TX8) (N := 5) (ci := 5) hx hb hq pin_wsX80 hown hE hP hO 23 (sg_23 G h0 a _ _ _ _ _) rfl 2 (by decide) (hq _ pw_776) (fun _ h9 => h9) rfl dX8_take_29 ?_
    refine lv_iconst (v := 1) hx hb dX8_take_32 (by decide) ?_
    refine lv_iadd hx hb dX8_take_33 ?_
    refine lv_topi (fun x10 e11 => ?_)
    obtain rfl : x10 = nI (at9 + 1) := e11.trans (nI_add (at9) (1))
    refine c_put (v := .int (nI (at9 + 1))) (ty := .int) (C := RX8) (Tc := TX8) (N := 5) (ci := 5) hx hb hq pin_wsX80 tyX8 tyX8_ok nmX8 hown hE hP hD hS hO 23 (sg_23 G h0 a _ _ _ _ _) rfl 2 (by decide) (hq _ pw_776) (fun _ h9 => h9) rfl (by decide +kernel) rfl rfl (Nat.le_of_ble_eq_true rfl) (sf_9 G h0 a _ _ _ _ _ (nI (at9 + 1))) dX8_take_34 (fun H locs w hP hD hS hO => ?_)
    refine lv_aload_n hx hb dX8_take_37 rfl (lv_at hl 0 rfl) ?_
    refine c_get (v := .int (nI (at9 + 1))) (C := RX8) (Tc := TX8) (N := 5) (ci := 5) hx hb hq pin_wsX80 hown hE hP hO 23 (sg_23 G h0 a _ _ _ _ _) rfl 2 (by decide) (hq _ pw_776) (fun _ h9 => h9) rfl dX8_take_38 ?_
    refine lv_iconst (v := 1) hx hb dX8_take_41 (by decide) ?_
    refine lv_isub hx hb dX8_take_42 ?_
    refine lv_topi (fun x12 e13 => ?_)
    obtain rfl : x12 = nI ((at9 + 1) - 1) := e13.trans (nI_subN (a := 1) (b := (at9 + 1)) (by omega))
    refine W_size (fun hz1 hz2 => ?_)
    refine vx_ret ?_
    have hz14 : at9 + 1 ≤ sz := (by omega)
    have hz15 : tkN (B 7) sz 67 (nI at9) = x := (h8.symm.trans c9)
    have hO : OKW G h0 a (upd (upd F 2 (nI sz)) 9 (nI (at9 + 1))) R Z B J T Pi w := hO.to rfl
    refine W.widen (k := 1) (n := 6) (by omega) (by omega) ?_
    have hzz1 : H.size ≤ s.heap.size + (0) := (by have z : 0 ≤ 0 := (by omega); omega)
    have hzz2 : hSl H ≤ hSl s.heap + (0) := (by have z : 0 ≤ 0 := (by omega); omega)
    exact W.iret (v := (nI ((at9 + 1) - 1))) hx hb hr (fun t99 ht99 hW99 => ⟨⟨_, (w, ()), rfl, ⟨(congrArg (fun z => some (Value.int z)) (congrArg nI (by omega))), hz14, hz15, hO⟩, by rw [ht99]; exact hP, hD, by rw [ht99]; exact hzz1, by rw [ht99]; exact hzz2⟩, hS.F ht99⟩) hS.2.2 dX8_take_43
  · refine lv_aload_n hx hb dX8_take_15 rfl (lv_at hl 0 rfl) ?_
    refine c_get (v := .ref (a 1)) (C := RX8) (Tc := TX8) (N := 5) (ci := 5) hx hb hq pin_wsX80 hown hE hP hO 23 (sg_23 G h0 a _ _ _ _ _) rfl 0 (by decide) (hq _ pw_774) (fun _ h9 => h9) rfl dX8_take_16 ?_
    refine lv_iconst (v := 1) hx hb dX8_take_19 (by decide) ?_
    refine lv_aload_n hx hb dX8_take_20 rfl (lv_at hl 0 rfl) ?_
    refine c_get (v := .int (nI at9)) (C := RX8) (Tc := TX8) (N := 5) (ci := 5) hx hb hq pin_wsX80 hown hE hP hO 23 (sg_23 G h0 a _ _ _ _ _) rfl 2 (by decide) (hq _ pw_776) (fun _ h9 => h9) rfl dX8_take_21 ?_
    have hO : OKW G h0 a (upd (upd (upd F 2 (nI sz)) 9 (nI at9)) 2 (nI sz)) R Z B J T Pi w := hO.to rfl
    obtain ⟨_, qr19, hqr20⟩ := hO.2.1 2 _ (sg_2 G h0 a _ _ _ _ _)
    refine pn_V0 (G := G) (As := [.int 1, .int (nI at9)]) (rest := []) hx hb hml hown hq hE hX pX0_al hP hD hS hA hl.1 (K_fail l G h0 a (upd (upd F 2 (nI sz)) 9 (nI at9)) R Z B J T Pi w 1 (nI at9) sz (by omega) hO hl0) (gV pw_779 pw_65 pw_66 pw_59 pw_43) hV_X10_fail qr19 7 hqr20 rfl rfl rfl (Nat.le_of_ble_eq_true rfl) dX8_take_24 ⟨(by show 0 + 1 ≤ 1; omega), (by show 0 + 6 ≤ 6; omega)⟩ ⟨Nat.le_of_ble_eq_true rfl, Nat.le_of_ble_eq_true rfl⟩ (fun v18 u16 H locs hw17 hP hD hS => hw17.elim) (fun ux ce9 q9 H9 locs9 hux hP9 hD9 hS9 hce hcv hcl => pb_out ux (ThQ.up (Thx.same Thx.rfl rfl) RhX.rfl hux) hnt hlocks hce hcv hcl hP9 hD9 hS9 (by show 0 + 1 ≤ 1; omega) (by show 0 + 6 ≤ 6; omega))
theorem dX8_refuse_0 : decode cX8_refuse 0 = .ok (.aload_n 0, 1) := by decide +kernel
theorem dX8_refuse_1 : decode cX8_refuse 1 = .ok (.getfield 7, 3) := by decide +kernel
theorem dX8_refuse_4 : decode cX8_refuse 4 = .ok (.iconst 1, 1) := by decide +kernel
theorem dX8_refuse_5 : decode cX8_refuse 5 = .ok (.aload_n 0, 1) := by decide +kernel
theorem dX8_refuse_6 : decode cX8_refuse 6 = .ok (.getfield 17, 3) := by decide +kernel
theorem dX8_refuse_9 : decode cX8_refuse 9 = .ok (.invokevirtual 60, 3) := by decide +kernel
set_option maxHeartbeats 2000000 in
set_option maxRecDepth 100000 in
theorem P_refuse (l : Launch) (G : pT) (h0 : Nat) (a : Nat → Nat) (F : Nat → Int32) (R : Nat → Value) (Z : Int64) (B : Nat → Nat → Int32) (J : Nat → Nat → Int64) (T : Nat → Nat) (Pi : Nat → va_E → Prop) (w : va_W) (at9 : Nat) (sz : Nat) (hsz : sz ≤ 5000) (hat : at9 ≤ sz) (hO : OKW G h0 a (upd (upd F 2 (nI sz)) 9 (nI at9)) R Z B J T Pi w) (hl0 : l.stackTraces = false) : PBn l G pX0 yX8_refuse cX8_refuse 1 none ({ frames := 7, cells := 1, slots := 6, locals := 122 }) [.ref (a 3)] w (fun (v : Option Value) (u : va_W × (Unit)) => False) (fun u => u.1) (fun (u : va_W × (Unit)) => 0) (fun (u : va_W × (Unit)) => 0) (fun (u : va_W × (Nat → Int32) × (Nat → Value) × (Nat → Nat → Int32)) => ThQ G h0 a (upd (upd F 2 (nI sz)) 9 (nI at9)) R Z B J u) (fun u => u.1) := by
  intro sz
  refine vx_ofW (cc := cX8_refuse) (maxL := 1) (ret := none) (by decide) rfl ?_
  intro p e s m args below meth c s₁ B9 hml hnt hv
  obtain ⟨rfl, hsz, hP, hD0, hE, hX⟩ := hv
  have hx := B9.exec
  have hb := B9.bytes
  have hr := B9.returns
  have hts := atoms_spec (ws := Cond.code yX8_refuse cX8_refuse 1 none :: pw) B9.pre
  have hq : ∀ w ∈ pw, w.before _ s = true := fun w h => hts w (List.mem_cons_of_mem _ h)
  have hown : s.vm.findClass RX8 = some m.cls := findClass_of_methodNamed B9.named
  have hlocks := B9.notSynchronized
  subst hsz
  have hD := hD0.self (sz := s.heap.size)
  have hA : ∀ q : Nat, s.heap.size ≤ q → va_A w s.heap.size q := fun q h => Or.inr h
  generalize va_A w s.heap.size = A at hD hE hA ⊢
  have hS : va_S A s.heap s.heap [] := va_S.rf
  have hl := lv_entry ([.ref (a 3)]) (n := 1) (Nat.le_of_ble_eq_true rfl)
  rw [lg_entry_eq]
  generalize (lg_sl ([.ref (a 3)]) ++ List.replicate (1 - (lg_sl ([.ref (a 3)])).length) Slot.unset).toArray = ls at hl ⊢
  have hl : lv_has ls 1 [(0, .ref (a 3))] := hl
  refine lv_aload_n hx hb dX8_refuse_0 rfl (lv_at hl 0 rfl) ?_
  refine c_get (v := .ref (a 1)) (C := RX8) (Tc := TX8) (N := 5) (ci := 5) hx hb hq pin_wsX80 hown hE hP hO 23 (sg_23 G h0 a _ _ _ _ _) rfl 0 (by decide) (hq _ pw_774) (fun _ h9 => h9) rfl dX8_refuse_1 ?_
  refine lv_iconst (v := 1) hx hb dX8_refuse_4 (by decide) ?_
  refine lv_aload_n hx hb dX8_refuse_5 rfl (lv_at hl 0 rfl) ?_
  refine c_get (v := .int (nI at9)) (C := RX8) (Tc := TX8) (N := 5) (ci := 5) hx hb hq pin_wsX80 hown hE hP hO 23 (sg_23 G h0 a _ _ _ _ _) rfl 2 (by decide) (hq _ pw_776) (fun _ h9 => h9) rfl dX8_refuse_6 ?_
  have hO : OKW G h0 a (upd (upd (upd F 2 (nI sz)) 9 (nI at9)) 2 (nI sz)) R Z B J T Pi w := hO.to rfl
  obtain ⟨_, qr4, hqr5⟩ := hO.2.1 2 _ (sg_2 G h0 a _ _ _ _ _)
  refine pn_V0 (G := G) (As := [.int 1, .int (nI at9)]) (rest := []) hx hb hml hown hq hE hX pX0_al hP hD hS hA hl.1 (K_fail l G h0 a (upd (upd F 2 (nI sz)) 9 (nI at9)) R Z B J T Pi w 1 (nI at9) sz (by omega) hO hl0) (gV pw_779 pw_65 pw_66 pw_59 pw_43) hV_X10_fail qr4 7 hqr5 rfl rfl rfl (Nat.le_of_ble_eq_true rfl) dX8_refuse_9 ⟨(by show 0 + 1 ≤ 1; omega), (by show 0 + 6 ≤ 6; omega)⟩ ⟨Nat.le_of_ble_eq_true rfl, Nat.le_of_ble_eq_true rfl⟩ (fun v3 u1 H locs hw2 hP hD hS => hw2.elim) (fun ux ce9 q9 H9 locs9 hux hP9 hD9 hS9 hce hcv hcl => pb_out ux (ThQ.up (Thx.same Thx.rfl rfl) RhX.rfl hux) hnt hlocks hce hcv hcl hP9 hD9 hS9 (by show 0 + 1 ≤ 1; omega) (by show 0 + 6 ≤ 6; omega))
theorem dX8_enter_0 : decode cX8_enter 0 = .ok (.aload_n 0, 1) := by decide +kernel
theorem dX8_enter_1 : decode cX8_enter 1 = .ok (.dup, 1) := by decide +kernel
theorem dX8_enter_2 : decode cX8_enter 2 = .ok (.getfield 21, 3) := by decide +kernel
theorem dX8_enter_5 : decode cX8_enter 5 = .ok (.iconst 1, 1) := by decide +kernel
theorem dX8_enter_6 : decode cX8_enter 6 = .ok (.iadd, 1) := by decide +kernel
theorem dX8_enter_7 : decode cX8_enter 7 = .ok (.putfield 21, 3) := by decide +kernel
theorem dX8_enter_10 : decode cX8_enter 10 = .ok (.aload_n 0, 1) := by decide +kernel
theorem dX8_enter_11 : decode cX8_enter 11 = .ok (.getfield 21, 3) := by decide +kernel
theorem dX8_enter_14 : decode cX8_enter 14 = .ok (.bipush 20, 2) := by decide +kernel
theorem dX8_enter_16 : decode cX8_enter 16 = .ok (.if_icmp .le 15, 3) := by decide +kernel
theorem dX8_enter_31 : decode cX8_enter 31 = .ok (.return_, 1) := by decide +kernel
theorem dX8_enter_19 : decode cX8_enter 19 = .ok (.aload_n 0, 1) := by decide +kernel
theorem dX8_enter_20 : decode cX8_enter 20 = .ok (.getfield 7, 3) := by decide +kernel
theorem dX8_enter_23 : decode cX8_enter 23 = .ok (.iconst 2, 1) := by decide +kernel
theorem dX8_enter_24 : decode cX8_enter 24 = .ok (.aload_n 0, 1) := by decide +kernel
theorem dX8_enter_25 : decode cX8_enter 25 = .ok (.getfield 17, 3) := by decide +kernel
theorem dX8_enter_28 : decode cX8_enter 28 = .ok (.invokevirtual 60, 3) := by decide +kernel
set_option maxHeartbeats 2000000 in
set_option maxRecDepth 100000 in
theorem P_enter (l : Launch) (G : pT) (h0 : Nat) (a : Nat → Nat) (F : Nat → Int32) (R : Nat → Value) (Z : Int64) (B : Nat → Nat → Int32) (J : Nat → Nat → Int64) (T : Nat → Nat) (Pi : Nat → va_E → Prop) (w : va_W) (dp : Nat) (at9 : Nat) (sz : Nat) (hsz : sz ≤ 5000) (hat : at9 ≤ sz) (hdp : dp ≤ 20) (hO : OKW G h0 a (upd (upd (upd F 2 (nI sz)) 9 (nI at9)) 10 (nI dp)) R Z B J T Pi w) (hl0 : l.stackTraces = false) : PBn l G pX0 yX8_enter cX8_enter 1 none ({ frames := 7, cells := 1, slots := 6, locals := 122 }) [.ref (a 3)] w (fun (v : Option Value) (u : va_W × (Unit)) => v = none ∧ (dp + 1 ≤ 20) ∧ (OKW G h0 a (upd (upd (upd F 2 (nI sz)) 9 (nI at9)) 10 (nI (dp + 1))) R Z B J T Pi u.1)) (fun u => u.1) (fun (u : va_W × (Unit)) => 0) (fun (u : va_W × (Unit)) => 0) (fun (u : va_W × (Nat → Int32) × (Nat → Value) × (Nat → Nat → Int32)) => ThQ G h0 a (upd (upd (upd F 2 (nI sz)) 9 (nI at9)) 10 (nI dp)) R Z B J u) (fun u => u.1) := by
  intro sz
  refine vx_ofW (cc := cX8_enter) (maxL := 1) (ret := none) (by decide) rfl ?_
  intro p e s m args below meth c s₁ B9 hml hnt hv
  obtain ⟨rfl, hsz, hP, hD0, hE, hX⟩ := hv
  have hx := B9.exec
  have hb := B9.bytes
  have hr := B9.returns
  have hts := atoms_spec (ws := Cond.code yX8_enter cX8_enter 1 none :: pw) B9.pre
  have hq : ∀ w ∈ pw, w.before _ s = true := fun w h => hts w (List.mem_cons_of_mem _ h)
  have hown : s.vm.findClass RX8 = some m.cls := findClass_of_methodNamed B9.named
  have hlocks := B9.notSynchronized
  subst hsz
  have hD := hD0.self (sz := s.heap.size)
  have hA : ∀ q : Nat, s.heap.size ≤ q → va_A w s.heap.size q := fun q h => Or.inr h
  generalize va_A w s.heap.size = A at hD hE hA ⊢
  have hS : va_S A s.heap s.heap [] := va_S.rf
  have hl := lv_entry ([.ref (a 3)]) (n := 1) (Nat.le_of_ble_eq_true rfl)
  rw [lg_entry_eq]
  generalize (lg_sl ([.ref (a 3)]) ++ List.replicate (1 - (lg_sl ([.ref (a 3)])).length) Slot.unset).toArray = ls at hl ⊢
  have hl : lv_has ls 1 [(0, .ref (a 3))] := hl
  refine lv_aload_n hx hb dX8_enter_0 rfl (lv_at hl 0 rfl) ?_
  refine lv_dup hx hb dX8_enter_1 rfl ?_
  refine c_get (v := .int (nI dp)) (C := RX8) (Tc := TX8) (N := 5) (ci := 5) hx hb hq pin_wsX80 hown hE hP hO 23 (sg_23 G h0 a _ _ _ _ _) rfl 3 (by decide) (hq _ pw_901) (fun _ h9 => h9) rfl dX8_enter_2 ?_
  refine lv_iconst (v := 1) hx hb dX8_enter_5 (by decide) ?_
  refine lv_iadd hx hb dX8_enter_6 ?_
  refine lv_topi (fun x1 e2 => ?_)
  obtain rfl : x1 = nI (dp + 1) := e2.trans (nI_add (dp) (1))
  refine c_put (v := .int (nI (dp + 1))) (ty := .int) (C := RX8) (Tc := TX8) (N := 5) (ci := 5) hx hb hq pin_wsX80 tyX8 tyX8_ok nmX8 hown hE hP hD hS hO 23 (sg_23 G h0 a _ _ _ _ _) rfl 3 (by decide) (hq _ pw_901) (fun _ h9 => h9) rfl (by decide +kernel) rfl rfl (Nat.le_of_ble_eq_true rfl) (sf_10 G h0 a _ _ _ _ _ (nI (dp + 1))) dX8_enter_7 (fun H locs w hP hD hS hO => ?_)
  refine lv_aload_n hx hb dX8_enter_10 rfl (lv_at hl 0 rfl) ?_
  refine c_get (v := .int (nI (dp + 1))) (C := RX8) (Tc := TX8) (N := 5) (ci := 5) hx hb hq pin_wsX80 hown hE hP hO 23 (sg_23 G h0 a _ _ _ _ _) rfl 3 (by decide) (hq _ pw_901) (fun _ h9 => h9) rfl dX8_enter_11 ?_
  refine lv_bipush (v := 20) hx hb dX8_enter_14 (by decide) ?_
  refine lv_icmp_le (tgt := 31) hx hb dX8_enter_16 (by decide) (fun c3 => ?_) (fun c3 => ?_)
  · have n4 : (dp + 1) ≤ 20 := (nI_leI (a := (dp + 1)) (b := 20) (by omega) (by omega)).mp c3
    refine W_size (fun hz1 hz2 => ?_)
    refine vx_ret ?_
    have hz5 : dp + 1 ≤ 20 := (by omega)
    have hO : OKW G h0 a (upd (upd (upd F 2 (nI sz)) 9 (nI at9)) 10 (nI (dp + 1))) R Z B J T Pi w := hO.to rfl
    refine W.widen (k := 1) (n := 6) (by omega) (by omega) ?_
    have hzz1 : H.size ≤ s.heap.size + (0) := (by have z : 0 ≤ 0 := (by omega); omega)
    have hzz2 : hSl H ≤ hSl s.heap + (0) := (by have z : 0 ≤ 0 := (by omega); omega)
    exact W.vret hx hb hr (fun t99 ht99 hW99 => ⟨⟨_, (w, ()), rfl, ⟨rfl, hz5, hO⟩, by rw [ht99]; exact hP, hD, by rw [ht99]; exact hzz1, by rw [ht99]; exact hzz2⟩, hS.F ht99⟩) hS.2.2 dX8_enter_31
  · have n6 : ¬ ((dp + 1) ≤ 20) := fun h9 => c3 ((nI_leI (a := (dp + 1)) (b := 20) (by omega) (by omega)).mpr h9)
    refine lv_aload_n hx hb dX8_enter_19 rfl (lv_at hl 0 rfl) ?_
    refine c_get (v := .ref (a 1)) (C := RX8) (Tc := TX8) (N := 5) (ci := 5) hx hb hq pin_wsX80 hown hE hP hO 23 (sg_23 G h0 a _ _ _ _ _) rfl 0 (by decide) (hq _ pw_774) (fun _ h9 => h9) rfl dX8_enter_20 ?_
    refine lv_iconst (v := 2) hx hb dX8_enter_23 (by decide) ?_
    refine lv_aload_n hx hb dX8_enter_24 rfl (lv_at hl 0 rfl) ?_
    refine c_get (v := .int (nI at9)) (C := RX8) (Tc := TX8) (N := 5) (ci := 5) hx hb hq pin_wsX80 hown hE hP hO 23 (sg_23 G h0 a _ _ _ _ _) rfl 2 (by decide) (hq _ pw_776) (fun _ h9 => h9) rfl dX8_enter_25 ?_
    have hO : OKW G h0 a (upd (upd (upd (upd (upd F 2 (nI sz)) 9 (nI at9)) 10 (nI dp)) 10 (nI (dp + 1))) 2 (nI sz)) R Z B J T Pi w := hO.to rfl
    obtain ⟨_, qr10, hqr11⟩ := hO.2.1 2 _ (sg_2 G h0 a _ _ _ _ _)
    refine pn_V0 (G := G) (As := [.int 2, .int (nI at9)]) (rest := []) hx hb hml hown hq hE hX pX0_al hP hD hS hA hl.1 (K_fail l G h0 a (upd (upd (upd (upd F 2 (nI sz)) 9 (nI at9)) 10 (nI dp)) 10 (nI (dp + 1))) R Z B J T Pi w 2 (nI at9) sz (by omega) hO hl0) (gV pw_779 pw_65 pw_66 pw_59 pw_43) hV_X10_fail qr10 7 hqr11 rfl rfl rfl (Nat.le_of_ble_eq_true rfl) dX8_enter_28 ⟨(by show 0 + 1 ≤ 1; omega), (by show 0 + 6 ≤ 6; omega)⟩ ⟨Nat.le_of_ble_eq_true rfl, Nat.le_of_ble_eq_true rfl⟩ (fun v9 u7 H locs hw8 hP hD hS => hw8.elim) (fun ux ce9 q9 H9 locs9 hux hP9 hD9 hS9 hce hcv hcl => pb_out ux (ThQ.up (Thx.same (Thx.f Thx.rfl (by omega)) rfl) RhX.rfl hux) hnt hlocks hce hcv hcl hP9 hD9 hS9 (by show 0 + 1 ≤ 1; omega) (by show 0 + 6 ≤ 6; omega))
theorem dX8_leave_0 : decode cX8_leave 0 = .ok (.aload_n 0, 1) := by decide +kernel
theorem dX8_leave_1 : decode cX8_leave 1 = .ok (.dup, 1) := by decide +kernel
theorem dX8_leave_2 : decode cX8_leave 2 = .ok (.getfield 21, 3) := by decide +kernel
theorem dX8_leave_5 : decode cX8_leave 5 = .ok (.iconst 1, 1) := by decide +kernel
theorem dX8_leave_6 : decode cX8_leave 6 = .ok (.isub, 1) := by decide +kernel
theorem dX8_leave_7 : decode cX8_leave 7 = .ok (.putfield 21, 3) := by decide +kernel
theorem dX8_leave_10 : decode cX8_leave 10 = .ok (.return_, 1) := by decide +kernel
set_option maxHeartbeats 2000000 in
set_option maxRecDepth 100000 in
theorem P_leave (l : Launch) (G : pT) (h0 : Nat) (a : Nat → Nat) (F : Nat → Int32) (R : Nat → Value) (Z : Int64) (B : Nat → Nat → Int32) (J : Nat → Nat → Int64) (T : Nat → Nat) (Pi : Nat → va_E → Prop) (w : va_W) (dp : Nat) (hdp : 1 ≤ dp ∧ dp ≤ 20) (hO : OKW G h0 a (upd F 10 (nI dp)) R Z B J T Pi w) : PM l G pX0 yX8_leave cX8_leave 1 none ({ frames := 2, cells := 0, slots := 0, locals := 60 }) [.ref (a 3)] w (fun (v : Option Value) (u : va_W × (Unit)) => v = none ∧ (OKW G h0 a (upd F 10 (nI (dp - 1))) R Z B J T Pi u.1)) (fun u => u.1) := by
  intro sz
  refine Met.ofW (cc := cX8_leave) (maxL := 1) (ret := none) (by decide) rfl ?_
  intro p e s m args below meth c s₁ B9 hml hv
  obtain ⟨rfl, hsz, hP, hD0, hE, hX⟩ := hv
  have hx := B9.exec
  have hb := B9.bytes
  have hr := B9.returns
  have hts := atoms_spec (ws := Cond.code yX8_leave cX8_leave 1 none :: pw) B9.pre
  have hq : ∀ w ∈ pw, w.before _ s = true := fun w h => hts w (List.mem_cons_of_mem _ h)
  have hown : s.vm.findClass RX8 = some m.cls := findClass_of_methodNamed B9.named
  have hlocks := B9.notSynchronized
  subst hsz
  have hD := hD0.self (sz := s.heap.size)
  have hA : ∀ q : Nat, s.heap.size ≤ q → va_A w s.heap.size q := fun q h => Or.inr h
  generalize va_A w s.heap.size = A at hD hE hA ⊢
  have hS : va_S A s.heap s.heap [] := va_S.rf
  have hl := lv_entry ([.ref (a 3)]) (n := 1) (Nat.le_of_ble_eq_true rfl)
  rw [lg_entry_eq]
  generalize (lg_sl ([.ref (a 3)]) ++ List.replicate (1 - (lg_sl ([.ref (a 3)])).length) Slot.unset).toArray = ls at hl ⊢
  have hl : lv_has ls 1 [(0, .ref (a 3))] := hl
  refine lv_aload_n hx hb dX8_leave_0 rfl (lv_at hl 0 rfl) ?_
  refine lv_dup hx hb dX8_leave_1 rfl ?_
  refine c_get (v := .int (nI dp)) (C := RX8) (Tc := TX8) (N := 5) (ci := 5) hx hb hq pin_wsX80 hown hE hP hO 23 (sg_23 G h0 a _ _ _ _ _) rfl 3 (by decide) (hq _ pw_901) (fun _ h9 => h9) rfl dX8_leave_2 ?_
  refine lv_iconst (v := 1) hx hb dX8_leave_5 (by decide) ?_
  refine lv_isub hx hb dX8_leave_6 ?_
  refine lv_topi (fun x1 e2 => ?_)
  obtain rfl : x1 = nI (dp - 1) := e2.trans (nI_subN (a := 1) (b := dp) (by omega))
  refine c_put (v := .int (nI (dp - 1))) (ty := .int) (C := RX8) (Tc := TX8) (N := 5) (ci := 5) hx hb hq pin_wsX80 tyX8 tyX8_ok nmX8 hown hE hP hD hS hO 23 (sg_23 G h0 a _ _ _ _ _) rfl 3 (by decide) (hq _ pw_901) (fun _ h9 => h9) rfl (by decide +kernel) rfl rfl (Nat.le_of_ble_eq_true rfl) (sf_10 G h0 a _ _ _ _ _ (nI (dp - 1))) dX8_leave_7 (fun H locs w hP hD hS hO => ?_)
  have hO : OKW G h0 a (upd F 10 (nI (dp - 1))) R Z B J T Pi w := hO.to rfl
  exact W.vret hx hb hr (fun t99 ht99 hW99 => ⟨⟨_, (w, ()), rfl, ⟨rfl, hO⟩, by rw [ht99]; exact hP, hD⟩, hS.F ht99⟩) hS.2.2 dX8_leave_10
theorem dX8_countSign_0 : decode cX8_countSign 0 = .ok (.aload_n 0, 1) := by decide +kernel
theorem dX8_countSign_1 : decode cX8_countSign 1 = .ok (.dup, 1) := by decide +kernel
theorem dX8_countSign_2 : decode cX8_countSign 2 = .ok (.getfield 24, 3) := by decide +kernel
theorem dX8_countSign_5 : decode cX8_countSign 5 = .ok (.iconst 1, 1) := by decide +kernel
theorem dX8_countSign_6 : decode cX8_countSign 6 = .ok (.iadd, 1) := by decide +kernel
theorem dX8_countSign_7 : decode cX8_countSign 7 = .ok (.putfield 24, 3) := by decide +kernel
theorem dX8_countSign_10 : decode cX8_countSign 10 = .ok (.aload_n 0, 1) := by decide +kernel
theorem dX8_countSign_11 : decode cX8_countSign 11 = .ok (.getfield 24, 3) := by decide +kernel
theorem dX8_countSign_14 : decode cX8_countSign 14 = .ok (.bipush 60, 2) := by decide +kernel
theorem dX8_countSign_16 : decode cX8_countSign 16 = .ok (.if_icmp .le 15, 3) := by decide +kernel
theorem dX8_countSign_31 : decode cX8_countSign 31 = .ok (.return_, 1) := by decide +kernel
theorem dX8_countSign_19 : decode cX8_countSign 19 = .ok (.aload_n 0, 1) := by decide +kernel
theorem dX8_countSign_20 : decode cX8_countSign 20 = .ok (.getfield 7, 3) := by decide +kernel
theorem dX8_countSign_23 : decode cX8_countSign 23 = .ok (.iconst 2, 1) := by decide +kernel
theorem dX8_countSign_24 : decode cX8_countSign 24 = .ok (.aload_n 0, 1) := by decide +kernel
theorem dX8_countSign_25 : decode cX8_countSign 25 = .ok (.getfield 17, 3) := by decide +kernel
theorem dX8_countSign_28 : decode cX8_countSign 28 = .ok (.invokevirtual 60, 3) := by decide +kernel
set_option maxHeartbeats 2000000 in
set_option maxRecDepth 100000 in
theorem P_countSign (l : Launch) (G : pT) (h0 : Nat) (a : Nat → Nat) (F : Nat → Int32) (R : Nat → Value) (Z : Int64) (B : Nat → Nat → Int32) (J : Nat → Nat → Int64) (T : Nat → Nat) (Pi : Nat → va_E → Prop) (w : va_W) (sg : Nat) (at9 : Nat) (sz : Nat) (hsz : sz ≤ 5000) (hat : at9 ≤ sz) (hsg : sg ≤ 60) (hO : OKW G h0 a (upd (upd (upd F 2 (nI sz)) 9 (nI at9)) 11 (nI sg)) R Z B J T Pi w) (hl0 : l.stackTraces = false) : PBn l G pX0 yX8_countSign cX8_countSign 1 none ({ frames := 7, cells := 1, slots := 6, locals := 122 }) [.ref (a 3)] w (fun (v : Option Value) (u : va_W × (Unit)) => v = none ∧ (sg + 1 ≤ 60) ∧ (OKW G h0 a (upd (upd (upd F 2 (nI sz)) 9 (nI at9)) 11 (nI (sg + 1))) R Z B J T Pi u.1)) (fun u => u.1) (fun (u : va_W × (Unit)) => 0) (fun (u : va_W × (Unit)) => 0) (fun (u : va_W × (Nat → Int32) × (Nat → Value) × (Nat → Nat → Int32)) => ThQ G h0 a (upd (upd (upd F 2 (nI sz)) 9 (nI at9)) 11 (nI sg)) R Z B J u) (fun u => u.1) := by
  intro sz
  refine vx_ofW (cc := cX8_countSign) (maxL := 1) (ret := none) (by decide) rfl ?_
  intro p e s m args below meth c s₁ B9 hml hnt hv
  obtain ⟨rfl, hsz, hP, hD0, hE, hX⟩ := hv
  have hx := B9.exec
  have hb := B9.bytes
  have hr := B9.returns
  have hts := atoms_spec (ws := Cond.code yX8_countSign cX8_countSign 1 none :: pw) B9.pre
  have hq : ∀ w ∈ pw, w.before _ s = true := fun w h => hts w (List.mem_cons_of_mem _ h)
  have hown : s.vm.findClass RX8 = some m.cls := findClass_of_methodNamed B9.named
  have hlocks := B9.notSynchronized
  subst hsz
  have hD := hD0.self (sz := s.heap.size)
  have hA : ∀ q : Nat, s.heap.size ≤ q → va_A w s.heap.size q := fun q h => Or.inr h
  generalize va_A w s.heap.size = A at hD hE hA ⊢
  have hS : va_S A s.heap s.heap [] := va_S.rf
  have hl := lv_entry ([.ref (a 3)]) (n := 1) (Nat.le_of_ble_eq_true rfl)
  rw [lg_entry_eq]
  generalize (lg_sl ([.ref (a 3)]) ++ List.replicate (1 - (lg_sl ([.ref (a 3)])).length) Slot.unset).toArray = ls at hl ⊢
  have hl : lv_has ls 1 [(0, .ref (a 3))] := hl
  refine lv_aload_n hx hb dX8_countSign_0 rfl (lv_at hl 0 rfl) ?_
  refine lv_dup hx hb dX8_countSign_1 rfl ?_
  refine c_get (v := .int (nI sg)) (C := RX8) (Tc := TX8) (N := 5) (ci := 5) hx hb hq pin_wsX80 hown hE hP hO 23 (sg_23 G h0 a _ _ _ _ _) rfl 4 (by decide) (hq _ pw_904) (fun _ h9 => h9) rfl dX8_countSign_2 ?_
  refine lv_iconst (v := 1) hx hb dX8_countSign_5 (by decide) ?_
  refine lv_iadd hx hb dX8_countSign_6 ?_
  refine lv_topi (fun x1 e2 => ?_)
  obtain rfl : x1 = nI (sg + 1) := e2.trans (nI_add (sg) (1))
  refine c_put (v := .int (nI (sg + 1))) (ty := .int) (C := RX8) (Tc := TX8) (N := 5) (ci := 5) hx hb hq pin_wsX80 tyX8 tyX8_ok nmX8 hown hE hP hD hS hO 23 (sg_23 G h0 a _ _ _ _ _) rfl 4 (by decide) (hq _ pw_904) (fun _ h9 => h9) rfl (by decide +kernel) rfl rfl (Nat.le_of_ble_eq_true rfl) (sf_11 G h0 a _ _ _ _ _ (nI (sg + 1))) dX8_countSign_7 (fun H locs w hP hD hS hO => ?_)
  refine lv_aload_n hx hb dX8_countSign_10 rfl (lv_at hl 0 rfl) ?_
  refine c_get (v := .int (nI (sg + 1))) (C := RX8) (Tc := TX8) (N := 5) (ci := 5) hx hb hq pin_wsX80 hown hE hP hO 23 (sg_23 G h0 a _ _ _ _ _) rfl 4 (by decide) (hq _ pw_904) (fun _ h9 => h9) rfl dX8_countSign_11 ?_
  refine lv_bipush (v := 60) hx hb dX8_countSign_14 (by decide) ?_
  refine lv_icmp_le (tgt := 31) hx hb dX8_countSign_16 (by decide) (fun c3 => ?_) (fun c3 => ?_)
  · have n4 : (sg + 1) ≤ 60 := (nI_leI (a := (sg + 1)) (b := 60) (by omega) (by omega)).mp c3
    refine W_size (fun hz1 hz2 => ?_)
    refine vx_ret ?_
    have hz5 : sg + 1 ≤ 60 := (by omega)
    have hO : OKW G h0 a (upd (upd (upd F 2 (nI sz)) 9 (nI at9)) 11 (nI (sg + 1))) R Z B J T Pi w := hO.to rfl
    refine W.widen (k := 1) (n := 6) (by omega) (by omega) ?_
    have hzz1 : H.size ≤ s.heap.size + (0) := (by have z : 0 ≤ 0 := (by omega); omega)
    have hzz2 : hSl H ≤ hSl s.heap + (0) := (by have z : 0 ≤ 0 := (by omega); omega)
    exact W.vret hx hb hr (fun t99 ht99 hW99 => ⟨⟨_, (w, ()), rfl, ⟨rfl, hz5, hO⟩, by rw [ht99]; exact hP, hD, by rw [ht99]; exact hzz1, by rw [ht99]; exact hzz2⟩, hS.F ht99⟩) hS.2.2 dX8_countSign_31
  · have n6 : ¬ ((sg + 1) ≤ 60) := fun h9 => c3 ((nI_leI (a := (sg + 1)) (b := 60) (by omega) (by omega)).mpr h9)
    refine lv_aload_n hx hb dX8_countSign_19 rfl (lv_at hl 0 rfl) ?_
    refine c_get (v := .ref (a 1)) (C := RX8) (Tc := TX8) (N := 5) (ci := 5) hx hb hq pin_wsX80 hown hE hP hO 23 (sg_23 G h0 a _ _ _ _ _) rfl 0 (by decide) (hq _ pw_774) (fun _ h9 => h9) rfl dX8_countSign_20 ?_
    refine lv_iconst (v := 2) hx hb dX8_countSign_23 (by decide) ?_
    refine lv_aload_n hx hb dX8_countSign_24 rfl (lv_at hl 0 rfl) ?_
    refine c_get (v := .int (nI at9)) (C := RX8) (Tc := TX8) (N := 5) (ci := 5) hx hb hq pin_wsX80 hown hE hP hO 23 (sg_23 G h0 a _ _ _ _ _) rfl 2 (by decide) (hq _ pw_776) (fun _ h9 => h9) rfl dX8_countSign_25 ?_
    have hO : OKW G h0 a (upd (upd (upd (upd (upd F 2 (nI sz)) 9 (nI at9)) 11 (nI sg)) 11 (nI (sg + 1))) 2 (nI sz)) R Z B J T Pi w := hO.to rfl
    obtain ⟨_, qr10, hqr11⟩ := hO.2.1 2 _ (sg_2 G h0 a _ _ _ _ _)
    refine pn_V0 (G := G) (As := [.int 2, .int (nI at9)]) (rest := []) hx hb hml hown hq hE hX pX0_al hP hD hS hA hl.1 (K_fail l G h0 a (upd (upd (upd (upd F 2 (nI sz)) 9 (nI at9)) 11 (nI sg)) 11 (nI (sg + 1))) R Z B J T Pi w 2 (nI at9) sz (by omega) hO hl0) (gV pw_779 pw_65 pw_66 pw_59 pw_43) hV_X10_fail qr10 7 hqr11 rfl rfl rfl (Nat.le_of_ble_eq_true rfl) dX8_countSign_28 ⟨(by show 0 + 1 ≤ 1; omega), (by show 0 + 6 ≤ 6; omega)⟩ ⟨Nat.le_of_ble_eq_true rfl, Nat.le_of_ble_eq_true rfl⟩ (fun v9 u7 H locs hw8 hP hD hS => hw8.elim) (fun ux ce9 q9 H9 locs9 hux hP9 hD9 hS9 hce hcv hcl => pb_out ux (ThQ.up (Thx.same (Thx.f Thx.rfl (by omega)) rfl) RhX.rfl hux) hnt hlocks hce hcv hcl hP9 hD9 hS9 (by show 0 + 1 ≤ 1; omega) (by show 0 + 6 ≤ 6; omega))
