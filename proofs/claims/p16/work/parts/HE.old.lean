def VrQ (vr : Nat) (r : Int32) : Prop := r = -1 ∨ ∃ t : Nat, r = nI t ∧ t < vr
def Bth (B B1 : Nat → Nat → Int32) : Prop := (∀ i : Nat, ¬ (i = 10 ∨ i = 11 ∨ (16 ≤ i ∧ i ≤ 27)) → B1 i = B i) ∧ (Nng (B 18) → Nng (B1 18))
theorem Bth.thx {F : Nat → Int32} {B B1 : Nat → Nat → Int32} (h : Bth B B1) : Thx F F B B1 := ⟨fun _ _ => rfl, h.1, h.2⟩
theorem Thx.bth {F F1 : Nat → Int32} {B B1 : Nat → Nat → Int32} (h : Thx F F1 B B1) : Bth B B1 := h.2
theorem Bth.trans {B B1 B2 : Nat → Nat → Int32} (h : Bth B B1) (h2 : Bth B1 B2) : Bth B B2 := ⟨fun i hi => (h2.1 i hi).trans (h.1 i hi), fun z => h2.2 (h.2 z)⟩
/-- what a statement leaves: slots of nodes, new Loops -/
def beI (f : Nat) : Prop := f = 5 ∨ 26 ≤ f
def BdE (K K1 : PK) : Prop := (∀ p : Nat, ¬ K.1 p = 0 → K1.1 p = K.1 p ∧ (∀ f : Nat, ¬ beI f → K1.2.1 f p = K.2.1 f p) ∧ (∀ f : Nat, K1.2.2.1 f p = K.2.2.1 f p) ∧ K1.2.2.2.1 p = K.2.2.2.1 p ∧ K1.2.2.2.2.1 p = K.2.2.2.2.1 p ∧ K1.2.2.2.2.2 p = K.2.2.2.2.2 p) ∧ ∀ p : Nat, K.1 p = 0 → K1.1 p = 0 ∨ K1.1 p = 9
section BE
variable {G : pT} {K K1 K2 : PK} {g : Nat → Nat → Nat} {p q f ax pq dr ml nd nm cp s : Nat} {it rk : Nat → Nat} {v : Int32}
theorem BdE.rfl : BdE K K := ⟨fun _ _ => ⟨Eq.refl _, fun _ _ => Eq.refl _, fun _ => Eq.refl _, Eq.refl _, Eq.refl _, Eq.refl _⟩, fun _ h => Or.inl h⟩
theorem BdE.trans (h : BdE K K1) (h2 : BdE K1 K2) : BdE K K2 := by
  refine ⟨fun p hp => ?_, fun p hp => ?_⟩
  · obtain ⟨a1, a2, a3, a4, a5, a6⟩ := h.1 p hp
    obtain ⟨b1, b2, b3, b4, b5, b6⟩ := h2.1 p (by rw [a1]; exact hp)
    exact ⟨b1.trans a1, fun f hf => (b2 f hf).trans (a2 f hf), fun f => (b3 f).trans (a3 f), b4.trans a4, b5.trans a5, b6.trans a6⟩
  · rcases h.2 p hp with z | z
    · exact h2.2 p z
    · exact Or.inr ((h2.1 p (by rw [z]; decide)).1.trans z)
theorem BdE.kI (hf : beI f) : BdE K (kI K f q v) := ⟨fun p _ => ⟨Eq.refl _, fun f9 h9 => kI_of (fun z => h9 (by rw [z]; exact hf)), fun _ => Eq.refl _, Eq.refl _, Eq.refl _, Eq.refl _⟩, fun _ h => Or.inl h⟩
theorem BdE.x (h : BdE K K1) : BdX K K1 := ⟨fun p hp => ⟨(h.1 p hp).1, fun f hf => (h.1 p hp).2.1 f (fun z => hf (by unfold beI at z; unfold bdI; omega)), (h.1 p hp).2.2⟩, h.2⟩
theorem BdE.mtb (h : BdE K K1) (hm : MtB K) : MtB K1 := fun q hq => by
  obtain ⟨z, zq⟩ := h.x.old hq (by decide) (by decide)
  rw [(h.1 q z).2.1 12 (fun w => by unfold beI at w; omega)]
  exact hm q zq
theorem BdE.wp (h : BdE K K1) (hw : WPr G K g) : WPr G K1 g := h.x.wp (h.mtb (MtB.of hw)) hw
theorem BdE.pt (h : BdE K K1) (hw : WPr G K g) (hp : PgT G K g ax pq dr ml nd nm cp it s) : PgT G K1 g ax pq dr ml nd nm cp it s := h.x.pt hw hp
theorem BdE.rko (h : BdE K K1) (hr : RkO K rk) : RkO K1 rk := h.x.rko hr
theorem BdE.T (h : BdE K K1) {t : Nat} (ht : K.1 p = t) (h0 : ¬ t = 0) : K1.1 p = t := h.x.T ht h0
theorem BdE.C (h : BdE K K1) (hp : ¬ K.1 p = 0) (f : Nat) : K1.2.2.1 f p = K.2.2.1 f p := (h.1 p hp).2.2.1 f
theorem BdE.I (h : BdE K K1) (hp : ¬ K.1 p = 0) (hf : f < 26) (h5 : ¬ f = 5) : K1.2.1 f p = K.2.1 f p := (h.1 p hp).2.1 f (fun z => by unfold beI at z; omega)
end BE
theorem dX0_variable_0 : decode cX0_variable 0 = .ok (.iconst 0, 1) := by decide +kernel
theorem dX0_variable_1 : decode cX0_variable 1 = .ok (.istore_n 2, 1) := by decide +kernel
theorem dX0_variable_2 : decode cX0_variable 2 = .ok (.iload_n 2, 1) := by decide +kernel
theorem dX0_variable_3 : decode cX0_variable 3 = .ok (.aload_n 0, 1) := by decide +kernel
theorem dX0_variable_4 : decode cX0_variable 4 = .ok (.getfield 91, 3) := by decide +kernel
theorem dX0_variable_7 : decode cX0_variable 7 = .ok (.if_icmp .ge 21, 3) := by decide +kernel
theorem dX0_variable_28 : decode cX0_variable 28 = .ok (.iconst (-1), 1) := by decide +kernel
theorem dX0_variable_29 : decode cX0_variable 29 = .ok (.ireturn, 1) := by decide +kernel
theorem dX0_variable_10 : decode cX0_variable 10 = .ok (.aload_n 0, 1) := by decide +kernel
theorem dX0_variable_11 : decode cX0_variable 11 = .ok (.getfield 19, 3) := by decide +kernel
theorem dX0_variable_14 : decode cX0_variable 14 = .ok (.iload_n 2, 1) := by decide +kernel
theorem dX0_variable_15 : decode cX0_variable 15 = .ok (.iaload, 1) := by decide +kernel
theorem dX0_variable_16 : decode cX0_variable 16 = .ok (.iload_n 1, 1) := by decide +kernel
theorem dX0_variable_17 : decode cX0_variable 17 = .ok (.if_icmp .ne 5, 3) := by decide +kernel
theorem dX0_variable_22 : decode cX0_variable 22 = .ok (.iinc 2 1, 3) := by decide +kernel
theorem dX0_variable_25 : decode cX0_variable 25 = .ok (.goto (-23), 3) := by decide +kernel
theorem dX0_variable_20 : decode cX0_variable 20 = .ok (.iload_n 2, 1) := by decide +kernel
theorem dX0_variable_21 : decode cX0_variable 21 = .ok (.ireturn, 1) := by decide +kernel
set_option maxHeartbeats 2000000 in
set_option maxRecDepth 100000 in
theorem B_variable (l : Launch) (G : pT) (h0 : Nat) (a : Nat → Nat) (F : Nat → Int32) (R : Nat → Value) (Z : Int64) (B : Nat → Nat → Int32) (J : Nat → Nat → Int64) (T : Nat → Nat) (Pi : Nat → va_E → Prop) (w : va_W) (x : Int32) (vr : Nat) (hvr : vr ≤ 30) (hO : OKW G h0 a (upd F 12 (nI vr)) R Z B J T Pi w) : PM l G pX0 yX0_variable cX0_variable 3 (some .int) ({ frames := 2, cells := 0, slots := 0, locals := 60 }) [.ref (a 4), .int x] w (fun (v : Option Value) (u : va_W × (Int32)) => v = some (.int u.2) ∧ (VrQ vr u.2) ∧ (OKW G h0 a (upd F 12 (nI vr)) R Z B J T Pi u.1)) (fun u => u.1) := by
  intro sz
  refine Met.ofW (cc := cX0_variable) (maxL := 3) (ret := (some .int)) (by decide) rfl ?_
  intro p e s m args below meth c s₁ B9 hml hv
  obtain ⟨rfl, hsz, hP, hD0, hE, hX⟩ := hv
  have hx := B9.exec
  have hb := B9.bytes
  have hr := B9.returns
  have hts := atoms_spec (ws := Cond.code yX0_variable cX0_variable 3 (some .int) :: pw) B9.pre
  have hq : ∀ w ∈ pw, w.before _ s = true := fun w h => hts w (List.mem_cons_of_mem _ h)
  have hown : s.vm.findClass RX0 = some m.cls := findClass_of_methodNamed B9.named
  have hlocks := B9.notSynchronized
  subst hsz
  have hD := hD0.self (sz := s.heap.size)
  have hA : ∀ q : Nat, s.heap.size ≤ q → va_A w s.heap.size q := fun q h => Or.inr h
  generalize va_A w s.heap.size = A at hD hE hA ⊢
  have hS : va_S A s.heap s.heap [] := va_S.rf
  have hl := lv_entry ([.ref (a 4), .int x]) (n := 3) (Nat.le_of_ble_eq_true rfl)
  rw [lg_entry_eq]
  generalize (lg_sl ([.ref (a 4), .int x]) ++ List.replicate (3 - (lg_sl ([.ref (a 4), .int x])).length) Slot.unset).toArray = ls at hl ⊢
  have hl : lv_has ls 3 [(0, .ref (a 4)), (1, .int x)] := hl
  refine lv_iconst (v := 0) hx hb dX0_variable_0 (by decide) ?_
  refine lv_istore_n (lv' := [(2, .int 0), (0, .ref (a 4)), (1, .int x)]) hx hb dX0_variable_1 rfl hl (by decide) rfl (fun ls hl => ?_)
  have loop_i : ∀ (n_i : Nat) (i2 : Nat) (H : Heap) (locs : List Loc) (ls : Array Slot) (w : va_W), i2 ≤ vr → vr + 1 ≤ i2 + n_i → va_P G.1 pCl w H → va_D A w → va_S A s.heap H locs → OKW G h0 a (upd F 12 (nI vr)) R Z B J T Pi w → lv_has ls 3 [(2, .int (nI i2)), (1, .int x), (0, .ref (a 4))] → W p l e (headSpec (Cond.code yX0_variable cX0_variable 3 (some .int) :: pw) ({ frames := 2, cells := 0, slots := 0, locals := 60 } : Room)).room s m ([.ref (a 4), .int x] : List Value).toArray below meth c H locs 0 0 (MQ below (pQ G A (fun (v : Option Value) (u : va_W × (Int32)) => v = some (.int u.2) ∧ (VrQ vr u.2) ∧ (OKW G h0 a (upd F 12 (nI vr)) R Z B J T Pi u.1)) (fun u => u.1)) ([.ref (a 4), .int x] : List Value).toArray s ({ frames := 2, cells := 0, slots := 0, locals := 60 } : Room).cells ({ frames := 2, cells := 0, slots := 0, locals := 60 } : Room).slots A) (F0 m 2 ls []) := by
    intro n_i
    induction n_i with
    | zero => intro i2 H locs ls w hk_i hn_i; omega
    | succ n_i ih_i =>
      intro i2 H locs ls w hk_i hn_i hP hD hS hO hl
      refine lv_iload_n hx hb dX0_variable_2 rfl (lv_at hl 0 rfl) ?_
      refine lv_aload_n hx hb dX0_variable_3 rfl (lv_at hl 2 rfl) ?_
      refine c_get (v := .int (nI vr)) (C := RX0) (Tc := TX0) (N := 13) (ci := 0) hx hb hq pin_wsX00 hown hE hP hO 24 (sg_24 G h0 a _ _ _ _ _) rfl 5 (by decide) (hq _ pw_42) (fun _ h9 => h9) rfl dX0_variable_4 ?_
      refine lv_icmp_ge (tgt := 28) hx hb dX0_variable_7 (by decide) (fun c1 => ?_) (fun c1 => ?_)
      · have n2 : vr ≤ i2 := (nI_leI (a := vr) (b := i2) (by omega) (by omega)).mp c1
        refine lv_iconst (v := (-1)) hx hb dX0_variable_28 (by decide) ?_
        have hz3 : VrQ vr ((-1) : Int32) := (Or.inl rfl)
        have hO : OKW G h0 a (upd F 12 (nI vr)) R Z B J T Pi w := hO.to rfl
        exact W.iret (v := (-1)) hx hb hr (fun t99 ht99 hW99 => ⟨⟨_, (w, ((-1) : Int32)), rfl, ⟨rfl, hz3, hO⟩, by rw [ht99]; exact hP, hD⟩, hS.F ht99⟩) hS.2.2 dX0_variable_29
      · have n4 : ¬ (vr ≤ i2) := fun h9 => c1 ((nI_leI (a := vr) (b := i2) (by omega) (by omega)).mpr h9)
        refine lv_aload_n hx hb dX0_variable_10 rfl (lv_at hl 2 rfl) ?_
        refine c_get (v := .ref (a 25)) (C := RX0) (Tc := TX0) (N := 13) (ci := 0) hx hb hq pin_wsX00 hown hE hP hO 24 (sg_24 G h0 a _ _ _ _ _) rfl 2 (by decide) (hq _ pw_7) (fun _ h9 => h9) rfl dX0_variable_11 ?_
        refine lv_iload_n hx hb dX0_variable_14 rfl (lv_at hl 0 rfl) ?_
        refine c_ldi (f := (B 25)) (n := 30) (t0 := 0) hx hb hE hP hO 25 (sg_25 G h0 a _ _ _ _ _) rfl (vp_in_nI (by omega) (by decide)) dX0_variable_15 ?_
        rw [(nI_clamp (show i2 < 2 ^ 31 by omega))]
        refine lv_iload_n hx hb dX0_variable_16 rfl (lv_at hl 1 rfl) ?_
        refine lv_icmp_ne (tgt := 22) hx hb dX0_variable_17 (by decide) (fun c5 => ?_) (fun c5 => ?_)
        · refine lv_iinc (v := (nI (i2 + 1))) (lv' := [(2, .int (nI (i2 + 1))), (1, .int x), (0, .ref (a 4))]) hx hb dX0_variable_22 hl (k := 0) rfl (nI_1 i2) (by decide) rfl (fun ls hl => ?_)
          refine lv_goto (tgt := 2) hx hb dX0_variable_25 (by decide) ?_
          have hO : OKW G h0 a (upd F 12 (nI vr)) R Z B J T Pi w := hO.to rfl
          exact ih_i (i2 + 1) _ _ _ _ (by omega) (by omega) hP hD hS hO (lv_sub hl [0, 1, 2] rfl)
        · refine lv_iload_n hx hb dX0_variable_20 rfl (lv_at hl 0 rfl) ?_
          have hz6 : VrQ vr (nI i2) := (Or.inr ⟨i2, rfl, (by omega)⟩)
          have hO : OKW G h0 a (upd F 12 (nI vr)) R Z B J T Pi w := hO.to rfl
          exact W.iret (v := (nI i2)) hx hb hr (fun t99 ht99 hW99 => ⟨⟨_, (w, (nI i2)), rfl, ⟨rfl, hz6, hO⟩, by rw [ht99]; exact hP, hD⟩, hS.F ht99⟩) hS.2.2 dX0_variable_21
  have hO : OKW G h0 a (upd F 12 (nI vr)) R Z B J T Pi w := hO.to rfl
  exact loop_i (vr + 1) 0 _ _ _ _ (by omega) (by omega) hP hD hS hO (lv_sub hl [0, 2, 1] rfl)
theorem dX0_declare_0 : decode cX0_declare 0 = .ok (.aload_n 0, 1) := by decide +kernel
theorem dX0_declare_1 : decode cX0_declare 1 = .ok (.getfield 9, 3) := by decide +kernel
theorem dX0_declare_4 : decode cX0_declare 4 = .ok (.iload_n 1, 1) := by decide +kernel
theorem dX0_declare_5 : decode cX0_declare 5 = .ok (.invokevirtual 152, 3) := by decide +kernel
theorem dX0_declare_8 : decode cX0_declare 8 = .ok (.istore_n 3, 1) := by decide +kernel
theorem dX0_declare_9 : decode cX0_declare 9 = .ok (.aload_n 0, 1) := by decide +kernel
theorem dX0_declare_10 : decode cX0_declare 10 = .ok (.getfield 91, 3) := by decide +kernel
theorem dX0_declare_13 : decode cX0_declare 13 = .ok (.bipush 30, 2) := by decide +kernel
theorem dX0_declare_15 : decode cX0_declare 15 = .ok (.if_icmp .ge 12, 3) := by decide +kernel
theorem dX0_declare_27 : decode cX0_declare 27 = .ok (.aload_n 0, 1) := by decide +kernel
theorem dX0_declare_28 : decode cX0_declare 28 = .ok (.getfield 9, 3) := by decide +kernel
theorem dX0_declare_31 : decode cX0_declare 31 = .ok (.bipush 14, 2) := by decide +kernel
theorem dX0_declare_33 : decode cX0_declare 33 = .ok (.iload_n 1, 1) := by decide +kernel
theorem dX0_declare_34 : decode cX0_declare 34 = .ok (.invokevirtual 136, 3) := by decide +kernel
theorem dX0_declare_18 : decode cX0_declare 18 = .ok (.aload_n 0, 1) := by decide +kernel
theorem dX0_declare_19 : decode cX0_declare 19 = .ok (.iload_n 3, 1) := by decide +kernel
theorem dX0_declare_20 : decode cX0_declare 20 = .ok (.invokevirtual 155, 3) := by decide +kernel
theorem dX0_declare_23 : decode cX0_declare 23 = .ok (.iconst (-1), 1) := by decide +kernel
theorem dX0_declare_24 : decode cX0_declare 24 = .ok (.if_icmp .eq 15, 3) := by decide +kernel
theorem dX0_declare_39 : decode cX0_declare 39 = .ok (.aload_n 0, 1) := by decide +kernel
theorem dX0_declare_40 : decode cX0_declare 40 = .ok (.getfield 19, 3) := by decide +kernel
theorem dX0_declare_43 : decode cX0_declare 43 = .ok (.aload_n 0, 1) := by decide +kernel
theorem dX0_declare_44 : decode cX0_declare 44 = .ok (.getfield 91, 3) := by decide +kernel
theorem dX0_declare_47 : decode cX0_declare 47 = .ok (.iload_n 3, 1) := by decide +kernel
theorem dX0_declare_48 : decode cX0_declare 48 = .ok (.iastore, 1) := by decide +kernel
theorem dX0_declare_49 : decode cX0_declare 49 = .ok (.aload_n 0, 1) := by decide +kernel
theorem dX0_declare_50 : decode cX0_declare 50 = .ok (.getfield 23, 3) := by decide +kernel
theorem dX0_declare_53 : decode cX0_declare 53 = .ok (.aload_n 0, 1) := by decide +kernel
theorem dX0_declare_54 : decode cX0_declare 54 = .ok (.getfield 91, 3) := by decide +kernel
theorem dX0_declare_57 : decode cX0_declare 57 = .ok (.iload_n 2, 1) := by decide +kernel
theorem dX0_declare_58 : decode cX0_declare 58 = .ok (.iastore, 1) := by decide +kernel
theorem dX0_declare_59 : decode cX0_declare 59 = .ok (.aload_n 0, 1) := by decide +kernel
theorem dX0_declare_60 : decode cX0_declare 60 = .ok (.getfield 26, 3) := by decide +kernel
theorem dX0_declare_63 : decode cX0_declare 63 = .ok (.aload_n 0, 1) := by decide +kernel
theorem dX0_declare_64 : decode cX0_declare 64 = .ok (.getfield 91, 3) := by decide +kernel
theorem dX0_declare_67 : decode cX0_declare 67 = .ok (.aload_n 0, 1) := by decide +kernel
theorem dX0_declare_68 : decode cX0_declare 68 = .ok (.getfield 15, 3) := by decide +kernel
theorem dX0_declare_71 : decode cX0_declare 71 = .ok (.getfield 158, 3) := by decide +kernel
theorem dX0_declare_74 : decode cX0_declare 74 = .ok (.iastore, 1) := by decide +kernel
theorem dX0_declare_75 : decode cX0_declare 75 = .ok (.aload_n 0, 1) := by decide +kernel
theorem dX0_declare_76 : decode cX0_declare 76 = .ok (.getfield 15, 3) := by decide +kernel
theorem dX0_declare_79 : decode cX0_declare 79 = .ok (.iconst 1, 1) := by decide +kernel
theorem dX0_declare_80 : decode cX0_declare 80 = .ok (.invokevirtual 161, 3) := by decide +kernel
theorem dX0_declare_83 : decode cX0_declare 83 = .ok (.aload_n 0, 1) := by decide +kernel
theorem dX0_declare_84 : decode cX0_declare 84 = .ok (.getfield 94, 3) := by decide +kernel
theorem dX0_declare_87 : decode cX0_declare 87 = .ok (.iconst (-1), 1) := by decide +kernel
theorem dX0_declare_88 : decode cX0_declare 88 = .ok (.if_icmp .eq 20, 3) := by decide +kernel
theorem dX0_declare_108 : decode cX0_declare 108 = .ok (.aload_n 0, 1) := by decide +kernel
theorem dX0_declare_109 : decode cX0_declare 109 = .ok (.dup, 1) := by decide +kernel
theorem dX0_declare_110 : decode cX0_declare 110 = .ok (.getfield 91, 3) := by decide +kernel
theorem dX0_declare_113 : decode cX0_declare 113 = .ok (.iconst 1, 1) := by decide +kernel
theorem dX0_declare_114 : decode cX0_declare 114 = .ok (.iadd, 1) := by decide +kernel
theorem dX0_declare_115 : decode cX0_declare 115 = .ok (.putfield 91, 3) := by decide +kernel
theorem dX0_declare_118 : decode cX0_declare 118 = .ok (.aload_n 0, 1) := by decide +kernel
theorem dX0_declare_119 : decode cX0_declare 119 = .ok (.getfield 91, 3) := by decide +kernel
theorem dX0_declare_122 : decode cX0_declare 122 = .ok (.iconst 1, 1) := by decide +kernel
theorem dX0_declare_123 : decode cX0_declare 123 = .ok (.isub, 1) := by decide +kernel
theorem dX0_declare_124 : decode cX0_declare 124 = .ok (.ireturn, 1) := by decide +kernel
theorem dX0_declare_91 : decode cX0_declare 91 = .ok (.aload_n 0, 1) := by decide +kernel
theorem dX0_declare_92 : decode cX0_declare 92 = .ok (.dup, 1) := by decide +kernel
theorem dX0_declare_93 : decode cX0_declare 93 = .ok (.getfield 94, 3) := by decide +kernel
theorem dX0_declare_96 : decode cX0_declare 96 = .ok (.iconst 1, 1) := by decide +kernel
theorem dX0_declare_97 : decode cX0_declare 97 = .ok (.aload_n 0, 1) := by decide +kernel
theorem dX0_declare_98 : decode cX0_declare 98 = .ok (.getfield 91, 3) := by decide +kernel
theorem dX0_declare_101 : decode cX0_declare 101 = .ok (.ishl, 1) := by decide +kernel
theorem dX0_declare_102 : decode cX0_declare 102 = .ok (.iconst (-1), 1) := by decide +kernel
theorem dX0_declare_103 : decode cX0_declare 103 = .ok (.ixor, 1) := by decide +kernel
theorem dX0_declare_104 : decode cX0_declare 104 = .ok (.iand, 1) := by decide +kernel
theorem dX0_declare_105 : decode cX0_declare 105 = .ok (.putfield 94, 3) := by decide +kernel
theorem hV_X0_variable : yX0_variable.cls = RX0 ∧ yX0_variable.cls ≠ "java/lang/invoke/MethodHandle" ∧ yX0_variable.cls ≠ "java/lang/invoke/VarHandle" ∧ (parseMethodDescriptor yX0_variable.desc).map (fun d => d.parameters.length) = some 1 := by decide +kernel
theorem hV_X1_hold : yX1_hold.cls = RX1 ∧ yX1_hold.cls ≠ "java/lang/invoke/MethodHandle" ∧ yX1_hold.cls ≠ "java/lang/invoke/VarHandle" ∧ (parseMethodDescriptor yX1_hold.desc).map (fun d => d.parameters.length) = some 1 := by decide +kernel
theorem dX0_endScope_0 : decode cX0_endScope 0 = .ok (.aload_n 0, 1) := by decide +kernel
theorem dX0_endScope_1 : decode cX0_endScope 1 = .ok (.iload_n 1, 1) := by decide +kernel
theorem dX0_endScope_2 : decode cX0_endScope 2 = .ok (.putfield 91, 3) := by decide +kernel
theorem dX0_endScope_5 : decode cX0_endScope 5 = .ok (.aload_n 0, 1) := by decide +kernel
theorem dX0_endScope_6 : decode cX0_endScope 6 = .ok (.getfield 15, 3) := by decide +kernel
theorem dX0_endScope_9 : decode cX0_endScope 9 = .ok (.iload_n 2, 1) := by decide +kernel
theorem dX0_endScope_10 : decode cX0_endScope 10 = .ok (.putfield 158, 3) := by decide +kernel
theorem dX0_endScope_13 : decode cX0_endScope 13 = .ok (.return_, 1) := by decide +kernel
set_option maxHeartbeats 2000000 in
set_option maxRecDepth 100000 in
theorem B_endScope (l : Launch) (G : pT) (h0 : Nat) (a : Nat → Nat) (F : Nat → Int32) (R : Nat → Value) (Z : Int64) (B : Nat → Nat → Int32) (J : Nat → Nat → Int64) (T : Nat → Nat) (Pi : Nat → va_E → Prop) (w : va_W) (x1 : Int32) (x2 : Int32) (hO : OKW G h0 a F R Z B J T Pi w) : PM l G pX0 yX0_endScope cX0_endScope 3 none ({ frames := 2, cells := 0, slots := 0, locals := 60 }) [.ref (a 4), .int x1, .int x2] w (fun (v : Option Value) (u : va_W × (Unit)) => v = none ∧ (OKW G h0 a (upd (upd F 7 x2) 12 x1) R Z B J T Pi u.1)) (fun u => u.1) := by
  intro sz
  refine Met.ofW (cc := cX0_endScope) (maxL := 3) (ret := none) (by decide) rfl ?_
  intro p e s m args below meth c s₁ B9 hml hv
  obtain ⟨rfl, hsz, hP, hD0, hE, hX⟩ := hv
  have hx := B9.exec
  have hb := B9.bytes
  have hr := B9.returns
  have hts := atoms_spec (ws := Cond.code yX0_endScope cX0_endScope 3 none :: pw) B9.pre
  have hq : ∀ w ∈ pw, w.before _ s = true := fun w h => hts w (List.mem_cons_of_mem _ h)
  have hown : s.vm.findClass RX0 = some m.cls := findClass_of_methodNamed B9.named
  have hlocks := B9.notSynchronized
  subst hsz
  have hD := hD0.self (sz := s.heap.size)
  have hA : ∀ q : Nat, s.heap.size ≤ q → va_A w s.heap.size q := fun q h => Or.inr h
  generalize va_A w s.heap.size = A at hD hE hA ⊢
  have hS : va_S A s.heap s.heap [] := va_S.rf
  have hl := lv_entry ([.ref (a 4), .int x1, .int x2]) (n := 3) (Nat.le_of_ble_eq_true rfl)
  rw [lg_entry_eq]
  generalize (lg_sl ([.ref (a 4), .int x1, .int x2]) ++ List.replicate (3 - (lg_sl ([.ref (a 4), .int x1, .int x2])).length) Slot.unset).toArray = ls at hl ⊢
  have hl : lv_has ls 3 [(0, .ref (a 4)), (1, .int x1), (2, .int x2)] := hl
  refine lv_aload_n hx hb dX0_endScope_0 rfl (lv_at hl 0 rfl) ?_
  refine lv_iload_n hx hb dX0_endScope_1 rfl (lv_at hl 1 rfl) ?_
  refine c_put (v := .int x1) (ty := .int) (C := RX0) (Tc := TX0) (N := 13) (ci := 0) hx hb hq pin_wsX00 tyX0 tyX0_ok nmX0 hown hE hP hD hS hO 24 (sg_24 G h0 a _ _ _ _ _) rfl 5 (by decide) (hq _ pw_42) (fun _ h9 => h9) rfl (by decide +kernel) rfl rfl (Nat.le_of_ble_eq_true rfl) (sf_12 G h0 a _ _ _ _ _ x1) dX0_endScope_2 (fun H locs w hP hD hS hO => ?_)
  refine lv_aload_n hx hb dX0_endScope_5 rfl (lv_at hl 0 rfl) ?_
  refine c_get (v := .ref (a 2)) (C := RX0) (Tc := TX0) (N := 13) (ci := 0) hx hb hq pin_wsX00 hown hE hP hO 24 (sg_24 G h0 a _ _ _ _ _) rfl 1 (by decide) (hq _ pw_5) (fun _ h9 => h9) rfl dX0_endScope_6 ?_
  refine lv_iload_n hx hb dX0_endScope_9 rfl (lv_at hl 2 rfl) ?_
  refine c_put (v := .int x2) (ty := .int) (C := RX1) (Tc := TX1) (N := 13) (ci := 1) hx hb hq pin_wsX10 tyX1 tyX1_ok nmX1 hown hE hP hD hS hO 13 (sg_13 G h0 a _ _ _ _ _) rfl 11 (by decide) (hq _ pw_54) (fun _ h9 => h9) rfl (by decide +kernel) rfl rfl (Nat.le_of_ble_eq_true rfl) (sf_7 G h0 a _ _ _ _ _ x2) dX0_endScope_10 (fun H locs w hP hD hS hO => ?_)
  have hO : OKW G h0 a (upd (upd F 7 x2) 12 x1) R Z B J T Pi w := hO.to rfl
  exact W.vret hx hb hr (fun t99 ht99 hW99 => ⟨⟨_, (w, ()), rfl, ⟨rfl, hO⟩, by rw [ht99]; exact hP, hD⟩, hS.F ht99⟩) hS.2.2 dX0_endScope_13
theorem dX0_give_0 : decode cX0_give 0 = .ok (.aload_n 0, 1) := by decide +kernel
theorem dX0_give_1 : decode cX0_give 1 = .ok (.getfield 15, 3) := by decide +kernel
theorem dX0_give_4 : decode cX0_give 4 = .ok (.iload_n 1, 1) := by decide +kernel
theorem dX0_give_5 : decode cX0_give 5 = .ok (.iload_n 2, 1) := by decide +kernel
theorem dX0_give_6 : decode cX0_give 6 = .ok (.iconst 0, 1) := by decide +kernel
theorem dX0_give_7 : decode cX0_give 7 = .ok (.invokevirtual 140, 3) := by decide +kernel
theorem dX0_give_10 : decode cX0_give 10 = .ok (.iload_n 3, 1) := by decide +kernel
theorem dX0_give_11 : decode cX0_give 11 = .ok (.ireturn, 1) := by decide +kernel
theorem dX0_fit_0 : decode cX0_fit 0 = .ok (.aload_n 0, 1) := by decide +kernel
theorem dX0_fit_1 : decode cX0_fit 1 = .ok (.getfield 29, 3) := by decide +kernel
theorem dX0_fit_4 : decode cX0_fit 4 = .ok (.iload_n 2, 1) := by decide +kernel
theorem dX0_fit_5 : decode cX0_fit 5 = .ok (.iload_n 3, 1) := by decide +kernel
theorem dX0_fit_6 : decode cX0_fit 6 = .ok (.invokevirtual 295, 3) := by decide +kernel
theorem dX0_fit_9 : decode cX0_fit 9 = .ok (.ifCond .ne 16, 3) := by decide +kernel
theorem dX0_fit_25 : decode cX0_fit 25 = .ok (.return_, 1) := by decide +kernel
theorem dX0_fit_12 : decode cX0_fit 12 = .ok (.aload_n 0, 1) := by decide +kernel
theorem dX0_fit_13 : decode cX0_fit 13 = .ok (.getfield 9, 3) := by decide +kernel
theorem dX0_fit_16 : decode cX0_fit 16 = .ok (.bipush 11, 2) := by decide +kernel
theorem dX0_fit_18 : decode cX0_fit 18 = .ok (.aload_n 1, 1) := by decide +kernel
theorem dX0_fit_19 : decode cX0_fit 19 = .ok (.getfield 117, 3) := by decide +kernel
theorem dX0_fit_22 : decode cX0_fit 22 = .ok (.invokevirtual 136, 3) := by decide +kernel
theorem dX0_elementType_0 : decode cX0_elementType 0 = .ok (.iload_n 2, 1) := by decide +kernel
theorem dX0_elementType_1 : decode cX0_elementType 1 = .ok (.bipush 64, 2) := by decide +kernel
theorem dX0_elementType_3 : decode cX0_elementType 3 = .ok (.if_icmp .ge 16, 3) := by decide +kernel
theorem dX0_elementType_19 : decode cX0_elementType 19 = .ok (.iload_n 2, 1) := by decide +kernel
theorem dX0_elementType_20 : decode cX0_elementType 20 = .ok (.bipush 64, 2) := by decide +kernel
theorem dX0_elementType_22 : decode cX0_elementType 22 = .ok (.isub, 1) := by decide +kernel
theorem dX0_elementType_23 : decode cX0_elementType 23 = .ok (.ireturn, 1) := by decide +kernel
theorem dX0_elementType_6 : decode cX0_elementType 6 = .ok (.aload_n 0, 1) := by decide +kernel
theorem dX0_elementType_7 : decode cX0_elementType 7 = .ok (.getfield 9, 3) := by decide +kernel
theorem dX0_elementType_10 : decode cX0_elementType 10 = .ok (.bipush 11, 2) := by decide +kernel
theorem dX0_elementType_12 : decode cX0_elementType 12 = .ok (.aload_n 1, 1) := by decide +kernel
theorem dX0_elementType_13 : decode cX0_elementType 13 = .ok (.getfield 117, 3) := by decide +kernel
theorem dX0_elementType_16 : decode cX0_elementType 16 = .ok (.invokevirtual 136, 3) := by decide +kernel
theorem NdO.ch {K : PK} {g : Nat → Nat → Nat} {q f : Nat} (h : NdO K g q) (hf : f ≤ 3) (hn : ¬ K.2.2.1 f q = none) : ∃ x : Nat, K.2.2.1 f q = some x ∧ K.1 x = 1 ∧ 1 ≤ g 0 x ∧ g 0 x + 1 ≤ g 0 q := by
  cases e : K.2.2.1 f q with
  | none => exact absurd e hn
  | some x => exact ⟨x, rfl, (h.2.1 f x hf e).1, (h.2.1 f x hf e).2.1, (h.2.1 f x hf e).2.2.1⟩
theorem dX0_negation_0 : decode cX0_negation 0 = .ok (.aload_n 0, 1) := by decide +kernel
theorem dX0_negation_1 : decode cX0_negation 1 = .ok (.aload_n 1, 1) := by decide +kernel
theorem dX0_negation_2 : decode cX0_negation 2 = .ok (.getfield 165, 3) := by decide +kernel
theorem dX0_negation_5 : decode cX0_negation 5 = .ok (.aload_n 0, 1) := by decide +kernel
theorem dX0_negation_6 : decode cX0_negation 6 = .ok (.aload_n 1, 1) := by decide +kernel
theorem dX0_negation_7 : decode cX0_negation 7 = .ok (.getfield 165, 3) := by decide +kernel
theorem dX0_negation_10 : decode cX0_negation 10 = .ok (.invokevirtual 209, 3) := by decide +kernel
theorem dX0_negation_13 : decode cX0_negation 13 = .ok (.bipush 61, 2) := by decide +kernel
theorem dX0_negation_15 : decode cX0_negation 15 = .ok (.invokevirtual 213, 3) := by decide +kernel
theorem dX0_negation_18 : decode cX0_negation 18 = .ok (.aload_n 0, 1) := by decide +kernel
theorem dX0_negation_19 : decode cX0_negation 19 = .ok (.getfield 240, 3) := by decide +kernel
theorem dX0_negation_22 : decode cX0_negation 22 = .ok (.istore_n 2, 1) := by decide +kernel
theorem dX0_negation_23 : decode cX0_negation 23 = .ok (.aload_n 0, 1) := by decide +kernel
theorem dX0_negation_24 : decode cX0_negation 24 = .ok (.aload_n 0, 1) := by decide +kernel
theorem dX0_negation_25 : decode cX0_negation 25 = .ok (.getfield 237, 3) := by decide +kernel
theorem dX0_negation_28 : decode cX0_negation 28 = .ok (.putfield 240, 3) := by decide +kernel
theorem dX0_negation_31 : decode cX0_negation 31 = .ok (.aload_n 0, 1) := by decide +kernel
theorem dX0_negation_32 : decode cX0_negation 32 = .ok (.iload_n 2, 1) := by decide +kernel
theorem dX0_negation_33 : decode cX0_negation 33 = .ok (.putfield 237, 3) := by decide +kernel
theorem dX0_negation_36 : decode cX0_negation 36 = .ok (.aload_n 0, 1) := by decide +kernel
theorem dX0_negation_37 : decode cX0_negation 37 = .ok (.bipush 11, 2) := by decide +kernel
theorem dX0_negation_39 : decode cX0_negation 39 = .ok (.bipush 53, 2) := by decide +kernel
theorem dX0_negation_41 : decode cX0_negation 41 = .ok (.bipush 61, 2) := by decide +kernel
theorem dX0_negation_43 : decode cX0_negation 43 = .ok (.invokevirtual 344, 3) := by decide +kernel
theorem dX0_negation_46 : decode cX0_negation 46 = .ok (.ireturn, 1) := by decide +kernel
theorem hV_X0_value : yX0_value.cls = RX0 ∧ yX0_value.cls ≠ "java/lang/invoke/MethodHandle" ∧ yX0_value.cls ≠ "java/lang/invoke/VarHandle" ∧ (parseMethodDescriptor yX0_value.desc).map (fun d => d.parameters.length) = some 1 := by decide +kernel
theorem hV_X0_fit : yX0_fit.cls = RX0 ∧ yX0_fit.cls ≠ "java/lang/invoke/MethodHandle" ∧ yX0_fit.cls ≠ "java/lang/invoke/VarHandle" ∧ (parseMethodDescriptor yX0_fit.desc).map (fun d => d.parameters.length) = some 3 := by decide +kernel
theorem hV_X0_give : yX0_give.cls = RX0 ∧ yX0_give.cls ≠ "java/lang/invoke/MethodHandle" ∧ yX0_give.cls ≠ "java/lang/invoke/VarHandle" ∧ (parseMethodDescriptor yX0_give.desc).map (fun d => d.parameters.length) = some 3 := by decide +kernel
theorem dX0_prefix_0 : decode cX0_prefix 0 = .ok (.aload_n 0, 1) := by decide +kernel
theorem dX0_prefix_1 : decode cX0_prefix 1 = .ok (.aload_n 1, 1) := by decide +kernel
theorem dX0_prefix_2 : decode cX0_prefix 2 = .ok (.getfield 165, 3) := by decide +kernel
theorem dX0_prefix_5 : decode cX0_prefix 5 = .ok (.aload_n 0, 1) := by decide +kernel
theorem dX0_prefix_6 : decode cX0_prefix 6 = .ok (.aload_n 1, 1) := by decide +kernel
theorem dX0_prefix_7 : decode cX0_prefix 7 = .ok (.getfield 165, 3) := by decide +kernel
theorem dX0_prefix_10 : decode cX0_prefix 10 = .ok (.invokevirtual 209, 3) := by decide +kernel
theorem dX0_prefix_13 : decode cX0_prefix 13 = .ok (.bipush 60, 2) := by decide +kernel
theorem dX0_prefix_15 : decode cX0_prefix 15 = .ok (.invokevirtual 213, 3) := by decide +kernel
theorem dX0_prefix_18 : decode cX0_prefix 18 = .ok (.aload_n 0, 1) := by decide +kernel
theorem dX0_prefix_19 : decode cX0_prefix 19 = .ok (.bipush 11, 2) := by decide +kernel
theorem dX0_prefix_21 : decode cX0_prefix 21 = .ok (.aload_n 0, 1) := by decide +kernel
theorem dX0_prefix_22 : decode cX0_prefix 22 = .ok (.getfield 9, 3) := by decide +kernel
theorem dX0_prefix_25 : decode cX0_prefix 25 = .ok (.aload_n 1, 1) := by decide +kernel
theorem dX0_prefix_26 : decode cX0_prefix 26 = .ok (.getfield 114, 3) := by decide +kernel
theorem dX0_prefix_29 : decode cX0_prefix 29 = .ok (.invokevirtual 306, 3) := by decide +kernel
theorem dX0_prefix_32 : decode cX0_prefix 32 = .ok (.bipush 60, 2) := by decide +kernel
theorem dX0_prefix_34 : decode cX0_prefix 34 = .ok (.invokevirtual 344, 3) := by decide +kernel
theorem dX0_prefix_37 : decode cX0_prefix 37 = .ok (.ireturn, 1) := by decide +kernel
theorem dX0_length_0 : decode cX0_length 0 = .ok (.aload_n 0, 1) := by decide +kernel
theorem dX0_length_1 : decode cX0_length 1 = .ok (.aload_n 1, 1) := by decide +kernel
theorem dX0_length_2 : decode cX0_length 2 = .ok (.getfield 165, 3) := by decide +kernel
theorem dX0_length_5 : decode cX0_length 5 = .ok (.aload_n 0, 1) := by decide +kernel
theorem dX0_length_6 : decode cX0_length 6 = .ok (.aload_n 1, 1) := by decide +kernel
theorem dX0_length_7 : decode cX0_length 7 = .ok (.getfield 165, 3) := by decide +kernel
theorem dX0_length_10 : decode cX0_length 10 = .ok (.invokevirtual 209, 3) := by decide +kernel
theorem dX0_length_13 : decode cX0_length 13 = .ok (.invokevirtual 354, 3) := by decide +kernel
theorem dX0_length_16 : decode cX0_length 16 = .ok (.pop, 1) := by decide +kernel
theorem dX0_length_17 : decode cX0_length 17 = .ok (.aload_n 0, 1) := by decide +kernel
theorem dX0_length_18 : decode cX0_length 18 = .ok (.bipush 16, 2) := by decide +kernel
theorem dX0_length_20 : decode cX0_length 20 = .ok (.iconst 0, 1) := by decide +kernel
theorem dX0_length_21 : decode cX0_length 21 = .ok (.bipush 60, 2) := by decide +kernel
theorem dX0_length_23 : decode cX0_length 23 = .ok (.invokevirtual 344, 3) := by decide +kernel
theorem dX0_length_26 : decode cX0_length 26 = .ok (.ireturn, 1) := by decide +kernel
theorem hV_X0_elementType : yX0_elementType.cls = RX0 ∧ yX0_elementType.cls ≠ "java/lang/invoke/MethodHandle" ∧ yX0_elementType.cls ≠ "java/lang/invoke/VarHandle" ∧ (parseMethodDescriptor yX0_elementType.desc).map (fun d => d.parameters.length) = some 2 := by decide +kernel
theorem dX0_element_0 : decode cX0_element 0 = .ok (.aload_n 0, 1) := by decide +kernel
theorem dX0_element_1 : decode cX0_element 1 = .ok (.aload_n 1, 1) := by decide +kernel
theorem dX0_element_2 : decode cX0_element 2 = .ok (.getfield 165, 3) := by decide +kernel
theorem dX0_element_5 : decode cX0_element 5 = .ok (.aload_n 0, 1) := by decide +kernel
theorem dX0_element_6 : decode cX0_element 6 = .ok (.aload_n 1, 1) := by decide +kernel
theorem dX0_element_7 : decode cX0_element 7 = .ok (.getfield 165, 3) := by decide +kernel
theorem dX0_element_10 : decode cX0_element 10 = .ok (.invokevirtual 209, 3) := by decide +kernel
theorem dX0_element_13 : decode cX0_element 13 = .ok (.invokevirtual 354, 3) := by decide +kernel
theorem dX0_element_16 : decode cX0_element 16 = .ok (.istore_n 2, 1) := by decide +kernel
theorem dX0_element_17 : decode cX0_element 17 = .ok (.aload_n 0, 1) := by decide +kernel
theorem dX0_element_18 : decode cX0_element 18 = .ok (.aload_n 1, 1) := by decide +kernel
theorem dX0_element_19 : decode cX0_element 19 = .ok (.getfield 202, 3) := by decide +kernel
theorem dX0_element_22 : decode cX0_element 22 = .ok (.aload_n 0, 1) := by decide +kernel
theorem dX0_element_23 : decode cX0_element 23 = .ok (.aload_n 1, 1) := by decide +kernel
theorem dX0_element_24 : decode cX0_element 24 = .ok (.getfield 202, 3) := by decide +kernel
theorem dX0_element_27 : decode cX0_element 27 = .ok (.invokevirtual 209, 3) := by decide +kernel
theorem dX0_element_30 : decode cX0_element 30 = .ok (.bipush 60, 2) := by decide +kernel
theorem dX0_element_32 : decode cX0_element 32 = .ok (.invokevirtual 213, 3) := by decide +kernel
theorem dX0_element_35 : decode cX0_element 35 = .ok (.iload_n 2, 1) := by decide +kernel
theorem dX0_element_36 : decode cX0_element 36 = .ok (.ireturn, 1) := by decide +kernel
theorem dX0_newArray_0 : decode cX0_newArray 0 = .ok (.aload_n 0, 1) := by decide +kernel
theorem dX0_newArray_1 : decode cX0_newArray 1 = .ok (.aload_n 1, 1) := by decide +kernel
theorem dX0_newArray_2 : decode cX0_newArray 2 = .ok (.getfield 165, 3) := by decide +kernel
theorem dX0_newArray_5 : decode cX0_newArray 5 = .ok (.aload_n 0, 1) := by decide +kernel
theorem dX0_newArray_6 : decode cX0_newArray 6 = .ok (.aload_n 1, 1) := by decide +kernel
theorem dX0_newArray_7 : decode cX0_newArray 7 = .ok (.getfield 165, 3) := by decide +kernel
theorem dX0_newArray_10 : decode cX0_newArray 10 = .ok (.invokevirtual 209, 3) := by decide +kernel
theorem dX0_newArray_13 : decode cX0_newArray 13 = .ok (.bipush 60, 2) := by decide +kernel
theorem dX0_newArray_15 : decode cX0_newArray 15 = .ok (.invokevirtual 213, 3) := by decide +kernel
theorem dX0_newArray_18 : decode cX0_newArray 18 = .ok (.bipush 64, 2) := by decide +kernel
theorem dX0_newArray_20 : decode cX0_newArray 20 = .ok (.aload_n 0, 1) := by decide +kernel
theorem dX0_newArray_21 : decode cX0_newArray 21 = .ok (.getfield 9, 3) := by decide +kernel
theorem dX0_newArray_24 : decode cX0_newArray 24 = .ok (.aload_n 1, 1) := by decide +kernel
theorem dX0_newArray_25 : decode cX0_newArray 25 = .ok (.getfield 114, 3) := by decide +kernel
theorem dX0_newArray_28 : decode cX0_newArray 28 = .ok (.invokevirtual 120, 3) := by decide +kernel
theorem dX0_newArray_31 : decode cX0_newArray 31 = .ok (.iadd, 1) := by decide +kernel
theorem dX0_newArray_32 : decode cX0_newArray 32 = .ok (.istore_n 2, 1) := by decide +kernel
theorem dX0_newArray_33 : decode cX0_newArray 33 = .ok (.aload_n 0, 1) := by decide +kernel
theorem dX0_newArray_34 : decode cX0_newArray 34 = .ok (.bipush 22, 2) := by decide +kernel
theorem dX0_newArray_36 : decode cX0_newArray 36 = .ok (.iload_n 2, 1) := by decide +kernel
theorem dX0_newArray_37 : decode cX0_newArray 37 = .ok (.iload_n 2, 1) := by decide +kernel
theorem dX0_newArray_38 : decode cX0_newArray 38 = .ok (.invokevirtual 344, 3) := by decide +kernel
theorem dX0_newArray_41 : decode cX0_newArray 41 = .ok (.ireturn, 1) := by decide +kernel
theorem sw_out8 {x : Int32} (h0 : ¬ x = 0) (h1 : ¬ x = 1) (h2 : ¬ x = 2) (h3 : ¬ x = 3) (h4 : ¬ x = 4) (h5 : ¬ x = 5) (h6 : ¬ x = 6) (h7 : ¬ x = 7) (h8 : ¬ x = 8) : x.toInt < 0 ∨ 8 < x.toInt := by
  have a0 : ¬ x.toInt = 0 := tJ_ne (n := 0) (by decide) h0
  have a1 : ¬ x.toInt = 1 := tJ_ne (n := 1) (by decide) h1
  have a2 : ¬ x.toInt = 2 := tJ_ne (n := 2) (by decide) h2
  have a3 : ¬ x.toInt = 3 := tJ_ne (n := 3) (by decide) h3
  have a4 : ¬ x.toInt = 4 := tJ_ne (n := 4) (by decide) h4
  have a5 : ¬ x.toInt = 5 := tJ_ne (n := 5) (by decide) h5
  have a6 : ¬ x.toInt = 6 := tJ_ne (n := 6) (by decide) h6
  have a7 : ¬ x.toInt = 7 := tJ_ne (n := 7) (by decide) h7
  have a8 : ¬ x.toInt = 8 := tJ_ne (n := 8) (by decide) h8
  omega
theorem sw_out59 {x : Int32} (h49 : ¬ x = 49) (h50 : ¬ x = 50) (h51 : ¬ x = 51) (h52 : ¬ x = 52) (h53 : ¬ x = 53) (h54 : ¬ x = 54) (h55 : ¬ x = 55) (h56 : ¬ x = 56) (h57 : ¬ x = 57) (h58 : ¬ x = 58) (h59 : ¬ x = 59) : x.toInt < 49 ∨ 59 < x.toInt := by
  have a49 : ¬ x.toInt = 49 := tJ_ne (n := 49) (by decide) h49
  have a50 : ¬ x.toInt = 50 := tJ_ne (n := 50) (by decide) h50
  have a51 : ¬ x.toInt = 51 := tJ_ne (n := 51) (by decide) h51
  have a52 : ¬ x.toInt = 52 := tJ_ne (n := 52) (by decide) h52
  have a53 : ¬ x.toInt = 53 := tJ_ne (n := 53) (by decide) h53
  have a54 : ¬ x.toInt = 54 := tJ_ne (n := 54) (by decide) h54
  have a55 : ¬ x.toInt = 55 := tJ_ne (n := 55) (by decide) h55
  have a56 : ¬ x.toInt = 56 := tJ_ne (n := 56) (by decide) h56
  have a57 : ¬ x.toInt = 57 := tJ_ne (n := 57) (by decide) h57
  have a58 : ¬ x.toInt = 58 := tJ_ne (n := 58) (by decide) h58
  have a59 : ¬ x.toInt = 59 := tJ_ne (n := 59) (by decide) h59
  omega
theorem sw_out20 {x : Int32} (h1 : ¬ x = 1) (h2 : ¬ x = 2) (h3 : ¬ x = 3) (h4 : ¬ x = 4) (h5 : ¬ x = 5) (h6 : ¬ x = 6) (h7 : ¬ x = 7) (h8 : ¬ x = 8) (h9 : ¬ x = 9) (h10 : ¬ x = 10) (h11 : ¬ x = 11) (h12 : ¬ x = 12) (h13 : ¬ x = 13) (h14 : ¬ x = 14) (h15 : ¬ x = 15) (h16 : ¬ x = 16) (h17 : ¬ x = 17) (h18 : ¬ x = 18) (h19 : ¬ x = 19) (h20 : ¬ x = 20) : x.toInt < 1 ∨ 20 < x.toInt := by
  have a1 : ¬ x.toInt = 1 := tJ_ne (n := 1) (by decide) h1
  have a2 : ¬ x.toInt = 2 := tJ_ne (n := 2) (by decide) h2
  have a3 : ¬ x.toInt = 3 := tJ_ne (n := 3) (by decide) h3
  have a4 : ¬ x.toInt = 4 := tJ_ne (n := 4) (by decide) h4
  have a5 : ¬ x.toInt = 5 := tJ_ne (n := 5) (by decide) h5
  have a6 : ¬ x.toInt = 6 := tJ_ne (n := 6) (by decide) h6
  have a7 : ¬ x.toInt = 7 := tJ_ne (n := 7) (by decide) h7
  have a8 : ¬ x.toInt = 8 := tJ_ne (n := 8) (by decide) h8
  have a9 : ¬ x.toInt = 9 := tJ_ne (n := 9) (by decide) h9
  have a10 : ¬ x.toInt = 10 := tJ_ne (n := 10) (by decide) h10
  have a11 : ¬ x.toInt = 11 := tJ_ne (n := 11) (by decide) h11
  have a12 : ¬ x.toInt = 12 := tJ_ne (n := 12) (by decide) h12
  have a13 : ¬ x.toInt = 13 := tJ_ne (n := 13) (by decide) h13
  have a14 : ¬ x.toInt = 14 := tJ_ne (n := 14) (by decide) h14
  have a15 : ¬ x.toInt = 15 := tJ_ne (n := 15) (by decide) h15
  have a16 : ¬ x.toInt = 16 := tJ_ne (n := 16) (by decide) h16
  have a17 : ¬ x.toInt = 17 := tJ_ne (n := 17) (by decide) h17
  have a18 : ¬ x.toInt = 18 := tJ_ne (n := 18) (by decide) h18
  have a19 : ¬ x.toInt = 19 := tJ_ne (n := 19) (by decide) h19
  have a20 : ¬ x.toInt = 20 := tJ_ne (n := 20) (by decide) h20
  omega
theorem dX0_fieldType_0 : decode cX0_fieldType 0 = .ok (.aload_n 1, 1) := by decide +kernel
theorem dX0_fieldType_1 : decode cX0_fieldType 1 = .ok (.ifnonnull 7, 3) := by decide +kernel
theorem dX0_fieldType_8 : decode cX0_fieldType 8 = .ok (.aload_n 1, 1) := by decide +kernel
theorem dX0_fieldType_9 : decode cX0_fieldType 9 = .ok (.aload_n 0, 1) := by decide +kernel
theorem dX0_fieldType_10 : decode cX0_fieldType 10 = .ok (.getfield 9, 3) := by decide +kernel
theorem dX0_fieldType_13 : decode cX0_fieldType 13 = .ok (.aload_n 2, 1) := by decide +kernel
theorem dX0_fieldType_14 : decode cX0_fieldType 14 = .ok (.getfield 114, 3) := by decide +kernel
theorem dX0_fieldType_17 : decode cX0_fieldType 17 = .ok (.invokevirtual 152, 3) := by decide +kernel
theorem dX0_fieldType_20 : decode cX0_fieldType 20 = .ok (.invokevirtual 350, 3) := by decide +kernel
theorem dX0_fieldType_23 : decode cX0_fieldType 23 = .ok (.astore_n 3, 1) := by decide +kernel
theorem dX0_fieldType_24 : decode cX0_fieldType 24 = .ok (.aload_n 3, 1) := by decide +kernel
theorem dX0_fieldType_25 : decode cX0_fieldType 25 = .ok (.ifnonnull 19, 3) := by decide +kernel
theorem dX0_fieldType_28 : decode cX0_fieldType 28 = .ok (.aload_n 0, 1) := by decide +kernel
theorem dX0_fieldType_29 : decode cX0_fieldType 29 = .ok (.getfield 9, 3) := by decide +kernel
theorem dX0_fieldType_32 : decode cX0_fieldType 32 = .ok (.bipush 10, 2) := by decide +kernel
theorem dX0_fieldType_34 : decode cX0_fieldType 34 = .ok (.aload_n 2, 1) := by decide +kernel
theorem dX0_fieldType_35 : decode cX0_fieldType 35 = .ok (.getfield 114, 3) := by decide +kernel
theorem dX0_fieldType_38 : decode cX0_fieldType 38 = .ok (.invokevirtual 136, 3) := by decide +kernel
theorem dX0_fieldType_44 : decode cX0_fieldType 44 = .ok (.aload_n 2, 1) := by decide +kernel
theorem dX0_fieldType_45 : decode cX0_fieldType 45 = .ok (.aload_n 3, 1) := by decide +kernel
theorem dX0_fieldType_46 : decode cX0_fieldType 46 = .ok (.getfield 226, 3) := by decide +kernel
theorem dX0_fieldType_49 : decode cX0_fieldType 49 = .ok (.putfield 226, 3) := by decide +kernel
theorem dX0_fieldType_52 : decode cX0_fieldType 52 = .ok (.aload_n 0, 1) := by decide +kernel
theorem dX0_fieldType_53 : decode cX0_fieldType 53 = .ok (.getfield 9, 3) := by decide +kernel
theorem dX0_fieldType_56 : decode cX0_fieldType 56 = .ok (.aload_n 3, 1) := by decide +kernel
theorem dX0_fieldType_57 : decode cX0_fieldType 57 = .ok (.getfield 117, 3) := by decide +kernel
theorem dX0_fieldType_60 : decode cX0_fieldType 60 = .ok (.invokevirtual 120, 3) := by decide +kernel
theorem dX0_fieldType_63 : decode cX0_fieldType 63 = .ok (.ireturn, 1) := by decide +kernel
theorem hV_X2_fieldOf : yX2_fieldOf.cls = RX2 ∧ yX2_fieldOf.cls ≠ "java/lang/invoke/MethodHandle" ∧ yX2_fieldOf.cls ≠ "java/lang/invoke/VarHandle" ∧ (parseMethodDescriptor yX2_fieldOf.desc).map (fun d => d.parameters.length) = some 1 := by decide +kernel
theorem dX0_ownField_0 : decode cX0_ownField 0 = .ok (.aload_n 0, 1) := by decide +kernel
theorem dX0_ownField_1 : decode cX0_ownField 1 = .ok (.getfield 15, 3) := by decide +kernel
theorem dX0_ownField_4 : decode cX0_ownField 4 = .ok (.iconst 2, 1) := by decide +kernel
theorem dX0_ownField_5 : decode cX0_ownField 5 = .ok (.iconst 0, 1) := by decide +kernel
theorem dX0_ownField_6 : decode cX0_ownField 6 = .ok (.iconst 0, 1) := by decide +kernel
theorem dX0_ownField_7 : decode cX0_ownField 7 = .ok (.invokevirtual 140, 3) := by decide +kernel
theorem dX0_ownField_10 : decode cX0_ownField 10 = .ok (.aload_n 0, 1) := by decide +kernel
theorem dX0_ownField_11 : decode cX0_ownField 11 = .ok (.aload_n 0, 1) := by decide +kernel
theorem dX0_ownField_12 : decode cX0_ownField 12 = .ok (.getfield 69, 3) := by decide +kernel
theorem dX0_ownField_15 : decode cX0_ownField 15 = .ok (.getfield 229, 3) := by decide +kernel
theorem dX0_ownField_18 : decode cX0_ownField 18 = .ok (.aload_n 1, 1) := by decide +kernel
theorem dX0_ownField_19 : decode cX0_ownField 19 = .ok (.invokevirtual 233, 3) := by decide +kernel
theorem dX0_ownField_22 : decode cX0_ownField 22 = .ok (.ireturn, 1) := by decide +kernel
theorem hV_X0_fieldType : yX0_fieldType.cls = RX0 ∧ yX0_fieldType.cls ≠ "java/lang/invoke/MethodHandle" ∧ yX0_fieldType.cls ≠ "java/lang/invoke/VarHandle" ∧ (parseMethodDescriptor yX0_fieldType.desc).map (fun d => d.parameters.length) = some 2 := by decide +kernel
theorem dX0_variableValue_0 : decode cX0_variableValue 0 = .ok (.aload_n 0, 1) := by decide +kernel
theorem dX0_variableValue_1 : decode cX0_variableValue 1 = .ok (.aload_n 0, 1) := by decide +kernel
theorem dX0_variableValue_2 : decode cX0_variableValue 2 = .ok (.getfield 9, 3) := by decide +kernel
theorem dX0_variableValue_5 : decode cX0_variableValue 5 = .ok (.aload_n 1, 1) := by decide +kernel
theorem dX0_variableValue_6 : decode cX0_variableValue 6 = .ok (.getfield 114, 3) := by decide +kernel
theorem dX0_variableValue_9 : decode cX0_variableValue 9 = .ok (.invokevirtual 152, 3) := by decide +kernel
theorem dX0_variableValue_12 : decode cX0_variableValue 12 = .ok (.invokevirtual 155, 3) := by decide +kernel
theorem dX0_variableValue_15 : decode cX0_variableValue 15 = .ok (.istore_n 2, 1) := by decide +kernel
theorem dX0_variableValue_16 : decode cX0_variableValue 16 = .ok (.iload_n 2, 1) := by decide +kernel
theorem dX0_variableValue_17 : decode cX0_variableValue 17 = .ok (.iconst (-1), 1) := by decide +kernel
theorem dX0_variableValue_18 : decode cX0_variableValue 18 = .ok (.if_icmp .ne 38, 3) := by decide +kernel
theorem dX0_variableValue_56 : decode cX0_variableValue 56 = .ok (.aload_n 0, 1) := by decide +kernel
theorem dX0_variableValue_57 : decode cX0_variableValue 57 = .ok (.getfield 94, 3) := by decide +kernel
theorem dX0_variableValue_60 : decode cX0_variableValue 60 = .ok (.iload_n 2, 1) := by decide +kernel
theorem dX0_variableValue_61 : decode cX0_variableValue 61 = .ok (.iushr, 1) := by decide +kernel
theorem dX0_variableValue_62 : decode cX0_variableValue 62 = .ok (.iconst 1, 1) := by decide +kernel
theorem dX0_variableValue_63 : decode cX0_variableValue 63 = .ok (.iand, 1) := by decide +kernel
theorem dX0_variableValue_64 : decode cX0_variableValue 64 = .ok (.ifCond .ne 16, 3) := by decide +kernel
theorem dX0_variableValue_80 : decode cX0_variableValue 80 = .ok (.aload_n 0, 1) := by decide +kernel
theorem dX0_variableValue_81 : decode cX0_variableValue 81 = .ok (.iconst 2, 1) := by decide +kernel
theorem dX0_variableValue_82 : decode cX0_variableValue 82 = .ok (.aload_n 0, 1) := by decide +kernel
theorem dX0_variableValue_83 : decode cX0_variableValue 83 = .ok (.getfield 26, 3) := by decide +kernel
theorem dX0_variableValue_86 : decode cX0_variableValue 86 = .ok (.iload_n 2, 1) := by decide +kernel
theorem dX0_variableValue_87 : decode cX0_variableValue 87 = .ok (.iaload, 1) := by decide +kernel
theorem dX0_variableValue_88 : decode cX0_variableValue 88 = .ok (.aload_n 0, 1) := by decide +kernel
theorem dX0_variableValue_89 : decode cX0_variableValue 89 = .ok (.getfield 23, 3) := by decide +kernel
theorem dX0_variableValue_92 : decode cX0_variableValue 92 = .ok (.iload_n 2, 1) := by decide +kernel
theorem dX0_variableValue_93 : decode cX0_variableValue 93 = .ok (.iaload, 1) := by decide +kernel
theorem dX0_variableValue_94 : decode cX0_variableValue 94 = .ok (.invokevirtual 344, 3) := by decide +kernel
theorem dX0_variableValue_97 : decode cX0_variableValue 97 = .ok (.ireturn, 1) := by decide +kernel
theorem dX0_variableValue_67 : decode cX0_variableValue 67 = .ok (.aload_n 0, 1) := by decide +kernel
theorem dX0_variableValue_68 : decode cX0_variableValue 68 = .ok (.getfield 9, 3) := by decide +kernel
theorem dX0_variableValue_71 : decode cX0_variableValue 71 = .ok (.bipush 13, 2) := by decide +kernel
theorem dX0_variableValue_73 : decode cX0_variableValue 73 = .ok (.aload_n 1, 1) := by decide +kernel
theorem dX0_variableValue_74 : decode cX0_variableValue 74 = .ok (.getfield 114, 3) := by decide +kernel
theorem dX0_variableValue_77 : decode cX0_variableValue 77 = .ok (.invokevirtual 136, 3) := by decide +kernel
theorem dX0_variableValue_21 : decode cX0_variableValue 21 = .ok (.aload_n 0, 1) := by decide +kernel
theorem dX0_variableValue_22 : decode cX0_variableValue 22 = .ok (.getfield 15, 3) := by decide +kernel
theorem dX0_variableValue_25 : decode cX0_variableValue 25 = .ok (.iconst 2, 1) := by decide +kernel
theorem dX0_variableValue_26 : decode cX0_variableValue 26 = .ok (.iconst 0, 1) := by decide +kernel
theorem dX0_variableValue_27 : decode cX0_variableValue 27 = .ok (.iconst 0, 1) := by decide +kernel
theorem dX0_variableValue_28 : decode cX0_variableValue 28 = .ok (.invokevirtual 140, 3) := by decide +kernel
theorem dX0_variableValue_31 : decode cX0_variableValue 31 = .ok (.aload_n 0, 1) := by decide +kernel
theorem dX0_variableValue_32 : decode cX0_variableValue 32 = .ok (.aload_n 0, 1) := by decide +kernel
theorem dX0_variableValue_33 : decode cX0_variableValue 33 = .ok (.getfield 69, 3) := by decide +kernel
theorem dX0_variableValue_36 : decode cX0_variableValue 36 = .ok (.getfield 229, 3) := by decide +kernel
theorem dX0_variableValue_39 : decode cX0_variableValue 39 = .ok (.aload_n 1, 1) := by decide +kernel
theorem dX0_variableValue_40 : decode cX0_variableValue 40 = .ok (.invokevirtual 233, 3) := by decide +kernel
theorem dX0_variableValue_43 : decode cX0_variableValue 43 = .ok (.istore_n 3, 1) := by decide +kernel
theorem dX0_variableValue_44 : decode cX0_variableValue 44 = .ok (.aload_n 0, 1) := by decide +kernel
theorem dX0_variableValue_45 : decode cX0_variableValue 45 = .ok (.bipush 17, 2) := by decide +kernel
theorem dX0_variableValue_47 : decode cX0_variableValue 47 = .ok (.aload_n 1, 1) := by decide +kernel
theorem dX0_variableValue_48 : decode cX0_variableValue 48 = .ok (.getfield 226, 3) := by decide +kernel
theorem dX0_variableValue_51 : decode cX0_variableValue 51 = .ok (.iload_n 3, 1) := by decide +kernel
theorem dX0_variableValue_52 : decode cX0_variableValue 52 = .ok (.invokevirtual 344, 3) := by decide +kernel
theorem dX0_variableValue_55 : decode cX0_variableValue 55 = .ok (.ireturn, 1) := by decide +kernel
theorem dX0_single_0 : decode cX0_single 0 = .ok (.aload_n 1, 1) := by decide +kernel
theorem dX0_single_1 : decode cX0_single 1 = .ok (.getfield 178, 3) := by decide +kernel
theorem dX0_single_4 : decode cX0_single 4 = .ok (.tableswitch 136 0 8 #[52, 136, 136, 71, 80, 136, 97, 136, 107], 52) := by decide +kernel
theorem dX0_single_56 : decode cX0_single 56 = .ok (.aload_n 0, 1) := by decide +kernel
theorem dX0_single_57 : decode cX0_single 57 = .ok (.iconst 1, 1) := by decide +kernel
theorem dX0_single_58 : decode cX0_single 58 = .ok (.aload_n 0, 1) := by decide +kernel
theorem dX0_single_59 : decode cX0_single 59 = .ok (.getfield 9, 3) := by decide +kernel
theorem dX0_single_62 : decode cX0_single 62 = .ok (.aload_n 1, 1) := by decide +kernel
theorem dX0_single_63 : decode cX0_single 63 = .ok (.getfield 114, 3) := by decide +kernel
theorem dX0_single_66 : decode cX0_single 66 = .ok (.invokevirtual 152, 3) := by decide +kernel
theorem dX0_single_69 : decode cX0_single 69 = .ok (.bipush 60, 2) := by decide +kernel
theorem dX0_single_71 : decode cX0_single 71 = .ok (.invokevirtual 344, 3) := by decide +kernel
theorem dX0_single_74 : decode cX0_single 74 = .ok (.ireturn, 1) := by decide +kernel
theorem dX0_single_140 : decode cX0_single 140 = .ok (.bipush 63, 2) := by decide +kernel
theorem dX0_single_142 : decode cX0_single 142 = .ok (.ireturn, 1) := by decide +kernel
theorem dX0_single_75 : decode cX0_single 75 = .ok (.aload_n 0, 1) := by decide +kernel
theorem dX0_single_76 : decode cX0_single 76 = .ok (.iconst 1, 1) := by decide +kernel
theorem dX0_single_77 : decode cX0_single 77 = .ok (.iconst 0, 1) := by decide +kernel
theorem dX0_single_78 : decode cX0_single 78 = .ok (.bipush 62, 2) := by decide +kernel
theorem dX0_single_80 : decode cX0_single 80 = .ok (.invokevirtual 344, 3) := by decide +kernel
theorem dX0_single_83 : decode cX0_single 83 = .ok (.ireturn, 1) := by decide +kernel
theorem dX0_single_84 : decode cX0_single 84 = .ok (.aload_n 0, 1) := by decide +kernel
theorem dX0_single_85 : decode cX0_single 85 = .ok (.iconst 2, 1) := by decide +kernel
theorem dX0_single_86 : decode cX0_single 86 = .ok (.iconst 0, 1) := by decide +kernel
theorem dX0_single_87 : decode cX0_single 87 = .ok (.aload_n 0, 1) := by decide +kernel
theorem dX0_single_88 : decode cX0_single 88 = .ok (.getfield 69, 3) := by decide +kernel
theorem dX0_single_91 : decode cX0_single 91 = .ok (.getfield 229, 3) := by decide +kernel
theorem dX0_single_94 : decode cX0_single 94 = .ok (.getfield 347, 3) := by decide +kernel
theorem dX0_single_97 : decode cX0_single 97 = .ok (.invokevirtual 344, 3) := by decide +kernel
theorem dX0_single_100 : decode cX0_single 100 = .ok (.ireturn, 1) := by decide +kernel
theorem dX0_single_101 : decode cX0_single 101 = .ok (.aload_n 0, 1) := by decide +kernel
theorem dX0_single_102 : decode cX0_single 102 = .ok (.bipush 12, 2) := by decide +kernel
theorem dX0_single_104 : decode cX0_single 104 = .ok (.iconst 0, 1) := by decide +kernel
theorem dX0_single_105 : decode cX0_single 105 = .ok (.bipush 60, 2) := by decide +kernel
theorem dX0_single_107 : decode cX0_single 107 = .ok (.invokevirtual 344, 3) := by decide +kernel
theorem dX0_single_110 : decode cX0_single 110 = .ok (.ireturn, 1) := by decide +kernel
theorem dX0_single_111 : decode cX0_single 111 = .ok (.aload_n 0, 1) := by decide +kernel
theorem dX0_single_112 : decode cX0_single 112 = .ok (.bipush 21, 2) := by decide +kernel
theorem dX0_single_114 : decode cX0_single 114 = .ok (.aload_n 0, 1) := by decide +kernel
theorem dX0_single_115 : decode cX0_single 115 = .ok (.getfield 9, 3) := by decide +kernel
theorem dX0_single_118 : decode cX0_single 118 = .ok (.aload_n 1, 1) := by decide +kernel
theorem dX0_single_119 : decode cX0_single 119 = .ok (.getfield 114, 3) := by decide +kernel
theorem dX0_single_122 : decode cX0_single 122 = .ok (.invokevirtual 120, 3) := by decide +kernel
theorem dX0_single_125 : decode cX0_single 125 = .ok (.aload_n 0, 1) := by decide +kernel
theorem dX0_single_126 : decode cX0_single 126 = .ok (.getfield 9, 3) := by decide +kernel
theorem dX0_single_129 : decode cX0_single 129 = .ok (.aload_n 1, 1) := by decide +kernel
theorem dX0_single_130 : decode cX0_single 130 = .ok (.getfield 114, 3) := by decide +kernel
theorem dX0_single_133 : decode cX0_single 133 = .ok (.invokevirtual 120, 3) := by decide +kernel
theorem dX0_single_136 : decode cX0_single 136 = .ok (.invokevirtual 344, 3) := by decide +kernel
theorem dX0_single_139 : decode cX0_single 139 = .ok (.ireturn, 1) := by decide +kernel
theorem dX0_fieldBehind_0 : decode cX0_fieldBehind 0 = .ok (.aload_n 0, 1) := by decide +kernel
theorem dX0_fieldBehind_1 : decode cX0_fieldBehind 1 = .ok (.getfield 29, 3) := by decide +kernel
theorem dX0_fieldBehind_4 : decode cX0_fieldBehind 4 = .ok (.aload_n 0, 1) := by decide +kernel
theorem dX0_fieldBehind_5 : decode cX0_fieldBehind 5 = .ok (.aload_n 1, 1) := by decide +kernel
theorem dX0_fieldBehind_6 : decode cX0_fieldBehind 6 = .ok (.getfield 165, 3) := by decide +kernel
theorem dX0_fieldBehind_9 : decode cX0_fieldBehind 9 = .ok (.invokevirtual 209, 3) := by decide +kernel
theorem dX0_fieldBehind_12 : decode cX0_fieldBehind 12 = .ok (.invokevirtual 44, 3) := by decide +kernel
theorem dX0_fieldBehind_15 : decode cX0_fieldBehind 15 = .ok (.astore_n 2, 1) := by decide +kernel
theorem dX0_fieldBehind_16 : decode cX0_fieldBehind 16 = .ok (.aload_n 2, 1) := by decide +kernel
theorem dX0_fieldBehind_17 : decode cX0_fieldBehind 17 = .ok (.ifnull 10, 3) := by decide +kernel
theorem dX0_fieldBehind_27 : decode cX0_fieldBehind 27 = .ok (.aload_n 0, 1) := by decide +kernel
theorem dX0_fieldBehind_28 : decode cX0_fieldBehind 28 = .ok (.getfield 9, 3) := by decide +kernel
theorem dX0_fieldBehind_31 : decode cX0_fieldBehind 31 = .ok (.bipush 11, 2) := by decide +kernel
theorem dX0_fieldBehind_33 : decode cX0_fieldBehind 33 = .ok (.aload_n 1, 1) := by decide +kernel
theorem dX0_fieldBehind_34 : decode cX0_fieldBehind 34 = .ok (.getfield 165, 3) := by decide +kernel
theorem dX0_fieldBehind_37 : decode cX0_fieldBehind 37 = .ok (.getfield 117, 3) := by decide +kernel
theorem dX0_fieldBehind_40 : decode cX0_fieldBehind 40 = .ok (.invokevirtual 136, 3) := by decide +kernel
theorem dX0_fieldBehind_20 : decode cX0_fieldBehind 20 = .ok (.aload_n 2, 1) := by decide +kernel
theorem dX0_fieldBehind_21 : decode cX0_fieldBehind 21 = .ok (.getfield 280, 3) := by decide +kernel
theorem dX0_fieldBehind_24 : decode cX0_fieldBehind 24 = .ok (.ifCond .eq 19, 3) := by decide +kernel
theorem dX0_fieldBehind_43 : decode cX0_fieldBehind 43 = .ok (.aload_n 0, 1) := by decide +kernel
theorem dX0_fieldBehind_44 : decode cX0_fieldBehind 44 = .ok (.aload_n 2, 1) := by decide +kernel
theorem dX0_fieldBehind_45 : decode cX0_fieldBehind 45 = .ok (.aload_n 1, 1) := by decide +kernel
theorem dX0_fieldBehind_46 : decode cX0_fieldBehind 46 = .ok (.invokevirtual 233, 3) := by decide +kernel
theorem dX0_fieldBehind_49 : decode cX0_fieldBehind 49 = .ok (.ireturn, 1) := by decide +kernel
theorem dX0_check_0 : decode cX0_check 0 = .ok (.aload_n 0, 1) := by decide +kernel
theorem dX0_check_1 : decode cX0_check 1 = .ok (.aload_n 1, 1) := by decide +kernel
theorem dX0_check_2 : decode cX0_check 2 = .ok (.getfield 165, 3) := by decide +kernel
theorem dX0_check_5 : decode cX0_check 5 = .ok (.invokevirtual 209, 3) := by decide +kernel
theorem dX0_check_8 : decode cX0_check 8 = .ok (.invokestatic 372, 3) := by decide +kernel
theorem dX0_check_11 : decode cX0_check 11 = .ok (.ifCond .ne 19, 3) := by decide +kernel
theorem dX0_check_30 : decode cX0_check 30 = .ok (.aload_n 0, 1) := by decide +kernel
theorem dX0_check_31 : decode cX0_check 31 = .ok (.getfield 9, 3) := by decide +kernel
theorem dX0_check_34 : decode cX0_check 34 = .ok (.aload_n 1, 1) := by decide +kernel
theorem dX0_check_35 : decode cX0_check 35 = .ok (.getfield 114, 3) := by decide +kernel
theorem dX0_check_38 : decode cX0_check 38 = .ok (.iconst 1, 1) := by decide +kernel
theorem dX0_check_39 : decode cX0_check 39 = .ok (.iadd, 1) := by decide +kernel
theorem dX0_check_40 : decode cX0_check 40 = .ok (.invokevirtual 120, 3) := by decide +kernel
theorem dX0_check_43 : decode cX0_check 43 = .ok (.istore_n 2, 1) := by decide +kernel
theorem dX0_check_44 : decode cX0_check 44 = .ok (.iload_n 2, 1) := by decide +kernel
theorem dX0_check_45 : decode cX0_check 45 = .ok (.invokestatic 372, 3) := by decide +kernel
theorem dX0_check_48 : decode cX0_check 48 = .ok (.ifCond .ne 18, 3) := by decide +kernel
theorem dX0_check_66 : decode cX0_check 66 = .ok (.aload_n 0, 1) := by decide +kernel
theorem dX0_check_67 : decode cX0_check 67 = .ok (.getfield 9, 3) := by decide +kernel
theorem dX0_check_70 : decode cX0_check 70 = .ok (.aload_n 1, 1) := by decide +kernel
theorem dX0_check_71 : decode cX0_check 71 = .ok (.getfield 114, 3) := by decide +kernel
theorem dX0_check_74 : decode cX0_check 74 = .ok (.invokevirtual 306, 3) := by decide +kernel
theorem dX0_check_77 : decode cX0_check 77 = .ok (.bipush 15, 2) := by decide +kernel
theorem dX0_check_79 : decode cX0_check 79 = .ok (.if_icmp .ne 13, 3) := by decide +kernel
theorem dX0_check_92 : decode cX0_check 92 = .ok (.aload_n 0, 1) := by decide +kernel
theorem dX0_check_93 : decode cX0_check 93 = .ok (.bipush 15, 2) := by decide +kernel
theorem dX0_check_95 : decode cX0_check 95 = .ok (.iload_n 2, 1) := by decide +kernel
theorem dX0_check_96 : decode cX0_check 96 = .ok (.iload_n 2, 1) := by decide +kernel
theorem dX0_check_97 : decode cX0_check 97 = .ok (.invokevirtual 344, 3) := by decide +kernel
theorem dX0_check_100 : decode cX0_check 100 = .ok (.ireturn, 1) := by decide +kernel
theorem dX0_check_82 : decode cX0_check 82 = .ok (.aload_n 0, 1) := by decide +kernel
theorem dX0_check_83 : decode cX0_check 83 = .ok (.bipush 14, 2) := by decide +kernel
theorem dX0_check_85 : decode cX0_check 85 = .ok (.iload_n 2, 1) := by decide +kernel
theorem dX0_check_86 : decode cX0_check 86 = .ok (.bipush 61, 2) := by decide +kernel
theorem dX0_check_88 : decode cX0_check 88 = .ok (.invokevirtual 344, 3) := by decide +kernel
theorem dX0_check_91 : decode cX0_check 91 = .ok (.ireturn, 1) := by decide +kernel
theorem dX0_check_51 : decode cX0_check 51 = .ok (.aload_n 0, 1) := by decide +kernel
theorem dX0_check_52 : decode cX0_check 52 = .ok (.getfield 9, 3) := by decide +kernel
theorem dX0_check_55 : decode cX0_check 55 = .ok (.bipush 11, 2) := by decide +kernel
theorem dX0_check_57 : decode cX0_check 57 = .ok (.aload_n 1, 1) := by decide +kernel
theorem dX0_check_58 : decode cX0_check 58 = .ok (.getfield 114, 3) := by decide +kernel
theorem dX0_check_61 : decode cX0_check 61 = .ok (.iconst 1, 1) := by decide +kernel
theorem dX0_check_62 : decode cX0_check 62 = .ok (.iadd, 1) := by decide +kernel
theorem dX0_check_63 : decode cX0_check 63 = .ok (.invokevirtual 136, 3) := by decide +kernel
theorem dX0_check_14 : decode cX0_check 14 = .ok (.aload_n 0, 1) := by decide +kernel
theorem dX0_check_15 : decode cX0_check 15 = .ok (.getfield 9, 3) := by decide +kernel
theorem dX0_check_18 : decode cX0_check 18 = .ok (.bipush 11, 2) := by decide +kernel
theorem dX0_check_20 : decode cX0_check 20 = .ok (.aload_n 1, 1) := by decide +kernel
theorem dX0_check_21 : decode cX0_check 21 = .ok (.getfield 165, 3) := by decide +kernel
theorem dX0_check_24 : decode cX0_check 24 = .ok (.getfield 117, 3) := by decide +kernel
theorem dX0_check_27 : decode cX0_check 27 = .ok (.invokevirtual 136, 3) := by decide +kernel
theorem dX0_truth_0 : decode cX0_truth 0 = .ok (.aload_n 0, 1) := by decide +kernel
theorem dX0_truth_1 : decode cX0_truth 1 = .ok (.iload_n 1, 1) := by decide +kernel
theorem dX0_truth_2 : decode cX0_truth 2 = .ok (.ifCond .eq 10, 3) := by decide +kernel
theorem dX0_truth_12 : decode cX0_truth 12 = .ok (.iconst (-1), 1) := by decide +kernel
theorem dX0_truth_13 : decode cX0_truth 13 = .ok (.putfield 240, 3) := by decide +kernel
theorem dX0_truth_16 : decode cX0_truth 16 = .ok (.aload_n 0, 1) := by decide +kernel
theorem dX0_truth_17 : decode cX0_truth 17 = .ok (.iload_n 1, 1) := by decide +kernel
theorem dX0_truth_18 : decode cX0_truth 18 = .ok (.ifCond .eq 7, 3) := by decide +kernel
theorem dX0_truth_25 : decode cX0_truth 25 = .ok (.aload_n 0, 1) := by decide +kernel
theorem dX0_truth_26 : decode cX0_truth 26 = .ok (.getfield 94, 3) := by decide +kernel
theorem dX0_truth_29 : decode cX0_truth 29 = .ok (.putfield 237, 3) := by decide +kernel
theorem dX0_truth_32 : decode cX0_truth 32 = .ok (.aload_n 0, 1) := by decide +kernel
theorem dX0_truth_33 : decode cX0_truth 33 = .ok (.iconst 1, 1) := by decide +kernel
theorem dX0_truth_34 : decode cX0_truth 34 = .ok (.iload_n 1, 1) := by decide +kernel
theorem dX0_truth_35 : decode cX0_truth 35 = .ok (.ifCond .eq 7, 3) := by decide +kernel
theorem dX0_truth_42 : decode cX0_truth 42 = .ok (.iconst 0, 1) := by decide +kernel
theorem dX0_truth_43 : decode cX0_truth 43 = .ok (.bipush 61, 2) := by decide +kernel
theorem dX0_truth_45 : decode cX0_truth 45 = .ok (.invokevirtual 344, 3) := by decide +kernel
theorem dX0_truth_48 : decode cX0_truth 48 = .ok (.ireturn, 1) := by decide +kernel
theorem dX0_truth_38 : decode cX0_truth 38 = .ok (.iconst 1, 1) := by decide +kernel
theorem dX0_truth_39 : decode cX0_truth 39 = .ok (.goto 4, 3) := by decide +kernel
theorem dX0_truth_21 : decode cX0_truth 21 = .ok (.iconst (-1), 1) := by decide +kernel
theorem dX0_truth_22 : decode cX0_truth 22 = .ok (.goto 7, 3) := by decide +kernel
theorem dX0_truth_5 : decode cX0_truth 5 = .ok (.aload_n 0, 1) := by decide +kernel
theorem dX0_truth_6 : decode cX0_truth 6 = .ok (.getfield 94, 3) := by decide +kernel
theorem dX0_truth_9 : decode cX0_truth 9 = .ok (.goto 4, 3) := by decide +kernel
theorem dX0_shortened_0 : decode cX0_shortened 0 = .ok (.aload_n 0, 1) := by decide +kernel
theorem dX0_shortened_1 : decode cX0_shortened 1 = .ok (.aload_n 1, 1) := by decide +kernel
theorem dX0_shortened_2 : decode cX0_shortened 2 = .ok (.getfield 165, 3) := by decide +kernel
theorem dX0_shortened_5 : decode cX0_shortened 5 = .ok (.aload_n 0, 1) := by decide +kernel
theorem dX0_shortened_6 : decode cX0_shortened 6 = .ok (.aload_n 1, 1) := by decide +kernel
theorem dX0_shortened_7 : decode cX0_shortened 7 = .ok (.getfield 165, 3) := by decide +kernel
theorem dX0_shortened_10 : decode cX0_shortened 10 = .ok (.invokevirtual 209, 3) := by decide +kernel
theorem dX0_shortened_13 : decode cX0_shortened 13 = .ok (.bipush 61, 2) := by decide +kernel
theorem dX0_shortened_15 : decode cX0_shortened 15 = .ok (.invokevirtual 213, 3) := by decide +kernel
theorem dX0_shortened_18 : decode cX0_shortened 18 = .ok (.aload_n 0, 1) := by decide +kernel
theorem dX0_shortened_19 : decode cX0_shortened 19 = .ok (.getfield 240, 3) := by decide +kernel
theorem dX0_shortened_22 : decode cX0_shortened 22 = .ok (.istore_n 3, 1) := by decide +kernel
theorem dX0_shortened_23 : decode cX0_shortened 23 = .ok (.aload_n 0, 1) := by decide +kernel
theorem dX0_shortened_24 : decode cX0_shortened 24 = .ok (.getfield 237, 3) := by decide +kernel
theorem dX0_shortened_27 : decode cX0_shortened 27 = .ok (.istore 4, 2) := by decide +kernel
theorem dX0_shortened_29 : decode cX0_shortened 29 = .ok (.aload_n 0, 1) := by decide +kernel
theorem dX0_shortened_30 : decode cX0_shortened 30 = .ok (.getfield 15, 3) := by decide +kernel
theorem dX0_shortened_33 : decode cX0_shortened 33 = .ok (.iload_n 2, 1) := by decide +kernel
theorem dX0_shortened_34 : decode cX0_shortened 34 = .ok (.ifCond .eq 8, 3) := by decide +kernel
theorem dX0_shortened_42 : decode cX0_shortened 42 = .ok (.bipush 9, 2) := by decide +kernel
theorem dX0_shortened_44 : decode cX0_shortened 44 = .ok (.iconst (-1), 1) := by decide +kernel
theorem dX0_shortened_45 : decode cX0_shortened 45 = .ok (.iconst 0, 1) := by decide +kernel
theorem dX0_shortened_46 : decode cX0_shortened 46 = .ok (.invokevirtual 243, 3) := by decide +kernel
theorem dX0_shortened_49 : decode cX0_shortened 49 = .ok (.istore 5, 2) := by decide +kernel
theorem dX0_shortened_51 : decode cX0_shortened 51 = .ok (.aload_n 0, 1) := by decide +kernel
theorem dX0_shortened_52 : decode cX0_shortened 52 = .ok (.iload_n 2, 1) := by decide +kernel
theorem dX0_shortened_53 : decode cX0_shortened 53 = .ok (.ifCond .eq 7, 3) := by decide +kernel
theorem dX0_shortened_60 : decode cX0_shortened 60 = .ok (.iload 4, 2) := by decide +kernel
theorem dX0_shortened_62 : decode cX0_shortened 62 = .ok (.putfield 94, 3) := by decide +kernel
theorem dX0_shortened_65 : decode cX0_shortened 65 = .ok (.aload_n 0, 1) := by decide +kernel
theorem dX0_shortened_66 : decode cX0_shortened 66 = .ok (.aload_n 1, 1) := by decide +kernel
theorem dX0_shortened_67 : decode cX0_shortened 67 = .ok (.getfield 202, 3) := by decide +kernel
theorem dX0_shortened_70 : decode cX0_shortened 70 = .ok (.aload_n 0, 1) := by decide +kernel
theorem dX0_shortened_71 : decode cX0_shortened 71 = .ok (.aload_n 1, 1) := by decide +kernel
theorem dX0_shortened_72 : decode cX0_shortened 72 = .ok (.getfield 202, 3) := by decide +kernel
theorem dX0_shortened_75 : decode cX0_shortened 75 = .ok (.invokevirtual 209, 3) := by decide +kernel
theorem dX0_shortened_78 : decode cX0_shortened 78 = .ok (.bipush 61, 2) := by decide +kernel
theorem dX0_shortened_80 : decode cX0_shortened 80 = .ok (.invokevirtual 213, 3) := by decide +kernel
theorem dX0_shortened_83 : decode cX0_shortened 83 = .ok (.aload_n 0, 1) := by decide +kernel
theorem dX0_shortened_84 : decode cX0_shortened 84 = .ok (.getfield 15, 3) := by decide +kernel
theorem dX0_shortened_87 : decode cX0_shortened 87 = .ok (.iload 5, 2) := by decide +kernel
theorem dX0_shortened_89 : decode cX0_shortened 89 = .ok (.invokevirtual 250, 3) := by decide +kernel
theorem dX0_shortened_92 : decode cX0_shortened 92 = .ok (.iload_n 2, 1) := by decide +kernel
theorem dX0_shortened_93 : decode cX0_shortened 93 = .ok (.ifCond .eq 17, 3) := by decide +kernel
theorem dX0_shortened_110 : decode cX0_shortened 110 = .ok (.aload_n 0, 1) := by decide +kernel
theorem dX0_shortened_111 : decode cX0_shortened 111 = .ok (.dup, 1) := by decide +kernel
theorem dX0_shortened_112 : decode cX0_shortened 112 = .ok (.getfield 240, 3) := by decide +kernel
theorem dX0_shortened_115 : decode cX0_shortened 115 = .ok (.iload_n 3, 1) := by decide +kernel
theorem dX0_shortened_116 : decode cX0_shortened 116 = .ok (.iand, 1) := by decide +kernel
theorem dX0_shortened_117 : decode cX0_shortened 117 = .ok (.putfield 240, 3) := by decide +kernel
theorem dX0_shortened_120 : decode cX0_shortened 120 = .ok (.aload_n 0, 1) := by decide +kernel
theorem dX0_shortened_121 : decode cX0_shortened 121 = .ok (.aload_n 0, 1) := by decide +kernel
theorem dX0_shortened_122 : decode cX0_shortened 122 = .ok (.getfield 240, 3) := by decide +kernel
theorem dX0_shortened_125 : decode cX0_shortened 125 = .ok (.aload_n 0, 1) := by decide +kernel
theorem dX0_shortened_126 : decode cX0_shortened 126 = .ok (.getfield 237, 3) := by decide +kernel
theorem dX0_shortened_129 : decode cX0_shortened 129 = .ok (.iand, 1) := by decide +kernel
theorem dX0_shortened_130 : decode cX0_shortened 130 = .ok (.putfield 94, 3) := by decide +kernel
theorem dX0_shortened_133 : decode cX0_shortened 133 = .ok (.bipush 61, 2) := by decide +kernel
theorem dX0_shortened_135 : decode cX0_shortened 135 = .ok (.ireturn, 1) := by decide +kernel
theorem dX0_shortened_96 : decode cX0_shortened 96 = .ok (.aload_n 0, 1) := by decide +kernel
theorem dX0_shortened_97 : decode cX0_shortened 97 = .ok (.dup, 1) := by decide +kernel
theorem dX0_shortened_98 : decode cX0_shortened 98 = .ok (.getfield 237, 3) := by decide +kernel
theorem dX0_shortened_101 : decode cX0_shortened 101 = .ok (.iload 4, 2) := by decide +kernel
theorem dX0_shortened_103 : decode cX0_shortened 103 = .ok (.iand, 1) := by decide +kernel
theorem dX0_shortened_104 : decode cX0_shortened 104 = .ok (.putfield 237, 3) := by decide +kernel
theorem dX0_shortened_107 : decode cX0_shortened 107 = .ok (.goto 13, 3) := by decide +kernel
theorem dX0_shortened_56 : decode cX0_shortened 56 = .ok (.iload_n 3, 1) := by decide +kernel
theorem dX0_shortened_57 : decode cX0_shortened 57 = .ok (.goto 5, 3) := by decide +kernel
theorem dX0_shortened_37 : decode cX0_shortened 37 = .ok (.bipush 8, 2) := by decide +kernel
theorem dX0_shortened_39 : decode cX0_shortened 39 = .ok (.goto 5, 3) := by decide +kernel
theorem hV_X1_jump : yX1_jump.cls = RX1 ∧ yX1_jump.cls ≠ "java/lang/invoke/MethodHandle" ∧ yX1_jump.cls ≠ "java/lang/invoke/VarHandle" ∧ (parseMethodDescriptor yX1_jump.desc).map (fun d => d.parameters.length) = some 3 := by decide +kernel
theorem hV_X1_land : yX1_land.cls = RX1 ∧ yX1_land.cls ≠ "java/lang/invoke/MethodHandle" ∧ yX1_land.cls ≠ "java/lang/invoke/VarHandle" ∧ (parseMethodDescriptor yX1_land.desc).map (fun d => d.parameters.length) = some 1 := by decide +kernel
theorem dX0_choice_0 : decode cX0_choice 0 = .ok (.aload_n 0, 1) := by decide +kernel
theorem dX0_choice_1 : decode cX0_choice 1 = .ok (.aload_n 1, 1) := by decide +kernel
theorem dX0_choice_2 : decode cX0_choice 2 = .ok (.getfield 165, 3) := by decide +kernel
theorem dX0_choice_5 : decode cX0_choice 5 = .ok (.aload_n 0, 1) := by decide +kernel
theorem dX0_choice_6 : decode cX0_choice 6 = .ok (.aload_n 1, 1) := by decide +kernel
theorem dX0_choice_7 : decode cX0_choice 7 = .ok (.getfield 165, 3) := by decide +kernel
theorem dX0_choice_10 : decode cX0_choice 10 = .ok (.invokevirtual 209, 3) := by decide +kernel
theorem dX0_choice_13 : decode cX0_choice 13 = .ok (.bipush 61, 2) := by decide +kernel
theorem dX0_choice_15 : decode cX0_choice 15 = .ok (.invokevirtual 213, 3) := by decide +kernel
theorem dX0_choice_18 : decode cX0_choice 18 = .ok (.aload_n 0, 1) := by decide +kernel
theorem dX0_choice_19 : decode cX0_choice 19 = .ok (.getfield 237, 3) := by decide +kernel
theorem dX0_choice_22 : decode cX0_choice 22 = .ok (.istore_n 2, 1) := by decide +kernel
theorem dX0_choice_23 : decode cX0_choice 23 = .ok (.aload_n 0, 1) := by decide +kernel
theorem dX0_choice_24 : decode cX0_choice 24 = .ok (.aload_n 0, 1) := by decide +kernel
theorem dX0_choice_25 : decode cX0_choice 25 = .ok (.getfield 240, 3) := by decide +kernel
theorem dX0_choice_28 : decode cX0_choice 28 = .ok (.putfield 94, 3) := by decide +kernel
theorem dX0_choice_31 : decode cX0_choice 31 = .ok (.aload_n 0, 1) := by decide +kernel
theorem dX0_choice_32 : decode cX0_choice 32 = .ok (.getfield 15, 3) := by decide +kernel
theorem dX0_choice_35 : decode cX0_choice 35 = .ok (.bipush 7, 2) := by decide +kernel
theorem dX0_choice_37 : decode cX0_choice 37 = .ok (.iconst (-1), 1) := by decide +kernel
theorem dX0_choice_38 : decode cX0_choice 38 = .ok (.iconst 0, 1) := by decide +kernel
theorem dX0_choice_39 : decode cX0_choice 39 = .ok (.invokevirtual 243, 3) := by decide +kernel
theorem dX0_choice_42 : decode cX0_choice 42 = .ok (.istore_n 3, 1) := by decide +kernel
theorem dX0_choice_43 : decode cX0_choice 43 = .ok (.aload_n 0, 1) := by decide +kernel
theorem dX0_choice_44 : decode cX0_choice 44 = .ok (.aload_n 1, 1) := by decide +kernel
theorem dX0_choice_45 : decode cX0_choice 45 = .ok (.getfield 202, 3) := by decide +kernel
theorem dX0_choice_48 : decode cX0_choice 48 = .ok (.invokevirtual 209, 3) := by decide +kernel
theorem dX0_choice_51 : decode cX0_choice 51 = .ok (.istore 4, 2) := by decide +kernel
theorem dX0_choice_53 : decode cX0_choice 53 = .ok (.aload_n 0, 1) := by decide +kernel
theorem dX0_choice_54 : decode cX0_choice 54 = .ok (.getfield 240, 3) := by decide +kernel
theorem dX0_choice_57 : decode cX0_choice 57 = .ok (.istore 5, 2) := by decide +kernel
theorem dX0_choice_59 : decode cX0_choice 59 = .ok (.aload_n 0, 1) := by decide +kernel
theorem dX0_choice_60 : decode cX0_choice 60 = .ok (.getfield 237, 3) := by decide +kernel
theorem dX0_choice_63 : decode cX0_choice 63 = .ok (.istore 6, 2) := by decide +kernel
theorem dX0_choice_65 : decode cX0_choice 65 = .ok (.aload_n 0, 1) := by decide +kernel
theorem dX0_choice_66 : decode cX0_choice 66 = .ok (.getfield 15, 3) := by decide +kernel
theorem dX0_choice_69 : decode cX0_choice 69 = .ok (.bipush 6, 2) := by decide +kernel
theorem dX0_choice_71 : decode cX0_choice 71 = .ok (.iconst (-1), 1) := by decide +kernel
theorem dX0_choice_72 : decode cX0_choice 72 = .ok (.iconst 0, 1) := by decide +kernel
theorem dX0_choice_73 : decode cX0_choice 73 = .ok (.invokevirtual 243, 3) := by decide +kernel
theorem dX0_choice_76 : decode cX0_choice 76 = .ok (.istore 7, 2) := by decide +kernel
theorem dX0_choice_78 : decode cX0_choice 78 = .ok (.aload_n 0, 1) := by decide +kernel
theorem dX0_choice_79 : decode cX0_choice 79 = .ok (.getfield 15, 3) := by decide +kernel
theorem dX0_choice_82 : decode cX0_choice 82 = .ok (.iload_n 3, 1) := by decide +kernel
theorem dX0_choice_83 : decode cX0_choice 83 = .ok (.invokevirtual 250, 3) := by decide +kernel
theorem dX0_choice_86 : decode cX0_choice 86 = .ok (.aload_n 0, 1) := by decide +kernel
theorem dX0_choice_87 : decode cX0_choice 87 = .ok (.iload_n 2, 1) := by decide +kernel
theorem dX0_choice_88 : decode cX0_choice 88 = .ok (.putfield 94, 3) := by decide +kernel
theorem dX0_choice_91 : decode cX0_choice 91 = .ok (.aload_n 0, 1) := by decide +kernel
theorem dX0_choice_92 : decode cX0_choice 92 = .ok (.getfield 29, 3) := by decide +kernel
theorem dX0_choice_95 : decode cX0_choice 95 = .ok (.iload 4, 2) := by decide +kernel
theorem dX0_choice_97 : decode cX0_choice 97 = .ok (.aload_n 0, 1) := by decide +kernel
theorem dX0_choice_98 : decode cX0_choice 98 = .ok (.aload_n 1, 1) := by decide +kernel
theorem dX0_choice_99 : decode cX0_choice 99 = .ok (.getfield 247, 3) := by decide +kernel
theorem dX0_choice_102 : decode cX0_choice 102 = .ok (.invokevirtual 209, 3) := by decide +kernel
theorem dX0_choice_105 : decode cX0_choice 105 = .ok (.invokevirtual 376, 3) := by decide +kernel
theorem dX0_choice_108 : decode cX0_choice 108 = .ok (.istore 8, 2) := by decide +kernel
theorem dX0_choice_110 : decode cX0_choice 110 = .ok (.iload 8, 2) := by decide +kernel
theorem dX0_choice_112 : decode cX0_choice 112 = .ok (.bipush 63, 2) := by decide +kernel
theorem dX0_choice_114 : decode cX0_choice 114 = .ok (.if_icmp .ne 16, 3) := by decide +kernel
theorem dX0_choice_130 : decode cX0_choice 130 = .ok (.aload_n 0, 1) := by decide +kernel
theorem dX0_choice_131 : decode cX0_choice 131 = .ok (.getfield 15, 3) := by decide +kernel
theorem dX0_choice_134 : decode cX0_choice 134 = .ok (.iload 7, 2) := by decide +kernel
theorem dX0_choice_136 : decode cX0_choice 136 = .ok (.invokevirtual 250, 3) := by decide +kernel
theorem dX0_choice_139 : decode cX0_choice 139 = .ok (.aload_n 0, 1) := by decide +kernel
theorem dX0_choice_140 : decode cX0_choice 140 = .ok (.dup, 1) := by decide +kernel
theorem dX0_choice_141 : decode cX0_choice 141 = .ok (.getfield 240, 3) := by decide +kernel
theorem dX0_choice_144 : decode cX0_choice 144 = .ok (.iload 5, 2) := by decide +kernel
theorem dX0_choice_146 : decode cX0_choice 146 = .ok (.iand, 1) := by decide +kernel
theorem dX0_choice_147 : decode cX0_choice 147 = .ok (.putfield 240, 3) := by decide +kernel
theorem dX0_choice_150 : decode cX0_choice 150 = .ok (.aload_n 0, 1) := by decide +kernel
theorem dX0_choice_151 : decode cX0_choice 151 = .ok (.dup, 1) := by decide +kernel
theorem dX0_choice_152 : decode cX0_choice 152 = .ok (.getfield 237, 3) := by decide +kernel
theorem dX0_choice_155 : decode cX0_choice 155 = .ok (.iload 6, 2) := by decide +kernel
theorem dX0_choice_157 : decode cX0_choice 157 = .ok (.iand, 1) := by decide +kernel
theorem dX0_choice_158 : decode cX0_choice 158 = .ok (.putfield 237, 3) := by decide +kernel
theorem dX0_choice_161 : decode cX0_choice 161 = .ok (.aload_n 0, 1) := by decide +kernel
theorem dX0_choice_162 : decode cX0_choice 162 = .ok (.aload_n 0, 1) := by decide +kernel
theorem dX0_choice_163 : decode cX0_choice 163 = .ok (.getfield 240, 3) := by decide +kernel
theorem dX0_choice_166 : decode cX0_choice 166 = .ok (.aload_n 0, 1) := by decide +kernel
theorem dX0_choice_167 : decode cX0_choice 167 = .ok (.getfield 237, 3) := by decide +kernel
theorem dX0_choice_170 : decode cX0_choice 170 = .ok (.iand, 1) := by decide +kernel
theorem dX0_choice_171 : decode cX0_choice 171 = .ok (.putfield 94, 3) := by decide +kernel
theorem dX0_choice_174 : decode cX0_choice 174 = .ok (.iload 8, 2) := by decide +kernel
theorem dX0_choice_176 : decode cX0_choice 176 = .ok (.ireturn, 1) := by decide +kernel
theorem dX0_choice_117 : decode cX0_choice 117 = .ok (.aload_n 0, 1) := by decide +kernel
theorem dX0_choice_118 : decode cX0_choice 118 = .ok (.getfield 9, 3) := by decide +kernel
theorem dX0_choice_121 : decode cX0_choice 121 = .ok (.bipush 11, 2) := by decide +kernel
theorem dX0_choice_123 : decode cX0_choice 123 = .ok (.aload_n 1, 1) := by decide +kernel
theorem dX0_choice_124 : decode cX0_choice 124 = .ok (.getfield 114, 3) := by decide +kernel
theorem dX0_choice_127 : decode cX0_choice 127 = .ok (.invokevirtual 136, 3) := by decide +kernel
theorem hV_X9_common : yX9_common.cls = RX9 ∧ yX9_common.cls ≠ "java/lang/invoke/MethodHandle" ∧ yX9_common.cls ≠ "java/lang/invoke/VarHandle" ∧ (parseMethodDescriptor yX9_common.desc).map (fun d => d.parameters.length) = some 2 := by decide +kernel
theorem dX0_sign_0 : decode cX0_sign 0 = .ok (.aload_n 0, 1) := by decide +kernel
theorem dX0_sign_1 : decode cX0_sign 1 = .ok (.aload_n 1, 1) := by decide +kernel
theorem dX0_sign_2 : decode cX0_sign 2 = .ok (.getfield 165, 3) := by decide +kernel
theorem dX0_sign_5 : decode cX0_sign 5 = .ok (.invokevirtual 209, 3) := by decide +kernel
theorem dX0_sign_8 : decode cX0_sign 8 = .ok (.istore_n 3, 1) := by decide +kernel
theorem dX0_sign_9 : decode cX0_sign 9 = .ok (.iload_n 2, 1) := by decide +kernel
theorem dX0_sign_10 : decode cX0_sign 10 = .ok (.tableswitch 156 49 59 #[102, 102, 102, 156, 156, 156, 156, 156, 156, 58, 58], 58) := by decide +kernel
theorem dX0_sign_112 : decode cX0_sign 112 = .ok (.iload_n 3, 1) := by decide +kernel
theorem dX0_sign_113 : decode cX0_sign 113 = .ok (.bipush 60, 2) := by decide +kernel
theorem dX0_sign_115 : decode cX0_sign 115 = .ok (.if_icmp .eq 25, 3) := by decide +kernel
theorem dX0_sign_140 : decode cX0_sign 140 = .ok (.aload_n 0, 1) := by decide +kernel
theorem dX0_sign_141 : decode cX0_sign 141 = .ok (.aload_n 1, 1) := by decide +kernel
theorem dX0_sign_142 : decode cX0_sign 142 = .ok (.getfield 202, 3) := by decide +kernel
theorem dX0_sign_145 : decode cX0_sign 145 = .ok (.aload_n 0, 1) := by decide +kernel
theorem dX0_sign_146 : decode cX0_sign 146 = .ok (.aload_n 1, 1) := by decide +kernel
theorem dX0_sign_147 : decode cX0_sign 147 = .ok (.getfield 202, 3) := by decide +kernel
theorem dX0_sign_150 : decode cX0_sign 150 = .ok (.invokevirtual 209, 3) := by decide +kernel
theorem dX0_sign_153 : decode cX0_sign 153 = .ok (.iload_n 3, 1) := by decide +kernel
theorem dX0_sign_154 : decode cX0_sign 154 = .ok (.invokevirtual 213, 3) := by decide +kernel
theorem dX0_sign_157 : decode cX0_sign 157 = .ok (.aload_n 0, 1) := by decide +kernel
theorem dX0_sign_158 : decode cX0_sign 158 = .ok (.bipush 10, 2) := by decide +kernel
theorem dX0_sign_160 : decode cX0_sign 160 = .ok (.iload_n 2, 1) := by decide +kernel
theorem dX0_sign_161 : decode cX0_sign 161 = .ok (.iload_n 3, 1) := by decide +kernel
theorem dX0_sign_162 : decode cX0_sign 162 = .ok (.invokevirtual 344, 3) := by decide +kernel
theorem dX0_sign_165 : decode cX0_sign 165 = .ok (.ireturn, 1) := by decide +kernel
theorem dX0_sign_118 : decode cX0_sign 118 = .ok (.iload_n 3, 1) := by decide +kernel
theorem dX0_sign_119 : decode cX0_sign 119 = .ok (.bipush 61, 2) := by decide +kernel
theorem dX0_sign_121 : decode cX0_sign 121 = .ok (.if_icmp .eq 19, 3) := by decide +kernel
theorem dX0_sign_124 : decode cX0_sign 124 = .ok (.aload_n 0, 1) := by decide +kernel
theorem dX0_sign_125 : decode cX0_sign 125 = .ok (.getfield 9, 3) := by decide +kernel
theorem dX0_sign_128 : decode cX0_sign 128 = .ok (.bipush 11, 2) := by decide +kernel
theorem dX0_sign_130 : decode cX0_sign 130 = .ok (.aload_n 1, 1) := by decide +kernel
theorem dX0_sign_131 : decode cX0_sign 131 = .ok (.getfield 165, 3) := by decide +kernel
theorem dX0_sign_134 : decode cX0_sign 134 = .ok (.getfield 117, 3) := by decide +kernel
theorem dX0_sign_137 : decode cX0_sign 137 = .ok (.invokevirtual 136, 3) := by decide +kernel
theorem dX0_sign_166 : decode cX0_sign 166 = .ok (.aload_n 0, 1) := by decide +kernel
theorem dX0_sign_167 : decode cX0_sign 167 = .ok (.aload_n 1, 1) := by decide +kernel
theorem dX0_sign_168 : decode cX0_sign 168 = .ok (.getfield 165, 3) := by decide +kernel
theorem dX0_sign_171 : decode cX0_sign 171 = .ok (.iload_n 3, 1) := by decide +kernel
theorem dX0_sign_172 : decode cX0_sign 172 = .ok (.bipush 60, 2) := by decide +kernel
theorem dX0_sign_174 : decode cX0_sign 174 = .ok (.invokevirtual 213, 3) := by decide +kernel
theorem dX0_sign_177 : decode cX0_sign 177 = .ok (.aload_n 0, 1) := by decide +kernel
theorem dX0_sign_178 : decode cX0_sign 178 = .ok (.aload_n 1, 1) := by decide +kernel
theorem dX0_sign_179 : decode cX0_sign 179 = .ok (.getfield 202, 3) := by decide +kernel
theorem dX0_sign_182 : decode cX0_sign 182 = .ok (.aload_n 0, 1) := by decide +kernel
theorem dX0_sign_183 : decode cX0_sign 183 = .ok (.aload_n 1, 1) := by decide +kernel
theorem dX0_sign_184 : decode cX0_sign 184 = .ok (.getfield 202, 3) := by decide +kernel
theorem dX0_sign_187 : decode cX0_sign 187 = .ok (.invokevirtual 209, 3) := by decide +kernel
theorem dX0_sign_190 : decode cX0_sign 190 = .ok (.bipush 60, 2) := by decide +kernel
theorem dX0_sign_192 : decode cX0_sign 192 = .ok (.invokevirtual 213, 3) := by decide +kernel
theorem dX0_sign_195 : decode cX0_sign 195 = .ok (.iload_n 2, 1) := by decide +kernel
theorem dX0_sign_196 : decode cX0_sign 196 = .ok (.bipush 54, 2) := by decide +kernel
theorem dX0_sign_198 : decode cX0_sign 198 = .ok (.if_icmp .lt 13, 3) := by decide +kernel
theorem dX0_sign_211 : decode cX0_sign 211 = .ok (.iconst 0, 1) := by decide +kernel
theorem dX0_sign_212 : decode cX0_sign 212 = .ok (.istore 4, 2) := by decide +kernel
theorem dX0_sign_214 : decode cX0_sign 214 = .ok (.aload_n 0, 1) := by decide +kernel
theorem dX0_sign_215 : decode cX0_sign 215 = .ok (.bipush 10, 2) := by decide +kernel
theorem dX0_sign_217 : decode cX0_sign 217 = .ok (.iload_n 2, 1) := by decide +kernel
theorem dX0_sign_218 : decode cX0_sign 218 = .ok (.iload 4, 2) := by decide +kernel
theorem dX0_sign_220 : decode cX0_sign 220 = .ok (.ifCond .eq 8, 3) := by decide +kernel
theorem dX0_sign_228 : decode cX0_sign 228 = .ok (.bipush 60, 2) := by decide +kernel
theorem dX0_sign_230 : decode cX0_sign 230 = .ok (.invokevirtual 344, 3) := by decide +kernel
theorem dX0_sign_233 : decode cX0_sign 233 = .ok (.ireturn, 1) := by decide +kernel
theorem dX0_sign_201 : decode cX0_sign 201 = .ok (.iload_n 2, 1) := by decide +kernel
theorem dX0_sign_202 : decode cX0_sign 202 = .ok (.bipush 57, 2) := by decide +kernel
theorem dX0_sign_204 : decode cX0_sign 204 = .ok (.if_icmp .gt 7, 3) := by decide +kernel
theorem dX0_sign_207 : decode cX0_sign 207 = .ok (.iconst 1, 1) := by decide +kernel
theorem dX0_sign_208 : decode cX0_sign 208 = .ok (.goto 4, 3) := by decide +kernel
theorem dX0_sign_223 : decode cX0_sign 223 = .ok (.bipush 61, 2) := by decide +kernel
theorem dX0_sign_225 : decode cX0_sign 225 = .ok (.goto 5, 3) := by decide +kernel
theorem dX0_sign_68 : decode cX0_sign 68 = .ok (.aload_n 0, 1) := by decide +kernel
theorem dX0_sign_69 : decode cX0_sign 69 = .ok (.getfield 29, 3) := by decide +kernel
theorem dX0_sign_72 : decode cX0_sign 72 = .ok (.iload_n 3, 1) := by decide +kernel
theorem dX0_sign_73 : decode cX0_sign 73 = .ok (.aload_n 0, 1) := by decide +kernel
theorem dX0_sign_74 : decode cX0_sign 74 = .ok (.aload_n 1, 1) := by decide +kernel
theorem dX0_sign_75 : decode cX0_sign 75 = .ok (.getfield 202, 3) := by decide +kernel
theorem dX0_sign_78 : decode cX0_sign 78 = .ok (.invokevirtual 209, 3) := by decide +kernel
theorem dX0_sign_81 : decode cX0_sign 81 = .ok (.invokevirtual 376, 3) := by decide +kernel
theorem dX0_sign_84 : decode cX0_sign 84 = .ok (.bipush 63, 2) := by decide +kernel
theorem dX0_sign_86 : decode cX0_sign 86 = .ok (.if_icmp .ne 16, 3) := by decide +kernel
theorem dX0_sign_102 : decode cX0_sign 102 = .ok (.aload_n 0, 1) := by decide +kernel
theorem dX0_sign_103 : decode cX0_sign 103 = .ok (.bipush 10, 2) := by decide +kernel
theorem dX0_sign_105 : decode cX0_sign 105 = .ok (.iload_n 2, 1) := by decide +kernel
theorem dX0_sign_106 : decode cX0_sign 106 = .ok (.bipush 61, 2) := by decide +kernel
theorem dX0_sign_108 : decode cX0_sign 108 = .ok (.invokevirtual 344, 3) := by decide +kernel
theorem dX0_sign_111 : decode cX0_sign 111 = .ok (.ireturn, 1) := by decide +kernel
theorem dX0_sign_89 : decode cX0_sign 89 = .ok (.aload_n 0, 1) := by decide +kernel
theorem dX0_sign_90 : decode cX0_sign 90 = .ok (.getfield 9, 3) := by decide +kernel
theorem dX0_sign_93 : decode cX0_sign 93 = .ok (.bipush 11, 2) := by decide +kernel
theorem dX0_sign_95 : decode cX0_sign 95 = .ok (.aload_n 1, 1) := by decide +kernel
theorem dX0_sign_96 : decode cX0_sign 96 = .ok (.getfield 114, 3) := by decide +kernel
theorem dX0_sign_99 : decode cX0_sign 99 = .ok (.invokevirtual 136, 3) := by decide +kernel
section AR
variable {K K1 : PK} {g : Nat → Nat → Nat} {q f x : Nat} {o : Option Nat}
end AR
theorem dX0_arguments_0 : decode cX0_arguments 0 = .ok (.aload_n 2, 1) := by decide +kernel
theorem dX0_arguments_1 : decode cX0_arguments 1 = .ok (.ifnonnull 19, 3) := by decide +kernel
theorem dX0_arguments_4 : decode cX0_arguments 4 = .ok (.aload_n 0, 1) := by decide +kernel
theorem dX0_arguments_5 : decode cX0_arguments 5 = .ok (.getfield 9, 3) := by decide +kernel
theorem dX0_arguments_8 : decode cX0_arguments 8 = .ok (.bipush 10, 2) := by decide +kernel
theorem dX0_arguments_10 : decode cX0_arguments 10 = .ok (.aload_n 1, 1) := by decide +kernel
theorem dX0_arguments_11 : decode cX0_arguments 11 = .ok (.getfield 114, 3) := by decide +kernel
theorem dX0_arguments_14 : decode cX0_arguments 14 = .ok (.invokevirtual 136, 3) := by decide +kernel
set_option maxHeartbeats 6000000 in
set_option maxRecDepth 100000 in
theorem B_argumentsN (l : Launch) (G : pT) (h0 : Nat) (a : Nat → Nat) (F : Nat → Int32) (R : Nat → Value) (Z : Int64) (B : Nat → Nat → Int32) (J : Nat → Nat → Int64) (K : PK) (w : va_W) (q : Nat) (sz : Nat) (x1 : Int32) (x2 : Int32) (hsz : sz ≤ 5000) (hqT : K.1 q = 1) (hO : OKP G h0 a (upd F 2 (nI sz)) R Z B J K w) (hl0 : l.stackTraces = false) : PBn l G pX0 yX0_arguments cX0_arguments 7 (some .int) ({ frames := 7, cells := 1, slots := 6, locals := 122 }) [.ref (a 4), .ref q, .null, .int x1, .int x2] w (fun (v : Option Value) (u : va_W × (Unit)) => False) (fun u => u.1) (fun (u : va_W × (Unit)) => 0) (fun (u : va_W × (Unit)) => 0) (fun (u : va_W × (Nat → Int32) × (Nat → Value) × (Nat → Nat → Int32)) => ThQ G h0 a (upd F 2 (nI sz)) R Z B J u) (fun u => u.1) := by
  intro sz
  refine vx_ofW (cc := cX0_arguments) (maxL := 7) (ret := (some .int)) (by decide) rfl ?_
  intro p e s m args below meth c s₁ B9 hml hnt hv
  obtain ⟨rfl, hsz, hP, hD0, hE, hX⟩ := hv
  have hx := B9.exec
  have hb := B9.bytes
  have hr := B9.returns
  have hts := atoms_spec (ws := Cond.code yX0_arguments cX0_arguments 7 (some .int) :: pw) B9.pre
  have hq : ∀ w ∈ pw, w.before _ s = true := fun w h => hts w (List.mem_cons_of_mem _ h)
  have hown : s.vm.findClass RX0 = some m.cls := findClass_of_methodNamed B9.named
  have hlocks := B9.notSynchronized
  subst hsz
  have hD := hD0.self (sz := s.heap.size)
  have hA : ∀ q : Nat, s.heap.size ≤ q → va_A w s.heap.size q := fun q h => Or.inr h
  generalize va_A w s.heap.size = A at hD hE hA ⊢
  have hS : va_S A s.heap s.heap [] := va_S.rf
  have hl := lv_entry ([.ref (a 4), .ref q, .null, .int x1, .int x2]) (n := 7) (Nat.le_of_ble_eq_true rfl)
  rw [lg_entry_eq]
  generalize (lg_sl ([.ref (a 4), .ref q, .null, .int x1, .int x2]) ++ List.replicate (7 - (lg_sl ([.ref (a 4), .ref q, .null, .int x1, .int x2])).length) Slot.unset).toArray = ls at hl ⊢
  have hl : lv_has ls 7 [(0, .ref (a 4)), (1, .ref q), (2, .null), (3, .int x1), (4, .int x2)] := hl
  refine lv_aload_nN hx hb dX0_arguments_0 rfl (lv_at hl 2 rfl) ?_
  refine lv_ifnonnullN hx hb dX0_arguments_1 ?_
  refine lv_aload_n hx hb dX0_arguments_4 rfl (lv_at hl 0 rfl) ?_
  refine c_get (v := .ref (a 1)) (C := RX0) (Tc := TX0) (N := 13) (ci := 0) hx hb hq pin_wsX00 hown hE hP hO 24 (sg_24 G h0 a _ _ _ _ _) rfl 0 (by decide) (hq _ pw_4) (fun _ h9 => h9) rfl dX0_arguments_5 ?_
  refine lv_bipush (v := 10) hx hb dX0_arguments_8 (by decide) ?_
  refine lv_aload_n hx hb dX0_arguments_10 rfl (lv_at hl 1 rfl) ?_
  refine p_get (v := .int (K.2.1 1 q)) (C := RX7) (Tc := TX7) (N := 11) (ci := 13) hx hb hq pin_wsX70 hown hE hP hO (by rw [hqT]; decide) (rep_1 hqT) rfl 1 (by decide) (hq _ pw_81) (fun _ h9 => h9) rfl dX0_arguments_11 ?_
  have hO : OKW G h0 a (upd (upd F 2 (nI sz)) 2 (nI sz)) R Z B J K.1 (fun q99 x99 => x99 = rep G a K q99) w := hO.to rfl
  obtain ⟨_, qr4, hqr5⟩ := hO.2.1 2 _ (sg_2 G h0 a _ _ _ _ _)
  refine pn_V0 (G := G) (As := [.int 10, .int (K.2.1 1 q)]) (rest := []) hx hb hml hown hq hE hX pX0_al hP hD hS hA hl.1 (K_fail l G h0 a (upd F 2 (nI sz)) R Z B J K.1 (fun q99 x99 => x99 = rep G a K q99) w 10 (K.2.1 1 q) sz (by omega) hO hl0) (gV pw_64 pw_65 pw_66 pw_59 pw_43) hV_X10_fail qr4 7 hqr5 rfl rfl rfl (Nat.le_of_ble_eq_true rfl) dX0_arguments_14 ⟨(by show 0 + 1 ≤ 1; omega), (by show 0 + 6 ≤ 6; omega)⟩ ⟨Nat.le_of_ble_eq_true rfl, Nat.le_of_ble_eq_true rfl⟩ (fun v3 u1 H locs hw2 hP hD hS => hw2.elim) (fun ux ce9 q9 H9 locs9 hux hP9 hD9 hS9 hce hcv hcl => pb_out ux (ThQ.up (Thx.same Thx.rfl rfl) RhX.rfl hux) hnt hlocks hce hcv hcl hP9 hD9 hS9 (by show 0 + 1 ≤ 1; omega) (by show 0 + 6 ≤ 6; omega))
theorem dX0_arguments_20 : decode cX0_arguments 20 = .ok (.iconst 0, 1) := by decide +kernel
theorem dX0_arguments_21 : decode cX0_arguments 21 = .ok (.istore 5, 2) := by decide +kernel
theorem dX0_arguments_29 : decode cX0_arguments 29 = .ok (.aload 6, 2) := by decide +kernel
theorem dX0_arguments_31 : decode cX0_arguments 31 = .ok (.ifnull 79, 3) := by decide +kernel
theorem dX0_arguments_110 : decode cX0_arguments 110 = .ok (.iload 5, 2) := by decide +kernel
theorem dX0_arguments_112 : decode cX0_arguments 112 = .ok (.aload_n 2, 1) := by decide +kernel
theorem dX0_arguments_113 : decode cX0_arguments 113 = .ok (.getfield 109, 3) := by decide +kernel
theorem dX0_arguments_116 : decode cX0_arguments 116 = .ok (.invokevirtual 54, 3) := by decide +kernel
theorem dX0_arguments_119 : decode cX0_arguments 119 = .ok (.if_icmp .ge 16, 3) := by decide +kernel
theorem dX0_arguments_135 : decode cX0_arguments 135 = .ok (.aload_n 0, 1) := by decide +kernel
theorem dX0_arguments_136 : decode cX0_arguments 136 = .ok (.getfield 15, 3) := by decide +kernel
theorem dX0_arguments_139 : decode cX0_arguments 139 = .ok (.iload_n 3, 1) := by decide +kernel
theorem dX0_arguments_140 : decode cX0_arguments 140 = .ok (.iload 4, 2) := by decide +kernel
theorem dX0_arguments_142 : decode cX0_arguments 142 = .ok (.iload 5, 2) := by decide +kernel
theorem dX0_arguments_144 : decode cX0_arguments 144 = .ok (.invokevirtual 140, 3) := by decide +kernel
theorem dX0_arguments_147 : decode cX0_arguments 147 = .ok (.aload_n 2, 1) := by decide +kernel
theorem dX0_arguments_148 : decode cX0_arguments 148 = .ok (.getfield 130, 3) := by decide +kernel
theorem dX0_arguments_151 : decode cX0_arguments 151 = .ok (.ireturn, 1) := by decide +kernel
theorem dX0_arguments_122 : decode cX0_arguments 122 = .ok (.aload_n 0, 1) := by decide +kernel
theorem dX0_arguments_123 : decode cX0_arguments 123 = .ok (.getfield 9, 3) := by decide +kernel
theorem dX0_arguments_126 : decode cX0_arguments 126 = .ok (.bipush 12, 2) := by decide +kernel
theorem dX0_arguments_128 : decode cX0_arguments 128 = .ok (.aload_n 1, 1) := by decide +kernel
theorem dX0_arguments_129 : decode cX0_arguments 129 = .ok (.getfield 133, 3) := by decide +kernel
theorem dX0_arguments_132 : decode cX0_arguments 132 = .ok (.invokevirtual 136, 3) := by decide +kernel
theorem dX0_arguments_34 : decode cX0_arguments 34 = .ok (.iload 5, 2) := by decide +kernel
theorem dX0_arguments_36 : decode cX0_arguments 36 = .ok (.aload_n 2, 1) := by decide +kernel
theorem dX0_arguments_37 : decode cX0_arguments 37 = .ok (.getfield 109, 3) := by decide +kernel
theorem dX0_arguments_40 : decode cX0_arguments 40 = .ok (.invokevirtual 54, 3) := by decide +kernel
theorem dX0_arguments_43 : decode cX0_arguments 43 = .ok (.if_icmp .lt 20, 3) := by decide +kernel
theorem dX0_arguments_63 : decode cX0_arguments 63 = .ok (.aload_n 0, 1) := by decide +kernel
theorem dX0_arguments_64 : decode cX0_arguments 64 = .ok (.aload 6, 2) := by decide +kernel
theorem dX0_arguments_66 : decode cX0_arguments 66 = .ok (.aload_n 0, 1) := by decide +kernel
theorem dX0_arguments_67 : decode cX0_arguments 67 = .ok (.aload 6, 2) := by decide +kernel
theorem dX0_arguments_69 : decode cX0_arguments 69 = .ok (.invokevirtual 209, 3) := by decide +kernel
theorem dX0_arguments_72 : decode cX0_arguments 72 = .ok (.aload_n 0, 1) := by decide +kernel
theorem dX0_arguments_73 : decode cX0_arguments 73 = .ok (.getfield 9, 3) := by decide +kernel
theorem dX0_arguments_76 : decode cX0_arguments 76 = .ok (.aload_n 2, 1) := by decide +kernel
theorem dX0_arguments_77 : decode cX0_arguments 77 = .ok (.getfield 109, 3) := by decide +kernel
theorem dX0_arguments_80 : decode cX0_arguments 80 = .ok (.iload 5, 2) := by decide +kernel
theorem dX0_arguments_82 : decode cX0_arguments 82 = .ok (.invokevirtual 59, 3) := by decide +kernel
theorem dX0_arguments_85 : decode cX0_arguments 85 = .ok (.checkcast 112, 3) := by decide +kernel
theorem dX0_arguments_88 : decode cX0_arguments 88 = .ok (.getfield 117, 3) := by decide +kernel
theorem dX0_arguments_91 : decode cX0_arguments 91 = .ok (.invokevirtual 120, 3) := by decide +kernel
theorem dX0_arguments_94 : decode cX0_arguments 94 = .ok (.invokevirtual 213, 3) := by decide +kernel
theorem dX0_arguments_97 : decode cX0_arguments 97 = .ok (.iinc 5 1, 3) := by decide +kernel
theorem dX0_arguments_100 : decode cX0_arguments 100 = .ok (.aload 6, 2) := by decide +kernel
theorem dX0_arguments_102 : decode cX0_arguments 102 = .ok (.getfield 172, 3) := by decide +kernel
theorem dX0_arguments_105 : decode cX0_arguments 105 = .ok (.astore 6, 2) := by decide +kernel
theorem dX0_arguments_107 : decode cX0_arguments 107 = .ok (.goto (-78), 3) := by decide +kernel
theorem dX0_arguments_46 : decode cX0_arguments 46 = .ok (.aload_n 0, 1) := by decide +kernel
theorem dX0_arguments_47 : decode cX0_arguments 47 = .ok (.getfield 9, 3) := by decide +kernel
theorem dX0_arguments_50 : decode cX0_arguments 50 = .ok (.bipush 12, 2) := by decide +kernel
theorem dX0_arguments_52 : decode cX0_arguments 52 = .ok (.aload 6, 2) := by decide +kernel
theorem dX0_arguments_54 : decode cX0_arguments 54 = .ok (.getfield 117, 3) := by decide +kernel
theorem dX0_arguments_57 : decode cX0_arguments 57 = .ok (.invokevirtual 136, 3) := by decide +kernel
theorem dX0_arguments_23 : decode cX0_arguments 23 = .ok (.aload_n 1, 1) := by decide +kernel
theorem dX0_arguments_24 : decode cX0_arguments 24 = .ok (.getfield 202, 3) := by decide +kernel
theorem dX0_arguments_27 : decode cX0_arguments 27 = .ok (.astore 6, 2) := by decide +kernel
theorem dX0_call_0 : decode cX0_call 0 = .ok (.aload_n 0, 1) := by decide +kernel
theorem dX0_call_1 : decode cX0_call 1 = .ok (.getfield 69, 3) := by decide +kernel
theorem dX0_call_4 : decode cX0_call 4 = .ok (.getfield 229, 3) := by decide +kernel
theorem dX0_call_7 : decode cX0_call 7 = .ok (.astore_n 2, 1) := by decide +kernel
theorem dX0_call_8 : decode cX0_call 8 = .ok (.aload_n 1, 1) := by decide +kernel
theorem dX0_call_9 : decode cX0_call 9 = .ok (.getfield 165, 3) := by decide +kernel
theorem dX0_call_12 : decode cX0_call 12 = .ok (.ifnonnull 16, 3) := by decide +kernel
theorem dX0_call_15 : decode cX0_call 15 = .ok (.aload_n 0, 1) := by decide +kernel
theorem dX0_call_16 : decode cX0_call 16 = .ok (.getfield 15, 3) := by decide +kernel
theorem dX0_call_19 : decode cX0_call 19 = .ok (.iconst 2, 1) := by decide +kernel
theorem dX0_call_20 : decode cX0_call 20 = .ok (.iconst 0, 1) := by decide +kernel
theorem dX0_call_21 : decode cX0_call 21 = .ok (.iconst 0, 1) := by decide +kernel
theorem dX0_call_22 : decode cX0_call 22 = .ok (.invokevirtual 140, 3) := by decide +kernel
theorem dX0_call_25 : decode cX0_call 25 = .ok (.goto 39, 3) := by decide +kernel
theorem dX0_call_64 : decode cX0_call 64 = .ok (.aload_n 0, 1) := by decide +kernel
theorem dX0_call_65 : decode cX0_call 65 = .ok (.getfield 9, 3) := by decide +kernel
theorem dX0_call_68 : decode cX0_call 68 = .ok (.aload_n 1, 1) := by decide +kernel
theorem dX0_call_69 : decode cX0_call 69 = .ok (.getfield 114, 3) := by decide +kernel
theorem dX0_call_72 : decode cX0_call 72 = .ok (.invokevirtual 152, 3) := by decide +kernel
theorem dX0_call_75 : decode cX0_call 75 = .ok (.istore_n 3, 1) := by decide +kernel
theorem dX0_call_76 : decode cX0_call 76 = .ok (.aload_n 0, 1) := by decide +kernel
theorem dX0_call_77 : decode cX0_call 77 = .ok (.aload_n 1, 1) := by decide +kernel
theorem dX0_call_78 : decode cX0_call 78 = .ok (.aload_n 2, 1) := by decide +kernel
theorem dX0_call_79 : decode cX0_call 79 = .ok (.ifnonnull 7, 3) := by decide +kernel
theorem dX0_call_86 : decode cX0_call 86 = .ok (.aload_n 2, 1) := by decide +kernel
theorem dX0_call_87 : decode cX0_call 87 = .ok (.iload_n 3, 1) := by decide +kernel
theorem dX0_call_88 : decode cX0_call 88 = .ok (.invokevirtual 357, 3) := by decide +kernel
theorem dX0_call_91 : decode cX0_call 91 = .ok (.bipush 23, 2) := by decide +kernel
theorem dX0_call_93 : decode cX0_call 93 = .ok (.iload_n 3, 1) := by decide +kernel
theorem dX0_call_94 : decode cX0_call 94 = .ok (.invokevirtual 361, 3) := by decide +kernel
theorem dX0_call_97 : decode cX0_call 97 = .ok (.ireturn, 1) := by decide +kernel
theorem dX0_call_28 : decode cX0_call 28 = .ok (.aload_n 0, 1) := by decide +kernel
theorem dX0_call_29 : decode cX0_call 29 = .ok (.getfield 29, 3) := by decide +kernel
theorem dX0_call_32 : decode cX0_call 32 = .ok (.aload_n 0, 1) := by decide +kernel
theorem dX0_call_33 : decode cX0_call 33 = .ok (.aload_n 1, 1) := by decide +kernel
theorem dX0_call_34 : decode cX0_call 34 = .ok (.getfield 165, 3) := by decide +kernel
theorem dX0_call_37 : decode cX0_call 37 = .ok (.invokevirtual 209, 3) := by decide +kernel
theorem dX0_call_40 : decode cX0_call 40 = .ok (.invokevirtual 44, 3) := by decide +kernel
theorem dX0_call_43 : decode cX0_call 43 = .ok (.astore_n 2, 1) := by decide +kernel
theorem dX0_call_44 : decode cX0_call 44 = .ok (.aload_n 2, 1) := by decide +kernel
theorem dX0_call_45 : decode cX0_call 45 = .ok (.ifnonnull 19, 3) := by decide +kernel
theorem dX0_call_48 : decode cX0_call 48 = .ok (.aload_n 0, 1) := by decide +kernel
theorem dX0_call_49 : decode cX0_call 49 = .ok (.getfield 9, 3) := by decide +kernel
theorem dX0_call_52 : decode cX0_call 52 = .ok (.bipush 11, 2) := by decide +kernel
theorem dX0_call_54 : decode cX0_call 54 = .ok (.aload_n 1, 1) := by decide +kernel
theorem dX0_call_55 : decode cX0_call 55 = .ok (.getfield 165, 3) := by decide +kernel
theorem dX0_call_58 : decode cX0_call 58 = .ok (.getfield 117, 3) := by decide +kernel
theorem dX0_call_61 : decode cX0_call 61 = .ok (.invokevirtual 136, 3) := by decide +kernel
theorem hV_X0_arguments : yX0_arguments.cls = RX0 ∧ yX0_arguments.cls ≠ "java/lang/invoke/MethodHandle" ∧ yX0_arguments.cls ≠ "java/lang/invoke/VarHandle" ∧ (parseMethodDescriptor yX0_arguments.desc).map (fun d => d.parameters.length) = some 4 := by decide +kernel
theorem dX0_superCall_0 : decode cX0_superCall 0 = .ok (.aload_n 0, 1) := by decide +kernel
theorem dX0_superCall_1 : decode cX0_superCall 1 = .ok (.getfield 15, 3) := by decide +kernel
theorem dX0_superCall_4 : decode cX0_superCall 4 = .ok (.iconst 2, 1) := by decide +kernel
theorem dX0_superCall_5 : decode cX0_superCall 5 = .ok (.iconst 0, 1) := by decide +kernel
theorem dX0_superCall_6 : decode cX0_superCall 6 = .ok (.iconst 0, 1) := by decide +kernel
theorem dX0_superCall_7 : decode cX0_superCall 7 = .ok (.invokevirtual 140, 3) := by decide +kernel
theorem dX0_superCall_10 : decode cX0_superCall 10 = .ok (.aload_n 0, 1) := by decide +kernel
theorem dX0_superCall_11 : decode cX0_superCall 11 = .ok (.getfield 69, 3) := by decide +kernel
theorem dX0_superCall_14 : decode cX0_superCall 14 = .ok (.getfield 229, 3) := by decide +kernel
theorem dX0_superCall_17 : decode cX0_superCall 17 = .ok (.getfield 365, 3) := by decide +kernel
theorem dX0_superCall_20 : decode cX0_superCall 20 = .ok (.astore_n 2, 1) := by decide +kernel
theorem dX0_superCall_21 : decode cX0_superCall 21 = .ok (.aload_n 2, 1) := by decide +kernel
theorem dX0_superCall_22 : decode cX0_superCall 22 = .ok (.ifnonnull 7, 3) := by decide +kernel
theorem dX0_superCall_25 : decode cX0_superCall 25 = .ok (.aconst_null, 1) := by decide +kernel
theorem dX0_superCall_26 : decode cX0_superCall 26 = .ok (.goto 18, 3) := by decide +kernel
theorem dX0_superCall_44 : decode cX0_superCall 44 = .ok (.astore_n 3, 1) := by decide +kernel
theorem dX0_superCall_45 : decode cX0_superCall 45 = .ok (.aload_n 0, 1) := by decide +kernel
theorem dX0_superCall_46 : decode cX0_superCall 46 = .ok (.aload_n 1, 1) := by decide +kernel
theorem dX0_superCall_47 : decode cX0_superCall 47 = .ok (.aload_n 3, 1) := by decide +kernel
theorem dX0_superCall_48 : decode cX0_superCall 48 = .ok (.bipush 24, 2) := by decide +kernel
theorem dX0_superCall_50 : decode cX0_superCall 50 = .ok (.aload_n 3, 1) := by decide +kernel
theorem dX0_superCall_51 : decode cX0_superCall 51 = .ok (.ifnonnull 7, 3) := by decide +kernel
theorem dX0_superCall_54 : decode cX0_superCall 54 = .ok (.iconst (-1), 1) := by decide +kernel
theorem dX0_superCall_55 : decode cX0_superCall 55 = .ok (.goto 7, 3) := by decide +kernel
theorem dX0_superCall_62 : decode cX0_superCall 62 = .ok (.invokevirtual 361, 3) := by decide +kernel
theorem dX0_superCall_29 : decode cX0_superCall 29 = .ok (.aload_n 2, 1) := by decide +kernel
theorem dX0_superCall_30 : decode cX0_superCall 30 = .ok (.aload_n 0, 1) := by decide +kernel
theorem dX0_superCall_31 : decode cX0_superCall 31 = .ok (.getfield 9, 3) := by decide +kernel
theorem dX0_superCall_34 : decode cX0_superCall 34 = .ok (.aload_n 1, 1) := by decide +kernel
theorem dX0_superCall_35 : decode cX0_superCall 35 = .ok (.getfield 114, 3) := by decide +kernel
theorem dX0_superCall_38 : decode cX0_superCall 38 = .ok (.invokevirtual 152, 3) := by decide +kernel
theorem dX0_superCall_41 : decode cX0_superCall 41 = .ok (.invokevirtual 368, 3) := by decide +kernel
theorem dX0_superCall_58 : decode cX0_superCall 58 = .ok (.aload_n 3, 1) := by decide +kernel
theorem dX0_superCall_59 : decode cX0_superCall 59 = .ok (.getfield 371, 3) := by decide +kernel
theorem dX0_superCall_65 : decode cX0_superCall 65 = .ok (.ireturn, 1) := by decide +kernel
theorem dX0_value_0 : decode cX0_value 0 = .ok (.aload_n 1, 1) := by decide +kernel
theorem dX0_value_1 : decode cX0_value 1 = .ok (.getfield 178, 3) := by decide +kernel
theorem dX0_value_4 : decode cX0_value 4 = .ok (.tableswitch 288 1 20 #[105, 105, 288, 288, 279, 288, 96, 288, 270, 252, 261, 200, 243, 223, 162, 123, 171, 129, 191, 156], 96) := by decide +kernel
theorem dX0_value_109 : decode cX0_value 109 = .ok (.aload_n 0, 1) := by decide +kernel
theorem dX0_value_110 : decode cX0_value 110 = .ok (.aload_n 1, 1) := by decide +kernel
theorem dX0_value_111 : decode cX0_value 111 = .ok (.getfield 178, 3) := by decide +kernel
theorem dX0_value_114 : decode cX0_value 114 = .ok (.iconst 1, 1) := by decide +kernel
theorem dX0_value_115 : decode cX0_value 115 = .ok (.if_icmp .ne 7, 3) := by decide +kernel
theorem dX0_value_118 : decode cX0_value 118 = .ok (.iconst 1, 1) := by decide +kernel
theorem dX0_value_119 : decode cX0_value 119 = .ok (.goto 4, 3) := by decide +kernel
theorem dX0_value_123 : decode cX0_value 123 = .ok (.invokevirtual 299, 3) := by decide +kernel
theorem dX0_value_126 : decode cX0_value 126 = .ok (.ireturn, 1) := by decide +kernel
theorem dX0_value_122 : decode cX0_value 122 = .ok (.iconst 0, 1) := by decide +kernel
theorem dX0_value_292 : decode cX0_value 292 = .ok (.aload_n 0, 1) := by decide +kernel
theorem dX0_value_293 : decode cX0_value 293 = .ok (.aload_n 1, 1) := by decide +kernel
theorem dX0_value_294 : decode cX0_value 294 = .ok (.invokevirtual 341, 3) := by decide +kernel
theorem dX0_value_297 : decode cX0_value 297 = .ok (.istore_n 2, 1) := by decide +kernel
theorem dX0_value_298 : decode cX0_value 298 = .ok (.aload_n 0, 1) := by decide +kernel
theorem dX0_value_299 : decode cX0_value 299 = .ok (.aload_n 0, 1) := by decide +kernel
theorem dX0_value_300 : decode cX0_value 300 = .ok (.getfield 94, 3) := by decide +kernel
theorem dX0_value_303 : decode cX0_value 303 = .ok (.putfield 240, 3) := by decide +kernel
theorem dX0_value_306 : decode cX0_value 306 = .ok (.aload_n 0, 1) := by decide +kernel
theorem dX0_value_307 : decode cX0_value 307 = .ok (.aload_n 0, 1) := by decide +kernel
theorem dX0_value_308 : decode cX0_value 308 = .ok (.getfield 94, 3) := by decide +kernel
theorem dX0_value_311 : decode cX0_value 311 = .ok (.putfield 237, 3) := by decide +kernel
theorem dX0_value_314 : decode cX0_value 314 = .ok (.iload_n 2, 1) := by decide +kernel
theorem dX0_value_315 : decode cX0_value 315 = .ok (.ireturn, 1) := by decide +kernel
theorem dX0_value_283 : decode cX0_value 283 = .ok (.aload_n 0, 1) := by decide +kernel
theorem dX0_value_284 : decode cX0_value 284 = .ok (.aload_n 1, 1) := by decide +kernel
theorem dX0_value_285 : decode cX0_value 285 = .ok (.invokevirtual 338, 3) := by decide +kernel
theorem dX0_value_288 : decode cX0_value 288 = .ok (.istore_n 2, 1) := by decide +kernel
theorem dX0_value_289 : decode cX0_value 289 = .ok (.goto 9, 3) := by decide +kernel
theorem dX0_value_100 : decode cX0_value 100 = .ok (.aload_n 0, 1) := by decide +kernel
theorem dX0_value_101 : decode cX0_value 101 = .ok (.aload_n 1, 1) := by decide +kernel
theorem dX0_value_102 : decode cX0_value 102 = .ok (.getfield 165, 3) := by decide +kernel
theorem dX0_value_105 : decode cX0_value 105 = .ok (.invokevirtual 209, 3) := by decide +kernel
theorem dX0_value_108 : decode cX0_value 108 = .ok (.ireturn, 1) := by decide +kernel
theorem dX0_value_274 : decode cX0_value 274 = .ok (.aload_n 0, 1) := by decide +kernel
theorem dX0_value_275 : decode cX0_value 275 = .ok (.aload_n 1, 1) := by decide +kernel
theorem dX0_value_276 : decode cX0_value 276 = .ok (.invokevirtual 335, 3) := by decide +kernel
theorem dX0_value_279 : decode cX0_value 279 = .ok (.istore_n 2, 1) := by decide +kernel
theorem dX0_value_280 : decode cX0_value 280 = .ok (.goto 18, 3) := by decide +kernel
theorem dX0_value_256 : decode cX0_value 256 = .ok (.aload_n 0, 1) := by decide +kernel
theorem dX0_value_257 : decode cX0_value 257 = .ok (.aload_n 1, 1) := by decide +kernel
theorem dX0_value_258 : decode cX0_value 258 = .ok (.invokevirtual 329, 3) := by decide +kernel
theorem dX0_value_261 : decode cX0_value 261 = .ok (.istore_n 2, 1) := by decide +kernel
theorem dX0_value_262 : decode cX0_value 262 = .ok (.goto 36, 3) := by decide +kernel
theorem dX0_value_265 : decode cX0_value 265 = .ok (.aload_n 0, 1) := by decide +kernel
theorem dX0_value_266 : decode cX0_value 266 = .ok (.aload_n 1, 1) := by decide +kernel
theorem dX0_value_267 : decode cX0_value 267 = .ok (.invokevirtual 332, 3) := by decide +kernel
theorem dX0_value_270 : decode cX0_value 270 = .ok (.istore_n 2, 1) := by decide +kernel
theorem dX0_value_271 : decode cX0_value 271 = .ok (.goto 27, 3) := by decide +kernel
theorem dX0_value_204 : decode cX0_value 204 = .ok (.aload_n 0, 1) := by decide +kernel
theorem dX0_value_205 : decode cX0_value 205 = .ok (.aload_n 1, 1) := by decide +kernel
theorem dX0_value_206 : decode cX0_value 206 = .ok (.invokevirtual 223, 3) := by decide +kernel
theorem dX0_value_209 : decode cX0_value 209 = .ok (.istore_n 2, 1) := by decide +kernel
theorem dX0_value_210 : decode cX0_value 210 = .ok (.aload_n 0, 1) := by decide +kernel
theorem dX0_value_211 : decode cX0_value 211 = .ok (.getfield 15, 3) := by decide +kernel
theorem dX0_value_214 : decode cX0_value 214 = .ok (.bipush 17, 2) := by decide +kernel
theorem dX0_value_216 : decode cX0_value 216 = .ok (.aload_n 1, 1) := by decide +kernel
theorem dX0_value_217 : decode cX0_value 217 = .ok (.getfield 226, 3) := by decide +kernel
theorem dX0_value_220 : decode cX0_value 220 = .ok (.iconst 0, 1) := by decide +kernel
theorem dX0_value_221 : decode cX0_value 221 = .ok (.invokevirtual 140, 3) := by decide +kernel
theorem dX0_value_224 : decode cX0_value 224 = .ok (.goto 74, 3) := by decide +kernel
theorem dX0_value_247 : decode cX0_value 247 = .ok (.aload_n 0, 1) := by decide +kernel
theorem dX0_value_248 : decode cX0_value 248 = .ok (.aload_n 1, 1) := by decide +kernel
theorem dX0_value_249 : decode cX0_value 249 = .ok (.invokevirtual 326, 3) := by decide +kernel
theorem dX0_value_252 : decode cX0_value 252 = .ok (.istore_n 2, 1) := by decide +kernel
theorem dX0_value_253 : decode cX0_value 253 = .ok (.goto 45, 3) := by decide +kernel
theorem dX0_value_227 : decode cX0_value 227 = .ok (.aload_n 0, 1) := by decide +kernel
theorem dX0_value_228 : decode cX0_value 228 = .ok (.aload_n 1, 1) := by decide +kernel
theorem dX0_value_229 : decode cX0_value 229 = .ok (.invokevirtual 217, 3) := by decide +kernel
theorem dX0_value_232 : decode cX0_value 232 = .ok (.istore_n 2, 1) := by decide +kernel
theorem dX0_value_233 : decode cX0_value 233 = .ok (.aload_n 0, 1) := by decide +kernel
theorem dX0_value_234 : decode cX0_value 234 = .ok (.getfield 15, 3) := by decide +kernel
theorem dX0_value_237 : decode cX0_value 237 = .ok (.bipush 19, 2) := by decide +kernel
theorem dX0_value_239 : decode cX0_value 239 = .ok (.iconst 0, 1) := by decide +kernel
theorem dX0_value_240 : decode cX0_value 240 = .ok (.iconst 0, 1) := by decide +kernel
theorem dX0_value_241 : decode cX0_value 241 = .ok (.invokevirtual 140, 3) := by decide +kernel
theorem dX0_value_244 : decode cX0_value 244 = .ok (.goto 54, 3) := by decide +kernel
theorem dX0_value_166 : decode cX0_value 166 = .ok (.aload_n 0, 1) := by decide +kernel
theorem dX0_value_167 : decode cX0_value 167 = .ok (.aload_n 1, 1) := by decide +kernel
theorem dX0_value_168 : decode cX0_value 168 = .ok (.invokevirtual 316, 3) := by decide +kernel
theorem dX0_value_171 : decode cX0_value 171 = .ok (.istore_n 2, 1) := by decide +kernel
theorem dX0_value_172 : decode cX0_value 172 = .ok (.goto 126, 3) := by decide +kernel
theorem dX0_value_127 : decode cX0_value 127 = .ok (.aload_n 0, 1) := by decide +kernel
theorem dX0_value_128 : decode cX0_value 128 = .ok (.aload_n 1, 1) := by decide +kernel
theorem dX0_value_129 : decode cX0_value 129 = .ok (.invokevirtual 303, 3) := by decide +kernel
theorem dX0_value_132 : decode cX0_value 132 = .ok (.ireturn, 1) := by decide +kernel
theorem dX0_value_175 : decode cX0_value 175 = .ok (.aload_n 0, 1) := by decide +kernel
theorem dX0_value_176 : decode cX0_value 176 = .ok (.aload_n 1, 1) := by decide +kernel
theorem dX0_value_177 : decode cX0_value 177 = .ok (.aload_n 0, 1) := by decide +kernel
theorem dX0_value_178 : decode cX0_value 178 = .ok (.getfield 9, 3) := by decide +kernel
theorem dX0_value_181 : decode cX0_value 181 = .ok (.aload_n 1, 1) := by decide +kernel
theorem dX0_value_182 : decode cX0_value 182 = .ok (.getfield 114, 3) := by decide +kernel
theorem dX0_value_185 : decode cX0_value 185 = .ok (.invokevirtual 306, 3) := by decide +kernel
theorem dX0_value_188 : decode cX0_value 188 = .ok (.invokevirtual 319, 3) := by decide +kernel
theorem dX0_value_191 : decode cX0_value 191 = .ok (.istore_n 2, 1) := by decide +kernel
theorem dX0_value_192 : decode cX0_value 192 = .ok (.goto 106, 3) := by decide +kernel
theorem dX0_value_133 : decode cX0_value 133 = .ok (.aload_n 0, 1) := by decide +kernel
theorem dX0_value_134 : decode cX0_value 134 = .ok (.aload_n 1, 1) := by decide +kernel
theorem dX0_value_135 : decode cX0_value 135 = .ok (.aload_n 0, 1) := by decide +kernel
theorem dX0_value_136 : decode cX0_value 136 = .ok (.getfield 9, 3) := by decide +kernel
theorem dX0_value_139 : decode cX0_value 139 = .ok (.aload_n 1, 1) := by decide +kernel
theorem dX0_value_140 : decode cX0_value 140 = .ok (.getfield 114, 3) := by decide +kernel
theorem dX0_value_143 : decode cX0_value 143 = .ok (.invokevirtual 306, 3) := by decide +kernel
theorem dX0_value_146 : decode cX0_value 146 = .ok (.bipush 60, 2) := by decide +kernel
theorem dX0_value_148 : decode cX0_value 148 = .ok (.if_icmp .ne 7, 3) := by decide +kernel
theorem dX0_value_155 : decode cX0_value 155 = .ok (.iconst 0, 1) := by decide +kernel
theorem dX0_value_156 : decode cX0_value 156 = .ok (.invokevirtual 309, 3) := by decide +kernel
theorem dX0_value_159 : decode cX0_value 159 = .ok (.ireturn, 1) := by decide +kernel
theorem dX0_value_151 : decode cX0_value 151 = .ok (.iconst 1, 1) := by decide +kernel
theorem dX0_value_152 : decode cX0_value 152 = .ok (.goto 4, 3) := by decide +kernel
theorem dX0_value_195 : decode cX0_value 195 = .ok (.aload_n 0, 1) := by decide +kernel
theorem dX0_value_196 : decode cX0_value 196 = .ok (.aload_n 1, 1) := by decide +kernel
theorem dX0_value_197 : decode cX0_value 197 = .ok (.invokevirtual 323, 3) := by decide +kernel
theorem dX0_value_200 : decode cX0_value 200 = .ok (.istore_n 2, 1) := by decide +kernel
theorem dX0_value_201 : decode cX0_value 201 = .ok (.goto 97, 3) := by decide +kernel
theorem dX0_value_160 : decode cX0_value 160 = .ok (.aload_n 0, 1) := by decide +kernel
theorem dX0_value_161 : decode cX0_value 161 = .ok (.aload_n 1, 1) := by decide +kernel
theorem dX0_value_162 : decode cX0_value 162 = .ok (.invokevirtual 313, 3) := by decide +kernel
theorem dX0_value_165 : decode cX0_value 165 = .ok (.ireturn, 1) := by decide +kernel
theorem hV_X0_truth : yX0_truth.cls = RX0 ∧ yX0_truth.cls ≠ "java/lang/invoke/MethodHandle" ∧ yX0_truth.cls ≠ "java/lang/invoke/VarHandle" ∧ (parseMethodDescriptor yX0_truth.desc).map (fun d => d.parameters.length) = some 1 := by decide +kernel
theorem hV_X0_single : yX0_single.cls = RX0 ∧ yX0_single.cls ≠ "java/lang/invoke/MethodHandle" ∧ yX0_single.cls ≠ "java/lang/invoke/VarHandle" ∧ (parseMethodDescriptor yX0_single.desc).map (fun d => d.parameters.length) = some 1 := by decide +kernel
theorem hV_X0_variableValue : yX0_variableValue.cls = RX0 ∧ yX0_variableValue.cls ≠ "java/lang/invoke/MethodHandle" ∧ yX0_variableValue.cls ≠ "java/lang/invoke/VarHandle" ∧ (parseMethodDescriptor yX0_variableValue.desc).map (fun d => d.parameters.length) = some 1 := by decide +kernel
theorem hV_X0_newArray : yX0_newArray.cls = RX0 ∧ yX0_newArray.cls ≠ "java/lang/invoke/MethodHandle" ∧ yX0_newArray.cls ≠ "java/lang/invoke/VarHandle" ∧ (parseMethodDescriptor yX0_newArray.desc).map (fun d => d.parameters.length) = some 1 := by decide +kernel
theorem hV_X0_call : yX0_call.cls = RX0 ∧ yX0_call.cls ≠ "java/lang/invoke/MethodHandle" ∧ yX0_call.cls ≠ "java/lang/invoke/VarHandle" ∧ (parseMethodDescriptor yX0_call.desc).map (fun d => d.parameters.length) = some 1 := by decide +kernel
theorem hV_X0_superCall : yX0_superCall.cls = RX0 ∧ yX0_superCall.cls ≠ "java/lang/invoke/MethodHandle" ∧ yX0_superCall.cls ≠ "java/lang/invoke/VarHandle" ∧ (parseMethodDescriptor yX0_superCall.desc).map (fun d => d.parameters.length) = some 1 := by decide +kernel
theorem hV_X0_fieldBehind : yX0_fieldBehind.cls = RX0 ∧ yX0_fieldBehind.cls ≠ "java/lang/invoke/MethodHandle" ∧ yX0_fieldBehind.cls ≠ "java/lang/invoke/VarHandle" ∧ (parseMethodDescriptor yX0_fieldBehind.desc).map (fun d => d.parameters.length) = some 1 := by decide +kernel
theorem hV_X0_length : yX0_length.cls = RX0 ∧ yX0_length.cls ≠ "java/lang/invoke/MethodHandle" ∧ yX0_length.cls ≠ "java/lang/invoke/VarHandle" ∧ (parseMethodDescriptor yX0_length.desc).map (fun d => d.parameters.length) = some 1 := by decide +kernel
theorem hV_X0_element : yX0_element.cls = RX0 ∧ yX0_element.cls ≠ "java/lang/invoke/MethodHandle" ∧ yX0_element.cls ≠ "java/lang/invoke/VarHandle" ∧ (parseMethodDescriptor yX0_element.desc).map (fun d => d.parameters.length) = some 1 := by decide +kernel
theorem hV_X0_prefix : yX0_prefix.cls = RX0 ∧ yX0_prefix.cls ≠ "java/lang/invoke/MethodHandle" ∧ yX0_prefix.cls ≠ "java/lang/invoke/VarHandle" ∧ (parseMethodDescriptor yX0_prefix.desc).map (fun d => d.parameters.length) = some 1 := by decide +kernel
theorem hV_X0_negation : yX0_negation.cls = RX0 ∧ yX0_negation.cls ≠ "java/lang/invoke/MethodHandle" ∧ yX0_negation.cls ≠ "java/lang/invoke/VarHandle" ∧ (parseMethodDescriptor yX0_negation.desc).map (fun d => d.parameters.length) = some 1 := by decide +kernel
theorem hV_X0_sign : yX0_sign.cls = RX0 ∧ yX0_sign.cls ≠ "java/lang/invoke/MethodHandle" ∧ yX0_sign.cls ≠ "java/lang/invoke/VarHandle" ∧ (parseMethodDescriptor yX0_sign.desc).map (fun d => d.parameters.length) = some 2 := by decide +kernel
theorem hV_X0_shortened : yX0_shortened.cls = RX0 ∧ yX0_shortened.cls ≠ "java/lang/invoke/MethodHandle" ∧ yX0_shortened.cls ≠ "java/lang/invoke/VarHandle" ∧ (parseMethodDescriptor yX0_shortened.desc).map (fun d => d.parameters.length) = some 2 := by decide +kernel
theorem hV_X0_check : yX0_check.cls = RX0 ∧ yX0_check.cls ≠ "java/lang/invoke/MethodHandle" ∧ yX0_check.cls ≠ "java/lang/invoke/VarHandle" ∧ (parseMethodDescriptor yX0_check.desc).map (fun d => d.parameters.length) = some 1 := by decide +kernel
theorem hV_X0_choice : yX0_choice.cls = RX0 ∧ yX0_choice.cls ≠ "java/lang/invoke/MethodHandle" ∧ yX0_choice.cls ≠ "java/lang/invoke/VarHandle" ∧ (parseMethodDescriptor yX0_choice.desc).map (fun d => d.parameters.length) = some 1 := by decide +kernel
def PlK (x : Int32) : Prop := x = 5 ∨ x = 12 ∨ x = 14
/-- a Loop, or nothing -/
def LpO (K : PK) (o : Option Nat) : Prop := ∀ x : Nat, o = some x → K.1 x = 9
theorem LpO.be {K K1 : PK} {o : Option Nat} (hb : BdE K K1) (h : LpO K o) : LpO K1 o := fun x hx => hb.T (h x hx) (by decide)
theorem dX0_local_0 : decode cX0_local 0 = .ok (.aload_n 0, 1) := by decide +kernel
theorem dX0_local_1 : decode cX0_local 1 = .ok (.getfield 9, 3) := by decide +kernel
theorem dX0_local_4 : decode cX0_local 4 = .ok (.aload_n 1, 1) := by decide +kernel
theorem dX0_local_5 : decode cX0_local 5 = .ok (.getfield 117, 3) := by decide +kernel
theorem dX0_local_8 : decode cX0_local 8 = .ok (.invokevirtual 120, 3) := by decide +kernel
theorem dX0_local_11 : decode cX0_local 11 = .ok (.istore_n 2, 1) := by decide +kernel
theorem dX0_local_12 : decode cX0_local 12 = .ok (.aload_n 0, 1) := by decide +kernel
theorem dX0_local_13 : decode cX0_local 13 = .ok (.aload_n 1, 1) := by decide +kernel
theorem dX0_local_14 : decode cX0_local 14 = .ok (.getfield 114, 3) := by decide +kernel
theorem dX0_local_17 : decode cX0_local 17 = .ok (.iload_n 2, 1) := by decide +kernel
theorem dX0_local_18 : decode cX0_local 18 = .ok (.invokevirtual 126, 3) := by decide +kernel
theorem dX0_local_21 : decode cX0_local 21 = .ok (.istore_n 3, 1) := by decide +kernel
theorem dX0_local_22 : decode cX0_local 22 = .ok (.aload_n 0, 1) := by decide +kernel
theorem dX0_local_23 : decode cX0_local 23 = .ok (.getfield 26, 3) := by decide +kernel
theorem dX0_local_26 : decode cX0_local 26 = .ok (.iload_n 3, 1) := by decide +kernel
theorem dX0_local_27 : decode cX0_local 27 = .ok (.iaload, 1) := by decide +kernel
theorem dX0_local_28 : decode cX0_local 28 = .ok (.istore 4, 2) := by decide +kernel
theorem dX0_local_30 : decode cX0_local 30 = .ok (.aload_n 0, 1) := by decide +kernel
theorem dX0_local_31 : decode cX0_local 31 = .ok (.getfield 15, 3) := by decide +kernel
theorem dX0_local_34 : decode cX0_local 34 = .ok (.iconst 4, 1) := by decide +kernel
theorem dX0_local_35 : decode cX0_local 35 = .ok (.iload 4, 2) := by decide +kernel
theorem dX0_local_37 : decode cX0_local 37 = .ok (.iconst 0, 1) := by decide +kernel
theorem dX0_local_38 : decode cX0_local 38 = .ok (.invokevirtual 140, 3) := by decide +kernel
theorem dX0_local_41 : decode cX0_local 41 = .ok (.aload_n 1, 1) := by decide +kernel
theorem dX0_local_42 : decode cX0_local 42 = .ok (.getfield 165, 3) := by decide +kernel
theorem dX0_local_45 : decode cX0_local 45 = .ok (.ifnull 43, 3) := by decide +kernel
theorem dX0_local_88 : decode cX0_local 88 = .ok (.return_, 1) := by decide +kernel
theorem dX0_local_48 : decode cX0_local 48 = .ok (.aload_n 0, 1) := by decide +kernel
theorem dX0_local_49 : decode cX0_local 49 = .ok (.aload_n 1, 1) := by decide +kernel
theorem dX0_local_50 : decode cX0_local 50 = .ok (.getfield 165, 3) := by decide +kernel
theorem dX0_local_53 : decode cX0_local 53 = .ok (.aload_n 0, 1) := by decide +kernel
theorem dX0_local_54 : decode cX0_local 54 = .ok (.aload_n 1, 1) := by decide +kernel
theorem dX0_local_55 : decode cX0_local 55 = .ok (.getfield 165, 3) := by decide +kernel
theorem dX0_local_58 : decode cX0_local 58 = .ok (.invokevirtual 209, 3) := by decide +kernel
theorem dX0_local_61 : decode cX0_local 61 = .ok (.iload_n 2, 1) := by decide +kernel
theorem dX0_local_62 : decode cX0_local 62 = .ok (.invokevirtual 213, 3) := by decide +kernel
theorem dX0_local_65 : decode cX0_local 65 = .ok (.aload_n 0, 1) := by decide +kernel
theorem dX0_local_66 : decode cX0_local 66 = .ok (.getfield 15, 3) := by decide +kernel
theorem dX0_local_69 : decode cX0_local 69 = .ok (.iconst 3, 1) := by decide +kernel
theorem dX0_local_70 : decode cX0_local 70 = .ok (.iload 4, 2) := by decide +kernel
theorem dX0_local_72 : decode cX0_local 72 = .ok (.iconst 0, 1) := by decide +kernel
theorem dX0_local_73 : decode cX0_local 73 = .ok (.invokevirtual 140, 3) := by decide +kernel
theorem dX0_local_76 : decode cX0_local 76 = .ok (.aload_n 0, 1) := by decide +kernel
theorem dX0_local_77 : decode cX0_local 77 = .ok (.dup, 1) := by decide +kernel
theorem dX0_local_78 : decode cX0_local 78 = .ok (.getfield 94, 3) := by decide +kernel
theorem dX0_local_81 : decode cX0_local 81 = .ok (.iconst 1, 1) := by decide +kernel
theorem dX0_local_82 : decode cX0_local 82 = .ok (.iload_n 3, 1) := by decide +kernel
theorem dX0_local_83 : decode cX0_local 83 = .ok (.ishl, 1) := by decide +kernel
theorem dX0_local_84 : decode cX0_local 84 = .ok (.ior, 1) := by decide +kernel
theorem dX0_local_85 : decode cX0_local 85 = .ok (.putfield 94, 3) := by decide +kernel
theorem hV_X0_declare : yX0_declare.cls = RX0 ∧ yX0_declare.cls ≠ "java/lang/invoke/MethodHandle" ∧ yX0_declare.cls ≠ "java/lang/invoke/VarHandle" ∧ (parseMethodDescriptor yX0_declare.desc).map (fun d => d.parameters.length) = some 2 := by decide +kernel
theorem dX0_throwStatement_0 : decode cX0_throwStatement 0 = .ok (.aload_n 0, 1) := by decide +kernel
theorem dX0_throwStatement_1 : decode cX0_throwStatement 1 = .ok (.getfield 29, 3) := by decide +kernel
theorem dX0_throwStatement_4 : decode cX0_throwStatement 4 = .ok (.aload_n 0, 1) := by decide +kernel
theorem dX0_throwStatement_5 : decode cX0_throwStatement 5 = .ok (.aload_n 1, 1) := by decide +kernel
theorem dX0_throwStatement_6 : decode cX0_throwStatement 6 = .ok (.getfield 165, 3) := by decide +kernel
theorem dX0_throwStatement_9 : decode cX0_throwStatement 9 = .ok (.invokevirtual 209, 3) := by decide +kernel
theorem dX0_throwStatement_12 : decode cX0_throwStatement 12 = .ok (.invokevirtual 44, 3) := by decide +kernel
theorem dX0_throwStatement_15 : decode cX0_throwStatement 15 = .ok (.astore_n 2, 1) := by decide +kernel
theorem dX0_throwStatement_16 : decode cX0_throwStatement 16 = .ok (.aload_n 2, 1) := by decide +kernel
theorem dX0_throwStatement_17 : decode cX0_throwStatement 17 = .ok (.ifnull 10, 3) := by decide +kernel
theorem dX0_throwStatement_27 : decode cX0_throwStatement 27 = .ok (.aload_n 0, 1) := by decide +kernel
theorem dX0_throwStatement_28 : decode cX0_throwStatement 28 = .ok (.getfield 9, 3) := by decide +kernel
theorem dX0_throwStatement_31 : decode cX0_throwStatement 31 = .ok (.bipush 11, 2) := by decide +kernel
theorem dX0_throwStatement_33 : decode cX0_throwStatement 33 = .ok (.aload_n 1, 1) := by decide +kernel
theorem dX0_throwStatement_34 : decode cX0_throwStatement 34 = .ok (.getfield 165, 3) := by decide +kernel
theorem dX0_throwStatement_37 : decode cX0_throwStatement 37 = .ok (.getfield 117, 3) := by decide +kernel
theorem dX0_throwStatement_40 : decode cX0_throwStatement 40 = .ok (.invokevirtual 136, 3) := by decide +kernel
theorem dX0_throwStatement_20 : decode cX0_throwStatement 20 = .ok (.aload_n 2, 1) := by decide +kernel
theorem dX0_throwStatement_21 : decode cX0_throwStatement 21 = .ok (.getfield 280, 3) := by decide +kernel
theorem dX0_throwStatement_24 : decode cX0_throwStatement 24 = .ok (.ifCond .eq 19, 3) := by decide +kernel
theorem dX0_throwStatement_43 : decode cX0_throwStatement 43 = .ok (.aload_n 0, 1) := by decide +kernel
theorem dX0_throwStatement_44 : decode cX0_throwStatement 44 = .ok (.getfield 15, 3) := by decide +kernel
theorem dX0_throwStatement_47 : decode cX0_throwStatement 47 = .ok (.bipush 25, 2) := by decide +kernel
theorem dX0_throwStatement_49 : decode cX0_throwStatement 49 = .ok (.iconst 0, 1) := by decide +kernel
theorem dX0_throwStatement_50 : decode cX0_throwStatement 50 = .ok (.iconst 0, 1) := by decide +kernel
theorem dX0_throwStatement_51 : decode cX0_throwStatement 51 = .ok (.invokevirtual 140, 3) := by decide +kernel
theorem dX0_throwStatement_54 : decode cX0_throwStatement 54 = .ok (.aload_n 0, 1) := by decide +kernel
theorem dX0_throwStatement_55 : decode cX0_throwStatement 55 = .ok (.iconst (-1), 1) := by decide +kernel
theorem dX0_throwStatement_56 : decode cX0_throwStatement 56 = .ok (.putfield 94, 3) := by decide +kernel
theorem dX0_throwStatement_59 : decode cX0_throwStatement 59 = .ok (.return_, 1) := by decide +kernel
theorem dX0_returnStatement_0 : decode cX0_returnStatement 0 = .ok (.aload_n 1, 1) := by decide +kernel
theorem dX0_returnStatement_1 : decode cX0_returnStatement 1 = .ok (.getfield 165, 3) := by decide +kernel
theorem dX0_returnStatement_4 : decode cX0_returnStatement 4 = .ok (.ifnull 29, 3) := by decide +kernel
theorem dX0_returnStatement_33 : decode cX0_returnStatement 33 = .ok (.aload_n 0, 1) := by decide +kernel
theorem dX0_returnStatement_34 : decode cX0_returnStatement 34 = .ok (.getfield 69, 3) := by decide +kernel
theorem dX0_returnStatement_37 : decode cX0_returnStatement 37 = .ok (.getfield 130, 3) := by decide +kernel
theorem dX0_returnStatement_40 : decode cX0_returnStatement 40 = .ok (.bipush 63, 2) := by decide +kernel
theorem dX0_returnStatement_42 : decode cX0_returnStatement 42 = .ok (.if_icmp .eq 16, 3) := by decide +kernel
theorem dX0_returnStatement_58 : decode cX0_returnStatement 58 = .ok (.aload_n 0, 1) := by decide +kernel
theorem dX0_returnStatement_59 : decode cX0_returnStatement 59 = .ok (.getfield 15, 3) := by decide +kernel
theorem dX0_returnStatement_62 : decode cX0_returnStatement 62 = .ok (.aload_n 1, 1) := by decide +kernel
theorem dX0_returnStatement_63 : decode cX0_returnStatement 63 = .ok (.getfield 165, 3) := by decide +kernel
theorem dX0_returnStatement_66 : decode cX0_returnStatement 66 = .ok (.ifnonnull 8, 3) := by decide +kernel
theorem dX0_returnStatement_69 : decode cX0_returnStatement 69 = .ok (.bipush 26, 2) := by decide +kernel
theorem dX0_returnStatement_71 : decode cX0_returnStatement 71 = .ok (.goto 5, 3) := by decide +kernel
theorem dX0_returnStatement_76 : decode cX0_returnStatement 76 = .ok (.iconst 0, 1) := by decide +kernel
theorem dX0_returnStatement_77 : decode cX0_returnStatement 77 = .ok (.iconst 0, 1) := by decide +kernel
theorem dX0_returnStatement_78 : decode cX0_returnStatement 78 = .ok (.invokevirtual 140, 3) := by decide +kernel
theorem dX0_returnStatement_81 : decode cX0_returnStatement 81 = .ok (.aload_n 0, 1) := by decide +kernel
theorem dX0_returnStatement_82 : decode cX0_returnStatement 82 = .ok (.iconst (-1), 1) := by decide +kernel
theorem dX0_returnStatement_83 : decode cX0_returnStatement 83 = .ok (.putfield 94, 3) := by decide +kernel
theorem dX0_returnStatement_86 : decode cX0_returnStatement 86 = .ok (.return_, 1) := by decide +kernel
theorem dX0_returnStatement_45 : decode cX0_returnStatement 45 = .ok (.aload_n 0, 1) := by decide +kernel
theorem dX0_returnStatement_46 : decode cX0_returnStatement 46 = .ok (.getfield 9, 3) := by decide +kernel
theorem dX0_returnStatement_49 : decode cX0_returnStatement 49 = .ok (.bipush 11, 2) := by decide +kernel
theorem dX0_returnStatement_51 : decode cX0_returnStatement 51 = .ok (.aload_n 1, 1) := by decide +kernel
theorem dX0_returnStatement_52 : decode cX0_returnStatement 52 = .ok (.getfield 114, 3) := by decide +kernel
theorem dX0_returnStatement_55 : decode cX0_returnStatement 55 = .ok (.invokevirtual 136, 3) := by decide +kernel
theorem dX0_returnStatement_7 : decode cX0_returnStatement 7 = .ok (.aload_n 0, 1) := by decide +kernel
theorem dX0_returnStatement_8 : decode cX0_returnStatement 8 = .ok (.aload_n 1, 1) := by decide +kernel
theorem dX0_returnStatement_9 : decode cX0_returnStatement 9 = .ok (.getfield 165, 3) := by decide +kernel
theorem dX0_returnStatement_12 : decode cX0_returnStatement 12 = .ok (.aload_n 0, 1) := by decide +kernel
theorem dX0_returnStatement_13 : decode cX0_returnStatement 13 = .ok (.aload_n 1, 1) := by decide +kernel
theorem dX0_returnStatement_14 : decode cX0_returnStatement 14 = .ok (.getfield 165, 3) := by decide +kernel
theorem dX0_returnStatement_17 : decode cX0_returnStatement 17 = .ok (.invokevirtual 209, 3) := by decide +kernel
theorem dX0_returnStatement_20 : decode cX0_returnStatement 20 = .ok (.aload_n 0, 1) := by decide +kernel
theorem dX0_returnStatement_21 : decode cX0_returnStatement 21 = .ok (.getfield 69, 3) := by decide +kernel
theorem dX0_returnStatement_24 : decode cX0_returnStatement 24 = .ok (.getfield 130, 3) := by decide +kernel
theorem dX0_returnStatement_27 : decode cX0_returnStatement 27 = .ok (.invokevirtual 213, 3) := by decide +kernel
theorem dX0_returnStatement_30 : decode cX0_returnStatement 30 = .ok (.goto 28, 3) := by decide +kernel
theorem dX0_returnStatement_74 : decode cX0_returnStatement 74 = .ok (.bipush 27, 2) := by decide +kernel
theorem dX0_assign_0 : decode cX0_assign 0 = .ok (.aload_n 1, 1) := by decide +kernel
theorem dX0_assign_1 : decode cX0_assign 1 = .ok (.getfield 178, 3) := by decide +kernel
theorem dX0_assign_4 : decode cX0_assign 4 = .ok (.iconst 5, 1) := by decide +kernel
theorem dX0_assign_5 : decode cX0_assign 5 = .ok (.if_icmp .ne 21, 3) := by decide +kernel
theorem dX0_assign_26 : decode cX0_assign 26 = .ok (.iconst (-1), 1) := by decide +kernel
theorem dX0_assign_27 : decode cX0_assign 27 = .ok (.istore_n 3, 1) := by decide +kernel
theorem dX0_assign_28 : decode cX0_assign 28 = .ok (.iload_n 3, 1) := by decide +kernel
theorem dX0_assign_29 : decode cX0_assign 29 = .ok (.iconst (-1), 1) := by decide +kernel
theorem dX0_assign_30 : decode cX0_assign 30 = .ok (.if_icmp .eq 49, 3) := by decide +kernel
theorem dX0_assign_79 : decode cX0_assign 79 = .ok (.aload_n 1, 1) := by decide +kernel
theorem dX0_assign_80 : decode cX0_assign 80 = .ok (.getfield 178, 3) := by decide +kernel
theorem dX0_assign_83 : decode cX0_assign 83 = .ok (.bipush 14, 2) := by decide +kernel
theorem dX0_assign_85 : decode cX0_assign 85 = .ok (.if_icmp .ne 36, 3) := by decide +kernel
theorem dX0_assign_121 : decode cX0_assign 121 = .ok (.aload_n 1, 1) := by decide +kernel
theorem dX0_assign_122 : decode cX0_assign 122 = .ok (.getfield 178, 3) := by decide +kernel
theorem dX0_assign_125 : decode cX0_assign 125 = .ok (.iconst 5, 1) := by decide +kernel
theorem dX0_assign_126 : decode cX0_assign 126 = .ok (.if_icmp .ne 11, 3) := by decide +kernel
theorem dX0_assign_137 : decode cX0_assign 137 = .ok (.aload_n 0, 1) := by decide +kernel
theorem dX0_assign_138 : decode cX0_assign 138 = .ok (.aload_n 1, 1) := by decide +kernel
theorem dX0_assign_139 : decode cX0_assign 139 = .ok (.invokevirtual 223, 3) := by decide +kernel
theorem dX0_assign_142 : decode cX0_assign 142 = .ok (.istore 4, 2) := by decide +kernel
theorem dX0_assign_144 : decode cX0_assign 144 = .ok (.aload_n 0, 1) := by decide +kernel
theorem dX0_assign_145 : decode cX0_assign 145 = .ok (.aload_n 2, 1) := by decide +kernel
theorem dX0_assign_146 : decode cX0_assign 146 = .ok (.aload_n 0, 1) := by decide +kernel
theorem dX0_assign_147 : decode cX0_assign 147 = .ok (.aload_n 2, 1) := by decide +kernel
theorem dX0_assign_148 : decode cX0_assign 148 = .ok (.invokevirtual 209, 3) := by decide +kernel
theorem dX0_assign_151 : decode cX0_assign 151 = .ok (.iload 4, 2) := by decide +kernel
theorem dX0_assign_153 : decode cX0_assign 153 = .ok (.invokevirtual 213, 3) := by decide +kernel
theorem dX0_assign_156 : decode cX0_assign 156 = .ok (.aload_n 0, 1) := by decide +kernel
theorem dX0_assign_157 : decode cX0_assign 157 = .ok (.getfield 15, 3) := by decide +kernel
theorem dX0_assign_160 : decode cX0_assign 160 = .ok (.bipush 18, 2) := by decide +kernel
theorem dX0_assign_162 : decode cX0_assign 162 = .ok (.aload_n 1, 1) := by decide +kernel
theorem dX0_assign_163 : decode cX0_assign 163 = .ok (.getfield 226, 3) := by decide +kernel
theorem dX0_assign_166 : decode cX0_assign 166 = .ok (.iconst 0, 1) := by decide +kernel
theorem dX0_assign_167 : decode cX0_assign 167 = .ok (.invokevirtual 140, 3) := by decide +kernel
theorem dX0_assign_170 : decode cX0_assign 170 = .ok (.return_, 1) := by decide +kernel
theorem dX0_assign_129 : decode cX0_assign 129 = .ok (.aload_n 0, 1) := by decide +kernel
theorem dX0_assign_130 : decode cX0_assign 130 = .ok (.aload_n 1, 1) := by decide +kernel
theorem dX0_assign_131 : decode cX0_assign 131 = .ok (.invokevirtual 220, 3) := by decide +kernel
theorem dX0_assign_134 : decode cX0_assign 134 = .ok (.goto 8, 3) := by decide +kernel
theorem dX0_assign_88 : decode cX0_assign 88 = .ok (.aload_n 0, 1) := by decide +kernel
theorem dX0_assign_89 : decode cX0_assign 89 = .ok (.aload_n 1, 1) := by decide +kernel
theorem dX0_assign_90 : decode cX0_assign 90 = .ok (.invokevirtual 217, 3) := by decide +kernel
theorem dX0_assign_93 : decode cX0_assign 93 = .ok (.istore 4, 2) := by decide +kernel
theorem dX0_assign_95 : decode cX0_assign 95 = .ok (.aload_n 0, 1) := by decide +kernel
theorem dX0_assign_96 : decode cX0_assign 96 = .ok (.aload_n 2, 1) := by decide +kernel
theorem dX0_assign_97 : decode cX0_assign 97 = .ok (.aload_n 0, 1) := by decide +kernel
theorem dX0_assign_98 : decode cX0_assign 98 = .ok (.aload_n 2, 1) := by decide +kernel
theorem dX0_assign_99 : decode cX0_assign 99 = .ok (.invokevirtual 209, 3) := by decide +kernel
theorem dX0_assign_102 : decode cX0_assign 102 = .ok (.iload 4, 2) := by decide +kernel
theorem dX0_assign_104 : decode cX0_assign 104 = .ok (.invokevirtual 213, 3) := by decide +kernel
theorem dX0_assign_107 : decode cX0_assign 107 = .ok (.aload_n 0, 1) := by decide +kernel
theorem dX0_assign_108 : decode cX0_assign 108 = .ok (.getfield 15, 3) := by decide +kernel
theorem dX0_assign_111 : decode cX0_assign 111 = .ok (.bipush 20, 2) := by decide +kernel
theorem dX0_assign_113 : decode cX0_assign 113 = .ok (.iconst 0, 1) := by decide +kernel
theorem dX0_assign_114 : decode cX0_assign 114 = .ok (.iconst 0, 1) := by decide +kernel
theorem dX0_assign_115 : decode cX0_assign 115 = .ok (.invokevirtual 140, 3) := by decide +kernel
theorem dX0_assign_118 : decode cX0_assign 118 = .ok (.goto 52, 3) := by decide +kernel
theorem dX0_assign_8 : decode cX0_assign 8 = .ok (.aload_n 0, 1) := by decide +kernel
theorem dX0_assign_9 : decode cX0_assign 9 = .ok (.aload_n 0, 1) := by decide +kernel
theorem dX0_assign_10 : decode cX0_assign 10 = .ok (.getfield 9, 3) := by decide +kernel
theorem dX0_assign_13 : decode cX0_assign 13 = .ok (.aload_n 1, 1) := by decide +kernel
theorem dX0_assign_14 : decode cX0_assign 14 = .ok (.getfield 114, 3) := by decide +kernel
theorem dX0_assign_17 : decode cX0_assign 17 = .ok (.invokevirtual 152, 3) := by decide +kernel
theorem dX0_assign_20 : decode cX0_assign 20 = .ok (.invokevirtual 155, 3) := by decide +kernel
theorem dX0_assign_23 : decode cX0_assign 23 = .ok (.goto 4, 3) := by decide +kernel
theorem dX0_assign_33 : decode cX0_assign 33 = .ok (.aload_n 0, 1) := by decide +kernel
theorem dX0_assign_34 : decode cX0_assign 34 = .ok (.aload_n 2, 1) := by decide +kernel
theorem dX0_assign_35 : decode cX0_assign 35 = .ok (.aload_n 0, 1) := by decide +kernel
theorem dX0_assign_36 : decode cX0_assign 36 = .ok (.aload_n 2, 1) := by decide +kernel
theorem dX0_assign_37 : decode cX0_assign 37 = .ok (.invokevirtual 209, 3) := by decide +kernel
theorem dX0_assign_40 : decode cX0_assign 40 = .ok (.aload_n 0, 1) := by decide +kernel
theorem dX0_assign_41 : decode cX0_assign 41 = .ok (.getfield 23, 3) := by decide +kernel
theorem dX0_assign_44 : decode cX0_assign 44 = .ok (.iload_n 3, 1) := by decide +kernel
theorem dX0_assign_45 : decode cX0_assign 45 = .ok (.iaload, 1) := by decide +kernel
theorem dX0_assign_46 : decode cX0_assign 46 = .ok (.invokevirtual 213, 3) := by decide +kernel
theorem dX0_assign_49 : decode cX0_assign 49 = .ok (.aload_n 0, 1) := by decide +kernel
theorem dX0_assign_50 : decode cX0_assign 50 = .ok (.getfield 15, 3) := by decide +kernel
theorem dX0_assign_53 : decode cX0_assign 53 = .ok (.iconst 3, 1) := by decide +kernel
theorem dX0_assign_54 : decode cX0_assign 54 = .ok (.aload_n 0, 1) := by decide +kernel
theorem dX0_assign_55 : decode cX0_assign 55 = .ok (.getfield 26, 3) := by decide +kernel
theorem dX0_assign_58 : decode cX0_assign 58 = .ok (.iload_n 3, 1) := by decide +kernel
theorem dX0_assign_59 : decode cX0_assign 59 = .ok (.iaload, 1) := by decide +kernel
theorem dX0_assign_60 : decode cX0_assign 60 = .ok (.iconst 0, 1) := by decide +kernel
theorem dX0_assign_61 : decode cX0_assign 61 = .ok (.invokevirtual 140, 3) := by decide +kernel
theorem dX0_assign_64 : decode cX0_assign 64 = .ok (.aload_n 0, 1) := by decide +kernel
theorem dX0_assign_65 : decode cX0_assign 65 = .ok (.dup, 1) := by decide +kernel
theorem dX0_assign_66 : decode cX0_assign 66 = .ok (.getfield 94, 3) := by decide +kernel
theorem dX0_assign_69 : decode cX0_assign 69 = .ok (.iconst 1, 1) := by decide +kernel
theorem dX0_assign_70 : decode cX0_assign 70 = .ok (.iload_n 3, 1) := by decide +kernel
theorem dX0_assign_71 : decode cX0_assign 71 = .ok (.ishl, 1) := by decide +kernel
theorem dX0_assign_72 : decode cX0_assign 72 = .ok (.ior, 1) := by decide +kernel
theorem dX0_assign_73 : decode cX0_assign 73 = .ok (.putfield 94, 3) := by decide +kernel
theorem dX0_assign_76 : decode cX0_assign 76 = .ok (.goto 94, 3) := by decide +kernel
theorem hV_X0_ownField : yX0_ownField.cls = RX0 ∧ yX0_ownField.cls ≠ "java/lang/invoke/MethodHandle" ∧ yX0_ownField.cls ≠ "java/lang/invoke/VarHandle" ∧ (parseMethodDescriptor yX0_ownField.desc).map (fun d => d.parameters.length) = some 1 := by decide +kernel
theorem dX0_loopCondition_0 : decode cX0_loopCondition 0 = .ok (.aload_n 1, 1) := by decide +kernel
theorem dX0_loopCondition_1 : decode cX0_loopCondition 1 = .ok (.ifnonnull 18, 3) := by decide +kernel
theorem dX0_loopCondition_4 : decode cX0_loopCondition 4 = .ok (.aload_n 0, 1) := by decide +kernel
theorem dX0_loopCondition_5 : decode cX0_loopCondition 5 = .ok (.aload_n 0, 1) := by decide +kernel
theorem dX0_loopCondition_6 : decode cX0_loopCondition 6 = .ok (.getfield 94, 3) := by decide +kernel
theorem dX0_loopCondition_9 : decode cX0_loopCondition 9 = .ok (.putfield 240, 3) := by decide +kernel
theorem dX0_loopCondition_12 : decode cX0_loopCondition 12 = .ok (.aload_n 0, 1) := by decide +kernel
theorem dX0_loopCondition_13 : decode cX0_loopCondition 13 = .ok (.iconst (-1), 1) := by decide +kernel
theorem dX0_loopCondition_14 : decode cX0_loopCondition 14 = .ok (.putfield 237, 3) := by decide +kernel
theorem dX0_loopCondition_17 : decode cX0_loopCondition 17 = .ok (.iconst (-1), 1) := by decide +kernel
theorem dX0_loopCondition_18 : decode cX0_loopCondition 18 = .ok (.ireturn, 1) := by decide +kernel
theorem dX0_loopCondition_19 : decode cX0_loopCondition 19 = .ok (.aload_n 0, 1) := by decide +kernel
theorem dX0_loopCondition_20 : decode cX0_loopCondition 20 = .ok (.aload_n 1, 1) := by decide +kernel
theorem dX0_loopCondition_21 : decode cX0_loopCondition 21 = .ok (.aload_n 0, 1) := by decide +kernel
theorem dX0_loopCondition_22 : decode cX0_loopCondition 22 = .ok (.aload_n 1, 1) := by decide +kernel
theorem dX0_loopCondition_23 : decode cX0_loopCondition 23 = .ok (.invokevirtual 209, 3) := by decide +kernel
theorem dX0_loopCondition_26 : decode cX0_loopCondition 26 = .ok (.bipush 61, 2) := by decide +kernel
theorem dX0_loopCondition_28 : decode cX0_loopCondition 28 = .ok (.invokevirtual 213, 3) := by decide +kernel
theorem dX0_loopCondition_31 : decode cX0_loopCondition 31 = .ok (.aload_n 0, 1) := by decide +kernel
theorem dX0_loopCondition_32 : decode cX0_loopCondition 32 = .ok (.getfield 15, 3) := by decide +kernel
theorem dX0_loopCondition_35 : decode cX0_loopCondition 35 = .ok (.bipush 7, 2) := by decide +kernel
theorem dX0_loopCondition_37 : decode cX0_loopCondition 37 = .ok (.iconst (-1), 1) := by decide +kernel
theorem dX0_loopCondition_38 : decode cX0_loopCondition 38 = .ok (.iconst 0, 1) := by decide +kernel
theorem dX0_loopCondition_39 : decode cX0_loopCondition 39 = .ok (.invokevirtual 243, 3) := by decide +kernel
theorem dX0_loopCondition_42 : decode cX0_loopCondition 42 = .ok (.ireturn, 1) := by decide +kernel
theorem dX0_jumpStatement_0 : decode cX0_jumpStatement 0 = .ok (.aload_n 0, 1) := by decide +kernel
theorem dX0_jumpStatement_1 : decode cX0_jumpStatement 1 = .ok (.getfield 84, 3) := by decide +kernel
theorem dX0_jumpStatement_4 : decode cX0_jumpStatement 4 = .ok (.ifnonnull 17, 3) := by decide +kernel
theorem dX0_jumpStatement_7 : decode cX0_jumpStatement 7 = .ok (.aload_n 0, 1) := by decide +kernel
theorem dX0_jumpStatement_8 : decode cX0_jumpStatement 8 = .ok (.getfield 9, 3) := by decide +kernel
theorem dX0_jumpStatement_11 : decode cX0_jumpStatement 11 = .ok (.bipush 14, 2) := by decide +kernel
theorem dX0_jumpStatement_13 : decode cX0_jumpStatement 13 = .ok (.aload_n 1, 1) := by decide +kernel
theorem dX0_jumpStatement_14 : decode cX0_jumpStatement 14 = .ok (.getfield 114, 3) := by decide +kernel
theorem dX0_jumpStatement_17 : decode cX0_jumpStatement 17 = .ok (.invokevirtual 136, 3) := by decide +kernel
theorem dX0_jumpStatement_21 : decode cX0_jumpStatement 21 = .ok (.aload_n 0, 1) := by decide +kernel
theorem dX0_jumpStatement_22 : decode cX0_jumpStatement 22 = .ok (.getfield 88, 3) := by decide +kernel
theorem dX0_jumpStatement_25 : decode cX0_jumpStatement 25 = .ok (.aload_n 0, 1) := by decide +kernel
theorem dX0_jumpStatement_26 : decode cX0_jumpStatement 26 = .ok (.getfield 84, 3) := by decide +kernel
theorem dX0_jumpStatement_29 : decode cX0_jumpStatement 29 = .ok (.getfield 279, 3) := by decide +kernel
theorem dX0_jumpStatement_32 : decode cX0_jumpStatement 32 = .ok (.if_icmp .le 8, 3) := by decide +kernel
theorem dX0_jumpStatement_40 : decode cX0_jumpStatement 40 = .ok (.bipush 6, 2) := by decide +kernel
theorem dX0_jumpStatement_42 : decode cX0_jumpStatement 42 = .ok (.istore_n 2, 1) := by decide +kernel
theorem dX0_jumpStatement_43 : decode cX0_jumpStatement 43 = .ok (.aload_n 1, 1) := by decide +kernel
theorem dX0_jumpStatement_44 : decode cX0_jumpStatement 44 = .ok (.getfield 178, 3) := by decide +kernel
theorem dX0_jumpStatement_47 : decode cX0_jumpStatement 47 = .ok (.bipush 29, 2) := by decide +kernel
theorem dX0_jumpStatement_49 : decode cX0_jumpStatement 49 = .ok (.if_icmp .ne 45, 3) := by decide +kernel
theorem dX0_jumpStatement_94 : decode cX0_jumpStatement 94 = .ok (.aload_n 0, 1) := by decide +kernel
theorem dX0_jumpStatement_95 : decode cX0_jumpStatement 95 = .ok (.getfield 84, 3) := by decide +kernel
theorem dX0_jumpStatement_98 : decode cX0_jumpStatement 98 = .ok (.aload_n 0, 1) := by decide +kernel
theorem dX0_jumpStatement_99 : decode cX0_jumpStatement 99 = .ok (.getfield 15, 3) := by decide +kernel
theorem dX0_jumpStatement_102 : decode cX0_jumpStatement 102 = .ok (.iload_n 2, 1) := by decide +kernel
theorem dX0_jumpStatement_103 : decode cX0_jumpStatement 103 = .ok (.aload_n 0, 1) := by decide +kernel
theorem dX0_jumpStatement_104 : decode cX0_jumpStatement 104 = .ok (.getfield 84, 3) := by decide +kernel
theorem dX0_jumpStatement_107 : decode cX0_jumpStatement 107 = .ok (.getfield 264, 3) := by decide +kernel
theorem dX0_jumpStatement_110 : decode cX0_jumpStatement 110 = .ok (.iconst 0, 1) := by decide +kernel
theorem dX0_jumpStatement_111 : decode cX0_jumpStatement 111 = .ok (.invokevirtual 243, 3) := by decide +kernel
theorem dX0_jumpStatement_114 : decode cX0_jumpStatement 114 = .ok (.putfield 264, 3) := by decide +kernel
theorem dX0_jumpStatement_117 : decode cX0_jumpStatement 117 = .ok (.aload_n 0, 1) := by decide +kernel
theorem dX0_jumpStatement_118 : decode cX0_jumpStatement 118 = .ok (.getfield 84, 3) := by decide +kernel
theorem dX0_jumpStatement_121 : decode cX0_jumpStatement 121 = .ok (.dup, 1) := by decide +kernel
theorem dX0_jumpStatement_122 : decode cX0_jumpStatement 122 = .ok (.getfield 267, 3) := by decide +kernel
theorem dX0_jumpStatement_125 : decode cX0_jumpStatement 125 = .ok (.aload_n 0, 1) := by decide +kernel
theorem dX0_jumpStatement_126 : decode cX0_jumpStatement 126 = .ok (.getfield 94, 3) := by decide +kernel
theorem dX0_jumpStatement_129 : decode cX0_jumpStatement 129 = .ok (.iand, 1) := by decide +kernel
theorem dX0_jumpStatement_130 : decode cX0_jumpStatement 130 = .ok (.putfield 267, 3) := by decide +kernel
theorem dX0_jumpStatement_133 : decode cX0_jumpStatement 133 = .ok (.aload_n 0, 1) := by decide +kernel
theorem dX0_jumpStatement_134 : decode cX0_jumpStatement 134 = .ok (.iconst (-1), 1) := by decide +kernel
theorem dX0_jumpStatement_135 : decode cX0_jumpStatement 135 = .ok (.putfield 94, 3) := by decide +kernel
theorem dX0_jumpStatement_138 : decode cX0_jumpStatement 138 = .ok (.return_, 1) := by decide +kernel
theorem dX0_jumpStatement_52 : decode cX0_jumpStatement 52 = .ok (.aload_n 0, 1) := by decide +kernel
theorem dX0_jumpStatement_53 : decode cX0_jumpStatement 53 = .ok (.getfield 84, 3) := by decide +kernel
theorem dX0_jumpStatement_56 : decode cX0_jumpStatement 56 = .ok (.aload_n 0, 1) := by decide +kernel
theorem dX0_jumpStatement_57 : decode cX0_jumpStatement 57 = .ok (.getfield 15, 3) := by decide +kernel
theorem dX0_jumpStatement_60 : decode cX0_jumpStatement 60 = .ok (.iload_n 2, 1) := by decide +kernel
theorem dX0_jumpStatement_61 : decode cX0_jumpStatement 61 = .ok (.aload_n 0, 1) := by decide +kernel
theorem dX0_jumpStatement_62 : decode cX0_jumpStatement 62 = .ok (.getfield 84, 3) := by decide +kernel
theorem dX0_jumpStatement_65 : decode cX0_jumpStatement 65 = .ok (.getfield 270, 3) := by decide +kernel
theorem dX0_jumpStatement_68 : decode cX0_jumpStatement 68 = .ok (.iconst 0, 1) := by decide +kernel
theorem dX0_jumpStatement_69 : decode cX0_jumpStatement 69 = .ok (.invokevirtual 243, 3) := by decide +kernel
theorem dX0_jumpStatement_72 : decode cX0_jumpStatement 72 = .ok (.putfield 270, 3) := by decide +kernel
theorem dX0_jumpStatement_75 : decode cX0_jumpStatement 75 = .ok (.aload_n 0, 1) := by decide +kernel
theorem dX0_jumpStatement_76 : decode cX0_jumpStatement 76 = .ok (.getfield 84, 3) := by decide +kernel
theorem dX0_jumpStatement_79 : decode cX0_jumpStatement 79 = .ok (.dup, 1) := by decide +kernel
theorem dX0_jumpStatement_80 : decode cX0_jumpStatement 80 = .ok (.getfield 273, 3) := by decide +kernel
theorem dX0_jumpStatement_83 : decode cX0_jumpStatement 83 = .ok (.aload_n 0, 1) := by decide +kernel
theorem dX0_jumpStatement_84 : decode cX0_jumpStatement 84 = .ok (.getfield 94, 3) := by decide +kernel
theorem dX0_jumpStatement_87 : decode cX0_jumpStatement 87 = .ok (.iand, 1) := by decide +kernel
theorem dX0_jumpStatement_88 : decode cX0_jumpStatement 88 = .ok (.putfield 273, 3) := by decide +kernel
theorem dX0_jumpStatement_91 : decode cX0_jumpStatement 91 = .ok (.goto 42, 3) := by decide +kernel
theorem dX0_jumpStatement_35 : decode cX0_jumpStatement 35 = .ok (.bipush 28, 2) := by decide +kernel
theorem dX0_jumpStatement_37 : decode cX0_jumpStatement 37 = .ok (.goto 5, 3) := by decide +kernel
section IV
variable {K K1 : PK} {g : Nat → Nat → Nat} {q x o n t f : Nat} {ob : Option Nat}
theorem NdO.it (h : NdO K g q) : rS (g 2 q) ≤ rM (g 2 q) ∧ rM (g 2 q) ≤ rN (g 2 q) ∧ rN (g 2 q) ≤ rE (g 2 q) := ⟨h.2.2.2.1.1.2.1, h.2.2.2.1.1.2.2.1, h.2.2.2.1.1.2.2.2.1⟩
theorem NdO.one (h : NdO K g q) : rS (g 2 q) + 1 ≤ rE (g 2 q) := h.2.2.2.1.1.2.2.2.2
theorem NdO.kv (h : NdO K g q) (hf : f ≤ 3) (e : K.2.2.1 f q = some x) : Kiv (K.2.1 0 q) f (g 2 q) (g 2 x) (K.2.1 0 x) := (h.2.1 f x hf e).2.2.2.2.2.2.2
def LpK (x : Int32) : Prop := x = 26 ∨ x = 27
theorem NdO.iv32a (h : NdO K g q) (hk : K.2.1 0 q = 32) (e : K.2.2.1 0 q = some x) : rS (g 2 q) ≤ rS (g 2 x) ∧ rE (g 2 x) ≤ rM (g 2 q) := by
  have z := (h.kv (by decide) e).2.2.2.2.2.2.2.2.2.2.2.2.2.2.2.2.2.2.1 hk rfl
  exact ⟨by omega, by omega⟩
theorem NdO.iv32c (h : NdO K g q) (hk : K.2.1 0 q = 32) (e : K.2.2.1 2 q = some x) : rN (g 2 q) ≤ rS (g 2 x) ∧ rE (g 2 x) ≤ rE (g 2 q) := by
  have z := (h.kv (by decide) e).2.2.2.2.2.2.2.2.2.2.2.2.2.2.2.2.2.2.2.1 hk rfl
  exact ⟨by omega, by omega⟩
theorem NdO.k32 (h : NdO K g q) (hk : K.2.1 0 q = 32) (hf : f ≤ 3) (h1 : ¬ f = 1) (e : K.2.2.1 f q = some x) : K.2.1 0 x = 21 := (h.2.1 f x hf e).2.2.2.2.1 hk h1
theorem NdO.k35 (h : NdO K g q) (hk : K.2.1 0 q = 35) (hf : f ≤ 3) (e : K.2.2.1 f q = some x) : K.2.1 0 x = 21 := (h.2.1 f x hf e).2.2.2.2.2.1 hk
theorem NdO.k23 (h : NdO K g q) (hk : K.2.1 0 q = 23) (e : K.2.2.1 0 q = some x) : PlK (K.2.1 0 x) := (h.2.1 0 x (by decide) e).2.2.2.2.2.2.1 hk rfl
/-- an E, or nothing -/
def KvO (K : PK) (g : Nat → Nat → Nat) (o : Option Nat) (n : Nat) : Prop := ∀ x : Nat, o = some x → K.1 x = 1 ∧ 1 ≤ g 0 x ∧ g 0 x ≤ n
theorem KvO.of (h : NdO K g q) (hf : f ≤ 3) (e : K.2.2.1 f q = ob) (hn : g 0 q ≤ n) : KvO K g ob n := fun x hx => by
  obtain ⟨h1, h2, h3, h4⟩ := h.2.1 f x hf (e.trans hx)
  exact ⟨h1, h2, by omega⟩
/-- the next member of q's list, or nothing: it begins at t or later -/
def MmO (K : PK) (g : Nat → Nat → Nat) (q : Nat) (o : Option Nat) (t k : Nat) : Prop := ∀ x : Nat, o = some x → K.1 x = 1 ∧ 1 ≤ g 0 x ∧ g 0 x + 1 ≤ g 0 q ∧ g 1 x = q + 1 ∧ t ≤ rS (g 2 x) ∧ k ≤ g 2 x
theorem MmO.first21 (h : WN K g) (hT : K.1 q = 1) (hl : 1 ≤ g 0 q) (hk : K.2.1 0 q = 21) (ho : K.2.2.1 0 q = ob) : MmO K g q ob (rS (g 2 q) + 1) 0 := fun x hx => by
  obtain ⟨h1, h2, h3, h4, h5⟩ := (h q hT hl).2.1 0 x (by decide) (ho.trans hx)
  have e := h4 (Or.inl ⟨hk, rfl⟩)
  exact ⟨h1, h2, h3, e, (((h x h1 h2).2.2.2.2 q e).2.2.2 hl).1 hk |>.1, Nat.zero_le _⟩
theorem MmO.first32 (h : WN K g) (hT : K.1 q = 1) (hl : 1 ≤ g 0 q) (hk : K.2.1 0 q = 32) (ho : K.2.2.1 1 q = ob) : MmO K g q ob (rM (g 2 q)) 0 := fun x hx => by
  obtain ⟨h1, h2, h3, h4, h5⟩ := (h q hT hl).2.1 1 x (by decide) (ho.trans hx)
  have e := h4 (Or.inr ⟨Or.inr (Or.inr hk), rfl⟩)
  exact ⟨h1, h2, h3, e, (((h x h1 h2).2.2.2.2 q e).2.2.2 hl).2.1 hk |>.1, Nat.zero_le _⟩
theorem MmO.next (h : WN K g) (hl : 1 ≤ g 0 q) (hT : K.1 x = 1) (h1 : 1 ≤ g 0 x) (hg : g 1 x = q + 1) (ho : K.2.2.1 4 x = ob) : MmO K g q ob (rE (g 2 x)) (g 2 x + 1) := fun y hy => by
  obtain ⟨k1, k2, k3, k4, k5, k6⟩ := (h x hT h1).2.2.1 y (ho.trans hy)
  have e : g 1 y = q + 1 := k3.trans hg
  exact ⟨k1, k2, ((h y k1 k2).2.2.2.2 q e).2.1 hl, e, k6, k4⟩
/-- where a member ends, and how late it is -/
theorem MmO.end21 (h : WN K g) (hl : 1 ≤ g 0 q) (hk : K.2.1 0 q = 21) (hT : K.1 x = 1) (h1 : 1 ≤ g 0 x) (hg : g 1 x = q + 1) : rE (g 2 x) + 1 ≤ rE (g 2 q) ∧ rS (g 2 x) ≤ rE (g 2 x) ∧ g 2 x ≤ 1000000000000000000000000 := by
  have a := (h x hT h1).2.2.2
  have b := (((a.2 q hg).2.2.2 hl).1 hk).2.1
  have c := a.1.1
  exact ⟨b, by have z := c.2; omega, c.1⟩
theorem MmO.end32 (h : WN K g) (hl : 1 ≤ g 0 q) (hk : K.2.1 0 q = 32) (hT : K.1 x = 1) (h1 : 1 ≤ g 0 x) (hg : g 1 x = q + 1) : rE (g 2 x) ≤ rN (g 2 q) ∧ rS (g 2 x) ≤ rE (g 2 x) ∧ g 2 x ≤ 1000000000000000000000000 ∧ K.2.1 0 x = 35 := by
  have a := (h x hT h1).2.2.2
  have b := (((a.2 q hg).2.2.2 hl).2.1 hk).2.1
  have c := a.1.1
  exact ⟨b, by have z := c.2; omega, c.1, (a.2 q hg).2.2.1 hk⟩
theorem BdE.loop {x1 : Int32} (hq : K.1 q = 0) : BdE K (_root_.Jvm.Pilot.@@N@@.kI (_root_.Jvm.Pilot.@@N@@.kI (_root_.Jvm.Pilot.@@N@@.kI (_root_.Jvm.Pilot.@@N@@.kI (_root_.Jvm.Pilot.@@N@@.kI (kC (kN K q 9 0) 16 q ob) 26 q x1) 27 q (-1)) 28 q (-1)) 29 q (-1)) 30 q (-1)) := ⟨fun p hp => by
  have hn : ¬ p = q := fun z => hp (by rw [z]; exact hq)
  exact ⟨if_neg hn, fun f _ => (kI_ne hn).trans ((kI_ne hn).trans ((kI_ne hn).trans ((kI_ne hn).trans ((kI_ne hn).trans (if_neg hn))))), fun f => (kC_ne hn).trans (if_neg hn), if_neg hn, if_neg hn, if_neg hn⟩, fun p hp => by
  by_cases e : p = q
  · exact Or.inr (if_pos e)
  · exact Or.inl ((if_neg e).trans hp)⟩
end IV
theorem dX0_block_0 : decode cX0_block 0 = .ok (.aload_n 0, 1) := by decide +kernel
theorem dX0_block_1 : decode cX0_block 1 = .ok (.getfield 91, 3) := by decide +kernel
theorem dX0_block_4 : decode cX0_block 4 = .ok (.istore_n 2, 1) := by decide +kernel
theorem dX0_block_5 : decode cX0_block 5 = .ok (.aload_n 0, 1) := by decide +kernel
theorem dX0_block_6 : decode cX0_block 6 = .ok (.getfield 15, 3) := by decide +kernel
theorem dX0_block_9 : decode cX0_block 9 = .ok (.getfield 158, 3) := by decide +kernel
theorem dX0_block_12 : decode cX0_block 12 = .ok (.istore_n 3, 1) := by decide +kernel
theorem dX0_block_19 : decode cX0_block 19 = .ok (.aload 4, 2) := by decide +kernel
theorem dX0_block_21 : decode cX0_block 21 = .ok (.ifnull 20, 3) := by decide +kernel
theorem dX0_block_41 : decode cX0_block 41 = .ok (.aload_n 0, 1) := by decide +kernel
theorem dX0_block_42 : decode cX0_block 42 = .ok (.iload_n 2, 1) := by decide +kernel
theorem dX0_block_43 : decode cX0_block 43 = .ok (.iload_n 3, 1) := by decide +kernel
theorem dX0_block_44 : decode cX0_block 44 = .ok (.invokevirtual 175, 3) := by decide +kernel
theorem dX0_block_47 : decode cX0_block 47 = .ok (.return_, 1) := by decide +kernel
theorem dX0_block_24 : decode cX0_block 24 = .ok (.aload_n 0, 1) := by decide +kernel
theorem dX0_block_25 : decode cX0_block 25 = .ok (.aload 4, 2) := by decide +kernel
theorem dX0_block_27 : decode cX0_block 27 = .ok (.iconst 1, 1) := by decide +kernel
theorem dX0_block_28 : decode cX0_block 28 = .ok (.invokevirtual 168, 3) := by decide +kernel
theorem dX0_block_31 : decode cX0_block 31 = .ok (.aload 4, 2) := by decide +kernel
theorem dX0_block_33 : decode cX0_block 33 = .ok (.getfield 172, 3) := by decide +kernel
theorem dX0_block_36 : decode cX0_block 36 = .ok (.astore 4, 2) := by decide +kernel
theorem dX0_block_38 : decode cX0_block 38 = .ok (.goto (-19), 3) := by decide +kernel
theorem dX0_block_13 : decode cX0_block 13 = .ok (.aload_n 1, 1) := by decide +kernel
theorem dX0_block_14 : decode cX0_block 14 = .ok (.getfield 165, 3) := by decide +kernel
theorem dX0_block_17 : decode cX0_block 17 = .ok (.astore 4, 2) := by decide +kernel
theorem hV_X0_endScope : yX0_endScope.cls = RX0 ∧ yX0_endScope.cls ≠ "java/lang/invoke/MethodHandle" ∧ yX0_endScope.cls ≠ "java/lang/invoke/VarHandle" ∧ (parseMethodDescriptor yX0_endScope.desc).map (fun d => d.parameters.length) = some 2 := by decide +kernel
theorem hV_X0_statement : yX0_statement.cls = RX0 ∧ yX0_statement.cls ≠ "java/lang/invoke/MethodHandle" ∧ yX0_statement.cls ≠ "java/lang/invoke/VarHandle" ∧ (parseMethodDescriptor yX0_statement.desc).map (fun d => d.parameters.length) = some 2 := by decide +kernel
theorem dX0_ifStatement_0 : decode cX0_ifStatement 0 = .ok (.aload_n 0, 1) := by decide +kernel
theorem dX0_ifStatement_1 : decode cX0_ifStatement 1 = .ok (.aload_n 1, 1) := by decide +kernel
theorem dX0_ifStatement_2 : decode cX0_ifStatement 2 = .ok (.getfield 165, 3) := by decide +kernel
theorem dX0_ifStatement_5 : decode cX0_ifStatement 5 = .ok (.aload_n 0, 1) := by decide +kernel
theorem dX0_ifStatement_6 : decode cX0_ifStatement 6 = .ok (.aload_n 1, 1) := by decide +kernel
theorem dX0_ifStatement_7 : decode cX0_ifStatement 7 = .ok (.getfield 165, 3) := by decide +kernel
theorem dX0_ifStatement_10 : decode cX0_ifStatement 10 = .ok (.invokevirtual 209, 3) := by decide +kernel
theorem dX0_ifStatement_13 : decode cX0_ifStatement 13 = .ok (.bipush 61, 2) := by decide +kernel
theorem dX0_ifStatement_15 : decode cX0_ifStatement 15 = .ok (.invokevirtual 213, 3) := by decide +kernel
theorem dX0_ifStatement_18 : decode cX0_ifStatement 18 = .ok (.aload_n 0, 1) := by decide +kernel
theorem dX0_ifStatement_19 : decode cX0_ifStatement 19 = .ok (.getfield 237, 3) := by decide +kernel
theorem dX0_ifStatement_22 : decode cX0_ifStatement 22 = .ok (.istore_n 2, 1) := by decide +kernel
theorem dX0_ifStatement_23 : decode cX0_ifStatement 23 = .ok (.aload_n 0, 1) := by decide +kernel
theorem dX0_ifStatement_24 : decode cX0_ifStatement 24 = .ok (.aload_n 0, 1) := by decide +kernel
theorem dX0_ifStatement_25 : decode cX0_ifStatement 25 = .ok (.getfield 240, 3) := by decide +kernel
theorem dX0_ifStatement_28 : decode cX0_ifStatement 28 = .ok (.putfield 94, 3) := by decide +kernel
theorem dX0_ifStatement_31 : decode cX0_ifStatement 31 = .ok (.aload_n 0, 1) := by decide +kernel
theorem dX0_ifStatement_32 : decode cX0_ifStatement 32 = .ok (.getfield 15, 3) := by decide +kernel
theorem dX0_ifStatement_35 : decode cX0_ifStatement 35 = .ok (.bipush 7, 2) := by decide +kernel
theorem dX0_ifStatement_37 : decode cX0_ifStatement 37 = .ok (.iconst (-1), 1) := by decide +kernel
theorem dX0_ifStatement_38 : decode cX0_ifStatement 38 = .ok (.iconst 0, 1) := by decide +kernel
theorem dX0_ifStatement_39 : decode cX0_ifStatement 39 = .ok (.invokevirtual 243, 3) := by decide +kernel
theorem dX0_ifStatement_42 : decode cX0_ifStatement 42 = .ok (.istore_n 3, 1) := by decide +kernel
theorem dX0_ifStatement_43 : decode cX0_ifStatement 43 = .ok (.aload_n 0, 1) := by decide +kernel
theorem dX0_ifStatement_44 : decode cX0_ifStatement 44 = .ok (.aload_n 1, 1) := by decide +kernel
theorem dX0_ifStatement_45 : decode cX0_ifStatement 45 = .ok (.getfield 202, 3) := by decide +kernel
theorem dX0_ifStatement_48 : decode cX0_ifStatement 48 = .ok (.iconst 1, 1) := by decide +kernel
theorem dX0_ifStatement_49 : decode cX0_ifStatement 49 = .ok (.invokevirtual 168, 3) := by decide +kernel
theorem dX0_ifStatement_52 : decode cX0_ifStatement 52 = .ok (.aload_n 1, 1) := by decide +kernel
theorem dX0_ifStatement_53 : decode cX0_ifStatement 53 = .ok (.getfield 247, 3) := by decide +kernel
theorem dX0_ifStatement_56 : decode cX0_ifStatement 56 = .ok (.ifnonnull 22, 3) := by decide +kernel
theorem dX0_ifStatement_59 : decode cX0_ifStatement 59 = .ok (.aload_n 0, 1) := by decide +kernel
theorem dX0_ifStatement_60 : decode cX0_ifStatement 60 = .ok (.getfield 15, 3) := by decide +kernel
theorem dX0_ifStatement_63 : decode cX0_ifStatement 63 = .ok (.iload_n 3, 1) := by decide +kernel
theorem dX0_ifStatement_64 : decode cX0_ifStatement 64 = .ok (.invokevirtual 250, 3) := by decide +kernel
theorem dX0_ifStatement_67 : decode cX0_ifStatement 67 = .ok (.aload_n 0, 1) := by decide +kernel
theorem dX0_ifStatement_68 : decode cX0_ifStatement 68 = .ok (.dup, 1) := by decide +kernel
theorem dX0_ifStatement_69 : decode cX0_ifStatement 69 = .ok (.getfield 94, 3) := by decide +kernel
theorem dX0_ifStatement_72 : decode cX0_ifStatement 72 = .ok (.iload_n 2, 1) := by decide +kernel
theorem dX0_ifStatement_73 : decode cX0_ifStatement 73 = .ok (.iand, 1) := by decide +kernel
theorem dX0_ifStatement_74 : decode cX0_ifStatement 74 = .ok (.putfield 94, 3) := by decide +kernel
theorem dX0_ifStatement_77 : decode cX0_ifStatement 77 = .ok (.return_, 1) := by decide +kernel
theorem dX0_ifStatement_78 : decode cX0_ifStatement 78 = .ok (.aload_n 0, 1) := by decide +kernel
theorem dX0_ifStatement_79 : decode cX0_ifStatement 79 = .ok (.getfield 15, 3) := by decide +kernel
theorem dX0_ifStatement_82 : decode cX0_ifStatement 82 = .ok (.bipush 6, 2) := by decide +kernel
theorem dX0_ifStatement_84 : decode cX0_ifStatement 84 = .ok (.iconst (-1), 1) := by decide +kernel
theorem dX0_ifStatement_85 : decode cX0_ifStatement 85 = .ok (.iconst 0, 1) := by decide +kernel
theorem dX0_ifStatement_86 : decode cX0_ifStatement 86 = .ok (.invokevirtual 243, 3) := by decide +kernel
theorem dX0_ifStatement_89 : decode cX0_ifStatement 89 = .ok (.istore 4, 2) := by decide +kernel
theorem dX0_ifStatement_91 : decode cX0_ifStatement 91 = .ok (.aload_n 0, 1) := by decide +kernel
theorem dX0_ifStatement_92 : decode cX0_ifStatement 92 = .ok (.getfield 15, 3) := by decide +kernel
theorem dX0_ifStatement_95 : decode cX0_ifStatement 95 = .ok (.iload_n 3, 1) := by decide +kernel
theorem dX0_ifStatement_96 : decode cX0_ifStatement 96 = .ok (.invokevirtual 250, 3) := by decide +kernel
theorem dX0_ifStatement_99 : decode cX0_ifStatement 99 = .ok (.aload_n 0, 1) := by decide +kernel
theorem dX0_ifStatement_100 : decode cX0_ifStatement 100 = .ok (.getfield 94, 3) := by decide +kernel
theorem dX0_ifStatement_103 : decode cX0_ifStatement 103 = .ok (.istore 5, 2) := by decide +kernel
theorem dX0_ifStatement_105 : decode cX0_ifStatement 105 = .ok (.aload_n 0, 1) := by decide +kernel
theorem dX0_ifStatement_106 : decode cX0_ifStatement 106 = .ok (.iload_n 2, 1) := by decide +kernel
theorem dX0_ifStatement_107 : decode cX0_ifStatement 107 = .ok (.putfield 94, 3) := by decide +kernel
theorem dX0_ifStatement_110 : decode cX0_ifStatement 110 = .ok (.aload_n 0, 1) := by decide +kernel
theorem dX0_ifStatement_111 : decode cX0_ifStatement 111 = .ok (.aload_n 1, 1) := by decide +kernel
theorem dX0_ifStatement_112 : decode cX0_ifStatement 112 = .ok (.getfield 247, 3) := by decide +kernel
theorem dX0_ifStatement_115 : decode cX0_ifStatement 115 = .ok (.iconst 1, 1) := by decide +kernel
theorem dX0_ifStatement_116 : decode cX0_ifStatement 116 = .ok (.invokevirtual 168, 3) := by decide +kernel
theorem dX0_ifStatement_119 : decode cX0_ifStatement 119 = .ok (.aload_n 0, 1) := by decide +kernel
theorem dX0_ifStatement_120 : decode cX0_ifStatement 120 = .ok (.getfield 15, 3) := by decide +kernel
theorem dX0_ifStatement_123 : decode cX0_ifStatement 123 = .ok (.iload 4, 2) := by decide +kernel
theorem dX0_ifStatement_125 : decode cX0_ifStatement 125 = .ok (.invokevirtual 250, 3) := by decide +kernel
theorem dX0_ifStatement_128 : decode cX0_ifStatement 128 = .ok (.aload_n 0, 1) := by decide +kernel
theorem dX0_ifStatement_129 : decode cX0_ifStatement 129 = .ok (.dup, 1) := by decide +kernel
theorem dX0_ifStatement_130 : decode cX0_ifStatement 130 = .ok (.getfield 94, 3) := by decide +kernel
theorem dX0_ifStatement_133 : decode cX0_ifStatement 133 = .ok (.iload 5, 2) := by decide +kernel
theorem dX0_ifStatement_135 : decode cX0_ifStatement 135 = .ok (.iand, 1) := by decide +kernel
theorem dX0_ifStatement_136 : decode cX0_ifStatement 136 = .ok (.putfield 94, 3) := by decide +kernel
theorem dX0_ifStatement_139 : decode cX0_ifStatement 139 = .ok (.return_, 1) := by decide +kernel
theorem O_initV (l : Launch) (G : pT) (h0 : Nat) (a : Nat → Nat) (F : Nat → Int32) (R : Nat → Value) (Z : Int64) (B : Nat → Nat → Int32) (J : Nat → Nat → Int64) (K : PK) (w : va_W) (q0 : Nat) (o9 : Option Nat) (x1 : Int32) (hT0 : K.1 q0 = 9) (hO : OKP G h0 a F R Z B J K w) : PM l G pX0 yX4_init cX4_init 3 none ({ frames := 2, cells := 0, slots := 0, locals := 60 }) [.ref q0, va_rf o9, .int x1] w (fun (v : Option Value) (u : va_W × (Unit)) => v = none ∧ (OKP G h0 a F R Z B J (kI (kI (kI (kI (kI (kC K 16 q0 o9) 26 q0 x1) 27 q0 (-1)) 28 q0 (-1)) 29 q0 (-1)) 30 q0 (-1)) u.1)) (fun u => u.1) := by
  cases o9 with
  | none => exact O_initN l G h0 a F R Z B J K w q0 x1 hT0 hO
  | some x => exact O_init l G h0 a F R Z B J K w q0 x x1 hT0 hO
theorem dX0_loopStatement_0 : decode cX0_loopStatement 0 = .ok (.aload_n 0, 1) := by decide +kernel
theorem dX0_loopStatement_1 : decode cX0_loopStatement 1 = .ok (.getfield 91, 3) := by decide +kernel
theorem dX0_loopStatement_4 : decode cX0_loopStatement 4 = .ok (.istore_n 2, 1) := by decide +kernel
theorem dX0_loopStatement_5 : decode cX0_loopStatement 5 = .ok (.aload_n 0, 1) := by decide +kernel
theorem dX0_loopStatement_6 : decode cX0_loopStatement 6 = .ok (.getfield 15, 3) := by decide +kernel
theorem dX0_loopStatement_9 : decode cX0_loopStatement 9 = .ok (.getfield 158, 3) := by decide +kernel
theorem dX0_loopStatement_12 : decode cX0_loopStatement 12 = .ok (.istore_n 3, 1) := by decide +kernel
theorem dX0_loopStatement_13 : decode cX0_loopStatement 13 = .ok (.aload_n 1, 1) := by decide +kernel
theorem dX0_loopStatement_14 : decode cX0_loopStatement 14 = .ok (.getfield 165, 3) := by decide +kernel
theorem dX0_loopStatement_17 : decode cX0_loopStatement 17 = .ok (.ifnull 12, 3) := by decide +kernel
theorem dX0_loopStatement_29 : decode cX0_loopStatement 29 = .ok (.aload_n 0, 1) := by decide +kernel
theorem dX0_loopStatement_30 : decode cX0_loopStatement 30 = .ok (.getfield 15, 3) := by decide +kernel
theorem dX0_loopStatement_33 : decode cX0_loopStatement 33 = .ok (.getfield 99, 3) := by decide +kernel
theorem dX0_loopStatement_36 : decode cX0_loopStatement 36 = .ok (.istore 4, 2) := by decide +kernel
theorem dX0_loopStatement_38 : decode cX0_loopStatement 38 = .ok (.aload_n 0, 1) := by decide +kernel
theorem dX0_loopStatement_39 : decode cX0_loopStatement 39 = .ok (.getfield 15, 3) := by decide +kernel
theorem dX0_loopStatement_42 : decode cX0_loopStatement 42 = .ok (.iconst 0, 1) := by decide +kernel
theorem dX0_loopStatement_43 : decode cX0_loopStatement 43 = .ok (.iconst 0, 1) := by decide +kernel
theorem dX0_loopStatement_44 : decode cX0_loopStatement 44 = .ok (.iconst 0, 1) := by decide +kernel
theorem dX0_loopStatement_45 : decode cX0_loopStatement 45 = .ok (.invokevirtual 140, 3) := by decide +kernel
theorem dX0_loopStatement_48 : decode cX0_loopStatement 48 = .ok (.aload_n 0, 1) := by decide +kernel
theorem dX0_loopStatement_49 : decode cX0_loopStatement 49 = .ok (.aload_n 1, 1) := by decide +kernel
theorem dX0_loopStatement_50 : decode cX0_loopStatement 50 = .ok (.getfield 202, 3) := by decide +kernel
theorem dX0_loopStatement_53 : decode cX0_loopStatement 53 = .ok (.invokevirtual 253, 3) := by decide +kernel
theorem dX0_loopStatement_56 : decode cX0_loopStatement 56 = .ok (.istore 5, 2) := by decide +kernel
theorem dX0_loopStatement_58 : decode cX0_loopStatement 58 = .ok (.aload_n 0, 1) := by decide +kernel
theorem dX0_loopStatement_59 : decode cX0_loopStatement 59 = .ok (.getfield 237, 3) := by decide +kernel
theorem dX0_loopStatement_62 : decode cX0_loopStatement 62 = .ok (.istore 6, 2) := by decide +kernel
theorem dX0_loopStatement_64 : decode cX0_loopStatement 64 = .ok (.aload_n 0, 1) := by decide +kernel
theorem dX0_loopStatement_65 : decode cX0_loopStatement 65 = .ok (.aload_n 0, 1) := by decide +kernel
theorem dX0_loopStatement_66 : decode cX0_loopStatement 66 = .ok (.getfield 240, 3) := by decide +kernel
theorem dX0_loopStatement_69 : decode cX0_loopStatement 69 = .ok (.putfield 94, 3) := by decide +kernel
theorem dX0_loopStatement_72 : decode cX0_loopStatement 72 = .ok (.aload_n 0, 1) := by decide +kernel
theorem dX0_loopStatement_73 : decode cX0_loopStatement 73 = .ok (.new 256, 3) := by decide +kernel
theorem dX0_loopStatement_76 : decode cX0_loopStatement 76 = .ok (.dup, 1) := by decide +kernel
theorem dX0_loopStatement_77 : decode cX0_loopStatement 77 = .ok (.aload_n 0, 1) := by decide +kernel
theorem dX0_loopStatement_78 : decode cX0_loopStatement 78 = .ok (.getfield 84, 3) := by decide +kernel
theorem dX0_loopStatement_81 : decode cX0_loopStatement 81 = .ok (.aload_n 0, 1) := by decide +kernel
theorem dX0_loopStatement_82 : decode cX0_loopStatement 82 = .ok (.getfield 88, 3) := by decide +kernel
theorem dX0_loopStatement_85 : decode cX0_loopStatement 85 = .ok (.invokespecial 258, 3) := by decide +kernel
theorem dX0_loopStatement_88 : decode cX0_loopStatement 88 = .ok (.putfield 84, 3) := by decide +kernel
theorem dX0_loopStatement_91 : decode cX0_loopStatement 91 = .ok (.aload_n 0, 1) := by decide +kernel
theorem dX0_loopStatement_92 : decode cX0_loopStatement 92 = .ok (.aload_n 1, 1) := by decide +kernel
theorem dX0_loopStatement_93 : decode cX0_loopStatement 93 = .ok (.getfield 261, 3) := by decide +kernel
theorem dX0_loopStatement_96 : decode cX0_loopStatement 96 = .ok (.iconst 1, 1) := by decide +kernel
theorem dX0_loopStatement_97 : decode cX0_loopStatement 97 = .ok (.invokevirtual 168, 3) := by decide +kernel
theorem dX0_loopStatement_100 : decode cX0_loopStatement 100 = .ok (.aload_n 0, 1) := by decide +kernel
theorem dX0_loopStatement_101 : decode cX0_loopStatement 101 = .ok (.getfield 15, 3) := by decide +kernel
theorem dX0_loopStatement_104 : decode cX0_loopStatement 104 = .ok (.aload_n 0, 1) := by decide +kernel
theorem dX0_loopStatement_105 : decode cX0_loopStatement 105 = .ok (.getfield 84, 3) := by decide +kernel
theorem dX0_loopStatement_108 : decode cX0_loopStatement 108 = .ok (.getfield 264, 3) := by decide +kernel
theorem dX0_loopStatement_111 : decode cX0_loopStatement 111 = .ok (.invokevirtual 250, 3) := by decide +kernel
theorem dX0_loopStatement_114 : decode cX0_loopStatement 114 = .ok (.aload_n 1, 1) := by decide +kernel
theorem dX0_loopStatement_115 : decode cX0_loopStatement 115 = .ok (.getfield 247, 3) := by decide +kernel
theorem dX0_loopStatement_118 : decode cX0_loopStatement 118 = .ok (.ifnull 28, 3) := by decide +kernel
theorem dX0_loopStatement_146 : decode cX0_loopStatement 146 = .ok (.aload_n 0, 1) := by decide +kernel
theorem dX0_loopStatement_147 : decode cX0_loopStatement 147 = .ok (.getfield 15, 3) := by decide +kernel
theorem dX0_loopStatement_150 : decode cX0_loopStatement 150 = .ok (.bipush 6, 2) := by decide +kernel
theorem dX0_loopStatement_152 : decode cX0_loopStatement 152 = .ok (.iload 4, 2) := by decide +kernel
theorem dX0_loopStatement_154 : decode cX0_loopStatement 154 = .ok (.iconst 0, 1) := by decide +kernel
theorem dX0_loopStatement_155 : decode cX0_loopStatement 155 = .ok (.invokevirtual 140, 3) := by decide +kernel
theorem dX0_loopStatement_158 : decode cX0_loopStatement 158 = .ok (.aload_n 0, 1) := by decide +kernel
theorem dX0_loopStatement_159 : decode cX0_loopStatement 159 = .ok (.getfield 15, 3) := by decide +kernel
theorem dX0_loopStatement_162 : decode cX0_loopStatement 162 = .ok (.iload 5, 2) := by decide +kernel
theorem dX0_loopStatement_164 : decode cX0_loopStatement 164 = .ok (.invokevirtual 250, 3) := by decide +kernel
theorem dX0_loopStatement_167 : decode cX0_loopStatement 167 = .ok (.aload_n 0, 1) := by decide +kernel
theorem dX0_loopStatement_168 : decode cX0_loopStatement 168 = .ok (.getfield 15, 3) := by decide +kernel
theorem dX0_loopStatement_171 : decode cX0_loopStatement 171 = .ok (.aload_n 0, 1) := by decide +kernel
theorem dX0_loopStatement_172 : decode cX0_loopStatement 172 = .ok (.getfield 84, 3) := by decide +kernel
theorem dX0_loopStatement_175 : decode cX0_loopStatement 175 = .ok (.getfield 270, 3) := by decide +kernel
theorem dX0_loopStatement_178 : decode cX0_loopStatement 178 = .ok (.invokevirtual 250, 3) := by decide +kernel
theorem dX0_loopStatement_181 : decode cX0_loopStatement 181 = .ok (.aload_n 0, 1) := by decide +kernel
theorem dX0_loopStatement_182 : decode cX0_loopStatement 182 = .ok (.iload 6, 2) := by decide +kernel
theorem dX0_loopStatement_184 : decode cX0_loopStatement 184 = .ok (.aload_n 0, 1) := by decide +kernel
theorem dX0_loopStatement_185 : decode cX0_loopStatement 185 = .ok (.getfield 84, 3) := by decide +kernel
theorem dX0_loopStatement_188 : decode cX0_loopStatement 188 = .ok (.getfield 273, 3) := by decide +kernel
theorem dX0_loopStatement_191 : decode cX0_loopStatement 191 = .ok (.iand, 1) := by decide +kernel
theorem dX0_loopStatement_192 : decode cX0_loopStatement 192 = .ok (.putfield 94, 3) := by decide +kernel
theorem dX0_loopStatement_195 : decode cX0_loopStatement 195 = .ok (.aload_n 0, 1) := by decide +kernel
theorem dX0_loopStatement_196 : decode cX0_loopStatement 196 = .ok (.aload_n 0, 1) := by decide +kernel
theorem dX0_loopStatement_197 : decode cX0_loopStatement 197 = .ok (.getfield 84, 3) := by decide +kernel
theorem dX0_loopStatement_200 : decode cX0_loopStatement 200 = .ok (.getfield 276, 3) := by decide +kernel
theorem dX0_loopStatement_203 : decode cX0_loopStatement 203 = .ok (.putfield 84, 3) := by decide +kernel
theorem dX0_loopStatement_206 : decode cX0_loopStatement 206 = .ok (.aload_n 0, 1) := by decide +kernel
theorem dX0_loopStatement_207 : decode cX0_loopStatement 207 = .ok (.iload_n 2, 1) := by decide +kernel
theorem dX0_loopStatement_208 : decode cX0_loopStatement 208 = .ok (.iload_n 3, 1) := by decide +kernel
theorem dX0_loopStatement_209 : decode cX0_loopStatement 209 = .ok (.invokevirtual 175, 3) := by decide +kernel
theorem dX0_loopStatement_212 : decode cX0_loopStatement 212 = .ok (.return_, 1) := by decide +kernel
theorem dX0_loopStatement_121 : decode cX0_loopStatement 121 = .ok (.aload_n 0, 1) := by decide +kernel
theorem dX0_loopStatement_122 : decode cX0_loopStatement 122 = .ok (.dup, 1) := by decide +kernel
theorem dX0_loopStatement_123 : decode cX0_loopStatement 123 = .ok (.getfield 94, 3) := by decide +kernel
theorem dX0_loopStatement_126 : decode cX0_loopStatement 126 = .ok (.aload_n 0, 1) := by decide +kernel
theorem dX0_loopStatement_127 : decode cX0_loopStatement 127 = .ok (.getfield 84, 3) := by decide +kernel
theorem dX0_loopStatement_130 : decode cX0_loopStatement 130 = .ok (.getfield 267, 3) := by decide +kernel
theorem dX0_loopStatement_133 : decode cX0_loopStatement 133 = .ok (.iand, 1) := by decide +kernel
theorem dX0_loopStatement_134 : decode cX0_loopStatement 134 = .ok (.putfield 94, 3) := by decide +kernel
theorem dX0_loopStatement_137 : decode cX0_loopStatement 137 = .ok (.aload_n 0, 1) := by decide +kernel
theorem dX0_loopStatement_138 : decode cX0_loopStatement 138 = .ok (.aload_n 1, 1) := by decide +kernel
theorem dX0_loopStatement_139 : decode cX0_loopStatement 139 = .ok (.getfield 247, 3) := by decide +kernel
theorem dX0_loopStatement_142 : decode cX0_loopStatement 142 = .ok (.iconst 0, 1) := by decide +kernel
theorem dX0_loopStatement_143 : decode cX0_loopStatement 143 = .ok (.invokevirtual 168, 3) := by decide +kernel
theorem dX0_loopStatement_20 : decode cX0_loopStatement 20 = .ok (.aload_n 0, 1) := by decide +kernel
theorem dX0_loopStatement_21 : decode cX0_loopStatement 21 = .ok (.aload_n 1, 1) := by decide +kernel
theorem dX0_loopStatement_22 : decode cX0_loopStatement 22 = .ok (.getfield 165, 3) := by decide +kernel
theorem dX0_loopStatement_25 : decode cX0_loopStatement 25 = .ok (.iconst 0, 1) := by decide +kernel
theorem dX0_loopStatement_26 : decode cX0_loopStatement 26 = .ok (.invokevirtual 168, 3) := by decide +kernel
theorem hV_X0_loopCondition : yX0_loopCondition.cls = RX0 ∧ yX0_loopCondition.cls ≠ "java/lang/invoke/MethodHandle" ∧ yX0_loopCondition.cls ≠ "java/lang/invoke/VarHandle" ∧ (parseMethodDescriptor yX0_loopCondition.desc).map (fun d => d.parameters.length) = some 1 := by decide +kernel
theorem hS_X4_init : yX4_init.cls ≠ "java/lang/invoke/MethodHandle" ∧ yX4_init.cls ≠ "java/lang/invoke/VarHandle" ∧ (parseMethodDescriptor yX4_init.desc).map (fun d => d.parameters.length) = some 2 := by decide +kernel
theorem dX0_catchBlock_0 : decode cX0_catchBlock 0 = .ok (.aload_n 0, 1) := by decide +kernel
theorem dX0_catchBlock_1 : decode cX0_catchBlock 1 = .ok (.getfield 91, 3) := by decide +kernel
theorem dX0_catchBlock_4 : decode cX0_catchBlock 4 = .ok (.istore_n 2, 1) := by decide +kernel
theorem dX0_catchBlock_5 : decode cX0_catchBlock 5 = .ok (.aload_n 0, 1) := by decide +kernel
theorem dX0_catchBlock_6 : decode cX0_catchBlock 6 = .ok (.getfield 15, 3) := by decide +kernel
theorem dX0_catchBlock_9 : decode cX0_catchBlock 9 = .ok (.getfield 158, 3) := by decide +kernel
theorem dX0_catchBlock_12 : decode cX0_catchBlock 12 = .ok (.istore_n 3, 1) := by decide +kernel
theorem dX0_catchBlock_13 : decode cX0_catchBlock 13 = .ok (.aload_n 0, 1) := by decide +kernel
theorem dX0_catchBlock_14 : decode cX0_catchBlock 14 = .ok (.aload_n 1, 1) := by decide +kernel
theorem dX0_catchBlock_15 : decode cX0_catchBlock 15 = .ok (.getfield 114, 3) := by decide +kernel
theorem dX0_catchBlock_18 : decode cX0_catchBlock 18 = .ok (.aload_n 0, 1) := by decide +kernel
theorem dX0_catchBlock_19 : decode cX0_catchBlock 19 = .ok (.getfield 9, 3) := by decide +kernel
theorem dX0_catchBlock_22 : decode cX0_catchBlock 22 = .ok (.aload_n 1, 1) := by decide +kernel
theorem dX0_catchBlock_23 : decode cX0_catchBlock 23 = .ok (.getfield 117, 3) := by decide +kernel
theorem dX0_catchBlock_26 : decode cX0_catchBlock 26 = .ok (.invokevirtual 120, 3) := by decide +kernel
theorem dX0_catchBlock_29 : decode cX0_catchBlock 29 = .ok (.invokevirtual 126, 3) := by decide +kernel
theorem dX0_catchBlock_32 : decode cX0_catchBlock 32 = .ok (.istore 4, 2) := by decide +kernel
theorem dX0_catchBlock_34 : decode cX0_catchBlock 34 = .ok (.aload_n 0, 1) := by decide +kernel
theorem dX0_catchBlock_35 : decode cX0_catchBlock 35 = .ok (.dup, 1) := by decide +kernel
theorem dX0_catchBlock_36 : decode cX0_catchBlock 36 = .ok (.getfield 94, 3) := by decide +kernel
theorem dX0_catchBlock_39 : decode cX0_catchBlock 39 = .ok (.iconst 1, 1) := by decide +kernel
theorem dX0_catchBlock_40 : decode cX0_catchBlock 40 = .ok (.iload 4, 2) := by decide +kernel
theorem dX0_catchBlock_42 : decode cX0_catchBlock 42 = .ok (.ishl, 1) := by decide +kernel
theorem dX0_catchBlock_43 : decode cX0_catchBlock 43 = .ok (.ior, 1) := by decide +kernel
theorem dX0_catchBlock_44 : decode cX0_catchBlock 44 = .ok (.putfield 94, 3) := by decide +kernel
theorem dX0_catchBlock_47 : decode cX0_catchBlock 47 = .ok (.aload_n 0, 1) := by decide +kernel
theorem dX0_catchBlock_48 : decode cX0_catchBlock 48 = .ok (.aload_n 1, 1) := by decide +kernel
theorem dX0_catchBlock_49 : decode cX0_catchBlock 49 = .ok (.getfield 165, 3) := by decide +kernel
theorem dX0_catchBlock_52 : decode cX0_catchBlock 52 = .ok (.invokevirtual 77, 3) := by decide +kernel
theorem dX0_catchBlock_55 : decode cX0_catchBlock 55 = .ok (.aload_n 0, 1) := by decide +kernel
theorem dX0_catchBlock_56 : decode cX0_catchBlock 56 = .ok (.iload_n 2, 1) := by decide +kernel
theorem dX0_catchBlock_57 : decode cX0_catchBlock 57 = .ok (.iload_n 3, 1) := by decide +kernel
theorem dX0_catchBlock_58 : decode cX0_catchBlock 58 = .ok (.invokevirtual 175, 3) := by decide +kernel
theorem dX0_catchBlock_61 : decode cX0_catchBlock 61 = .ok (.return_, 1) := by decide +kernel
theorem hV_X0_block : yX0_block.cls = RX0 ∧ yX0_block.cls ≠ "java/lang/invoke/MethodHandle" ∧ yX0_block.cls ≠ "java/lang/invoke/VarHandle" ∧ (parseMethodDescriptor yX0_block.desc).map (fun d => d.parameters.length) = some 1 := by decide +kernel
theorem dX0_last_0 : decode cX0_last 0 = .ok (.aload_n 0, 1) := by decide +kernel
theorem dX0_last_1 : decode cX0_last 1 = .ok (.getfield 15, 3) := by decide +kernel
theorem dX0_last_4 : decode cX0_last 4 = .ok (.iconst 2, 1) := by decide +kernel
theorem dX0_last_5 : decode cX0_last 5 = .ok (.invokevirtual 161, 3) := by decide +kernel
theorem dX0_last_8 : decode cX0_last 8 = .ok (.aload_n 0, 1) := by decide +kernel
theorem dX0_last_9 : decode cX0_last 9 = .ok (.aload_n 1, 1) := by decide +kernel
theorem dX0_last_10 : decode cX0_last 10 = .ok (.invokevirtual 77, 3) := by decide +kernel
theorem dX0_last_13 : decode cX0_last 13 = .ok (.aload_n 0, 1) := by decide +kernel
theorem dX0_last_14 : decode cX0_last 14 = .ok (.getfield 15, 3) := by decide +kernel
theorem dX0_last_17 : decode cX0_last 17 = .ok (.bipush 30, 2) := by decide +kernel
theorem dX0_last_19 : decode cX0_last 19 = .ok (.iload_n 2, 1) := by decide +kernel
theorem dX0_last_20 : decode cX0_last 20 = .ok (.iconst 0, 1) := by decide +kernel
theorem dX0_last_21 : decode cX0_last 21 = .ok (.invokevirtual 140, 3) := by decide +kernel
theorem dX0_last_24 : decode cX0_last 24 = .ok (.aload_n 0, 1) := by decide +kernel
theorem dX0_last_25 : decode cX0_last 25 = .ok (.getfield 15, 3) := by decide +kernel
theorem dX0_last_28 : decode cX0_last 28 = .ok (.iload_n 2, 1) := by decide +kernel
theorem dX0_last_29 : decode cX0_last 29 = .ok (.putfield 158, 3) := by decide +kernel
theorem dX0_last_32 : decode cX0_last 32 = .ok (.return_, 1) := by decide +kernel
theorem MmO.be {K K1 : PK} {g : Nat → Nat → Nat} {q t k : Nat} {o : Option Nat} (hb : BdE K K1) (h : MmO K g q o t k) : MmO K1 g q o t k := fun x hx => ⟨hb.T (h x hx).1 (by decide), (h x hx).2⟩
theorem dX0_tryStatement_0 : decode cX0_tryStatement 0 = .ok (.aload_n 1, 1) := by decide +kernel
theorem dX0_tryStatement_1 : decode cX0_tryStatement 1 = .ok (.getfield 247, 3) := by decide +kernel
theorem dX0_tryStatement_4 : decode cX0_tryStatement 4 = .ok (.ifnull 7, 3) := by decide +kernel
theorem dX0_tryStatement_11 : decode cX0_tryStatement 11 = .ok (.iconst 0, 1) := by decide +kernel
theorem dX0_tryStatement_12 : decode cX0_tryStatement 12 = .ok (.istore_n 2, 1) := by decide +kernel
theorem dX0_tryStatement_13 : decode cX0_tryStatement 13 = .ok (.iload_n 2, 1) := by decide +kernel
theorem dX0_tryStatement_14 : decode cX0_tryStatement 14 = .ok (.ifCond .eq 8, 3) := by decide +kernel
theorem dX0_tryStatement_22 : decode cX0_tryStatement 22 = .ok (.bipush 6, 2) := by decide +kernel
theorem dX0_tryStatement_24 : decode cX0_tryStatement 24 = .ok (.istore_n 3, 1) := by decide +kernel
theorem dX0_tryStatement_25 : decode cX0_tryStatement 25 = .ok (.aload_n 0, 1) := by decide +kernel
theorem dX0_tryStatement_26 : decode cX0_tryStatement 26 = .ok (.getfield 15, 3) := by decide +kernel
theorem dX0_tryStatement_29 : decode cX0_tryStatement 29 = .ok (.getfield 158, 3) := by decide +kernel
theorem dX0_tryStatement_32 : decode cX0_tryStatement 32 = .ok (.istore 4, 2) := by decide +kernel
theorem dX0_tryStatement_34 : decode cX0_tryStatement 34 = .ok (.aload_n 0, 1) := by decide +kernel
theorem dX0_tryStatement_35 : decode cX0_tryStatement 35 = .ok (.getfield 94, 3) := by decide +kernel
theorem dX0_tryStatement_38 : decode cX0_tryStatement 38 = .ok (.istore 5, 2) := by decide +kernel
theorem dX0_tryStatement_40 : decode cX0_tryStatement 40 = .ok (.aload_n 0, 1) := by decide +kernel
theorem dX0_tryStatement_41 : decode cX0_tryStatement 41 = .ok (.dup, 1) := by decide +kernel
theorem dX0_tryStatement_42 : decode cX0_tryStatement 42 = .ok (.getfield 88, 3) := by decide +kernel
theorem dX0_tryStatement_45 : decode cX0_tryStatement 45 = .ok (.iload_n 2, 1) := by decide +kernel
theorem dX0_tryStatement_46 : decode cX0_tryStatement 46 = .ok (.ifCond .eq 7, 3) := by decide +kernel
theorem dX0_tryStatement_53 : decode cX0_tryStatement 53 = .ok (.iconst 0, 1) := by decide +kernel
theorem dX0_tryStatement_54 : decode cX0_tryStatement 54 = .ok (.iadd, 1) := by decide +kernel
theorem dX0_tryStatement_55 : decode cX0_tryStatement 55 = .ok (.putfield 88, 3) := by decide +kernel
theorem dX0_tryStatement_58 : decode cX0_tryStatement 58 = .ok (.aload_n 0, 1) := by decide +kernel
theorem dX0_tryStatement_59 : decode cX0_tryStatement 59 = .ok (.getfield 15, 3) := by decide +kernel
theorem dX0_tryStatement_62 : decode cX0_tryStatement 62 = .ok (.getfield 99, 3) := by decide +kernel
theorem dX0_tryStatement_65 : decode cX0_tryStatement 65 = .ok (.istore 6, 2) := by decide +kernel
theorem dX0_tryStatement_67 : decode cX0_tryStatement 67 = .ok (.aload_n 0, 1) := by decide +kernel
theorem dX0_tryStatement_68 : decode cX0_tryStatement 68 = .ok (.aload_n 1, 1) := by decide +kernel
theorem dX0_tryStatement_69 : decode cX0_tryStatement 69 = .ok (.getfield 165, 3) := by decide +kernel
theorem dX0_tryStatement_72 : decode cX0_tryStatement 72 = .ok (.invokevirtual 77, 3) := by decide +kernel
theorem dX0_tryStatement_75 : decode cX0_tryStatement 75 = .ok (.aload_n 0, 1) := by decide +kernel
theorem dX0_tryStatement_76 : decode cX0_tryStatement 76 = .ok (.getfield 15, 3) := by decide +kernel
theorem dX0_tryStatement_79 : decode cX0_tryStatement 79 = .ok (.getfield 99, 3) := by decide +kernel
theorem dX0_tryStatement_82 : decode cX0_tryStatement 82 = .ok (.istore 7, 2) := by decide +kernel
theorem dX0_tryStatement_84 : decode cX0_tryStatement 84 = .ok (.aload_n 0, 1) := by decide +kernel
theorem dX0_tryStatement_85 : decode cX0_tryStatement 85 = .ok (.getfield 15, 3) := by decide +kernel
theorem dX0_tryStatement_88 : decode cX0_tryStatement 88 = .ok (.iload_n 3, 1) := by decide +kernel
theorem dX0_tryStatement_89 : decode cX0_tryStatement 89 = .ok (.iconst (-1), 1) := by decide +kernel
theorem dX0_tryStatement_90 : decode cX0_tryStatement 90 = .ok (.iload 4, 2) := by decide +kernel
theorem dX0_tryStatement_92 : decode cX0_tryStatement 92 = .ok (.invokevirtual 243, 3) := by decide +kernel
theorem dX0_tryStatement_95 : decode cX0_tryStatement 95 = .ok (.istore 8, 2) := by decide +kernel
theorem dX0_tryStatement_97 : decode cX0_tryStatement 97 = .ok (.aload_n 0, 1) := by decide +kernel
theorem dX0_tryStatement_98 : decode cX0_tryStatement 98 = .ok (.getfield 94, 3) := by decide +kernel
theorem dX0_tryStatement_101 : decode cX0_tryStatement 101 = .ok (.istore 9, 2) := by decide +kernel
theorem dX0_tryStatement_109 : decode cX0_tryStatement 109 = .ok (.aload 10, 2) := by decide +kernel
theorem dX0_tryStatement_111 : decode cX0_tryStatement 111 = .ok (.ifnull 73, 3) := by decide +kernel
theorem dX0_tryStatement_184 : decode cX0_tryStatement 184 = .ok (.aload_n 0, 1) := by decide +kernel
theorem dX0_tryStatement_185 : decode cX0_tryStatement 185 = .ok (.dup, 1) := by decide +kernel
theorem dX0_tryStatement_186 : decode cX0_tryStatement 186 = .ok (.getfield 88, 3) := by decide +kernel
theorem dX0_tryStatement_189 : decode cX0_tryStatement 189 = .ok (.iload_n 2, 1) := by decide +kernel
theorem dX0_tryStatement_190 : decode cX0_tryStatement 190 = .ok (.ifCond .eq 7, 3) := by decide +kernel
theorem dX0_tryStatement_197 : decode cX0_tryStatement 197 = .ok (.iconst 0, 1) := by decide +kernel
theorem dX0_tryStatement_198 : decode cX0_tryStatement 198 = .ok (.isub, 1) := by decide +kernel
theorem dX0_tryStatement_199 : decode cX0_tryStatement 199 = .ok (.putfield 88, 3) := by decide +kernel
theorem dX0_tryStatement_202 : decode cX0_tryStatement 202 = .ok (.aload_n 0, 1) := by decide +kernel
theorem dX0_tryStatement_203 : decode cX0_tryStatement 203 = .ok (.getfield 15, 3) := by decide +kernel
theorem dX0_tryStatement_206 : decode cX0_tryStatement 206 = .ok (.iload 8, 2) := by decide +kernel
theorem dX0_tryStatement_208 : decode cX0_tryStatement 208 = .ok (.invokevirtual 250, 3) := by decide +kernel
theorem dX0_tryStatement_211 : decode cX0_tryStatement 211 = .ok (.aload_n 0, 1) := by decide +kernel
theorem dX0_tryStatement_212 : decode cX0_tryStatement 212 = .ok (.iload 9, 2) := by decide +kernel
theorem dX0_tryStatement_214 : decode cX0_tryStatement 214 = .ok (.putfield 94, 3) := by decide +kernel
theorem dX0_tryStatement_217 : decode cX0_tryStatement 217 = .ok (.iload_n 2, 1) := by decide +kernel
theorem dX0_tryStatement_218 : decode cX0_tryStatement 218 = .ok (.ifCond .eq 49, 3) := by decide +kernel
theorem dX0_tryStatement_267 : decode cX0_tryStatement 267 = .ok (.return_, 1) := by decide +kernel
theorem dX0_tryStatement_114 : decode cX0_tryStatement 114 = .ok (.aload_n 0, 1) := by decide +kernel
theorem dX0_tryStatement_115 : decode cX0_tryStatement 115 = .ok (.getfield 15, 3) := by decide +kernel
theorem dX0_tryStatement_118 : decode cX0_tryStatement 118 = .ok (.iload 6, 2) := by decide +kernel
theorem dX0_tryStatement_120 : decode cX0_tryStatement 120 = .ok (.iload 7, 2) := by decide +kernel
theorem dX0_tryStatement_122 : decode cX0_tryStatement 122 = .ok (.aload_n 0, 1) := by decide +kernel
theorem dX0_tryStatement_123 : decode cX0_tryStatement 123 = .ok (.getfield 9, 3) := by decide +kernel
theorem dX0_tryStatement_126 : decode cX0_tryStatement 126 = .ok (.aload 10, 2) := by decide +kernel
theorem dX0_tryStatement_128 : decode cX0_tryStatement 128 = .ok (.getfield 117, 3) := by decide +kernel
theorem dX0_tryStatement_131 : decode cX0_tryStatement 131 = .ok (.invokevirtual 120, 3) := by decide +kernel
theorem dX0_tryStatement_134 : decode cX0_tryStatement 134 = .ok (.iload 4, 2) := by decide +kernel
theorem dX0_tryStatement_136 : decode cX0_tryStatement 136 = .ok (.invokevirtual 284, 3) := by decide +kernel
theorem dX0_tryStatement_139 : decode cX0_tryStatement 139 = .ok (.aload_n 0, 1) := by decide +kernel
theorem dX0_tryStatement_140 : decode cX0_tryStatement 140 = .ok (.iload 5, 2) := by decide +kernel
theorem dX0_tryStatement_142 : decode cX0_tryStatement 142 = .ok (.putfield 94, 3) := by decide +kernel
theorem dX0_tryStatement_145 : decode cX0_tryStatement 145 = .ok (.aload_n 0, 1) := by decide +kernel
theorem dX0_tryStatement_146 : decode cX0_tryStatement 146 = .ok (.aload 10, 2) := by decide +kernel
theorem dX0_tryStatement_148 : decode cX0_tryStatement 148 = .ok (.invokevirtual 288, 3) := by decide +kernel
theorem dX0_tryStatement_151 : decode cX0_tryStatement 151 = .ok (.aload_n 0, 1) := by decide +kernel
theorem dX0_tryStatement_152 : decode cX0_tryStatement 152 = .ok (.getfield 15, 3) := by decide +kernel
theorem dX0_tryStatement_155 : decode cX0_tryStatement 155 = .ok (.iload_n 3, 1) := by decide +kernel
theorem dX0_tryStatement_156 : decode cX0_tryStatement 156 = .ok (.iload 8, 2) := by decide +kernel
theorem dX0_tryStatement_158 : decode cX0_tryStatement 158 = .ok (.iload 4, 2) := by decide +kernel
theorem dX0_tryStatement_160 : decode cX0_tryStatement 160 = .ok (.invokevirtual 243, 3) := by decide +kernel
theorem dX0_tryStatement_163 : decode cX0_tryStatement 163 = .ok (.istore 8, 2) := by decide +kernel
theorem dX0_tryStatement_165 : decode cX0_tryStatement 165 = .ok (.iload 9, 2) := by decide +kernel
theorem dX0_tryStatement_167 : decode cX0_tryStatement 167 = .ok (.aload_n 0, 1) := by decide +kernel
theorem dX0_tryStatement_168 : decode cX0_tryStatement 168 = .ok (.getfield 94, 3) := by decide +kernel
theorem dX0_tryStatement_171 : decode cX0_tryStatement 171 = .ok (.iand, 1) := by decide +kernel
theorem dX0_tryStatement_172 : decode cX0_tryStatement 172 = .ok (.istore 9, 2) := by decide +kernel
theorem dX0_tryStatement_174 : decode cX0_tryStatement 174 = .ok (.aload 10, 2) := by decide +kernel
theorem dX0_tryStatement_176 : decode cX0_tryStatement 176 = .ok (.getfield 172, 3) := by decide +kernel
theorem dX0_tryStatement_179 : decode cX0_tryStatement 179 = .ok (.astore 10, 2) := by decide +kernel
theorem dX0_tryStatement_181 : decode cX0_tryStatement 181 = .ok (.goto (-72), 3) := by decide +kernel
theorem dX0_tryStatement_103 : decode cX0_tryStatement 103 = .ok (.aload_n 1, 1) := by decide +kernel
theorem dX0_tryStatement_104 : decode cX0_tryStatement 104 = .ok (.getfield 202, 3) := by decide +kernel
theorem dX0_tryStatement_107 : decode cX0_tryStatement 107 = .ok (.astore 10, 2) := by decide +kernel
theorem hV_X1_addRegion : yX1_addRegion.cls = RX1 ∧ yX1_addRegion.cls ≠ "java/lang/invoke/MethodHandle" ∧ yX1_addRegion.cls ≠ "java/lang/invoke/VarHandle" ∧ (parseMethodDescriptor yX1_addRegion.desc).map (fun d => d.parameters.length) = some 4 := by decide +kernel
theorem hV_X0_catchBlock : yX0_catchBlock.cls = RX0 ∧ yX0_catchBlock.cls ≠ "java/lang/invoke/MethodHandle" ∧ yX0_catchBlock.cls ≠ "java/lang/invoke/VarHandle" ∧ (parseMethodDescriptor yX0_catchBlock.desc).map (fun d => d.parameters.length) = some 1 := by decide +kernel
theorem dX0_tryStatement_7 : decode cX0_tryStatement 7 = .ok (.iconst 1, 1) := by decide +kernel
theorem dX0_tryStatement_8 : decode cX0_tryStatement 8 = .ok (.goto 4, 3) := by decide +kernel
theorem dX0_tryStatement_17 : decode cX0_tryStatement 17 = .ok (.bipush 29, 2) := by decide +kernel
theorem dX0_tryStatement_19 : decode cX0_tryStatement 19 = .ok (.goto 5, 3) := by decide +kernel
theorem dX0_tryStatement_49 : decode cX0_tryStatement 49 = .ok (.iconst 1, 1) := by decide +kernel
theorem dX0_tryStatement_50 : decode cX0_tryStatement 50 = .ok (.goto 4, 3) := by decide +kernel
theorem dX0_tryStatement_193 : decode cX0_tryStatement 193 = .ok (.iconst 1, 1) := by decide +kernel
theorem dX0_tryStatement_194 : decode cX0_tryStatement 194 = .ok (.goto 4, 3) := by decide +kernel
theorem dX0_tryStatement_221 : decode cX0_tryStatement 221 = .ok (.aload_n 0, 1) := by decide +kernel
theorem dX0_tryStatement_222 : decode cX0_tryStatement 222 = .ok (.getfield 15, 3) := by decide +kernel
theorem dX0_tryStatement_225 : decode cX0_tryStatement 225 = .ok (.iload 6, 2) := by decide +kernel
theorem dX0_tryStatement_227 : decode cX0_tryStatement 227 = .ok (.aload_n 0, 1) := by decide +kernel
theorem dX0_tryStatement_228 : decode cX0_tryStatement 228 = .ok (.getfield 15, 3) := by decide +kernel
theorem dX0_tryStatement_231 : decode cX0_tryStatement 231 = .ok (.getfield 99, 3) := by decide +kernel
theorem dX0_tryStatement_234 : decode cX0_tryStatement 234 = .ok (.iconst (-1), 1) := by decide +kernel
theorem dX0_tryStatement_235 : decode cX0_tryStatement 235 = .ok (.iload 4, 2) := by decide +kernel
theorem dX0_tryStatement_237 : decode cX0_tryStatement 237 = .ok (.invokevirtual 284, 3) := by decide +kernel
theorem dX0_tryStatement_240 : decode cX0_tryStatement 240 = .ok (.aload_n 0, 1) := by decide +kernel
theorem dX0_tryStatement_241 : decode cX0_tryStatement 241 = .ok (.iload 5, 2) := by decide +kernel
theorem dX0_tryStatement_243 : decode cX0_tryStatement 243 = .ok (.putfield 94, 3) := by decide +kernel
theorem dX0_tryStatement_246 : decode cX0_tryStatement 246 = .ok (.aload_n 0, 1) := by decide +kernel
theorem dX0_tryStatement_247 : decode cX0_tryStatement 247 = .ok (.aload_n 1, 1) := by decide +kernel
theorem dX0_tryStatement_248 : decode cX0_tryStatement 248 = .ok (.getfield 247, 3) := by decide +kernel
theorem dX0_tryStatement_251 : decode cX0_tryStatement 251 = .ok (.iload 4, 2) := by decide +kernel
theorem dX0_tryStatement_253 : decode cX0_tryStatement 253 = .ok (.invokevirtual 291, 3) := by decide +kernel
theorem dX0_tryStatement_256 : decode cX0_tryStatement 256 = .ok (.aload_n 0, 1) := by decide +kernel
theorem dX0_tryStatement_257 : decode cX0_tryStatement 257 = .ok (.dup, 1) := by decide +kernel
theorem dX0_tryStatement_258 : decode cX0_tryStatement 258 = .ok (.getfield 94, 3) := by decide +kernel
theorem dX0_tryStatement_261 : decode cX0_tryStatement 261 = .ok (.iload 9, 2) := by decide +kernel
theorem dX0_tryStatement_263 : decode cX0_tryStatement 263 = .ok (.ior, 1) := by decide +kernel
theorem dX0_tryStatement_264 : decode cX0_tryStatement 264 = .ok (.putfield 94, 3) := by decide +kernel
theorem hV_X0_last : yX0_last.cls = RX0 ∧ yX0_last.cls ≠ "java/lang/invoke/MethodHandle" ∧ yX0_last.cls ≠ "java/lang/invoke/VarHandle" ∧ (parseMethodDescriptor yX0_last.desc).map (fun d => d.parameters.length) = some 2 := by decide +kernel
theorem dX0_statement_32 : decode cX0_statement 32 = .ok (.aload_n 1, 1) := by decide +kernel
theorem dX0_statement_33 : decode cX0_statement 33 = .ok (.getfield 178, 3) := by decide +kernel
theorem dX0_statement_36 : decode cX0_statement 36 = .ok (.tableswitch 205 21 33 #[68, 124, 132, 179, 76, 84, 84, 92, 100, 100, 108, 116, 147], 68) := by decide +kernel
theorem dX0_statement_104 : decode cX0_statement 104 = .ok (.aload_n 0, 1) := by decide +kernel
theorem dX0_statement_105 : decode cX0_statement 105 = .ok (.aload_n 1, 1) := by decide +kernel
theorem dX0_statement_106 : decode cX0_statement 106 = .ok (.invokevirtual 77, 3) := by decide +kernel
theorem dX0_statement_109 : decode cX0_statement 109 = .ok (.goto 132, 3) := by decide +kernel
theorem dX0_statement_241 : decode cX0_statement 241 = .ok (.return_, 1) := by decide +kernel
theorem dX0_statement_160 : decode cX0_statement 160 = .ok (.aload_n 0, 1) := by decide +kernel
theorem dX0_statement_161 : decode cX0_statement 161 = .ok (.aload_n 1, 1) := by decide +kernel
theorem dX0_statement_162 : decode cX0_statement 162 = .ok (.invokevirtual 199, 3) := by decide +kernel
theorem dX0_statement_165 : decode cX0_statement 165 = .ok (.goto 76, 3) := by decide +kernel
theorem dX0_statement_168 : decode cX0_statement 168 = .ok (.aload_n 0, 1) := by decide +kernel
theorem dX0_statement_169 : decode cX0_statement 169 = .ok (.aload_n 1, 1) := by decide +kernel
theorem dX0_statement_170 : decode cX0_statement 170 = .ok (.getfield 165, 3) := by decide +kernel
theorem dX0_statement_173 : decode cX0_statement 173 = .ok (.aload_n 1, 1) := by decide +kernel
theorem dX0_statement_174 : decode cX0_statement 174 = .ok (.getfield 202, 3) := by decide +kernel
theorem dX0_statement_177 : decode cX0_statement 177 = .ok (.invokevirtual 205, 3) := by decide +kernel
theorem dX0_statement_180 : decode cX0_statement 180 = .ok (.goto 61, 3) := by decide +kernel
theorem dX0_statement_215 : decode cX0_statement 215 = .ok (.aload_n 0, 1) := by decide +kernel
theorem dX0_statement_216 : decode cX0_statement 216 = .ok (.aload_n 1, 1) := by decide +kernel
theorem dX0_statement_217 : decode cX0_statement 217 = .ok (.getfield 165, 3) := by decide +kernel
theorem dX0_statement_220 : decode cX0_statement 220 = .ok (.invokevirtual 209, 3) := by decide +kernel
theorem dX0_statement_223 : decode cX0_statement 223 = .ok (.bipush 63, 2) := by decide +kernel
theorem dX0_statement_225 : decode cX0_statement 225 = .ok (.if_icmp .eq 16, 3) := by decide +kernel
theorem dX0_statement_228 : decode cX0_statement 228 = .ok (.aload_n 0, 1) := by decide +kernel
theorem dX0_statement_229 : decode cX0_statement 229 = .ok (.getfield 15, 3) := by decide +kernel
theorem dX0_statement_232 : decode cX0_statement 232 = .ok (.iconst 5, 1) := by decide +kernel
theorem dX0_statement_233 : decode cX0_statement 233 = .ok (.iconst 0, 1) := by decide +kernel
theorem dX0_statement_234 : decode cX0_statement 234 = .ok (.iconst 0, 1) := by decide +kernel
theorem dX0_statement_235 : decode cX0_statement 235 = .ok (.invokevirtual 140, 3) := by decide +kernel
theorem dX0_statement_238 : decode cX0_statement 238 = .ok (.goto 3, 3) := by decide +kernel
theorem dX0_statement_112 : decode cX0_statement 112 = .ok (.aload_n 0, 1) := by decide +kernel
theorem dX0_statement_113 : decode cX0_statement 113 = .ok (.aload_n 1, 1) := by decide +kernel
theorem dX0_statement_114 : decode cX0_statement 114 = .ok (.invokevirtual 181, 3) := by decide +kernel
theorem dX0_statement_117 : decode cX0_statement 117 = .ok (.goto 124, 3) := by decide +kernel
theorem dX0_statement_120 : decode cX0_statement 120 = .ok (.aload_n 0, 1) := by decide +kernel
theorem dX0_statement_121 : decode cX0_statement 121 = .ok (.aload_n 1, 1) := by decide +kernel
theorem dX0_statement_122 : decode cX0_statement 122 = .ok (.invokevirtual 184, 3) := by decide +kernel
theorem dX0_statement_125 : decode cX0_statement 125 = .ok (.goto 116, 3) := by decide +kernel
theorem dX0_statement_128 : decode cX0_statement 128 = .ok (.aload_n 0, 1) := by decide +kernel
theorem dX0_statement_129 : decode cX0_statement 129 = .ok (.aload_n 1, 1) := by decide +kernel
theorem dX0_statement_130 : decode cX0_statement 130 = .ok (.invokevirtual 187, 3) := by decide +kernel
theorem dX0_statement_133 : decode cX0_statement 133 = .ok (.goto 108, 3) := by decide +kernel
theorem dX0_statement_136 : decode cX0_statement 136 = .ok (.aload_n 0, 1) := by decide +kernel
theorem dX0_statement_137 : decode cX0_statement 137 = .ok (.aload_n 1, 1) := by decide +kernel
theorem dX0_statement_138 : decode cX0_statement 138 = .ok (.invokevirtual 190, 3) := by decide +kernel
theorem dX0_statement_141 : decode cX0_statement 141 = .ok (.goto 100, 3) := by decide +kernel
theorem dX0_statement_144 : decode cX0_statement 144 = .ok (.aload_n 0, 1) := by decide +kernel
theorem dX0_statement_145 : decode cX0_statement 145 = .ok (.aload_n 1, 1) := by decide +kernel
theorem dX0_statement_146 : decode cX0_statement 146 = .ok (.invokevirtual 193, 3) := by decide +kernel
theorem dX0_statement_149 : decode cX0_statement 149 = .ok (.goto 92, 3) := by decide +kernel
theorem dX0_statement_152 : decode cX0_statement 152 = .ok (.aload_n 0, 1) := by decide +kernel
theorem dX0_statement_153 : decode cX0_statement 153 = .ok (.aload_n 1, 1) := by decide +kernel
theorem dX0_statement_154 : decode cX0_statement 154 = .ok (.invokevirtual 196, 3) := by decide +kernel
theorem dX0_statement_157 : decode cX0_statement 157 = .ok (.goto 84, 3) := by decide +kernel
theorem dX0_statement_183 : decode cX0_statement 183 = .ok (.aload_n 0, 1) := by decide +kernel
theorem dX0_statement_184 : decode cX0_statement 184 = .ok (.aload_n 1, 1) := by decide +kernel
theorem dX0_statement_185 : decode cX0_statement 185 = .ok (.getfield 165, 3) := by decide +kernel
theorem dX0_statement_188 : decode cX0_statement 188 = .ok (.aload_n 0, 1) := by decide +kernel
theorem dX0_statement_189 : decode cX0_statement 189 = .ok (.aload_n 1, 1) := by decide +kernel
theorem dX0_statement_190 : decode cX0_statement 190 = .ok (.getfield 165, 3) := by decide +kernel
theorem dX0_statement_193 : decode cX0_statement 193 = .ok (.invokevirtual 209, 3) := by decide +kernel
theorem dX0_statement_196 : decode cX0_statement 196 = .ok (.bipush 60, 2) := by decide +kernel
theorem dX0_statement_198 : decode cX0_statement 198 = .ok (.invokevirtual 213, 3) := by decide +kernel
theorem dX0_statement_201 : decode cX0_statement 201 = .ok (.aload_n 0, 1) := by decide +kernel
theorem dX0_statement_202 : decode cX0_statement 202 = .ok (.getfield 15, 3) := by decide +kernel
theorem dX0_statement_205 : decode cX0_statement 205 = .ok (.bipush 13, 2) := by decide +kernel
theorem dX0_statement_207 : decode cX0_statement 207 = .ok (.iconst 0, 1) := by decide +kernel
theorem dX0_statement_208 : decode cX0_statement 208 = .ok (.iconst 0, 1) := by decide +kernel
theorem dX0_statement_209 : decode cX0_statement 209 = .ok (.invokevirtual 140, 3) := by decide +kernel
theorem dX0_statement_212 : decode cX0_statement 212 = .ok (.goto 29, 3) := by decide +kernel
theorem dX0_statement_0 : decode cX0_statement 0 = .ok (.iload_n 2, 1) := by decide +kernel
theorem dX0_statement_1 : decode cX0_statement 1 = .ok (.ifCond .eq 31, 3) := by decide +kernel
theorem dX0_statement_4 : decode cX0_statement 4 = .ok (.aload_n 1, 1) := by decide +kernel
theorem dX0_statement_5 : decode cX0_statement 5 = .ok (.getfield 178, 3) := by decide +kernel
theorem dX0_statement_8 : decode cX0_statement 8 = .ok (.bipush 21, 2) := by decide +kernel
theorem dX0_statement_10 : decode cX0_statement 10 = .ok (.if_icmp .eq 22, 3) := by decide +kernel
theorem dX0_statement_13 : decode cX0_statement 13 = .ok (.aload_n 1, 1) := by decide +kernel
theorem dX0_statement_14 : decode cX0_statement 14 = .ok (.getfield 178, 3) := by decide +kernel
theorem dX0_statement_17 : decode cX0_statement 17 = .ok (.bipush 34, 2) := by decide +kernel
theorem dX0_statement_19 : decode cX0_statement 19 = .ok (.if_icmp .eq 13, 3) := by decide +kernel
theorem dX0_statement_22 : decode cX0_statement 22 = .ok (.aload_n 0, 1) := by decide +kernel
theorem dX0_statement_23 : decode cX0_statement 23 = .ok (.getfield 15, 3) := by decide +kernel
theorem dX0_statement_26 : decode cX0_statement 26 = .ok (.iconst 0, 1) := by decide +kernel
theorem dX0_statement_27 : decode cX0_statement 27 = .ok (.iconst 0, 1) := by decide +kernel
theorem dX0_statement_28 : decode cX0_statement 28 = .ok (.iconst 0, 1) := by decide +kernel
theorem dX0_statement_29 : decode cX0_statement 29 = .ok (.invokevirtual 140, 3) := by decide +kernel
theorem hV_X0_local : yX0_local.cls = RX0 ∧ yX0_local.cls ≠ "java/lang/invoke/MethodHandle" ∧ yX0_local.cls ≠ "java/lang/invoke/VarHandle" ∧ (parseMethodDescriptor yX0_local.desc).map (fun d => d.parameters.length) = some 1 := by decide +kernel
theorem hV_X0_assign : yX0_assign.cls = RX0 ∧ yX0_assign.cls ≠ "java/lang/invoke/MethodHandle" ∧ yX0_assign.cls ≠ "java/lang/invoke/VarHandle" ∧ (parseMethodDescriptor yX0_assign.desc).map (fun d => d.parameters.length) = some 2 := by decide +kernel
theorem hV_X0_ifStatement : yX0_ifStatement.cls = RX0 ∧ yX0_ifStatement.cls ≠ "java/lang/invoke/MethodHandle" ∧ yX0_ifStatement.cls ≠ "java/lang/invoke/VarHandle" ∧ (parseMethodDescriptor yX0_ifStatement.desc).map (fun d => d.parameters.length) = some 1 := by decide +kernel
theorem hV_X0_loopStatement : yX0_loopStatement.cls = RX0 ∧ yX0_loopStatement.cls ≠ "java/lang/invoke/MethodHandle" ∧ yX0_loopStatement.cls ≠ "java/lang/invoke/VarHandle" ∧ (parseMethodDescriptor yX0_loopStatement.desc).map (fun d => d.parameters.length) = some 1 := by decide +kernel
theorem hV_X0_returnStatement : yX0_returnStatement.cls = RX0 ∧ yX0_returnStatement.cls ≠ "java/lang/invoke/MethodHandle" ∧ yX0_returnStatement.cls ≠ "java/lang/invoke/VarHandle" ∧ (parseMethodDescriptor yX0_returnStatement.desc).map (fun d => d.parameters.length) = some 1 := by decide +kernel
theorem hV_X0_jumpStatement : yX0_jumpStatement.cls = RX0 ∧ yX0_jumpStatement.cls ≠ "java/lang/invoke/MethodHandle" ∧ yX0_jumpStatement.cls ≠ "java/lang/invoke/VarHandle" ∧ (parseMethodDescriptor yX0_jumpStatement.desc).map (fun d => d.parameters.length) = some 1 := by decide +kernel
theorem hV_X0_throwStatement : yX0_throwStatement.cls = RX0 ∧ yX0_throwStatement.cls ≠ "java/lang/invoke/MethodHandle" ∧ yX0_throwStatement.cls ≠ "java/lang/invoke/VarHandle" ∧ (parseMethodDescriptor yX0_throwStatement.desc).map (fun d => d.parameters.length) = some 1 := by decide +kernel
theorem hV_X0_tryStatement : yX0_tryStatement.cls = RX0 ∧ yX0_tryStatement.cls ≠ "java/lang/invoke/MethodHandle" ∧ yX0_tryStatement.cls ≠ "java/lang/invoke/VarHandle" ∧ (parseMethodDescriptor yX0_tryStatement.desc).map (fun d => d.parameters.length) = some 1 := by decide +kernel
section BJ
variable {G : pT} {K K1 : PK} {g : Nat → Nat → Nat} {q f n m b : Nat} {v : Int32}
theorem MtB.kI (h : MtB K) (hf : ¬ 12 = f) : MtB (_root_.Jvm.Pilot.@@N@@.kI K f q v) := fun p hp => by
  rw [kI_of hf]; exact h p hp
theorem MtB.set (h : MtB K) (hn : n ≤ 1000) : MtB (_root_.Jvm.Pilot.@@N@@.kI K 12 q (nI n)) := fun p hp => by
  by_cases e : p = q
  · subst e; exact ⟨n, hn, kI_eq⟩
  · rw [kI_ne e]; exact h p hp
theorem bl_of (h : K.2.2.1 7 m = some b) : bl K g m = rE (g 2 b) - rS (g 2 b) - 2 + 4 := by
  unfold bl
  rw [h]
theorem BdX.C (h : BdX K K1) (hp : ¬ K.1 q = 0) (f : Nat) : K1.2.2.1 f q = K.2.2.1 f q := (h.1 q hp).2.2.1 f
theorem BdX.I (h : BdX K K1) (hp : ¬ K.1 q = 0) (hf : (decide (f = 5) || decide (11 ≤ f ∧ f ≤ 14) || decide (26 ≤ f)) = false) : K1.2.1 f q = K.2.1 f q := (h.1 q hp).2.1 f (bdI_no hf)
end BJ
theorem dX0_beginMethod_0 : decode cX0_beginMethod 0 = .ok (.aload_n 0, 1) := by decide +kernel
theorem dX0_beginMethod_1 : decode cX0_beginMethod 1 = .ok (.aload_n 1, 1) := by decide +kernel
theorem dX0_beginMethod_2 : decode cX0_beginMethod 2 = .ok (.putfield 69, 3) := by decide +kernel
theorem dX0_beginMethod_5 : decode cX0_beginMethod 5 = .ok (.aload_n 0, 1) := by decide +kernel
theorem dX0_beginMethod_6 : decode cX0_beginMethod 6 = .ok (.aconst_null, 1) := by decide +kernel
theorem dX0_beginMethod_7 : decode cX0_beginMethod 7 = .ok (.putfield 84, 3) := by decide +kernel
theorem dX0_beginMethod_10 : decode cX0_beginMethod 10 = .ok (.aload_n 0, 1) := by decide +kernel
theorem dX0_beginMethod_11 : decode cX0_beginMethod 11 = .ok (.iconst 0, 1) := by decide +kernel
theorem dX0_beginMethod_12 : decode cX0_beginMethod 12 = .ok (.putfield 88, 3) := by decide +kernel
theorem dX0_beginMethod_15 : decode cX0_beginMethod 15 = .ok (.aload_n 0, 1) := by decide +kernel
theorem dX0_beginMethod_16 : decode cX0_beginMethod 16 = .ok (.iconst 0, 1) := by decide +kernel
theorem dX0_beginMethod_17 : decode cX0_beginMethod 17 = .ok (.putfield 91, 3) := by decide +kernel
theorem dX0_beginMethod_20 : decode cX0_beginMethod 20 = .ok (.aload_n 0, 1) := by decide +kernel
theorem dX0_beginMethod_21 : decode cX0_beginMethod 21 = .ok (.iconst 0, 1) := by decide +kernel
theorem dX0_beginMethod_22 : decode cX0_beginMethod 22 = .ok (.putfield 94, 3) := by decide +kernel
theorem dX0_beginMethod_25 : decode cX0_beginMethod 25 = .ok (.aload_n 0, 1) := by decide +kernel
theorem dX0_beginMethod_26 : decode cX0_beginMethod 26 = .ok (.getfield 15, 3) := by decide +kernel
theorem dX0_beginMethod_29 : decode cX0_beginMethod 29 = .ok (.invokevirtual 97, 3) := by decide +kernel
theorem dX0_beginMethod_32 : decode cX0_beginMethod 32 = .ok (.aload_n 0, 1) := by decide +kernel
theorem dX0_beginMethod_33 : decode cX0_beginMethod 33 = .ok (.getfield 69, 3) := by decide +kernel
theorem dX0_beginMethod_36 : decode cX0_beginMethod 36 = .ok (.aload_n 0, 1) := by decide +kernel
theorem dX0_beginMethod_37 : decode cX0_beginMethod 37 = .ok (.getfield 15, 3) := by decide +kernel
theorem dX0_beginMethod_40 : decode cX0_beginMethod 40 = .ok (.getfield 99, 3) := by decide +kernel
theorem dX0_beginMethod_43 : decode cX0_beginMethod 43 = .ok (.putfield 100, 3) := by decide +kernel
theorem dX0_beginMethod_46 : decode cX0_beginMethod 46 = .ok (.aload_n 0, 1) := by decide +kernel
theorem dX0_beginMethod_47 : decode cX0_beginMethod 47 = .ok (.getfield 69, 3) := by decide +kernel
theorem dX0_beginMethod_50 : decode cX0_beginMethod 50 = .ok (.aload_n 0, 1) := by decide +kernel
theorem dX0_beginMethod_51 : decode cX0_beginMethod 51 = .ok (.getfield 15, 3) := by decide +kernel
theorem dX0_beginMethod_54 : decode cX0_beginMethod 54 = .ok (.getfield 103, 3) := by decide +kernel
theorem dX0_beginMethod_57 : decode cX0_beginMethod 57 = .ok (.putfield 106, 3) := by decide +kernel
theorem dX0_beginMethod_60 : decode cX0_beginMethod 60 = .ok (.iconst 0, 1) := by decide +kernel
theorem dX0_beginMethod_61 : decode cX0_beginMethod 61 = .ok (.istore_n 2, 1) := by decide +kernel
theorem dX0_beginMethod_62 : decode cX0_beginMethod 62 = .ok (.iload_n 2, 1) := by decide +kernel
theorem dX0_beginMethod_63 : decode cX0_beginMethod 63 = .ok (.aload_n 0, 1) := by decide +kernel
theorem dX0_beginMethod_64 : decode cX0_beginMethod 64 = .ok (.getfield 69, 3) := by decide +kernel
theorem dX0_beginMethod_67 : decode cX0_beginMethod 67 = .ok (.getfield 109, 3) := by decide +kernel
theorem dX0_beginMethod_70 : decode cX0_beginMethod 70 = .ok (.invokevirtual 54, 3) := by decide +kernel
theorem dX0_beginMethod_73 : decode cX0_beginMethod 73 = .ok (.if_icmp .ge 58, 3) := by decide +kernel
theorem dX0_beginMethod_131 : decode cX0_beginMethod 131 = .ok (.return_, 1) := by decide +kernel
theorem dX0_beginMethod_76 : decode cX0_beginMethod 76 = .ok (.aload_n 0, 1) := by decide +kernel
theorem dX0_beginMethod_77 : decode cX0_beginMethod 77 = .ok (.getfield 69, 3) := by decide +kernel
theorem dX0_beginMethod_80 : decode cX0_beginMethod 80 = .ok (.getfield 109, 3) := by decide +kernel
theorem dX0_beginMethod_83 : decode cX0_beginMethod 83 = .ok (.iload_n 2, 1) := by decide +kernel
theorem dX0_beginMethod_84 : decode cX0_beginMethod 84 = .ok (.invokevirtual 59, 3) := by decide +kernel
theorem dX0_beginMethod_87 : decode cX0_beginMethod 87 = .ok (.checkcast 112, 3) := by decide +kernel
theorem dX0_beginMethod_90 : decode cX0_beginMethod 90 = .ok (.astore_n 3, 1) := by decide +kernel
theorem dX0_beginMethod_91 : decode cX0_beginMethod 91 = .ok (.aload_n 0, 1) := by decide +kernel
theorem dX0_beginMethod_92 : decode cX0_beginMethod 92 = .ok (.aload_n 3, 1) := by decide +kernel
theorem dX0_beginMethod_93 : decode cX0_beginMethod 93 = .ok (.getfield 114, 3) := by decide +kernel
theorem dX0_beginMethod_96 : decode cX0_beginMethod 96 = .ok (.aload_n 0, 1) := by decide +kernel
theorem dX0_beginMethod_97 : decode cX0_beginMethod 97 = .ok (.getfield 9, 3) := by decide +kernel
theorem dX0_beginMethod_100 : decode cX0_beginMethod 100 = .ok (.aload_n 3, 1) := by decide +kernel
theorem dX0_beginMethod_101 : decode cX0_beginMethod 101 = .ok (.getfield 117, 3) := by decide +kernel
theorem dX0_beginMethod_104 : decode cX0_beginMethod 104 = .ok (.invokevirtual 120, 3) := by decide +kernel
theorem dX0_beginMethod_107 : decode cX0_beginMethod 107 = .ok (.invokevirtual 126, 3) := by decide +kernel
theorem dX0_beginMethod_110 : decode cX0_beginMethod 110 = .ok (.istore 4, 2) := by decide +kernel
theorem dX0_beginMethod_112 : decode cX0_beginMethod 112 = .ok (.aload_n 0, 1) := by decide +kernel
theorem dX0_beginMethod_113 : decode cX0_beginMethod 113 = .ok (.dup, 1) := by decide +kernel
theorem dX0_beginMethod_114 : decode cX0_beginMethod 114 = .ok (.getfield 94, 3) := by decide +kernel
theorem dX0_beginMethod_117 : decode cX0_beginMethod 117 = .ok (.iconst 1, 1) := by decide +kernel
theorem dX0_beginMethod_118 : decode cX0_beginMethod 118 = .ok (.iload 4, 2) := by decide +kernel
theorem dX0_beginMethod_120 : decode cX0_beginMethod 120 = .ok (.ishl, 1) := by decide +kernel
theorem dX0_beginMethod_121 : decode cX0_beginMethod 121 = .ok (.ior, 1) := by decide +kernel
theorem dX0_beginMethod_122 : decode cX0_beginMethod 122 = .ok (.putfield 94, 3) := by decide +kernel
theorem dX0_beginMethod_125 : decode cX0_beginMethod 125 = .ok (.iinc 2 1, 3) := by decide +kernel
theorem dX0_beginMethod_128 : decode cX0_beginMethod 128 = .ok (.goto (-66), 3) := by decide +kernel
theorem hV_X1_beginMethod : yX1_beginMethod.cls = RX1 ∧ yX1_beginMethod.cls ≠ "java/lang/invoke/MethodHandle" ∧ yX1_beginMethod.cls ≠ "java/lang/invoke/VarHandle" ∧ (parseMethodDescriptor yX1_beginMethod.desc).map (fun d => d.parameters.length) = some 0 := by decide +kernel
theorem dX0_endMethod_0 : decode cX0_endMethod 0 = .ok (.aload_n 0, 1) := by decide +kernel
theorem dX0_endMethod_1 : decode cX0_endMethod 1 = .ok (.getfield 69, 3) := by decide +kernel
theorem dX0_endMethod_4 : decode cX0_endMethod 4 = .ok (.getfield 130, 3) := by decide +kernel
theorem dX0_endMethod_7 : decode cX0_endMethod 7 = .ok (.bipush 63, 2) := by decide +kernel
theorem dX0_endMethod_9 : decode cX0_endMethod 9 = .ok (.if_icmp .eq 30, 3) := by decide +kernel
theorem dX0_endMethod_39 : decode cX0_endMethod 39 = .ok (.aload_n 0, 1) := by decide +kernel
theorem dX0_endMethod_40 : decode cX0_endMethod 40 = .ok (.getfield 15, 3) := by decide +kernel
theorem dX0_endMethod_43 : decode cX0_endMethod 43 = .ok (.aload_n 0, 1) := by decide +kernel
theorem dX0_endMethod_44 : decode cX0_endMethod 44 = .ok (.getfield 69, 3) := by decide +kernel
theorem dX0_endMethod_47 : decode cX0_endMethod 47 = .ok (.getfield 130, 3) := by decide +kernel
theorem dX0_endMethod_50 : decode cX0_endMethod 50 = .ok (.bipush 63, 2) := by decide +kernel
theorem dX0_endMethod_52 : decode cX0_endMethod 52 = .ok (.if_icmp .ne 8, 3) := by decide +kernel
theorem dX0_endMethod_60 : decode cX0_endMethod 60 = .ok (.bipush 31, 2) := by decide +kernel
theorem dX0_endMethod_62 : decode cX0_endMethod 62 = .ok (.iconst 0, 1) := by decide +kernel
theorem dX0_endMethod_63 : decode cX0_endMethod 63 = .ok (.iconst 0, 1) := by decide +kernel
theorem dX0_endMethod_64 : decode cX0_endMethod 64 = .ok (.invokevirtual 140, 3) := by decide +kernel
theorem dX0_endMethod_67 : decode cX0_endMethod 67 = .ok (.aload_n 0, 1) := by decide +kernel
theorem dX0_endMethod_68 : decode cX0_endMethod 68 = .ok (.getfield 69, 3) := by decide +kernel
theorem dX0_endMethod_71 : decode cX0_endMethod 71 = .ok (.aload_n 0, 1) := by decide +kernel
theorem dX0_endMethod_72 : decode cX0_endMethod 72 = .ok (.getfield 15, 3) := by decide +kernel
theorem dX0_endMethod_75 : decode cX0_endMethod 75 = .ok (.getfield 144, 3) := by decide +kernel
theorem dX0_endMethod_78 : decode cX0_endMethod 78 = .ok (.putfield 147, 3) := by decide +kernel
theorem dX0_endMethod_81 : decode cX0_endMethod 81 = .ok (.aload_n 0, 1) := by decide +kernel
theorem dX0_endMethod_82 : decode cX0_endMethod 82 = .ok (.getfield 69, 3) := by decide +kernel
theorem dX0_endMethod_85 : decode cX0_endMethod 85 = .ok (.aload_n 0, 1) := by decide +kernel
theorem dX0_endMethod_86 : decode cX0_endMethod 86 = .ok (.getfield 15, 3) := by decide +kernel
theorem dX0_endMethod_89 : decode cX0_endMethod 89 = .ok (.getfield 103, 3) := by decide +kernel
theorem dX0_endMethod_92 : decode cX0_endMethod 92 = .ok (.putfield 149, 3) := by decide +kernel
theorem dX0_endMethod_95 : decode cX0_endMethod 95 = .ok (.return_, 1) := by decide +kernel
theorem dX0_endMethod_55 : decode cX0_endMethod 55 = .ok (.bipush 26, 2) := by decide +kernel
theorem dX0_endMethod_57 : decode cX0_endMethod 57 = .ok (.goto 5, 3) := by decide +kernel
theorem dX0_endMethod_12 : decode cX0_endMethod 12 = .ok (.aload_n 0, 1) := by decide +kernel
theorem dX0_endMethod_13 : decode cX0_endMethod 13 = .ok (.getfield 94, 3) := by decide +kernel
theorem dX0_endMethod_16 : decode cX0_endMethod 16 = .ok (.iconst (-1), 1) := by decide +kernel
theorem dX0_endMethod_17 : decode cX0_endMethod 17 = .ok (.if_icmp .eq 22, 3) := by decide +kernel
theorem dX0_endMethod_20 : decode cX0_endMethod 20 = .ok (.aload_n 0, 1) := by decide +kernel
theorem dX0_endMethod_21 : decode cX0_endMethod 21 = .ok (.getfield 9, 3) := by decide +kernel
theorem dX0_endMethod_24 : decode cX0_endMethod 24 = .ok (.bipush 15, 2) := by decide +kernel
theorem dX0_endMethod_26 : decode cX0_endMethod 26 = .ok (.aload_n 0, 1) := by decide +kernel
theorem dX0_endMethod_27 : decode cX0_endMethod 27 = .ok (.getfield 69, 3) := by decide +kernel
theorem dX0_endMethod_30 : decode cX0_endMethod 30 = .ok (.getfield 73, 3) := by decide +kernel
theorem dX0_endMethod_33 : decode cX0_endMethod 33 = .ok (.getfield 133, 3) := by decide +kernel
theorem dX0_endMethod_36 : decode cX0_endMethod 36 = .ok (.invokevirtual 136, 3) := by decide +kernel
theorem sumN_mono {f : Nat → Nat} {n m : Nat} (h : n ≤ m) : sumN f n ≤ sumN f m := by
  induction h with
  | refl => exact Nat.le_refl _
  | step _ ih => exact Nat.le_trans ih (Nat.le_add_right _ _)
theorem sw_m44_64 {x : Int32} (h44 : ¬ x = 44) (h45 : ¬ x = 45) (h46 : ¬ x = 46) (h47 : ¬ x = 47) (h48 : ¬ x = 48) (h49 : ¬ x = 49) (h50 : ¬ x = 50) (h51 : ¬ x = 51) (h52 : ¬ x = 52) (h53 : ¬ x = 53) (h54 : ¬ x = 54) (h55 : ¬ x = 55) (h56 : ¬ x = 56) (h57 : ¬ x = 57) (h58 : ¬ x = 58) (h59 : ¬ x = 59) (h60 : ¬ x = 60) (h61 : ¬ x = 61) (h62 : ¬ x = 62) (h63 : ¬ x = 63) (h64 : ¬ x = 64) : x.toInt < 44 ∨ 64 < x.toInt := by
  have a44 : ¬ x.toInt = 44 := tJ_ne (n := 44) (by decide) h44
  have a45 : ¬ x.toInt = 45 := tJ_ne (n := 45) (by decide) h45
  have a46 : ¬ x.toInt = 46 := tJ_ne (n := 46) (by decide) h46
  have a47 : ¬ x.toInt = 47 := tJ_ne (n := 47) (by decide) h47
  have a48 : ¬ x.toInt = 48 := tJ_ne (n := 48) (by decide) h48
  have a49 : ¬ x.toInt = 49 := tJ_ne (n := 49) (by decide) h49
  have a50 : ¬ x.toInt = 50 := tJ_ne (n := 50) (by decide) h50
  have a51 : ¬ x.toInt = 51 := tJ_ne (n := 51) (by decide) h51
  have a52 : ¬ x.toInt = 52 := tJ_ne (n := 52) (by decide) h52
  have a53 : ¬ x.toInt = 53 := tJ_ne (n := 53) (by decide) h53
  have a54 : ¬ x.toInt = 54 := tJ_ne (n := 54) (by decide) h54
  have a55 : ¬ x.toInt = 55 := tJ_ne (n := 55) (by decide) h55
  have a56 : ¬ x.toInt = 56 := tJ_ne (n := 56) (by decide) h56
  have a57 : ¬ x.toInt = 57 := tJ_ne (n := 57) (by decide) h57
  have a58 : ¬ x.toInt = 58 := tJ_ne (n := 58) (by decide) h58
  have a59 : ¬ x.toInt = 59 := tJ_ne (n := 59) (by decide) h59
  have a60 : ¬ x.toInt = 60 := tJ_ne (n := 60) (by decide) h60
  have a61 : ¬ x.toInt = 61 := tJ_ne (n := 61) (by decide) h61
  have a62 : ¬ x.toInt = 62 := tJ_ne (n := 62) (by decide) h62
  have a63 : ¬ x.toInt = 63 := tJ_ne (n := 63) (by decide) h63
  have a64 : ¬ x.toInt = 64 := tJ_ne (n := 64) (by decide) h64
  omega
theorem sw_m47_59 {x : Int32} (h47 : ¬ x = 47) (h48 : ¬ x = 48) (h49 : ¬ x = 49) (h50 : ¬ x = 50) (h51 : ¬ x = 51) (h52 : ¬ x = 52) (h53 : ¬ x = 53) (h54 : ¬ x = 54) (h55 : ¬ x = 55) (h56 : ¬ x = 56) (h57 : ¬ x = 57) (h58 : ¬ x = 58) (h59 : ¬ x = 59) : x.toInt < 47 ∨ 59 < x.toInt := by
  have a47 : ¬ x.toInt = 47 := tJ_ne (n := 47) (by decide) h47
  have a48 : ¬ x.toInt = 48 := tJ_ne (n := 48) (by decide) h48
  have a49 : ¬ x.toInt = 49 := tJ_ne (n := 49) (by decide) h49
  have a50 : ¬ x.toInt = 50 := tJ_ne (n := 50) (by decide) h50
  have a51 : ¬ x.toInt = 51 := tJ_ne (n := 51) (by decide) h51
  have a52 : ¬ x.toInt = 52 := tJ_ne (n := 52) (by decide) h52
  have a53 : ¬ x.toInt = 53 := tJ_ne (n := 53) (by decide) h53
  have a54 : ¬ x.toInt = 54 := tJ_ne (n := 54) (by decide) h54
  have a55 : ¬ x.toInt = 55 := tJ_ne (n := 55) (by decide) h55
  have a56 : ¬ x.toInt = 56 := tJ_ne (n := 56) (by decide) h56
  have a57 : ¬ x.toInt = 57 := tJ_ne (n := 57) (by decide) h57
  have a58 : ¬ x.toInt = 58 := tJ_ne (n := 58) (by decide) h58
  have a59 : ¬ x.toInt = 59 := tJ_ne (n := 59) (by decide) h59
  omega
theorem dX5_push_0 : decode cX5_push 0 = .ok (.aload_n 0, 1) := by decide +kernel
theorem dX5_push_1 : decode cX5_push 1 = .ok (.getfield 103, 3) := by decide +kernel
theorem dX5_push_4 : decode cX5_push 4 = .ok (.ifCond .lt 15, 3) := by decide +kernel
theorem dX5_push_7 : decode cX5_push 7 = .ok (.aload_n 0, 1) := by decide +kernel
theorem dX5_push_8 : decode cX5_push 8 = .ok (.getfield 103, 3) := by decide +kernel
theorem dX5_push_11 : decode cX5_push 11 = .ok (.aload_n 0, 1) := by decide +kernel
theorem dX5_push_12 : decode cX5_push 12 = .ok (.getfield 22, 3) := by decide +kernel
theorem dX5_push_15 : decode cX5_push 15 = .ok (.arraylength, 1) := by decide +kernel
theorem dX5_push_16 : decode cX5_push 16 = .ok (.if_icmp .lt 8, 3) := by decide +kernel
theorem dX5_push_24 : decode cX5_push 24 = .ok (.aload_n 0, 1) := by decide +kernel
theorem dX5_push_25 : decode cX5_push 25 = .ok (.getfield 22, 3) := by decide +kernel
theorem dX5_push_28 : decode cX5_push 28 = .ok (.aload_n 0, 1) := by decide +kernel
theorem dX5_push_29 : decode cX5_push 29 = .ok (.getfield 103, 3) := by decide +kernel
theorem dX5_push_32 : decode cX5_push 32 = .ok (.lload_n 1, 1) := by decide +kernel
theorem dX5_push_33 : decode cX5_push 33 = .ok (.lastore, 1) := by decide +kernel
theorem dX5_push_34 : decode cX5_push 34 = .ok (.aload_n 0, 1) := by decide +kernel
theorem dX5_push_35 : decode cX5_push 35 = .ok (.dup, 1) := by decide +kernel
theorem dX5_push_36 : decode cX5_push 36 = .ok (.getfield 103, 3) := by decide +kernel
theorem dX5_push_39 : decode cX5_push 39 = .ok (.iconst 1, 1) := by decide +kernel
theorem dX5_push_40 : decode cX5_push 40 = .ok (.iadd, 1) := by decide +kernel
theorem dX5_push_41 : decode cX5_push 41 = .ok (.putfield 103, 3) := by decide +kernel
theorem dX5_push_44 : decode cX5_push 44 = .ok (.return_, 1) := by decide +kernel
theorem dX5_pop_0 : decode cX5_pop 0 = .ok (.aload_n 0, 1) := by decide +kernel
theorem dX5_pop_1 : decode cX5_pop 1 = .ok (.getfield 103, 3) := by decide +kernel
theorem dX5_pop_4 : decode cX5_pop 4 = .ok (.ifCond .le 15, 3) := by decide +kernel
theorem dX5_pop_7 : decode cX5_pop 7 = .ok (.aload_n 0, 1) := by decide +kernel
theorem dX5_pop_8 : decode cX5_pop 8 = .ok (.getfield 103, 3) := by decide +kernel
theorem dX5_pop_11 : decode cX5_pop 11 = .ok (.aload_n 0, 1) := by decide +kernel
theorem dX5_pop_12 : decode cX5_pop 12 = .ok (.getfield 22, 3) := by decide +kernel
theorem dX5_pop_15 : decode cX5_pop 15 = .ok (.arraylength, 1) := by decide +kernel
theorem dX5_pop_16 : decode cX5_pop 16 = .ok (.if_icmp .le 9, 3) := by decide +kernel
theorem dX5_pop_25 : decode cX5_pop 25 = .ok (.aload_n 0, 1) := by decide +kernel
theorem dX5_pop_26 : decode cX5_pop 26 = .ok (.dup, 1) := by decide +kernel
theorem dX5_pop_27 : decode cX5_pop 27 = .ok (.getfield 103, 3) := by decide +kernel
theorem dX5_pop_30 : decode cX5_pop 30 = .ok (.iconst 1, 1) := by decide +kernel
theorem dX5_pop_31 : decode cX5_pop 31 = .ok (.isub, 1) := by decide +kernel
theorem dX5_pop_32 : decode cX5_pop 32 = .ok (.putfield 103, 3) := by decide +kernel
theorem dX5_pop_35 : decode cX5_pop 35 = .ok (.aload_n 0, 1) := by decide +kernel
theorem dX5_pop_36 : decode cX5_pop 36 = .ok (.getfield 22, 3) := by decide +kernel
theorem dX5_pop_39 : decode cX5_pop 39 = .ok (.aload_n 0, 1) := by decide +kernel
theorem dX5_pop_40 : decode cX5_pop 40 = .ok (.getfield 103, 3) := by decide +kernel
theorem dX5_pop_43 : decode cX5_pop 43 = .ok (.laload, 1) := by decide +kernel
theorem dX5_pop_44 : decode cX5_pop 44 = .ok (.lreturn, 1) := by decide +kernel
theorem dX5_pushNumber_0 : decode cX5_pushNumber 0 = .ok (.aload_n 0, 1) := by decide +kernel
theorem dX5_pushNumber_1 : decode cX5_pushNumber 1 = .ok (.iload_n 1, 1) := by decide +kernel
theorem dX5_pushNumber_2 : decode cX5_pushNumber 2 = .ok (.i2l, 1) := by decide +kernel
theorem dX5_pushNumber_3 : decode cX5_pushNumber 3 = .ok (.ldc2_w 170, 3) := by decide +kernel
theorem dX5_pushNumber_6 : decode cX5_pushNumber 6 = .ok (.land, 1) := by decide +kernel
theorem dX5_pushNumber_7 : decode cX5_pushNumber 7 = .ok (.invokevirtual 172, 3) := by decide +kernel
theorem dX5_pushNumber_10 : decode cX5_pushNumber 10 = .ok (.return_, 1) := by decide +kernel
theorem hV_X5_push : yX5_push.cls = RX5 ∧ yX5_push.cls ≠ "java/lang/invoke/MethodHandle" ∧ yX5_push.cls ≠ "java/lang/invoke/VarHandle" ∧ (parseMethodDescriptor yX5_push.desc).map (fun d => d.parameters.length) = some 1 := by decide +kernel
theorem dX5_pushTruth_0 : decode cX5_pushTruth 0 = .ok (.aload_n 0, 1) := by decide +kernel
theorem dX5_pushTruth_1 : decode cX5_pushTruth 1 = .ok (.iload_n 1, 1) := by decide +kernel
theorem dX5_pushTruth_2 : decode cX5_pushTruth 2 = .ok (.ifCond .eq 7, 3) := by decide +kernel
theorem dX5_pushTruth_9 : decode cX5_pushTruth 9 = .ok (.lconst 0, 1) := by decide +kernel
theorem dX5_pushTruth_10 : decode cX5_pushTruth 10 = .ok (.invokevirtual 172, 3) := by decide +kernel
theorem dX5_pushTruth_13 : decode cX5_pushTruth 13 = .ok (.return_, 1) := by decide +kernel
theorem dX5_pushTruth_5 : decode cX5_pushTruth 5 = .ok (.lconst 1, 1) := by decide +kernel
theorem dX5_pushTruth_6 : decode cX5_pushTruth 6 = .ok (.goto 4, 3) := by decide +kernel
theorem dX5_slotAt_0 : decode cX5_slotAt 0 = .ok (.aload_n 0, 1) := by decide +kernel
theorem dX5_slotAt_1 : decode cX5_slotAt 1 = .ok (.getfield 100, 3) := by decide +kernel
theorem dX5_slotAt_4 : decode cX5_slotAt 4 = .ok (.iload_n 1, 1) := by decide +kernel
theorem dX5_slotAt_5 : decode cX5_slotAt 5 = .ok (.iadd, 1) := by decide +kernel
theorem dX5_slotAt_6 : decode cX5_slotAt 6 = .ok (.istore_n 2, 1) := by decide +kernel
theorem dX5_slotAt_7 : decode cX5_slotAt 7 = .ok (.iload_n 2, 1) := by decide +kernel
theorem dX5_slotAt_8 : decode cX5_slotAt 8 = .ok (.ifCond .lt 21, 3) := by decide +kernel
theorem dX5_slotAt_30 : decode cX5_slotAt 30 = .ok (.lreturn, 1) := by decide +kernel
theorem dX5_slotAt_11 : decode cX5_slotAt 11 = .ok (.iload_n 2, 1) := by decide +kernel
theorem dX5_slotAt_12 : decode cX5_slotAt 12 = .ok (.aload_n 0, 1) := by decide +kernel
theorem dX5_slotAt_13 : decode cX5_slotAt 13 = .ok (.getfield 22, 3) := by decide +kernel
theorem dX5_slotAt_16 : decode cX5_slotAt 16 = .ok (.arraylength, 1) := by decide +kernel
theorem dX5_slotAt_17 : decode cX5_slotAt 17 = .ok (.if_icmp .ge 12, 3) := by decide +kernel
theorem dX5_slotAt_20 : decode cX5_slotAt 20 = .ok (.aload_n 0, 1) := by decide +kernel
theorem dX5_slotAt_21 : decode cX5_slotAt 21 = .ok (.getfield 22, 3) := by decide +kernel
theorem dX5_slotAt_24 : decode cX5_slotAt 24 = .ok (.iload_n 2, 1) := by decide +kernel
theorem dX5_slotAt_25 : decode cX5_slotAt 25 = .ok (.laload, 1) := by decide +kernel
theorem dX5_slotAt_26 : decode cX5_slotAt 26 = .ok (.goto 4, 3) := by decide +kernel
theorem dX5_setSlot_0 : decode cX5_setSlot 0 = .ok (.aload_n 0, 1) := by decide +kernel
theorem dX5_setSlot_1 : decode cX5_setSlot 1 = .ok (.getfield 100, 3) := by decide +kernel
theorem dX5_setSlot_4 : decode cX5_setSlot 4 = .ok (.iload_n 1, 1) := by decide +kernel
theorem dX5_setSlot_5 : decode cX5_setSlot 5 = .ok (.iadd, 1) := by decide +kernel
theorem dX5_setSlot_6 : decode cX5_setSlot 6 = .ok (.istore 4, 2) := by decide +kernel
theorem dX5_setSlot_8 : decode cX5_setSlot 8 = .ok (.iload 4, 2) := by decide +kernel
theorem dX5_setSlot_10 : decode cX5_setSlot 10 = .ok (.ifCond .lt 21, 3) := by decide +kernel
theorem dX5_setSlot_31 : decode cX5_setSlot 31 = .ok (.return_, 1) := by decide +kernel
theorem dX5_setSlot_13 : decode cX5_setSlot 13 = .ok (.iload 4, 2) := by decide +kernel
theorem dX5_setSlot_15 : decode cX5_setSlot 15 = .ok (.aload_n 0, 1) := by decide +kernel
theorem dX5_setSlot_16 : decode cX5_setSlot 16 = .ok (.getfield 22, 3) := by decide +kernel
theorem dX5_setSlot_19 : decode cX5_setSlot 19 = .ok (.arraylength, 1) := by decide +kernel
theorem dX5_setSlot_20 : decode cX5_setSlot 20 = .ok (.if_icmp .ge 11, 3) := by decide +kernel
theorem dX5_setSlot_23 : decode cX5_setSlot 23 = .ok (.aload_n 0, 1) := by decide +kernel
theorem dX5_setSlot_24 : decode cX5_setSlot 24 = .ok (.getfield 22, 3) := by decide +kernel
theorem dX5_setSlot_27 : decode cX5_setSlot 27 = .ok (.iload 4, 2) := by decide +kernel
theorem dX5_setSlot_29 : decode cX5_setSlot 29 = .ok (.lload_n 2, 1) := by decide +kernel
theorem dX5_setSlot_30 : decode cX5_setSlot 30 = .ok (.lastore, 1) := by decide +kernel
theorem dX5_burn_0 : decode cX5_burn 0 = .ok (.aload_n 0, 1) := by decide +kernel
theorem dX5_burn_1 : decode cX5_burn 1 = .ok (.getfield 36, 3) := by decide +kernel
theorem dX5_burn_4 : decode cX5_burn 4 = .ok (.iconst 5, 1) := by decide +kernel
theorem dX5_burn_5 : decode cX5_burn 5 = .ok (.iaload, 1) := by decide +kernel
theorem dX5_burn_6 : decode cX5_burn 6 = .ok (.ifCond .gt 10, 3) := by decide +kernel
theorem dX5_burn_16 : decode cX5_burn 16 = .ok (.aload_n 0, 1) := by decide +kernel
theorem dX5_burn_17 : decode cX5_burn 17 = .ok (.getfield 36, 3) := by decide +kernel
theorem dX5_burn_20 : decode cX5_burn 20 = .ok (.iconst 5, 1) := by decide +kernel
theorem dX5_burn_21 : decode cX5_burn 21 = .ok (.dup2, 1) := by decide +kernel
theorem dX5_burn_22 : decode cX5_burn 22 = .ok (.iaload, 1) := by decide +kernel
theorem dX5_burn_23 : decode cX5_burn 23 = .ok (.iconst 1, 1) := by decide +kernel
theorem dX5_burn_24 : decode cX5_burn 24 = .ok (.isub, 1) := by decide +kernel
theorem dX5_burn_25 : decode cX5_burn 25 = .ok (.iastore, 1) := by decide +kernel
theorem dX5_burn_26 : decode cX5_burn 26 = .ok (.iconst 1, 1) := by decide +kernel
theorem dX5_burn_27 : decode cX5_burn 27 = .ok (.ireturn, 1) := by decide +kernel
theorem dX5_burn_9 : decode cX5_burn 9 = .ok (.aload_n 0, 1) := by decide +kernel
theorem dX5_burn_10 : decode cX5_burn 10 = .ok (.iconst 2, 1) := by decide +kernel
theorem dX5_burn_11 : decode cX5_burn 11 = .ok (.putfield 116, 3) := by decide +kernel
theorem dX5_burn_14 : decode cX5_burn 14 = .ok (.iconst 0, 1) := by decide +kernel
theorem dX5_burn_15 : decode cX5_burn 15 = .ok (.ireturn, 1) := by decide +kernel
theorem dX5_raise_0 : decode cX5_raise 0 = .ok (.aload_n 0, 1) := by decide +kernel
theorem dX5_raise_1 : decode cX5_raise 1 = .ok (.ldc2_w 255, 3) := by decide +kernel
theorem dX5_raise_4 : decode cX5_raise 4 = .ok (.iload_n 1, 1) := by decide +kernel
theorem dX5_raise_5 : decode cX5_raise 5 = .ok (.i2l, 1) := by decide +kernel
theorem dX5_raise_6 : decode cX5_raise 6 = .ok (.lor, 1) := by decide +kernel
theorem dX5_raise_7 : decode cX5_raise 7 = .ok (.putfield 43, 3) := by decide +kernel
theorem dX5_raise_10 : decode cX5_raise 10 = .ok (.return_, 1) := by decide +kernel
theorem dX5_readNumber_0 : decode cX5_readNumber 0 = .ok (.aload_n 0, 1) := by decide +kernel
theorem dX5_readNumber_1 : decode cX5_readNumber 1 = .ok (.getfield 36, 3) := by decide +kernel
theorem dX5_readNumber_4 : decode cX5_readNumber 4 = .ok (.bipush 7, 2) := by decide +kernel
theorem dX5_readNumber_6 : decode cX5_readNumber 6 = .ok (.iaload, 1) := by decide +kernel
theorem dX5_readNumber_7 : decode cX5_readNumber 7 = .ok (.istore_n 1, 1) := by decide +kernel
theorem dX5_readNumber_8 : decode cX5_readNumber 8 = .ok (.aload_n 0, 1) := by decide +kernel
theorem dX5_readNumber_9 : decode cX5_readNumber 9 = .ok (.iload_n 1, 1) := by decide +kernel
theorem dX5_readNumber_10 : decode cX5_readNumber 10 = .ok (.ifCond .lt 27, 3) := by decide +kernel
theorem dX5_readNumber_37 : decode cX5_readNumber 37 = .ok (.iconst 0, 1) := by decide +kernel
theorem dX5_readNumber_38 : decode cX5_readNumber 38 = .ok (.invokevirtual 237, 3) := by decide +kernel
theorem dX5_readNumber_41 : decode cX5_readNumber 41 = .ok (.aload_n 0, 1) := by decide +kernel
theorem dX5_readNumber_42 : decode cX5_readNumber 42 = .ok (.getfield 36, 3) := by decide +kernel
theorem dX5_readNumber_45 : decode cX5_readNumber 45 = .ok (.bipush 7, 2) := by decide +kernel
theorem dX5_readNumber_47 : decode cX5_readNumber 47 = .ok (.dup2, 1) := by decide +kernel
theorem dX5_readNumber_48 : decode cX5_readNumber 48 = .ok (.iaload, 1) := by decide +kernel
theorem dX5_readNumber_49 : decode cX5_readNumber 49 = .ok (.iconst 1, 1) := by decide +kernel
theorem dX5_readNumber_50 : decode cX5_readNumber 50 = .ok (.iadd, 1) := by decide +kernel
theorem dX5_readNumber_51 : decode cX5_readNumber 51 = .ok (.iastore, 1) := by decide +kernel
theorem dX5_readNumber_52 : decode cX5_readNumber 52 = .ok (.return_, 1) := by decide +kernel
theorem dX5_readNumber_13 : decode cX5_readNumber 13 = .ok (.iload_n 1, 1) := by decide +kernel
theorem dX5_readNumber_14 : decode cX5_readNumber 14 = .ok (.aload_n 0, 1) := by decide +kernel
theorem dX5_readNumber_15 : decode cX5_readNumber 15 = .ok (.getfield 39, 3) := by decide +kernel
theorem dX5_readNumber_18 : decode cX5_readNumber 18 = .ok (.if_icmp .ge 19, 3) := by decide +kernel
theorem dX5_readNumber_21 : decode cX5_readNumber 21 = .ok (.iload_n 1, 1) := by decide +kernel
theorem dX5_readNumber_22 : decode cX5_readNumber 22 = .ok (.sipush 200, 3) := by decide +kernel
theorem dX5_readNumber_25 : decode cX5_readNumber 25 = .ok (.if_icmp .ge 12, 3) := by decide +kernel
theorem dX5_readNumber_28 : decode cX5_readNumber 28 = .ok (.aload_n 0, 1) := by decide +kernel
theorem dX5_readNumber_29 : decode cX5_readNumber 29 = .ok (.getfield 30, 3) := by decide +kernel
theorem dX5_readNumber_32 : decode cX5_readNumber 32 = .ok (.iload_n 1, 1) := by decide +kernel
theorem dX5_readNumber_33 : decode cX5_readNumber 33 = .ok (.iaload, 1) := by decide +kernel
theorem dX5_readNumber_34 : decode cX5_readNumber 34 = .ok (.goto 4, 3) := by decide +kernel
theorem hV_X5_pushNumber : yX5_pushNumber.cls = RX5 ∧ yX5_pushNumber.cls ≠ "java/lang/invoke/MethodHandle" ∧ yX5_pushNumber.cls ≠ "java/lang/invoke/VarHandle" ∧ (parseMethodDescriptor yX5_pushNumber.desc).map (fun d => d.parameters.length) = some 1 := by decide +kernel
theorem dX5_print_0 : decode cX5_print 0 = .ok (.aload_n 0, 1) := by decide +kernel
theorem dX5_print_1 : decode cX5_print 1 = .ok (.getfield 36, 3) := by decide +kernel
theorem dX5_print_4 : decode cX5_print 4 = .ok (.bipush 6, 2) := by decide +kernel
theorem dX5_print_6 : decode cX5_print 6 = .ok (.iaload, 1) := by decide +kernel
theorem dX5_print_7 : decode cX5_print 7 = .ok (.istore_n 2, 1) := by decide +kernel
theorem dX5_print_8 : decode cX5_print 8 = .ok (.iload_n 2, 1) := by decide +kernel
theorem dX5_print_9 : decode cX5_print 9 = .ok (.ifCond .lt 28, 3) := by decide +kernel
theorem dX5_print_37 : decode cX5_print 37 = .ok (.return_, 1) := by decide +kernel
theorem dX5_print_12 : decode cX5_print 12 = .ok (.iload_n 2, 1) := by decide +kernel
theorem dX5_print_13 : decode cX5_print 13 = .ok (.sipush 400, 3) := by decide +kernel
theorem dX5_print_16 : decode cX5_print 16 = .ok (.if_icmp .ge 21, 3) := by decide +kernel
theorem dX5_print_19 : decode cX5_print 19 = .ok (.aload_n 0, 1) := by decide +kernel
theorem dX5_print_20 : decode cX5_print 20 = .ok (.getfield 33, 3) := by decide +kernel
theorem dX5_print_23 : decode cX5_print 23 = .ok (.iload_n 2, 1) := by decide +kernel
theorem dX5_print_24 : decode cX5_print 24 = .ok (.iload_n 1, 1) := by decide +kernel
theorem dX5_print_25 : decode cX5_print 25 = .ok (.iastore, 1) := by decide +kernel
theorem dX5_print_26 : decode cX5_print 26 = .ok (.aload_n 0, 1) := by decide +kernel
theorem dX5_print_27 : decode cX5_print 27 = .ok (.getfield 36, 3) := by decide +kernel
theorem dX5_print_30 : decode cX5_print 30 = .ok (.bipush 6, 2) := by decide +kernel
theorem dX5_print_32 : decode cX5_print 32 = .ok (.dup2, 1) := by decide +kernel
theorem dX5_print_33 : decode cX5_print 33 = .ok (.iaload, 1) := by decide +kernel
theorem dX5_print_34 : decode cX5_print 34 = .ok (.iconst 1, 1) := by decide +kernel
theorem dX5_print_35 : decode cX5_print 35 = .ok (.iadd, 1) := by decide +kernel
theorem dX5_print_36 : decode cX5_print 36 = .ok (.iastore, 1) := by decide +kernel
theorem dX5_skip_0 : decode cX5_skip 0 = .ok (.aload_n 0, 1) := by decide +kernel
theorem dX5_skip_1 : decode cX5_skip 1 = .ok (.invokevirtual 180, 3) := by decide +kernel
theorem dX5_skip_4 : decode cX5_skip 4 = .ok (.lstore_n 3, 1) := by decide +kernel
theorem dX5_skip_5 : decode cX5_skip 5 = .ok (.lload_n 3, 1) := by decide +kernel
theorem dX5_skip_6 : decode cX5_skip 6 = .ok (.lconst 0, 1) := by decide +kernel
theorem dX5_skip_7 : decode cX5_skip 7 = .ok (.lcmp, 1) := by decide +kernel
theorem dX5_skip_8 : decode cX5_skip 8 = .ok (.ifCond .eq 7, 3) := by decide +kernel
theorem dX5_skip_15 : decode cX5_skip 15 = .ok (.iconst 0, 1) := by decide +kernel
theorem dX5_skip_16 : decode cX5_skip 16 = .ok (.iload_n 1, 1) := by decide +kernel
theorem dX5_skip_17 : decode cX5_skip 17 = .ok (.if_icmp .ne 13, 3) := by decide +kernel
theorem dX5_skip_30 : decode cX5_skip 30 = .ok (.return_, 1) := by decide +kernel
theorem dX5_skip_20 : decode cX5_skip 20 = .ok (.aload_n 0, 1) := by decide +kernel
theorem dX5_skip_21 : decode cX5_skip 21 = .ok (.lload_n 3, 1) := by decide +kernel
theorem dX5_skip_22 : decode cX5_skip 22 = .ok (.invokevirtual 172, 3) := by decide +kernel
theorem dX5_skip_25 : decode cX5_skip 25 = .ok (.aload_n 0, 1) := by decide +kernel
theorem dX5_skip_26 : decode cX5_skip 26 = .ok (.iload_n 2, 1) := by decide +kernel
theorem dX5_skip_27 : decode cX5_skip 27 = .ok (.putfield 132, 3) := by decide +kernel
theorem dX5_skip_11 : decode cX5_skip 11 = .ok (.iconst 1, 1) := by decide +kernel
theorem dX5_skip_12 : decode cX5_skip 12 = .ok (.goto 4, 3) := by decide +kernel
theorem hV_X5_pop : yX5_pop.cls = RX5 ∧ yX5_pop.cls ≠ "java/lang/invoke/MethodHandle" ∧ yX5_pop.cls ≠ "java/lang/invoke/VarHandle" ∧ (parseMethodDescriptor yX5_pop.desc).map (fun d => d.parameters.length) = some 0 := by decide +kernel
theorem dX5_prefix_0 : decode cX5_prefix 0 = .ok (.iload_n 1, 1) := by decide +kernel
theorem dX5_prefix_1 : decode cX5_prefix 1 = .ok (.lookupswitch 46 #[(45, 27), (52, 36)], 27) := by decide +kernel
theorem dX5_prefix_28 : decode cX5_prefix 28 = .ok (.aload_n 0, 1) := by decide +kernel
theorem dX5_prefix_29 : decode cX5_prefix 29 = .ok (.iload_n 2, 1) := by decide +kernel
theorem dX5_prefix_30 : decode cX5_prefix 30 = .ok (.ineg, 1) := by decide +kernel
theorem dX5_prefix_31 : decode cX5_prefix 31 = .ok (.invokevirtual 237, 3) := by decide +kernel
theorem dX5_prefix_34 : decode cX5_prefix 34 = .ok (.goto 20, 3) := by decide +kernel
theorem dX5_prefix_54 : decode cX5_prefix 54 = .ok (.return_, 1) := by decide +kernel
theorem dX5_prefix_37 : decode cX5_prefix 37 = .ok (.aload_n 0, 1) := by decide +kernel
theorem dX5_prefix_38 : decode cX5_prefix 38 = .ok (.iload_n 2, 1) := by decide +kernel
theorem dX5_prefix_39 : decode cX5_prefix 39 = .ok (.iconst (-1), 1) := by decide +kernel
theorem dX5_prefix_40 : decode cX5_prefix 40 = .ok (.ixor, 1) := by decide +kernel
theorem dX5_prefix_41 : decode cX5_prefix 41 = .ok (.invokevirtual 237, 3) := by decide +kernel
theorem dX5_prefix_44 : decode cX5_prefix 44 = .ok (.goto 10, 3) := by decide +kernel
theorem dX5_prefix_47 : decode cX5_prefix 47 = .ok (.aload_n 0, 1) := by decide +kernel
theorem dX5_prefix_48 : decode cX5_prefix 48 = .ok (.iload_n 2, 1) := by decide +kernel
theorem dX5_prefix_49 : decode cX5_prefix 49 = .ok (.iconst 1, 1) := by decide +kernel
theorem dX5_prefix_50 : decode cX5_prefix 50 = .ok (.ixor, 1) := by decide +kernel
theorem dX5_prefix_51 : decode cX5_prefix 51 = .ok (.invokevirtual 237, 3) := by decide +kernel
theorem dX5_divide_0 : decode cX5_divide 0 = .ok (.iload_n 3, 1) := by decide +kernel
theorem dX5_divide_1 : decode cX5_divide 1 = .ok (.ifCond .ne 11, 3) := by decide +kernel
theorem dX5_divide_12 : decode cX5_divide 12 = .ok (.aload_n 0, 1) := by decide +kernel
theorem dX5_divide_13 : decode cX5_divide 13 = .ok (.iload_n 1, 1) := by decide +kernel
theorem dX5_divide_14 : decode cX5_divide 14 = .ok (.ifCond .eq 9, 3) := by decide +kernel
theorem dX5_divide_23 : decode cX5_divide 23 = .ok (.iload_n 2, 1) := by decide +kernel
theorem dX5_divide_24 : decode cX5_divide 24 = .ok (.iload_n 3, 1) := by decide +kernel
theorem dX5_divide_25 : decode cX5_divide 25 = .ok (.irem, 1) := by decide +kernel
theorem dX5_divide_26 : decode cX5_divide 26 = .ok (.invokevirtual 237, 3) := by decide +kernel
theorem dX5_divide_29 : decode cX5_divide 29 = .ok (.return_, 1) := by decide +kernel
theorem dX5_divide_17 : decode cX5_divide 17 = .ok (.iload_n 2, 1) := by decide +kernel
theorem dX5_divide_18 : decode cX5_divide 18 = .ok (.iload_n 3, 1) := by decide +kernel
theorem dX5_divide_19 : decode cX5_divide 19 = .ok (.idiv, 1) := by decide +kernel
theorem dX5_divide_20 : decode cX5_divide 20 = .ok (.goto 6, 3) := by decide +kernel
theorem dX5_divide_4 : decode cX5_divide 4 = .ok (.aload_n 0, 1) := by decide +kernel
theorem dX5_divide_5 : decode cX5_divide 5 = .ok (.iconst 3, 1) := by decide +kernel
theorem dX5_divide_6 : decode cX5_divide 6 = .ok (.invokevirtual 252, 3) := by decide +kernel
theorem dX5_divide_9 : decode cX5_divide 9 = .ok (.goto 20, 3) := by decide +kernel
theorem hV_X5_raise : yX5_raise.cls = RX5 ∧ yX5_raise.cls ≠ "java/lang/invoke/MethodHandle" ∧ yX5_raise.cls ≠ "java/lang/invoke/VarHandle" ∧ (parseMethodDescriptor yX5_raise.desc).map (fun d => d.parameters.length) = some 1 := by decide +kernel
theorem dX5_combined_0 : decode cX5_combined 0 = .ok (.iload_n 1, 1) := by decide +kernel
theorem dX5_combined_1 : decode cX5_combined 1 = .ok (.tableswitch 135 44 64 #[99, 103, 107, 135, 135, 111, 115, 119, 135, 135, 135, 135, 135, 135, 135, 135, 135, 135, 123, 127, 131], 99) := by decide +kernel
theorem dX5_combined_100 : decode cX5_combined 100 = .ok (.iload_n 2, 1) := by decide +kernel
theorem dX5_combined_101 : decode cX5_combined 101 = .ok (.iload_n 3, 1) := by decide +kernel
theorem dX5_combined_102 : decode cX5_combined 102 = .ok (.iadd, 1) := by decide +kernel
theorem dX5_combined_103 : decode cX5_combined 103 = .ok (.ireturn, 1) := by decide +kernel
theorem dX5_combined_104 : decode cX5_combined 104 = .ok (.iload_n 2, 1) := by decide +kernel
theorem dX5_combined_105 : decode cX5_combined 105 = .ok (.iload_n 3, 1) := by decide +kernel
theorem dX5_combined_106 : decode cX5_combined 106 = .ok (.isub, 1) := by decide +kernel
theorem dX5_combined_107 : decode cX5_combined 107 = .ok (.ireturn, 1) := by decide +kernel
theorem dX5_combined_108 : decode cX5_combined 108 = .ok (.iload_n 2, 1) := by decide +kernel
theorem dX5_combined_109 : decode cX5_combined 109 = .ok (.iload_n 3, 1) := by decide +kernel
theorem dX5_combined_110 : decode cX5_combined 110 = .ok (.imul, 1) := by decide +kernel
theorem dX5_combined_111 : decode cX5_combined 111 = .ok (.ireturn, 1) := by decide +kernel
theorem dX5_combined_112 : decode cX5_combined 112 = .ok (.iload_n 2, 1) := by decide +kernel
theorem dX5_combined_113 : decode cX5_combined 113 = .ok (.iload_n 3, 1) := by decide +kernel
theorem dX5_combined_114 : decode cX5_combined 114 = .ok (.iand, 1) := by decide +kernel
theorem dX5_combined_115 : decode cX5_combined 115 = .ok (.ireturn, 1) := by decide +kernel
theorem dX5_combined_116 : decode cX5_combined 116 = .ok (.iload_n 2, 1) := by decide +kernel
theorem dX5_combined_117 : decode cX5_combined 117 = .ok (.iload_n 3, 1) := by decide +kernel
theorem dX5_combined_118 : decode cX5_combined 118 = .ok (.ior, 1) := by decide +kernel
theorem dX5_combined_119 : decode cX5_combined 119 = .ok (.ireturn, 1) := by decide +kernel
theorem dX5_combined_120 : decode cX5_combined 120 = .ok (.iload_n 2, 1) := by decide +kernel
theorem dX5_combined_121 : decode cX5_combined 121 = .ok (.iload_n 3, 1) := by decide +kernel
theorem dX5_combined_122 : decode cX5_combined 122 = .ok (.ixor, 1) := by decide +kernel
theorem dX5_combined_123 : decode cX5_combined 123 = .ok (.ireturn, 1) := by decide +kernel
theorem dX5_combined_124 : decode cX5_combined 124 = .ok (.iload_n 2, 1) := by decide +kernel
theorem dX5_combined_125 : decode cX5_combined 125 = .ok (.iload_n 3, 1) := by decide +kernel
theorem dX5_combined_126 : decode cX5_combined 126 = .ok (.ishl, 1) := by decide +kernel
theorem dX5_combined_127 : decode cX5_combined 127 = .ok (.ireturn, 1) := by decide +kernel
theorem dX5_combined_128 : decode cX5_combined 128 = .ok (.iload_n 2, 1) := by decide +kernel
theorem dX5_combined_129 : decode cX5_combined 129 = .ok (.iload_n 3, 1) := by decide +kernel
theorem dX5_combined_130 : decode cX5_combined 130 = .ok (.ishr, 1) := by decide +kernel
theorem dX5_combined_131 : decode cX5_combined 131 = .ok (.ireturn, 1) := by decide +kernel
theorem dX5_combined_132 : decode cX5_combined 132 = .ok (.iload_n 2, 1) := by decide +kernel
theorem dX5_combined_133 : decode cX5_combined 133 = .ok (.iload_n 3, 1) := by decide +kernel
theorem dX5_combined_134 : decode cX5_combined 134 = .ok (.iushr, 1) := by decide +kernel
theorem dX5_combined_135 : decode cX5_combined 135 = .ok (.ireturn, 1) := by decide +kernel
theorem dX5_sign_0 : decode cX5_sign 0 = .ok (.aload_n 0, 1) := by decide +kernel
theorem dX5_sign_1 : decode cX5_sign 1 = .ok (.invokevirtual 180, 3) := by decide +kernel
theorem dX5_sign_4 : decode cX5_sign 4 = .ok (.lstore_n 2, 1) := by decide +kernel
theorem dX5_sign_5 : decode cX5_sign 5 = .ok (.aload_n 0, 1) := by decide +kernel
theorem dX5_sign_6 : decode cX5_sign 6 = .ok (.invokevirtual 180, 3) := by decide +kernel
theorem dX5_sign_9 : decode cX5_sign 9 = .ok (.lstore 4, 2) := by decide +kernel
theorem dX5_sign_11 : decode cX5_sign 11 = .ok (.lload_n 2, 1) := by decide +kernel
theorem dX5_sign_12 : decode cX5_sign 12 = .ok (.l2i, 1) := by decide +kernel
theorem dX5_sign_13 : decode cX5_sign 13 = .ok (.istore 6, 2) := by decide +kernel
theorem dX5_sign_15 : decode cX5_sign 15 = .ok (.lload 4, 2) := by decide +kernel
theorem dX5_sign_17 : decode cX5_sign 17 = .ok (.l2i, 1) := by decide +kernel
theorem dX5_sign_18 : decode cX5_sign 18 = .ok (.istore 7, 2) := by decide +kernel
theorem dX5_sign_20 : decode cX5_sign 20 = .ok (.iload_n 1, 1) := by decide +kernel
theorem dX5_sign_21 : decode cX5_sign 21 = .ok (.tableswitch 203 47 59 #[181, 181, 203, 203, 203, 203, 203, 105, 143, 124, 162, 67, 86], 67) := by decide +kernel
theorem dX5_sign_202 : decode cX5_sign 202 = .ok (.aload_n 0, 1) := by decide +kernel
theorem dX5_sign_203 : decode cX5_sign 203 = .ok (.iload_n 1, 1) := by decide +kernel
theorem dX5_sign_204 : decode cX5_sign 204 = .ok (.bipush 47, 2) := by decide +kernel
theorem dX5_sign_206 : decode cX5_sign 206 = .ok (.if_icmp .ne 7, 3) := by decide +kernel
theorem dX5_sign_209 : decode cX5_sign 209 = .ok (.iconst 1, 1) := by decide +kernel
theorem dX5_sign_210 : decode cX5_sign 210 = .ok (.goto 4, 3) := by decide +kernel
theorem dX5_sign_214 : decode cX5_sign 214 = .ok (.iload 7, 2) := by decide +kernel
theorem dX5_sign_216 : decode cX5_sign 216 = .ok (.iload 6, 2) := by decide +kernel
theorem dX5_sign_218 : decode cX5_sign 218 = .ok (.invokevirtual 244, 3) := by decide +kernel
theorem dX5_sign_221 : decode cX5_sign 221 = .ok (.goto 16, 3) := by decide +kernel
theorem dX5_sign_237 : decode cX5_sign 237 = .ok (.return_, 1) := by decide +kernel
theorem dX5_sign_213 : decode cX5_sign 213 = .ok (.iconst 0, 1) := by decide +kernel
theorem dX5_sign_224 : decode cX5_sign 224 = .ok (.aload_n 0, 1) := by decide +kernel
theorem dX5_sign_225 : decode cX5_sign 225 = .ok (.aload_n 0, 1) := by decide +kernel
theorem dX5_sign_226 : decode cX5_sign 226 = .ok (.iload_n 1, 1) := by decide +kernel
theorem dX5_sign_227 : decode cX5_sign 227 = .ok (.iload 7, 2) := by decide +kernel
theorem dX5_sign_229 : decode cX5_sign 229 = .ok (.iload 6, 2) := by decide +kernel
theorem dX5_sign_231 : decode cX5_sign 231 = .ok (.invokevirtual 248, 3) := by decide +kernel
theorem dX5_sign_234 : decode cX5_sign 234 = .ok (.invokevirtual 237, 3) := by decide +kernel
theorem dX5_sign_126 : decode cX5_sign 126 = .ok (.aload_n 0, 1) := by decide +kernel
theorem dX5_sign_127 : decode cX5_sign 127 = .ok (.iload 7, 2) := by decide +kernel
theorem dX5_sign_129 : decode cX5_sign 129 = .ok (.iload 6, 2) := by decide +kernel
theorem dX5_sign_131 : decode cX5_sign 131 = .ok (.if_icmp .ge 7, 3) := by decide +kernel
theorem dX5_sign_138 : decode cX5_sign 138 = .ok (.iconst 0, 1) := by decide +kernel
theorem dX5_sign_139 : decode cX5_sign 139 = .ok (.invokevirtual 240, 3) := by decide +kernel
theorem dX5_sign_142 : decode cX5_sign 142 = .ok (.goto 95, 3) := by decide +kernel
theorem dX5_sign_134 : decode cX5_sign 134 = .ok (.iconst 1, 1) := by decide +kernel
theorem dX5_sign_135 : decode cX5_sign 135 = .ok (.goto 4, 3) := by decide +kernel
theorem dX5_sign_164 : decode cX5_sign 164 = .ok (.aload_n 0, 1) := by decide +kernel
theorem dX5_sign_165 : decode cX5_sign 165 = .ok (.iload 7, 2) := by decide +kernel
theorem dX5_sign_167 : decode cX5_sign 167 = .ok (.iload 6, 2) := by decide +kernel
theorem dX5_sign_169 : decode cX5_sign 169 = .ok (.if_icmp .le 7, 3) := by decide +kernel
theorem dX5_sign_176 : decode cX5_sign 176 = .ok (.iconst 0, 1) := by decide +kernel
theorem dX5_sign_177 : decode cX5_sign 177 = .ok (.invokevirtual 240, 3) := by decide +kernel
theorem dX5_sign_180 : decode cX5_sign 180 = .ok (.goto 57, 3) := by decide +kernel
theorem dX5_sign_172 : decode cX5_sign 172 = .ok (.iconst 1, 1) := by decide +kernel
theorem dX5_sign_173 : decode cX5_sign 173 = .ok (.goto 4, 3) := by decide +kernel
theorem dX5_sign_145 : decode cX5_sign 145 = .ok (.aload_n 0, 1) := by decide +kernel
theorem dX5_sign_146 : decode cX5_sign 146 = .ok (.iload 7, 2) := by decide +kernel
theorem dX5_sign_148 : decode cX5_sign 148 = .ok (.iload 6, 2) := by decide +kernel
theorem dX5_sign_150 : decode cX5_sign 150 = .ok (.if_icmp .gt 7, 3) := by decide +kernel
theorem dX5_sign_157 : decode cX5_sign 157 = .ok (.iconst 0, 1) := by decide +kernel
theorem dX5_sign_158 : decode cX5_sign 158 = .ok (.invokevirtual 240, 3) := by decide +kernel
theorem dX5_sign_161 : decode cX5_sign 161 = .ok (.goto 76, 3) := by decide +kernel
theorem dX5_sign_153 : decode cX5_sign 153 = .ok (.iconst 1, 1) := by decide +kernel
theorem dX5_sign_154 : decode cX5_sign 154 = .ok (.goto 4, 3) := by decide +kernel
theorem dX5_sign_183 : decode cX5_sign 183 = .ok (.aload_n 0, 1) := by decide +kernel
theorem dX5_sign_184 : decode cX5_sign 184 = .ok (.iload 7, 2) := by decide +kernel
theorem dX5_sign_186 : decode cX5_sign 186 = .ok (.iload 6, 2) := by decide +kernel
theorem dX5_sign_188 : decode cX5_sign 188 = .ok (.if_icmp .lt 7, 3) := by decide +kernel
theorem dX5_sign_195 : decode cX5_sign 195 = .ok (.iconst 0, 1) := by decide +kernel
theorem dX5_sign_196 : decode cX5_sign 196 = .ok (.invokevirtual 240, 3) := by decide +kernel
theorem dX5_sign_199 : decode cX5_sign 199 = .ok (.goto 38, 3) := by decide +kernel
theorem dX5_sign_191 : decode cX5_sign 191 = .ok (.iconst 1, 1) := by decide +kernel
theorem dX5_sign_192 : decode cX5_sign 192 = .ok (.goto 4, 3) := by decide +kernel
theorem dX5_sign_88 : decode cX5_sign 88 = .ok (.aload_n 0, 1) := by decide +kernel
theorem dX5_sign_89 : decode cX5_sign 89 = .ok (.lload 4, 2) := by decide +kernel
theorem dX5_sign_91 : decode cX5_sign 91 = .ok (.lload_n 2, 1) := by decide +kernel
theorem dX5_sign_92 : decode cX5_sign 92 = .ok (.lcmp, 1) := by decide +kernel
theorem dX5_sign_93 : decode cX5_sign 93 = .ok (.ifCond .ne 7, 3) := by decide +kernel
theorem dX5_sign_100 : decode cX5_sign 100 = .ok (.iconst 0, 1) := by decide +kernel
theorem dX5_sign_101 : decode cX5_sign 101 = .ok (.invokevirtual 240, 3) := by decide +kernel
theorem dX5_sign_104 : decode cX5_sign 104 = .ok (.goto 133, 3) := by decide +kernel
theorem dX5_sign_96 : decode cX5_sign 96 = .ok (.iconst 1, 1) := by decide +kernel
theorem dX5_sign_97 : decode cX5_sign 97 = .ok (.goto 4, 3) := by decide +kernel
theorem dX5_sign_107 : decode cX5_sign 107 = .ok (.aload_n 0, 1) := by decide +kernel
theorem dX5_sign_108 : decode cX5_sign 108 = .ok (.lload 4, 2) := by decide +kernel
theorem dX5_sign_110 : decode cX5_sign 110 = .ok (.lload_n 2, 1) := by decide +kernel
theorem dX5_sign_111 : decode cX5_sign 111 = .ok (.lcmp, 1) := by decide +kernel
theorem dX5_sign_112 : decode cX5_sign 112 = .ok (.ifCond .eq 7, 3) := by decide +kernel
theorem dX5_sign_119 : decode cX5_sign 119 = .ok (.iconst 0, 1) := by decide +kernel
theorem dX5_sign_120 : decode cX5_sign 120 = .ok (.invokevirtual 240, 3) := by decide +kernel
theorem dX5_sign_123 : decode cX5_sign 123 = .ok (.goto 114, 3) := by decide +kernel
theorem dX5_sign_115 : decode cX5_sign 115 = .ok (.iconst 1, 1) := by decide +kernel
theorem dX5_sign_116 : decode cX5_sign 116 = .ok (.goto 4, 3) := by decide +kernel
theorem hV_X5_divide : yX5_divide.cls = RX5 ∧ yX5_divide.cls ≠ "java/lang/invoke/MethodHandle" ∧ yX5_divide.cls ≠ "java/lang/invoke/VarHandle" ∧ (parseMethodDescriptor yX5_divide.desc).map (fun d => d.parameters.length) = some 3 := by decide +kernel
theorem hV_X5_combined : yX5_combined.cls = RX5 ∧ yX5_combined.cls ≠ "java/lang/invoke/MethodHandle" ∧ yX5_combined.cls ≠ "java/lang/invoke/VarHandle" ∧ (parseMethodDescriptor yX5_combined.desc).map (fun d => d.parameters.length) = some 3 := by decide +kernel
theorem hV_X5_pushTruth : yX5_pushTruth.cls = RX5 ∧ yX5_pushTruth.cls ≠ "java/lang/invoke/MethodHandle" ∧ yX5_pushTruth.cls ≠ "java/lang/invoke/VarHandle" ∧ (parseMethodDescriptor yX5_pushTruth.desc).map (fun d => d.parameters.length) = some 1 := by decide +kernel
theorem dX5_step_0 : decode cX5_step 0 = .ok (.iload_n 1, 1) := by decide +kernel
theorem dX5_step_1 : decode cX5_step 1 = .ok (.tableswitch 224 0 13 #[71, 79, 92, 104, 116, 125, 133, 141, 165, 165, 184, 192, 205, 212], 71) := by decide +kernel
theorem dX5_step_72 : decode cX5_step 72 = .ok (.aload_n 0, 1) := by decide +kernel
theorem dX5_step_73 : decode cX5_step 73 = .ok (.invokevirtual 166, 3) := by decide +kernel
theorem dX5_step_76 : decode cX5_step 76 = .ok (.pop, 1) := by decide +kernel
theorem dX5_step_77 : decode cX5_step 77 = .ok (.goto 152, 3) := by decide +kernel
theorem dX5_step_229 : decode cX5_step 229 = .ok (.return_, 1) := by decide +kernel
theorem dX5_step_80 : decode cX5_step 80 = .ok (.aload_n 0, 1) := by decide +kernel
theorem dX5_step_81 : decode cX5_step 81 = .ok (.iload_n 2, 1) := by decide +kernel
theorem dX5_step_82 : decode cX5_step 82 = .ok (.i2l, 1) := by decide +kernel
theorem dX5_step_83 : decode cX5_step 83 = .ok (.ldc2_w 170, 3) := by decide +kernel
theorem dX5_step_86 : decode cX5_step 86 = .ok (.land, 1) := by decide +kernel
theorem dX5_step_87 : decode cX5_step 87 = .ok (.invokevirtual 172, 3) := by decide +kernel
theorem dX5_step_90 : decode cX5_step 90 = .ok (.goto 139, 3) := by decide +kernel
theorem dX5_step_93 : decode cX5_step 93 = .ok (.aload_n 0, 1) := by decide +kernel
theorem dX5_step_94 : decode cX5_step 94 = .ok (.aload_n 0, 1) := by decide +kernel
theorem dX5_step_95 : decode cX5_step 95 = .ok (.iload_n 2, 1) := by decide +kernel
theorem dX5_step_96 : decode cX5_step 96 = .ok (.invokevirtual 176, 3) := by decide +kernel
theorem dX5_step_99 : decode cX5_step 99 = .ok (.invokevirtual 172, 3) := by decide +kernel
theorem dX5_step_102 : decode cX5_step 102 = .ok (.goto 127, 3) := by decide +kernel
theorem dX5_step_105 : decode cX5_step 105 = .ok (.aload_n 0, 1) := by decide +kernel
theorem dX5_step_106 : decode cX5_step 106 = .ok (.iload_n 2, 1) := by decide +kernel
theorem dX5_step_107 : decode cX5_step 107 = .ok (.aload_n 0, 1) := by decide +kernel
theorem dX5_step_108 : decode cX5_step 108 = .ok (.invokevirtual 180, 3) := by decide +kernel
theorem dX5_step_111 : decode cX5_step 111 = .ok (.invokevirtual 184, 3) := by decide +kernel
theorem dX5_step_114 : decode cX5_step 114 = .ok (.goto 115, 3) := by decide +kernel
theorem dX5_step_117 : decode cX5_step 117 = .ok (.aload_n 0, 1) := by decide +kernel
theorem dX5_step_118 : decode cX5_step 118 = .ok (.iload_n 2, 1) := by decide +kernel
theorem dX5_step_119 : decode cX5_step 119 = .ok (.lconst 0, 1) := by decide +kernel
theorem dX5_step_120 : decode cX5_step 120 = .ok (.invokevirtual 184, 3) := by decide +kernel
theorem dX5_step_123 : decode cX5_step 123 = .ok (.goto 106, 3) := by decide +kernel
theorem dX5_step_126 : decode cX5_step 126 = .ok (.aload_n 0, 1) := by decide +kernel
theorem dX5_step_127 : decode cX5_step 127 = .ok (.invokevirtual 180, 3) := by decide +kernel
theorem dX5_step_130 : decode cX5_step 130 = .ok (.pop2, 1) := by decide +kernel
theorem dX5_step_131 : decode cX5_step 131 = .ok (.goto 98, 3) := by decide +kernel
theorem dX5_step_134 : decode cX5_step 134 = .ok (.aload_n 0, 1) := by decide +kernel
theorem dX5_step_135 : decode cX5_step 135 = .ok (.iload_n 2, 1) := by decide +kernel
theorem dX5_step_136 : decode cX5_step 136 = .ok (.putfield 132, 3) := by decide +kernel
theorem dX5_step_139 : decode cX5_step 139 = .ok (.goto 90, 3) := by decide +kernel
theorem dX5_step_142 : decode cX5_step 142 = .ok (.aload_n 0, 1) := by decide +kernel
theorem dX5_step_143 : decode cX5_step 143 = .ok (.aload_n 0, 1) := by decide +kernel
theorem dX5_step_144 : decode cX5_step 144 = .ok (.invokevirtual 180, 3) := by decide +kernel
theorem dX5_step_147 : decode cX5_step 147 = .ok (.lconst 0, 1) := by decide +kernel
theorem dX5_step_148 : decode cX5_step 148 = .ok (.lcmp, 1) := by decide +kernel
theorem dX5_step_149 : decode cX5_step 149 = .ok (.ifCond .ne 7, 3) := by decide +kernel
theorem dX5_step_156 : decode cX5_step 156 = .ok (.aload_n 0, 1) := by decide +kernel
theorem dX5_step_157 : decode cX5_step 157 = .ok (.getfield 132, 3) := by decide +kernel
theorem dX5_step_160 : decode cX5_step 160 = .ok (.putfield 132, 3) := by decide +kernel
theorem dX5_step_163 : decode cX5_step 163 = .ok (.goto 66, 3) := by decide +kernel
theorem dX5_step_152 : decode cX5_step 152 = .ok (.iload_n 2, 1) := by decide +kernel
theorem dX5_step_153 : decode cX5_step 153 = .ok (.goto 7, 3) := by decide +kernel
theorem dX5_step_166 : decode cX5_step 166 = .ok (.aload_n 0, 1) := by decide +kernel
theorem dX5_step_167 : decode cX5_step 167 = .ok (.iload_n 1, 1) := by decide +kernel
theorem dX5_step_168 : decode cX5_step 168 = .ok (.bipush 9, 2) := by decide +kernel
theorem dX5_step_170 : decode cX5_step 170 = .ok (.if_icmp .ne 7, 3) := by decide +kernel
theorem dX5_step_177 : decode cX5_step 177 = .ok (.iconst 0, 1) := by decide +kernel
theorem dX5_step_178 : decode cX5_step 178 = .ok (.iload_n 2, 1) := by decide +kernel
theorem dX5_step_179 : decode cX5_step 179 = .ok (.invokevirtual 188, 3) := by decide +kernel
theorem dX5_step_182 : decode cX5_step 182 = .ok (.goto 47, 3) := by decide +kernel
theorem dX5_step_173 : decode cX5_step 173 = .ok (.iconst 1, 1) := by decide +kernel
theorem dX5_step_174 : decode cX5_step 174 = .ok (.goto 4, 3) := by decide +kernel
theorem dX5_step_185 : decode cX5_step 185 = .ok (.aload_n 0, 1) := by decide +kernel
theorem dX5_step_186 : decode cX5_step 186 = .ok (.iload_n 2, 1) := by decide +kernel
theorem dX5_step_187 : decode cX5_step 187 = .ok (.invokevirtual 192, 3) := by decide +kernel
theorem dX5_step_190 : decode cX5_step 190 = .ok (.goto 39, 3) := by decide +kernel
theorem dX5_step_193 : decode cX5_step 193 = .ok (.aload_n 0, 1) := by decide +kernel
theorem dX5_step_194 : decode cX5_step 194 = .ok (.iload_n 2, 1) := by decide +kernel
theorem dX5_step_195 : decode cX5_step 195 = .ok (.aload_n 0, 1) := by decide +kernel
theorem dX5_step_196 : decode cX5_step 196 = .ok (.invokevirtual 180, 3) := by decide +kernel
theorem dX5_step_199 : decode cX5_step 199 = .ok (.l2i, 1) := by decide +kernel
theorem dX5_step_200 : decode cX5_step 200 = .ok (.invokevirtual 195, 3) := by decide +kernel
theorem dX5_step_203 : decode cX5_step 203 = .ok (.goto 26, 3) := by decide +kernel
theorem dX5_step_206 : decode cX5_step 206 = .ok (.aload_n 0, 1) := by decide +kernel
theorem dX5_step_207 : decode cX5_step 207 = .ok (.invokevirtual 198, 3) := by decide +kernel
theorem dX5_step_210 : decode cX5_step 210 = .ok (.goto 19, 3) := by decide +kernel
theorem dX5_step_213 : decode cX5_step 213 = .ok (.aload_n 0, 1) := by decide +kernel
theorem dX5_step_214 : decode cX5_step 214 = .ok (.aload_n 0, 1) := by decide +kernel
theorem dX5_step_215 : decode cX5_step 215 = .ok (.invokevirtual 180, 3) := by decide +kernel
theorem dX5_step_218 : decode cX5_step 218 = .ok (.l2i, 1) := by decide +kernel
theorem dX5_step_219 : decode cX5_step 219 = .ok (.invokevirtual 201, 3) := by decide +kernel
theorem dX5_step_222 : decode cX5_step 222 = .ok (.goto 7, 3) := by decide +kernel
theorem hV_X5_burn : yX5_burn.cls = RX5 ∧ yX5_burn.cls ≠ "java/lang/invoke/MethodHandle" ∧ yX5_burn.cls ≠ "java/lang/invoke/VarHandle" ∧ (parseMethodDescriptor yX5_burn.desc).map (fun d => d.parameters.length) = some 0 := by decide +kernel
theorem hV_X5_slotAt : yX5_slotAt.cls = RX5 ∧ yX5_slotAt.cls ≠ "java/lang/invoke/MethodHandle" ∧ yX5_slotAt.cls ≠ "java/lang/invoke/VarHandle" ∧ (parseMethodDescriptor yX5_slotAt.desc).map (fun d => d.parameters.length) = some 1 := by decide +kernel
theorem hV_X5_setSlot : yX5_setSlot.cls = RX5 ∧ yX5_setSlot.cls ≠ "java/lang/invoke/MethodHandle" ∧ yX5_setSlot.cls ≠ "java/lang/invoke/VarHandle" ∧ (parseMethodDescriptor yX5_setSlot.desc).map (fun d => d.parameters.length) = some 2 := by decide +kernel
theorem hV_X5_skip : yX5_skip.cls = RX5 ∧ yX5_skip.cls ≠ "java/lang/invoke/MethodHandle" ∧ yX5_skip.cls ≠ "java/lang/invoke/VarHandle" ∧ (parseMethodDescriptor yX5_skip.desc).map (fun d => d.parameters.length) = some 2 := by decide +kernel
theorem hV_X5_sign : yX5_sign.cls = RX5 ∧ yX5_sign.cls ≠ "java/lang/invoke/MethodHandle" ∧ yX5_sign.cls ≠ "java/lang/invoke/VarHandle" ∧ (parseMethodDescriptor yX5_sign.desc).map (fun d => d.parameters.length) = some 1 := by decide +kernel
theorem hV_X5_prefix : yX5_prefix.cls = RX5 ∧ yX5_prefix.cls ≠ "java/lang/invoke/MethodHandle" ∧ yX5_prefix.cls ≠ "java/lang/invoke/VarHandle" ∧ (parseMethodDescriptor yX5_prefix.desc).map (fun d => d.parameters.length) = some 2 := by decide +kernel
theorem hV_X5_readNumber : yX5_readNumber.cls = RX5 ∧ yX5_readNumber.cls ≠ "java/lang/invoke/MethodHandle" ∧ yX5_readNumber.cls ≠ "java/lang/invoke/VarHandle" ∧ (parseMethodDescriptor yX5_readNumber.desc).map (fun d => d.parameters.length) = some 0 := by decide +kernel
theorem hV_X5_print : yX5_print.cls = RX5 ∧ yX5_print.cls ≠ "java/lang/invoke/MethodHandle" ∧ yX5_print.cls ≠ "java/lang/invoke/VarHandle" ∧ (parseMethodDescriptor yX5_print.desc).map (fun d => d.parameters.length) = some 1 := by decide +kernel
theorem dX5_check_0 : decode cX5_check 0 = .ok (.aload_n 0, 1) := by decide +kernel
theorem dX5_check_1 : decode cX5_check 1 = .ok (.invokevirtual 180, 3) := by decide +kernel
theorem dX5_check_4 : decode cX5_check 4 = .ok (.lstore_n 3, 1) := by decide +kernel
theorem dX5_check_5 : decode cX5_check 5 = .ok (.lload_n 3, 1) := by decide +kernel
theorem dX5_check_6 : decode cX5_check 6 = .ok (.lconst 0, 1) := by decide +kernel
theorem dX5_check_7 : decode cX5_check 7 = .ok (.lcmp, 1) := by decide +kernel
theorem dX5_check_8 : decode cX5_check 8 = .ok (.ifCond .eq 26, 3) := by decide +kernel
theorem dX5_check_34 : decode cX5_check 34 = .ok (.iconst 0, 1) := by decide +kernel
theorem dX5_check_35 : decode cX5_check 35 = .ok (.istore 5, 2) := by decide +kernel
theorem dX5_check_37 : decode cX5_check 37 = .ok (.iload_n 1, 1) := by decide +kernel
theorem dX5_check_38 : decode cX5_check 38 = .ok (.ifCond .ne 12, 3) := by decide +kernel
theorem dX5_check_50 : decode cX5_check 50 = .ok (.iload 5, 2) := by decide +kernel
theorem dX5_check_52 : decode cX5_check 52 = .ok (.ifCond .ne 9, 3) := by decide +kernel
theorem dX5_check_55 : decode cX5_check 55 = .ok (.lload_n 3, 1) := by decide +kernel
theorem dX5_check_56 : decode cX5_check 56 = .ok (.lconst 0, 1) := by decide +kernel
theorem dX5_check_57 : decode cX5_check 57 = .ok (.lcmp, 1) := by decide +kernel
theorem dX5_check_58 : decode cX5_check 58 = .ok (.ifCond .ne 11, 3) := by decide +kernel
theorem dX5_check_69 : decode cX5_check 69 = .ok (.aload_n 0, 1) := by decide +kernel
theorem dX5_check_70 : decode cX5_check 70 = .ok (.iconst 2, 1) := by decide +kernel
theorem dX5_check_71 : decode cX5_check 71 = .ok (.invokevirtual 252, 3) := by decide +kernel
theorem dX5_check_74 : decode cX5_check 74 = .ok (.return_, 1) := by decide +kernel
theorem dX5_check_61 : decode cX5_check 61 = .ok (.aload_n 0, 1) := by decide +kernel
theorem dX5_check_62 : decode cX5_check 62 = .ok (.lload_n 3, 1) := by decide +kernel
theorem dX5_check_63 : decode cX5_check 63 = .ok (.invokevirtual 172, 3) := by decide +kernel
theorem dX5_check_66 : decode cX5_check 66 = .ok (.goto 8, 3) := by decide +kernel
theorem dX5_check_41 : decode cX5_check 41 = .ok (.aload_n 0, 1) := by decide +kernel
theorem dX5_check_42 : decode cX5_check 42 = .ok (.iload 5, 2) := by decide +kernel
theorem dX5_check_44 : decode cX5_check 44 = .ok (.invokevirtual 240, 3) := by decide +kernel
theorem dX5_check_47 : decode cX5_check 47 = .ok (.goto 27, 3) := by decide +kernel
theorem dX5_check_11 : decode cX5_check 11 = .ok (.aload_n 0, 1) := by decide +kernel
theorem dX5_check_12 : decode cX5_check 12 = .ok (.getfield 47, 3) := by decide +kernel
theorem dX5_check_15 : decode cX5_check 15 = .ok (.aload_n 0, 1) := by decide +kernel
theorem dX5_check_16 : decode cX5_check 16 = .ok (.getfield 18, 3) := by decide +kernel
theorem dX5_check_19 : decode cX5_check 19 = .ok (.lload_n 3, 1) := by decide +kernel
theorem dX5_check_20 : decode cX5_check 20 = .ok (.invokevirtual 51, 3) := by decide +kernel
theorem dX5_check_23 : decode cX5_check 23 = .ok (.iload_n 2, 1) := by decide +kernel
theorem dX5_check_24 : decode cX5_check 24 = .ok (.invokevirtual 257, 3) := by decide +kernel
theorem dX5_check_27 : decode cX5_check 27 = .ok (.ifCond .eq 7, 3) := by decide +kernel
theorem dX5_check_30 : decode cX5_check 30 = .ok (.iconst 1, 1) := by decide +kernel
theorem dX5_check_31 : decode cX5_check 31 = .ok (.goto 4, 3) := by decide +kernel
theorem hV_X3_typeOf : yX3_typeOf.cls = RX3 ∧ yX3_typeOf.cls ≠ "java/lang/invoke/MethodHandle" ∧ yX3_typeOf.cls ≠ "java/lang/invoke/VarHandle" ∧ (parseMethodDescriptor yX3_typeOf.desc).map (fun d => d.parameters.length) = some 1 := by decide +kernel
theorem dX5_length_0 : decode cX5_length 0 = .ok (.aload_n 0, 1) := by decide +kernel
theorem dX5_length_1 : decode cX5_length 1 = .ok (.invokevirtual 180, 3) := by decide +kernel
theorem dX5_length_4 : decode cX5_length 4 = .ok (.lstore_n 1, 1) := by decide +kernel
theorem dX5_length_5 : decode cX5_length 5 = .ok (.lload_n 1, 1) := by decide +kernel
theorem dX5_length_6 : decode cX5_length 6 = .ok (.lconst 0, 1) := by decide +kernel
theorem dX5_length_7 : decode cX5_length 7 = .ok (.lcmp, 1) := by decide +kernel
theorem dX5_length_8 : decode cX5_length 8 = .ok (.ifCond .ne 11, 3) := by decide +kernel
theorem dX5_length_19 : decode cX5_length 19 = .ok (.aload_n 0, 1) := by decide +kernel
theorem dX5_length_20 : decode cX5_length 20 = .ok (.aload_n 0, 1) := by decide +kernel
theorem dX5_length_21 : decode cX5_length 21 = .ok (.getfield 18, 3) := by decide +kernel
theorem dX5_length_24 : decode cX5_length 24 = .ok (.lload_n 1, 1) := by decide +kernel
theorem dX5_length_25 : decode cX5_length 25 = .ok (.invokevirtual 261, 3) := by decide +kernel
theorem dX5_length_28 : decode cX5_length 28 = .ok (.invokevirtual 237, 3) := by decide +kernel
theorem dX5_length_31 : decode cX5_length 31 = .ok (.return_, 1) := by decide +kernel
theorem dX5_length_11 : decode cX5_length 11 = .ok (.aload_n 0, 1) := by decide +kernel
theorem dX5_length_12 : decode cX5_length 12 = .ok (.iconst 1, 1) := by decide +kernel
theorem dX5_length_13 : decode cX5_length 13 = .ok (.invokevirtual 252, 3) := by decide +kernel
theorem dX5_length_16 : decode cX5_length 16 = .ok (.goto 15, 3) := by decide +kernel
theorem dX5_getField_0 : decode cX5_getField 0 = .ok (.aload_n 0, 1) := by decide +kernel
theorem dX5_getField_1 : decode cX5_getField 1 = .ok (.invokevirtual 180, 3) := by decide +kernel
theorem dX5_getField_4 : decode cX5_getField 4 = .ok (.lstore_n 2, 1) := by decide +kernel
theorem dX5_getField_5 : decode cX5_getField 5 = .ok (.lload_n 2, 1) := by decide +kernel
theorem dX5_getField_6 : decode cX5_getField 6 = .ok (.lconst 0, 1) := by decide +kernel
theorem dX5_getField_7 : decode cX5_getField 7 = .ok (.lcmp, 1) := by decide +kernel
theorem dX5_getField_8 : decode cX5_getField 8 = .ok (.ifCond .ne 11, 3) := by decide +kernel
theorem dX5_getField_19 : decode cX5_getField 19 = .ok (.aload_n 0, 1) := by decide +kernel
theorem dX5_getField_20 : decode cX5_getField 20 = .ok (.aload_n 0, 1) := by decide +kernel
theorem dX5_getField_21 : decode cX5_getField 21 = .ok (.getfield 18, 3) := by decide +kernel
theorem dX5_getField_24 : decode cX5_getField 24 = .ok (.lload_n 2, 1) := by decide +kernel
theorem dX5_getField_25 : decode cX5_getField 25 = .ok (.iload_n 1, 1) := by decide +kernel
theorem dX5_getField_26 : decode cX5_getField 26 = .ok (.invokevirtual 76, 3) := by decide +kernel
theorem dX5_getField_29 : decode cX5_getField 29 = .ok (.invokevirtual 172, 3) := by decide +kernel
theorem dX5_getField_32 : decode cX5_getField 32 = .ok (.return_, 1) := by decide +kernel
theorem dX5_getField_11 : decode cX5_getField 11 = .ok (.aload_n 0, 1) := by decide +kernel
theorem dX5_getField_12 : decode cX5_getField 12 = .ok (.iconst 1, 1) := by decide +kernel
theorem dX5_getField_13 : decode cX5_getField 13 = .ok (.invokevirtual 252, 3) := by decide +kernel
theorem dX5_getField_16 : decode cX5_getField 16 = .ok (.goto 16, 3) := by decide +kernel
theorem hV_X3_get : yX3_get.cls = RX3 ∧ yX3_get.cls ≠ "java/lang/invoke/MethodHandle" ∧ yX3_get.cls ≠ "java/lang/invoke/VarHandle" ∧ (parseMethodDescriptor yX3_get.desc).map (fun d => d.parameters.length) = some 2 := by decide +kernel
theorem dX5_putField_0 : decode cX5_putField 0 = .ok (.aload_n 0, 1) := by decide +kernel
theorem dX5_putField_1 : decode cX5_putField 1 = .ok (.invokevirtual 180, 3) := by decide +kernel
theorem dX5_putField_4 : decode cX5_putField 4 = .ok (.lstore_n 2, 1) := by decide +kernel
theorem dX5_putField_5 : decode cX5_putField 5 = .ok (.aload_n 0, 1) := by decide +kernel
theorem dX5_putField_6 : decode cX5_putField 6 = .ok (.invokevirtual 180, 3) := by decide +kernel
theorem dX5_putField_9 : decode cX5_putField 9 = .ok (.lstore 4, 2) := by decide +kernel
theorem dX5_putField_11 : decode cX5_putField 11 = .ok (.lload 4, 2) := by decide +kernel
theorem dX5_putField_13 : decode cX5_putField 13 = .ok (.lconst 0, 1) := by decide +kernel
theorem dX5_putField_14 : decode cX5_putField 14 = .ok (.lcmp, 1) := by decide +kernel
theorem dX5_putField_15 : decode cX5_putField 15 = .ok (.ifCond .ne 11, 3) := by decide +kernel
theorem dX5_putField_26 : decode cX5_putField 26 = .ok (.aload_n 0, 1) := by decide +kernel
theorem dX5_putField_27 : decode cX5_putField 27 = .ok (.getfield 18, 3) := by decide +kernel
theorem dX5_putField_30 : decode cX5_putField 30 = .ok (.lload 4, 2) := by decide +kernel
theorem dX5_putField_32 : decode cX5_putField 32 = .ok (.iload_n 1, 1) := by decide +kernel
theorem dX5_putField_33 : decode cX5_putField 33 = .ok (.lload_n 2, 1) := by decide +kernel
theorem dX5_putField_34 : decode cX5_putField 34 = .ok (.invokevirtual 264, 3) := by decide +kernel
theorem dX5_putField_37 : decode cX5_putField 37 = .ok (.return_, 1) := by decide +kernel
theorem dX5_putField_18 : decode cX5_putField 18 = .ok (.aload_n 0, 1) := by decide +kernel
theorem dX5_putField_19 : decode cX5_putField 19 = .ok (.iconst 1, 1) := by decide +kernel
theorem dX5_putField_20 : decode cX5_putField 20 = .ok (.invokevirtual 252, 3) := by decide +kernel
theorem dX5_putField_23 : decode cX5_putField 23 = .ok (.goto 14, 3) := by decide +kernel
theorem hV_X3_put : yX3_put.cls = RX3 ∧ yX3_put.cls ≠ "java/lang/invoke/MethodHandle" ∧ yX3_put.cls ≠ "java/lang/invoke/VarHandle" ∧ (parseMethodDescriptor yX3_put.desc).map (fun d => d.parameters.length) = some 3 := by decide +kernel
theorem dX5_hasElement_0 : decode cX5_hasElement 0 = .ok (.lload_n 1, 1) := by decide +kernel
theorem dX5_hasElement_1 : decode cX5_hasElement 1 = .ok (.lconst 0, 1) := by decide +kernel
theorem dX5_hasElement_2 : decode cX5_hasElement 2 = .ok (.lcmp, 1) := by decide +kernel
theorem dX5_hasElement_3 : decode cX5_hasElement 3 = .ok (.ifCond .ne 10, 3) := by decide +kernel
theorem dX5_hasElement_13 : decode cX5_hasElement 13 = .ok (.iload_n 3, 1) := by decide +kernel
theorem dX5_hasElement_14 : decode cX5_hasElement 14 = .ok (.ifCond .lt 15, 3) := by decide +kernel
theorem dX5_hasElement_29 : decode cX5_hasElement 29 = .ok (.aload_n 0, 1) := by decide +kernel
theorem dX5_hasElement_30 : decode cX5_hasElement 30 = .ok (.iconst 4, 1) := by decide +kernel
theorem dX5_hasElement_31 : decode cX5_hasElement 31 = .ok (.invokevirtual 252, 3) := by decide +kernel
theorem dX5_hasElement_34 : decode cX5_hasElement 34 = .ok (.iconst 0, 1) := by decide +kernel
theorem dX5_hasElement_35 : decode cX5_hasElement 35 = .ok (.ireturn, 1) := by decide +kernel
theorem dX5_hasElement_17 : decode cX5_hasElement 17 = .ok (.iload_n 3, 1) := by decide +kernel
theorem dX5_hasElement_18 : decode cX5_hasElement 18 = .ok (.aload_n 0, 1) := by decide +kernel
theorem dX5_hasElement_19 : decode cX5_hasElement 19 = .ok (.getfield 18, 3) := by decide +kernel
theorem dX5_hasElement_22 : decode cX5_hasElement 22 = .ok (.lload_n 1, 1) := by decide +kernel
theorem dX5_hasElement_23 : decode cX5_hasElement 23 = .ok (.invokevirtual 261, 3) := by decide +kernel
theorem dX5_hasElement_26 : decode cX5_hasElement 26 = .ok (.if_icmp .lt 10, 3) := by decide +kernel
theorem dX5_hasElement_36 : decode cX5_hasElement 36 = .ok (.iconst 1, 1) := by decide +kernel
theorem dX5_hasElement_37 : decode cX5_hasElement 37 = .ok (.ireturn, 1) := by decide +kernel
theorem dX5_hasElement_6 : decode cX5_hasElement 6 = .ok (.aload_n 0, 1) := by decide +kernel
theorem dX5_hasElement_7 : decode cX5_hasElement 7 = .ok (.iconst 1, 1) := by decide +kernel
theorem dX5_hasElement_8 : decode cX5_hasElement 8 = .ok (.invokevirtual 252, 3) := by decide +kernel
theorem dX5_hasElement_11 : decode cX5_hasElement 11 = .ok (.iconst 0, 1) := by decide +kernel
theorem dX5_hasElement_12 : decode cX5_hasElement 12 = .ok (.ireturn, 1) := by decide +kernel
theorem dX5_getElement_0 : decode cX5_getElement 0 = .ok (.aload_n 0, 1) := by decide +kernel
theorem dX5_getElement_1 : decode cX5_getElement 1 = .ok (.invokevirtual 180, 3) := by decide +kernel
theorem dX5_getElement_4 : decode cX5_getElement 4 = .ok (.l2i, 1) := by decide +kernel
theorem dX5_getElement_5 : decode cX5_getElement 5 = .ok (.istore_n 1, 1) := by decide +kernel
theorem dX5_getElement_6 : decode cX5_getElement 6 = .ok (.aload_n 0, 1) := by decide +kernel
theorem dX5_getElement_7 : decode cX5_getElement 7 = .ok (.invokevirtual 180, 3) := by decide +kernel
theorem dX5_getElement_10 : decode cX5_getElement 10 = .ok (.lstore_n 2, 1) := by decide +kernel
theorem dX5_getElement_11 : decode cX5_getElement 11 = .ok (.aload_n 0, 1) := by decide +kernel
theorem dX5_getElement_12 : decode cX5_getElement 12 = .ok (.lload_n 2, 1) := by decide +kernel
theorem dX5_getElement_13 : decode cX5_getElement 13 = .ok (.iload_n 1, 1) := by decide +kernel
theorem dX5_getElement_14 : decode cX5_getElement 14 = .ok (.invokevirtual 268, 3) := by decide +kernel
theorem dX5_getElement_17 : decode cX5_getElement 17 = .ok (.ifCond .eq 16, 3) := by decide +kernel
theorem dX5_getElement_33 : decode cX5_getElement 33 = .ok (.return_, 1) := by decide +kernel
theorem dX5_getElement_20 : decode cX5_getElement 20 = .ok (.aload_n 0, 1) := by decide +kernel
theorem dX5_getElement_21 : decode cX5_getElement 21 = .ok (.aload_n 0, 1) := by decide +kernel
theorem dX5_getElement_22 : decode cX5_getElement 22 = .ok (.getfield 18, 3) := by decide +kernel
theorem dX5_getElement_25 : decode cX5_getElement 25 = .ok (.lload_n 2, 1) := by decide +kernel
theorem dX5_getElement_26 : decode cX5_getElement 26 = .ok (.iload_n 1, 1) := by decide +kernel
theorem dX5_getElement_27 : decode cX5_getElement 27 = .ok (.invokevirtual 76, 3) := by decide +kernel
theorem dX5_getElement_30 : decode cX5_getElement 30 = .ok (.invokevirtual 172, 3) := by decide +kernel
theorem hV_X5_hasElement : yX5_hasElement.cls = RX5 ∧ yX5_hasElement.cls ≠ "java/lang/invoke/MethodHandle" ∧ yX5_hasElement.cls ≠ "java/lang/invoke/VarHandle" ∧ (parseMethodDescriptor yX5_hasElement.desc).map (fun d => d.parameters.length) = some 2 := by decide +kernel
theorem dX5_putElement_0 : decode cX5_putElement 0 = .ok (.aload_n 0, 1) := by decide +kernel
theorem dX5_putElement_1 : decode cX5_putElement 1 = .ok (.invokevirtual 180, 3) := by decide +kernel
theorem dX5_putElement_4 : decode cX5_putElement 4 = .ok (.lstore_n 1, 1) := by decide +kernel
theorem dX5_putElement_5 : decode cX5_putElement 5 = .ok (.aload_n 0, 1) := by decide +kernel
theorem dX5_putElement_6 : decode cX5_putElement 6 = .ok (.invokevirtual 180, 3) := by decide +kernel
theorem dX5_putElement_9 : decode cX5_putElement 9 = .ok (.l2i, 1) := by decide +kernel
theorem dX5_putElement_10 : decode cX5_putElement 10 = .ok (.istore_n 3, 1) := by decide +kernel
theorem dX5_putElement_11 : decode cX5_putElement 11 = .ok (.aload_n 0, 1) := by decide +kernel
theorem dX5_putElement_12 : decode cX5_putElement 12 = .ok (.invokevirtual 180, 3) := by decide +kernel
theorem dX5_putElement_15 : decode cX5_putElement 15 = .ok (.lstore 4, 2) := by decide +kernel
theorem dX5_putElement_17 : decode cX5_putElement 17 = .ok (.aload_n 0, 1) := by decide +kernel
theorem dX5_putElement_18 : decode cX5_putElement 18 = .ok (.lload 4, 2) := by decide +kernel
theorem dX5_putElement_20 : decode cX5_putElement 20 = .ok (.iload_n 3, 1) := by decide +kernel
theorem dX5_putElement_21 : decode cX5_putElement 21 = .ok (.invokevirtual 268, 3) := by decide +kernel
theorem dX5_putElement_24 : decode cX5_putElement 24 = .ok (.ifCond .ne 4, 3) := by decide +kernel
theorem dX5_putElement_28 : decode cX5_putElement 28 = .ok (.aload_n 0, 1) := by decide +kernel
theorem dX5_putElement_29 : decode cX5_putElement 29 = .ok (.getfield 18, 3) := by decide +kernel
theorem dX5_putElement_32 : decode cX5_putElement 32 = .ok (.lload 4, 2) := by decide +kernel
theorem dX5_putElement_34 : decode cX5_putElement 34 = .ok (.invokevirtual 51, 3) := by decide +kernel
theorem dX5_putElement_37 : decode cX5_putElement 37 = .ok (.bipush 64, 2) := by decide +kernel
theorem dX5_putElement_39 : decode cX5_putElement 39 = .ok (.isub, 1) := by decide +kernel
theorem dX5_putElement_40 : decode cX5_putElement 40 = .ok (.istore 6, 2) := by decide +kernel
theorem dX5_putElement_42 : decode cX5_putElement 42 = .ok (.lload_n 1, 1) := by decide +kernel
theorem dX5_putElement_43 : decode cX5_putElement 43 = .ok (.invokestatic 80, 3) := by decide +kernel
theorem dX5_putElement_46 : decode cX5_putElement 46 = .ok (.ifCond .eq 31, 3) := by decide +kernel
theorem dX5_putElement_77 : decode cX5_putElement 77 = .ok (.aload_n 0, 1) := by decide +kernel
theorem dX5_putElement_78 : decode cX5_putElement 78 = .ok (.getfield 18, 3) := by decide +kernel
theorem dX5_putElement_81 : decode cX5_putElement 81 = .ok (.lload 4, 2) := by decide +kernel
theorem dX5_putElement_83 : decode cX5_putElement 83 = .ok (.iload_n 3, 1) := by decide +kernel
theorem dX5_putElement_84 : decode cX5_putElement 84 = .ok (.lload_n 1, 1) := by decide +kernel
theorem dX5_putElement_85 : decode cX5_putElement 85 = .ok (.invokevirtual 264, 3) := by decide +kernel
theorem dX5_putElement_88 : decode cX5_putElement 88 = .ok (.return_, 1) := by decide +kernel
theorem dX5_putElement_49 : decode cX5_putElement 49 = .ok (.aload_n 0, 1) := by decide +kernel
theorem dX5_putElement_50 : decode cX5_putElement 50 = .ok (.getfield 47, 3) := by decide +kernel
theorem dX5_putElement_53 : decode cX5_putElement 53 = .ok (.aload_n 0, 1) := by decide +kernel
theorem dX5_putElement_54 : decode cX5_putElement 54 = .ok (.getfield 18, 3) := by decide +kernel
theorem dX5_putElement_57 : decode cX5_putElement 57 = .ok (.lload_n 1, 1) := by decide +kernel
theorem dX5_putElement_58 : decode cX5_putElement 58 = .ok (.invokevirtual 51, 3) := by decide +kernel
theorem dX5_putElement_61 : decode cX5_putElement 61 = .ok (.iload 6, 2) := by decide +kernel
theorem dX5_putElement_63 : decode cX5_putElement 63 = .ok (.invokevirtual 257, 3) := by decide +kernel
theorem dX5_putElement_66 : decode cX5_putElement 66 = .ok (.ifCond .ne 11, 3) := by decide +kernel
theorem dX5_putElement_69 : decode cX5_putElement 69 = .ok (.aload_n 0, 1) := by decide +kernel
theorem dX5_putElement_70 : decode cX5_putElement 70 = .ok (.iconst 5, 1) := by decide +kernel
theorem dX5_putElement_71 : decode cX5_putElement 71 = .ok (.invokevirtual 252, 3) := by decide +kernel
theorem dX5_putElement_74 : decode cX5_putElement 74 = .ok (.goto 14, 3) := by decide +kernel
theorem dX5_putElement_27 : decode cX5_putElement 27 = .ok (.return_, 1) := by decide +kernel
theorem dX5_throwValue_0 : decode cX5_throwValue 0 = .ok (.lload_n 1, 1) := by decide +kernel
theorem dX5_throwValue_1 : decode cX5_throwValue 1 = .ok (.lconst 0, 1) := by decide +kernel
theorem dX5_throwValue_2 : decode cX5_throwValue 2 = .ok (.lcmp, 1) := by decide +kernel
theorem dX5_throwValue_3 : decode cX5_throwValue 3 = .ok (.ifCond .ne 11, 3) := by decide +kernel
theorem dX5_throwValue_14 : decode cX5_throwValue 14 = .ok (.aload_n 0, 1) := by decide +kernel
theorem dX5_throwValue_15 : decode cX5_throwValue 15 = .ok (.getfield 18, 3) := by decide +kernel
theorem dX5_throwValue_18 : decode cX5_throwValue 18 = .ok (.lload_n 1, 1) := by decide +kernel
theorem dX5_throwValue_19 : decode cX5_throwValue 19 = .ok (.invokevirtual 51, 3) := by decide +kernel
theorem dX5_throwValue_22 : decode cX5_throwValue 22 = .ok (.bipush 64, 2) := by decide +kernel
theorem dX5_throwValue_24 : decode cX5_throwValue 24 = .ok (.if_icmp .lt 11, 3) := by decide +kernel
theorem dX5_throwValue_35 : decode cX5_throwValue 35 = .ok (.aload_n 0, 1) := by decide +kernel
theorem dX5_throwValue_36 : decode cX5_throwValue 36 = .ok (.lload_n 1, 1) := by decide +kernel
theorem dX5_throwValue_37 : decode cX5_throwValue 37 = .ok (.putfield 43, 3) := by decide +kernel
theorem dX5_throwValue_40 : decode cX5_throwValue 40 = .ok (.return_, 1) := by decide +kernel
theorem dX5_throwValue_27 : decode cX5_throwValue 27 = .ok (.aload_n 0, 1) := by decide +kernel
theorem dX5_throwValue_28 : decode cX5_throwValue 28 = .ok (.iconst 2, 1) := by decide +kernel
theorem dX5_throwValue_29 : decode cX5_throwValue 29 = .ok (.invokevirtual 252, 3) := by decide +kernel
theorem dX5_throwValue_32 : decode cX5_throwValue 32 = .ok (.goto 8, 3) := by decide +kernel
theorem dX5_throwValue_6 : decode cX5_throwValue 6 = .ok (.aload_n 0, 1) := by decide +kernel
theorem dX5_throwValue_7 : decode cX5_throwValue 7 = .ok (.iconst 1, 1) := by decide +kernel
theorem dX5_throwValue_8 : decode cX5_throwValue 8 = .ok (.invokevirtual 252, 3) := by decide +kernel
theorem dX5_throwValue_11 : decode cX5_throwValue 11 = .ok (.goto 29, 3) := by decide +kernel
def MoX (K : PK) (nm : Nat) (it : Nat → Nat) (x : Int32) (o : Option Nat) : Prop := ∀ q : Nat, o = some q → K.1 q = 3 ∧ ∃ j : Nat, j < nm ∧ x = nI j ∧ it j = q
theorem pred_nn {x : Int32} {n : Nat} (h : x = nI n - 1) (hn : n ≤ 1000) (hx : ¬ x < 0) : 1 ≤ n ∧ x = nI (n - 1) := by
  have h1 : 1 ≤ n := by
    refine Classical.byContradiction fun z => hx ?_
    have e : n = 0 := by omega
    rw [h, e]; decide
  exact ⟨h1, h.trans (nI_subN (a := 1) (b := n) h1)⟩
theorem add_m1 {x : Int32} : x + (-1) = x - 1 := (Int32.sub_eq_add_neg x 1).symm
set_option maxHeartbeats 6000000 in
set_option maxRecDepth 100000 in
theorem G_methodX (l : Launch) (G : pT) (h0 : Nat) (a : Nat → Nat) (F : Nat → Int32) (R : Nat → Value) (Z : Int64) (B : Nat → Nat → Int32) (J : Nat → Nat → Int64) (K : PK) (w : va_W) (pq : Nat) (dr : Nat) (ml : Nat) (nd : Nat) (x : Int32) (nm : Nat) (cp : Nat) (it : Nat → Nat) (g : Nat → Nat → Nat) (hpb : PgB K g (a 1) pq dr ml nd) (hlm : LsC G K ml 3 nm it cp) (hO : OKP G h0 a F R Z B J K w) : PM l G pX0 yX9_method cX9_method 2 (some (.object "JinjaTongue$Method")) ({ frames := 5, cells := 0, slots := 0, locals := 124 }) [.ref pq, .int x] w (fun (v : Option Value) (u : va_W × (Option Nat)) => v = some ((va_rf u.2)) ∧ (MoX K nm it x u.2) ∧ (OKP G h0 a F R Z B J K u.1)) (fun u => u.1) := by
  intro sz
  refine Met.ofW (cc := cX9_method) (maxL := 2) (ret := (some (.object "JinjaTongue$Method"))) (by decide) rfl ?_
  intro p e s m args below meth c s₁ B9 hml hv
  obtain ⟨rfl, hsz, hP, hD0, hE, hX⟩ := hv
  have hx := B9.exec
  have hb := B9.bytes
  have hr := B9.returns
  have hts := atoms_spec (ws := Cond.code yX9_method cX9_method 2 (some (.object "JinjaTongue$Method")) :: pw) B9.pre
  have hq : ∀ w ∈ pw, w.before _ s = true := fun w h => hts w (List.mem_cons_of_mem _ h)
  have hown : s.vm.findClass RX9 = some m.cls := findClass_of_methodNamed B9.named
  have hlocks := B9.notSynchronized
  subst hsz
  have hD := hD0.self (sz := s.heap.size)
  have hA : ∀ q : Nat, s.heap.size ≤ q → va_A w s.heap.size q := fun q h => Or.inr h
  generalize va_A w s.heap.size = A at hD hE hA ⊢
  have hS : va_S A s.heap s.heap [] := va_S.rf
  have hl := lv_entry ([.ref pq, .int x]) (n := 2) (Nat.le_of_ble_eq_true rfl)
  rw [lg_entry_eq]
  generalize (lg_sl ([.ref pq, .int x]) ++ List.replicate (2 - (lg_sl ([.ref pq, .int x])).length) Slot.unset).toArray = ls at hl ⊢
  have hl : lv_has ls 2 [(0, .ref pq), (1, .int x)] := hl
  have hp1 := hpb.1
  have hp2 := hpb.2.1
  have hp3 := hpb.2.2.1
  have hp4 := hpb.2.2.2.1
  have hp5 := hpb.2.2.2.2.1
  have hp6 := hpb.2.2.2.2.2.1
  have hp8 := hpb.2.2.2.2.2.2.2.1
  have hp9 := hpb.2.2.2.2.2.2.2.2
  have hnm9 := hlm.2.2.1
  refine lv_iload_n hx hb dX9_method_0 rfl (lv_at hl 1 rfl) ?_
  refine lv_if_lt (tgt := 29) hx hb dX9_method_1 (by decide) (fun c1 => ?_) (fun c1 => ?_)
  · refine lv_null hx hb dX9_method_29 ?_
    have hz2 : MoX K nm it x none := (fun d h => by cases h)
    have hO : OKP G h0 a F R Z B J K w := hO.to rfl
    exact W.aret (v := .null) hx hb hr (Or.inl ⟨_, rfl⟩) (Or.inl rfl) (fun t99 ht99 hW99 => ⟨⟨_, (w, none), rfl, ⟨rfl, hz2, hO⟩, by rw [ht99]; exact hP, hD⟩, hS.F ht99⟩) hS.2.2 dX9_method_30
  · obtain ⟨k9, ht_k9, hb_k9⟩ := nI_nn2 c1
    rw [ht_k9] at hl
    refine lv_iload_n hx hb dX9_method_4 rfl (lv_at hl 1 rfl) ?_
    refine lv_aload_n hx hb dX9_method_5 rfl (lv_at hl 0 rfl) ?_
    refine p_get (v := .ref ml) (C := RX9) (Tc := TX9) (N := 5) (ci := 6) hx hb hq pin_wsX90 hown hE hP hO (by rw [hp1]; decide) (rep_7 hp1) rfl 3 (by decide) (hq _ pw_514) (fun _ h9 => h9) (congrArg (fun z => some (va_rf z)) hp5) dX9_method_6 ?_
    have hO : OKP G h0 a F R Z B J K w := hO.to rfl
    obtain ⟨qr6, hqr7⟩ := p_recv hO (by rw [hp6]; decide) (rep_5 hp6)
    refine pc_V0 (G := G) (As := []) (rest := [.int (nI k9)]) hx hb hml hown hq hE hX pX0_al hP hD hS hA hl.1 (L_size l G h0 a F R Z B J K w ml 3 nm it hlm.ls hO) (gV pw_516 pw_87 pw_88 pw_32 pw_16) hV_Jx4a65c_size_8abf5 qr6 10 hqr7 rfl rfl rfl (Nat.le_of_ble_eq_true rfl) dX9_method_9 ⟨Nat.le_of_ble_eq_true rfl, Nat.le_of_ble_eq_true rfl⟩ ⟨Nat.le_of_ble_eq_true rfl, Nat.le_of_ble_eq_true rfl⟩ (fun v5 u3 H locs hw4 hP hD hS => ?_)
    obtain ⟨w, _⟩ := u3
    obtain ⟨hw4, hO⟩ := hw4
    obtain rfl : v5 = some (.int (nI nm)) := hw4
    have hO : OKP G h0 a F R Z B J K w := hO.to rfl
    refine W.widen (k := 0) (n := 0) (Nat.le_of_ble_eq_true rfl) (Nat.le_of_ble_eq_true rfl) ?_
    refine W.eq (g2 := F0 m 12 ls [.int (nI nm), .int (nI k9)]) rfl ?_
    refine lv_icmp_ge (tgt := 29) hx hb dX9_method_12 (by decide) (fun c8 => ?_) (fun c8 => ?_)
    · have n9 : nm ≤ k9 := (nI_leI (a := nm) (b := k9) (by omega) (by omega)).mp c8
      refine lv_null hx hb dX9_method_29 ?_
      have hz10 : MoX K nm it x none := (fun d h => by cases h)
      have hO : OKP G h0 a F R Z B J K w := hO.to rfl
      exact W.aret (v := .null) hx hb hr (Or.inl ⟨_, rfl⟩) (Or.inl rfl) (fun t99 ht99 hW99 => ⟨⟨_, (w, none), rfl, ⟨rfl, hz10, hO⟩, by rw [ht99]; exact hP, hD⟩, hS.F ht99⟩) hS.2.2 dX9_method_30
    · have n11 : ¬ (nm ≤ k9) := fun h9 => c8 ((nI_leI (a := nm) (b := k9) (by omega) (by omega)).mpr h9)
      refine lv_aload_n hx hb dX9_method_15 rfl (lv_at hl 0 rfl) ?_
      refine p_get (v := .ref ml) (C := RX9) (Tc := TX9) (N := 5) (ci := 6) hx hb hq pin_wsX90 hown hE hP hO (by rw [hp1]; decide) (rep_7 hp1) rfl 3 (by decide) (hq _ pw_514) (fun _ h9 => h9) (congrArg (fun z => some (va_rf z)) hp5) dX9_method_16 ?_
      refine lv_iload_n hx hb dX9_method_19 rfl (lv_at hl 1 rfl) ?_
      have hO : OKP G h0 a F R Z B J K w := hO.to rfl
      obtain ⟨qr15, hqr16⟩ := p_recv hO (by rw [hp6]; decide) (rep_5 hp6)
      refine pc_V0 (G := G) (As := [.int (nI k9)]) (rest := []) hx hb hml hown hq hE hX pX0_al hP hD hS hA hl.1 (L_get l G h0 a F R Z B J K w ml 3 nm it k9 hlm.ls (by omega) hO) (gV pw_517 pw_90 pw_91 pw_32 pw_25) hV_Jx4a65c_get_915e3 qr15 10 hqr16 rfl rfl rfl (Nat.le_of_ble_eq_true rfl) dX9_method_20 ⟨Nat.le_of_ble_eq_true rfl, Nat.le_of_ble_eq_true rfl⟩ ⟨Nat.le_of_ble_eq_true rfl, Nat.le_of_ble_eq_true rfl⟩ (fun v14 u12 H locs hw13 hP hD hS => ?_)
      obtain ⟨w, _⟩ := u12
      obtain ⟨hw13, hO⟩ := hw13
      obtain rfl : v14 = some (.ref (it k9)) := hw13
      have hO : OKP G h0 a F R Z B J K w := hO.to rfl
      refine W.widen (k := 0) (n := 0) (Nat.le_of_ble_eq_true rfl) (Nat.le_of_ble_eq_true rfl) ?_
      refine W.eq (g2 := F0 m 23 ls [.ref (it k9)]) rfl ?_
      have hf17 : K.1 (it k9) = 3 := hlm.T (by omega)
      refine p_cast (C := RX6) (Tc := TX6) (N := 12) (ci := 12) hx hb hown (hq _ pw_515) hE hP hO (by rw [hf17]; decide) (rep_3 hf17) rfl dX9_method_23 ?_
      refine lv_goto (tgt := 30) hx hb dX9_method_26 (by decide) ?_
      have hz18 : MoX K nm it x (some (it k9)) := (fun d h => by cases h; exact ⟨hf17, k9, by omega, ht_k9, rfl⟩)
      have hO : OKP G h0 a F R Z B J K w := hO.to rfl
      exact W.aret (v := .ref (it k9)) hx hb hr (Or.inl ⟨_, rfl⟩) (Or.inr ⟨_, rfl⟩) (fun t99 ht99 hW99 => ⟨⟨_, (w, (some (it k9))), rfl, ⟨rfl, hz18, hO⟩, by rw [ht99]; exact hP, hD⟩, hS.F ht99⟩) hS.2.2 dX9_method_30
theorem dX5_collect_0 : decode cX5_collect 0 = .ok (.aload_n 0, 1) := by decide +kernel
theorem dX5_collect_1 : decode cX5_collect 1 = .ok (.getfield 18, 3) := by decide +kernel
theorem dX5_collect_4 : decode cX5_collect 4 = .ok (.invokevirtual 289, 3) := by decide +kernel
theorem dX5_collect_7 : decode cX5_collect 7 = .ok (.aload_n 0, 1) := by decide +kernel
theorem dX5_collect_8 : decode cX5_collect 8 = .ok (.getfield 100, 3) := by decide +kernel
theorem dX5_collect_11 : decode cX5_collect 11 = .ok (.istore_n 1, 1) := by decide +kernel
theorem dX5_collect_12 : decode cX5_collect 12 = .ok (.aload_n 0, 1) := by decide +kernel
theorem dX5_collect_13 : decode cX5_collect 13 = .ok (.getfield 103, 3) := by decide +kernel
theorem dX5_collect_16 : decode cX5_collect 16 = .ok (.istore_n 2, 1) := by decide +kernel
theorem dX5_collect_17 : decode cX5_collect 17 = .ok (.aload_n 0, 1) := by decide +kernel
theorem dX5_collect_18 : decode cX5_collect 18 = .ok (.getfield 106, 3) := by decide +kernel
theorem dX5_collect_21 : decode cX5_collect 21 = .ok (.istore_n 3, 1) := by decide +kernel
theorem dX5_collect_22 : decode cX5_collect 22 = .ok (.aload_n 0, 1) := by decide +kernel
theorem dX5_collect_23 : decode cX5_collect 23 = .ok (.getfield 96, 3) := by decide +kernel
theorem dX5_collect_26 : decode cX5_collect 26 = .ok (.astore 4, 2) := by decide +kernel
theorem dX5_collect_28 : decode cX5_collect 28 = .ok (.aload_n 0, 1) := by decide +kernel
theorem dX5_collect_29 : decode cX5_collect 29 = .ok (.getfield 93, 3) := by decide +kernel
theorem dX5_collect_32 : decode cX5_collect 32 = .ok (.iconst 1, 1) := by decide +kernel
theorem dX5_collect_33 : decode cX5_collect 33 = .ok (.isub, 1) := by decide +kernel
theorem dX5_collect_34 : decode cX5_collect 34 = .ok (.istore 5, 2) := by decide +kernel
theorem dX5_collect_36 : decode cX5_collect 36 = .ok (.iload 5, 2) := by decide +kernel
theorem dX5_collect_38 : decode cX5_collect 38 = .ok (.ifCond .lt 147, 3) := by decide +kernel
theorem dX5_collect_185 : decode cX5_collect 185 = .ok (.aload_n 0, 1) := by decide +kernel
theorem dX5_collect_186 : decode cX5_collect 186 = .ok (.getfield 18, 3) := by decide +kernel
theorem dX5_collect_189 : decode cX5_collect 189 = .ok (.invokevirtual 313, 3) := by decide +kernel
theorem dX5_collect_192 : decode cX5_collect 192 = .ok (.return_, 1) := by decide +kernel
theorem dX5_collect_41 : decode cX5_collect 41 = .ok (.aload 4, 2) := by decide +kernel
theorem dX5_collect_43 : decode cX5_collect 43 = .ok (.ifnull 142, 3) := by decide +kernel
theorem dX5_collect_46 : decode cX5_collect 46 = .ok (.iload_n 1, 1) := by decide +kernel
theorem dX5_collect_47 : decode cX5_collect 47 = .ok (.aload_n 0, 1) := by decide +kernel
theorem dX5_collect_48 : decode cX5_collect 48 = .ok (.getfield 11, 3) := by decide +kernel
theorem dX5_collect_51 : decode cX5_collect 51 = .ok (.iload_n 3, 1) := by decide +kernel
theorem dX5_collect_52 : decode cX5_collect 52 = .ok (.invokevirtual 292, 3) := by decide +kernel
theorem dX5_collect_55 : decode cX5_collect 55 = .ok (.iadd, 1) := by decide +kernel
theorem dX5_collect_56 : decode cX5_collect 56 = .ok (.istore 6, 2) := by decide +kernel
theorem dX5_collect_58 : decode cX5_collect 58 = .ok (.iload_n 1, 1) := by decide +kernel
theorem dX5_collect_59 : decode cX5_collect 59 = .ok (.aload 4, 2) := by decide +kernel
theorem dX5_collect_61 : decode cX5_collect 61 = .ok (.getfield 295, 3) := by decide +kernel
theorem dX5_collect_64 : decode cX5_collect 64 = .ok (.iadd, 1) := by decide +kernel
theorem dX5_collect_65 : decode cX5_collect 65 = .ok (.istore 7, 2) := by decide +kernel
theorem dX5_collect_67 : decode cX5_collect 67 = .ok (.iload_n 1, 1) := by decide +kernel
theorem dX5_collect_68 : decode cX5_collect 68 = .ok (.iconst 0, 1) := by decide +kernel
theorem dX5_collect_69 : decode cX5_collect 69 = .ok (.invokestatic 300, 3) := by decide +kernel
theorem dX5_collect_72 : decode cX5_collect 72 = .ok (.istore 8, 2) := by decide +kernel
theorem dX5_collect_74 : decode cX5_collect 74 = .ok (.iload 8, 2) := by decide +kernel
theorem dX5_collect_76 : decode cX5_collect 76 = .ok (.iload_n 2, 1) := by decide +kernel
theorem dX5_collect_77 : decode cX5_collect 77 = .ok (.if_icmp .ge 58, 3) := by decide +kernel
theorem dX5_collect_135 : decode cX5_collect 135 = .ok (.iload_n 1, 1) := by decide +kernel
theorem dX5_collect_136 : decode cX5_collect 136 = .ok (.istore_n 2, 1) := by decide +kernel
theorem dX5_collect_137 : decode cX5_collect 137 = .ok (.aload_n 0, 1) := by decide +kernel
theorem dX5_collect_138 : decode cX5_collect 138 = .ok (.getfield 26, 3) := by decide +kernel
theorem dX5_collect_141 : decode cX5_collect 141 = .ok (.iconst 3, 1) := by decide +kernel
theorem dX5_collect_142 : decode cX5_collect 142 = .ok (.iload 5, 2) := by decide +kernel
theorem dX5_collect_144 : decode cX5_collect 144 = .ok (.imul, 1) := by decide +kernel
theorem dX5_collect_145 : decode cX5_collect 145 = .ok (.iaload, 1) := by decide +kernel
theorem dX5_collect_146 : decode cX5_collect 146 = .ok (.istore_n 3, 1) := by decide +kernel
theorem dX5_collect_147 : decode cX5_collect 147 = .ok (.aload_n 0, 1) := by decide +kernel
theorem dX5_collect_148 : decode cX5_collect 148 = .ok (.getfield 26, 3) := by decide +kernel
theorem dX5_collect_151 : decode cX5_collect 151 = .ok (.iconst 3, 1) := by decide +kernel
theorem dX5_collect_152 : decode cX5_collect 152 = .ok (.iload 5, 2) := by decide +kernel
theorem dX5_collect_154 : decode cX5_collect 154 = .ok (.imul, 1) := by decide +kernel
theorem dX5_collect_155 : decode cX5_collect 155 = .ok (.iconst 1, 1) := by decide +kernel
theorem dX5_collect_156 : decode cX5_collect 156 = .ok (.iadd, 1) := by decide +kernel
theorem dX5_collect_157 : decode cX5_collect 157 = .ok (.iaload, 1) := by decide +kernel
theorem dX5_collect_158 : decode cX5_collect 158 = .ok (.istore_n 1, 1) := by decide +kernel
theorem dX5_collect_159 : decode cX5_collect 159 = .ok (.aload_n 0, 1) := by decide +kernel
theorem dX5_collect_160 : decode cX5_collect 160 = .ok (.getfield 47, 3) := by decide +kernel
theorem dX5_collect_163 : decode cX5_collect 163 = .ok (.aload_n 0, 1) := by decide +kernel
theorem dX5_collect_164 : decode cX5_collect 164 = .ok (.getfield 26, 3) := by decide +kernel
theorem dX5_collect_167 : decode cX5_collect 167 = .ok (.iconst 3, 1) := by decide +kernel
theorem dX5_collect_168 : decode cX5_collect 168 = .ok (.iload 5, 2) := by decide +kernel
theorem dX5_collect_170 : decode cX5_collect 170 = .ok (.imul, 1) := by decide +kernel
theorem dX5_collect_171 : decode cX5_collect 171 = .ok (.iconst 2, 1) := by decide +kernel
theorem dX5_collect_172 : decode cX5_collect 172 = .ok (.iadd, 1) := by decide +kernel
theorem dX5_collect_173 : decode cX5_collect 173 = .ok (.iaload, 1) := by decide +kernel
theorem dX5_collect_174 : decode cX5_collect 174 = .ok (.invokevirtual 310, 3) := by decide +kernel
theorem dX5_collect_177 : decode cX5_collect 177 = .ok (.astore 4, 2) := by decide +kernel
theorem dX5_collect_179 : decode cX5_collect 179 = .ok (.iinc 5 (-1), 3) := by decide +kernel
theorem dX5_collect_182 : decode cX5_collect 182 = .ok (.goto (-146), 3) := by decide +kernel
theorem dX5_collect_80 : decode cX5_collect 80 = .ok (.iload 8, 2) := by decide +kernel
theorem dX5_collect_82 : decode cX5_collect 82 = .ok (.aload_n 0, 1) := by decide +kernel
theorem dX5_collect_83 : decode cX5_collect 83 = .ok (.getfield 22, 3) := by decide +kernel
theorem dX5_collect_86 : decode cX5_collect 86 = .ok (.arraylength, 1) := by decide +kernel
theorem dX5_collect_87 : decode cX5_collect 87 = .ok (.if_icmp .ge 48, 3) := by decide +kernel
theorem dX5_collect_90 : decode cX5_collect 90 = .ok (.aload_n 0, 1) := by decide +kernel
theorem dX5_collect_91 : decode cX5_collect 91 = .ok (.getfield 22, 3) := by decide +kernel
theorem dX5_collect_94 : decode cX5_collect 94 = .ok (.iload 8, 2) := by decide +kernel
theorem dX5_collect_96 : decode cX5_collect 96 = .ok (.iload 8, 2) := by decide +kernel
theorem dX5_collect_98 : decode cX5_collect 98 = .ok (.iload 6, 2) := by decide +kernel
theorem dX5_collect_100 : decode cX5_collect 100 = .ok (.if_icmp .lt 10, 3) := by decide +kernel
theorem dX5_collect_110 : decode cX5_collect 110 = .ok (.aload_n 0, 1) := by decide +kernel
theorem dX5_collect_111 : decode cX5_collect 111 = .ok (.getfield 18, 3) := by decide +kernel
theorem dX5_collect_114 : decode cX5_collect 114 = .ok (.aload_n 0, 1) := by decide +kernel
theorem dX5_collect_115 : decode cX5_collect 115 = .ok (.getfield 22, 3) := by decide +kernel
theorem dX5_collect_118 : decode cX5_collect 118 = .ok (.iload 8, 2) := by decide +kernel
theorem dX5_collect_120 : decode cX5_collect 120 = .ok (.laload, 1) := by decide +kernel
theorem dX5_collect_121 : decode cX5_collect 121 = .ok (.invokevirtual 306, 3) := by decide +kernel
theorem dX5_collect_124 : decode cX5_collect 124 = .ok (.goto 4, 3) := by decide +kernel
theorem dX5_collect_128 : decode cX5_collect 128 = .ok (.lastore, 1) := by decide +kernel
theorem dX5_collect_129 : decode cX5_collect 129 = .ok (.iinc 8 1, 3) := by decide +kernel
theorem dX5_collect_132 : decode cX5_collect 132 = .ok (.goto (-58), 3) := by decide +kernel
theorem dX5_collect_103 : decode cX5_collect 103 = .ok (.iload 8, 2) := by decide +kernel
theorem dX5_collect_105 : decode cX5_collect 105 = .ok (.iload 7, 2) := by decide +kernel
theorem dX5_collect_107 : decode cX5_collect 107 = .ok (.if_icmp .lt 20, 3) := by decide +kernel
theorem dX5_collect_127 : decode cX5_collect 127 = .ok (.lconst 0, 1) := by decide +kernel
theorem hV_X3_beginCollecting : yX3_beginCollecting.cls = RX3 ∧ yX3_beginCollecting.cls ≠ "java/lang/invoke/MethodHandle" ∧ yX3_beginCollecting.cls ≠ "java/lang/invoke/VarHandle" ∧ (parseMethodDescriptor yX3_beginCollecting.desc).map (fun d => d.parameters.length) = some 0 := by decide +kernel
theorem hV_X3_endCollecting : yX3_endCollecting.cls = RX3 ∧ yX3_endCollecting.cls ≠ "java/lang/invoke/MethodHandle" ∧ yX3_endCollecting.cls ≠ "java/lang/invoke/VarHandle" ∧ (parseMethodDescriptor yX3_endCollecting.desc).map (fun d => d.parameters.length) = some 0 := by decide +kernel
theorem hV_X1_heldAt : yX1_heldAt.cls = RX1 ∧ yX1_heldAt.cls ≠ "java/lang/invoke/MethodHandle" ∧ yX1_heldAt.cls ≠ "java/lang/invoke/VarHandle" ∧ (parseMethodDescriptor yX1_heldAt.desc).map (fun d => d.parameters.length) = some 1 := by decide +kernel
theorem hV_X9_method : yX9_method.cls = RX9 ∧ yX9_method.cls ≠ "java/lang/invoke/MethodHandle" ∧ yX9_method.cls ≠ "java/lang/invoke/VarHandle" ∧ (parseMethodDescriptor yX9_method.desc).map (fun d => d.parameters.length) = some 1 := by decide +kernel
theorem dX5_make_0 : decode cX5_make 0 = .ok (.aload_n 0, 1) := by decide +kernel
theorem dX5_make_1 : decode cX5_make 1 = .ok (.getfield 18, 3) := by decide +kernel
theorem dX5_make_4 : decode cX5_make 4 = .ok (.lload_n 2, 1) := by decide +kernel
theorem dX5_make_5 : decode cX5_make 5 = .ok (.invokevirtual 280, 3) := by decide +kernel
theorem dX5_make_8 : decode cX5_make 8 = .ok (.ifCond .ne 7, 3) := by decide +kernel
theorem dX5_make_15 : decode cX5_make 15 = .ok (.aload_n 0, 1) := by decide +kernel
theorem dX5_make_16 : decode cX5_make 16 = .ok (.getfield 18, 3) := by decide +kernel
theorem dX5_make_19 : decode cX5_make 19 = .ok (.lload_n 2, 1) := by decide +kernel
theorem dX5_make_20 : decode cX5_make 20 = .ok (.invokevirtual 280, 3) := by decide +kernel
theorem dX5_make_23 : decode cX5_make 23 = .ok (.ifCond .ne 9, 3) := by decide +kernel
theorem dX5_make_32 : decode cX5_make 32 = .ok (.aload_n 0, 1) := by decide +kernel
theorem dX5_make_33 : decode cX5_make 33 = .ok (.aload_n 0, 1) := by decide +kernel
theorem dX5_make_34 : decode cX5_make 34 = .ok (.getfield 18, 3) := by decide +kernel
theorem dX5_make_37 : decode cX5_make 37 = .ok (.iload_n 1, 1) := by decide +kernel
theorem dX5_make_38 : decode cX5_make 38 = .ok (.lload_n 2, 1) := by decide +kernel
theorem dX5_make_39 : decode cX5_make 39 = .ok (.l2i, 1) := by decide +kernel
theorem dX5_make_40 : decode cX5_make 40 = .ok (.invokevirtual 286, 3) := by decide +kernel
theorem dX5_make_43 : decode cX5_make 43 = .ok (.invokevirtual 172, 3) := by decide +kernel
theorem dX5_make_46 : decode cX5_make 46 = .ok (.aload_n 0, 1) := by decide +kernel
theorem dX5_make_47 : decode cX5_make 47 = .ok (.getfield 36, 3) := by decide +kernel
theorem dX5_make_50 : decode cX5_make 50 = .ok (.bipush 8, 2) := by decide +kernel
theorem dX5_make_52 : decode cX5_make 52 = .ok (.dup2, 1) := by decide +kernel
theorem dX5_make_53 : decode cX5_make 53 = .ok (.iaload, 1) := by decide +kernel
theorem dX5_make_54 : decode cX5_make 54 = .ok (.iconst 1, 1) := by decide +kernel
theorem dX5_make_55 : decode cX5_make 55 = .ok (.iadd, 1) := by decide +kernel
theorem dX5_make_56 : decode cX5_make 56 = .ok (.iastore, 1) := by decide +kernel
theorem dX5_make_57 : decode cX5_make 57 = .ok (.aload_n 0, 1) := by decide +kernel
theorem dX5_make_58 : decode cX5_make 58 = .ok (.getfield 36, 3) := by decide +kernel
theorem dX5_make_61 : decode cX5_make 61 = .ok (.bipush 9, 2) := by decide +kernel
theorem dX5_make_63 : decode cX5_make 63 = .ok (.dup2, 1) := by decide +kernel
theorem dX5_make_64 : decode cX5_make 64 = .ok (.iaload, 1) := by decide +kernel
theorem dX5_make_65 : decode cX5_make 65 = .ok (.lload_n 2, 1) := by decide +kernel
theorem dX5_make_66 : decode cX5_make 66 = .ok (.l2i, 1) := by decide +kernel
theorem dX5_make_67 : decode cX5_make 67 = .ok (.iadd, 1) := by decide +kernel
theorem dX5_make_68 : decode cX5_make 68 = .ok (.iastore, 1) := by decide +kernel
theorem dX5_make_69 : decode cX5_make 69 = .ok (.return_, 1) := by decide +kernel
theorem dX5_make_26 : decode cX5_make 26 = .ok (.aload_n 0, 1) := by decide +kernel
theorem dX5_make_27 : decode cX5_make 27 = .ok (.iconst 3, 1) := by decide +kernel
theorem dX5_make_28 : decode cX5_make 28 = .ok (.putfield 116, 3) := by decide +kernel
theorem dX5_make_31 : decode cX5_make 31 = .ok (.return_, 1) := by decide +kernel
theorem dX5_make_11 : decode cX5_make 11 = .ok (.aload_n 0, 1) := by decide +kernel
theorem dX5_make_12 : decode cX5_make 12 = .ok (.invokevirtual 283, 3) := by decide +kernel
theorem hV_X3_hasRoom : yX3_hasRoom.cls = RX3 ∧ yX3_hasRoom.cls ≠ "java/lang/invoke/MethodHandle" ∧ yX3_hasRoom.cls ≠ "java/lang/invoke/VarHandle" ∧ (parseMethodDescriptor yX3_hasRoom.desc).map (fun d => d.parameters.length) = some 1 := by decide +kernel
theorem hV_X3_make : yX3_make.cls = RX3 ∧ yX3_make.cls ≠ "java/lang/invoke/MethodHandle" ∧ yX3_make.cls ≠ "java/lang/invoke/VarHandle" ∧ (parseMethodDescriptor yX3_make.desc).map (fun d => d.parameters.length) = some 2 := by decide +kernel
theorem hV_X5_collect : yX5_collect.cls = RX5 ∧ yX5_collect.cls ≠ "java/lang/invoke/MethodHandle" ∧ yX5_collect.cls ≠ "java/lang/invoke/VarHandle" ∧ (parseMethodDescriptor yX5_collect.desc).map (fun d => d.parameters.length) = some 0 := by decide +kernel
theorem dX2_cells_0 : decode cX2_cells 0 = .ok (.iconst 1, 1) := by decide +kernel
theorem dX2_cells_1 : decode cX2_cells 1 = .ok (.aload_n 0, 1) := by decide +kernel
theorem dX2_cells_2 : decode cX2_cells 2 = .ok (.getfield 38, 3) := by decide +kernel
theorem dX2_cells_5 : decode cX2_cells 5 = .ok (.invokevirtual 44, 3) := by decide +kernel
theorem dX2_cells_8 : decode cX2_cells 8 = .ok (.iadd, 1) := by decide +kernel
theorem dX2_cells_9 : decode cX2_cells 9 = .ok (.ireturn, 1) := by decide +kernel
set_option maxHeartbeats 6000000 in
set_option maxRecDepth 100000 in
theorem O_cells (l : Launch) (G : pT) (h0 : Nat) (a : Nat → Nat) (F : Nat → Int32) (R : Nat → Value) (Z : Int64) (B : Nat → Nat → Int32) (J : Nat → Nat → Int64) (K : PK) (w : va_W) (d0 : Nat) (g : Nat → Nat → Nat) (hd0 : K.1 d0 = 4) (hwp : WPr G K g) (hO : OKP G h0 a F R Z B J K w) : PM l G pX0 yX2_cells cX2_cells 1 (some .int) ({ frames := 3, cells := 0, slots := 0, locals := 80 }) [.ref d0] w (fun (v : Option Value) (u : va_W × (Int32)) => v = some (.int u.2) ∧ (OKP G h0 a F R Z B J K u.1)) (fun u => u.1) := by
  intro sz
  refine Met.ofW (cc := cX2_cells) (maxL := 1) (ret := (some .int)) (by decide) rfl ?_
  intro p e s m args below meth c s₁ B9 hml hv
  obtain ⟨rfl, hsz, hP, hD0, hE, hX⟩ := hv
  have hx := B9.exec
  have hb := B9.bytes
  have hr := B9.returns
  have hts := atoms_spec (ws := Cond.code yX2_cells cX2_cells 1 (some .int) :: pw) B9.pre
  have hq : ∀ w ∈ pw, w.before _ s = true := fun w h => hts w (List.mem_cons_of_mem _ h)
  have hown : s.vm.findClass RX2 = some m.cls := findClass_of_methodNamed B9.named
  have hlocks := B9.notSynchronized
  subst hsz
  have hD := hD0.self (sz := s.heap.size)
  have hA : ∀ q : Nat, s.heap.size ≤ q → va_A w s.heap.size q := fun q h => Or.inr h
  generalize va_A w s.heap.size = A at hD hE hA ⊢
  have hS : va_S A s.heap s.heap [] := va_S.rf
  have hl := lv_entry ([.ref d0]) (n := 1) (Nat.le_of_ble_eq_true rfl)
  rw [lg_entry_eq]
  generalize (lg_sl ([.ref d0]) ++ List.replicate (1 - (lg_sl ([.ref d0])).length) Slot.unset).toArray = ls at hl ⊢
  have hl : lv_has ls 1 [(0, .ref d0)] := hl
  obtain ⟨lm, hflm, htlm, hrlm, holm⟩ := (hwp.2.2.1 d0 hd0).2.2.1
  obtain ⟨nlm, itlm, cplm, hlclm, hnblm, hcblm⟩ := hwp.2.1 lm htlm
  rw [hrlm] at hlclm hnblm
  have hnclm := hlclm.2.2.1
  have hnblm : nlm ≤ 5000 := hnblm
  have hlclm : LsC G K lm 1 nlm itlm cplm := hlclm
  refine lv_iconst (v := 1) hx hb dX2_cells_0 (by decide) ?_
  refine lv_aload_n hx hb dX2_cells_1 rfl (lv_at hl 0 rfl) ?_
  refine p_get (v := .ref lm) (C := RX2) (Tc := TX2) (N := 13) (ci := 2) hx hb hq pin_wsX20 hown hE hP hO (by rw [hd0]; decide) (rep_4 hd0) rfl 11 (by decide) (hq _ pw_138) (fun _ h9 => h9) (congrArg (fun z => some (va_rf z)) hflm) dX2_cells_2 ?_
  have hO : OKP G h0 a F R Z B J K w := hO.to rfl
  obtain ⟨qr4, hqr5⟩ := p_recv hO (by rw [htlm]; decide) (rep_5 htlm)
  refine pc_V0 (G := G) (As := []) (rest := [.int 1]) hx hb hml hown hq hE hX pX0_al hP hD hS hA hl.1 (L_size l G h0 a F R Z B J K w lm 1 nlm itlm hlclm.ls hO) (gV pw_123 pw_87 pw_88 pw_32 pw_16) hV_Jx4a65c_size_8abf5 qr4 10 hqr5 rfl rfl rfl (Nat.le_of_ble_eq_true rfl) dX2_cells_5 ⟨Nat.le_of_ble_eq_true rfl, Nat.le_of_ble_eq_true rfl⟩ ⟨Nat.le_of_ble_eq_true rfl, Nat.le_of_ble_eq_true rfl⟩ (fun v3 u1 H locs hw2 hP hD hS => ?_)
  obtain ⟨w, _⟩ := u1
  obtain ⟨hw2, hO⟩ := hw2
  obtain rfl : v3 = some (.int (nI nlm)) := hw2
  have hO : OKP G h0 a F R Z B J K w := hO.to rfl
  refine W.widen (k := 0) (n := 0) (Nat.le_of_ble_eq_true rfl) (Nat.le_of_ble_eq_true rfl) ?_
  refine W.eq (g2 := F0 m 8 ls [.int (nI nlm), .int 1]) rfl ?_
  refine lv_iadd hx hb dX2_cells_8 ?_
  refine lv_topi (fun x6 e7 => ?_)
  obtain rfl : x6 = nI (1 + nlm) := e7.trans (nI_add (1) (nlm))
  have hO : OKP G h0 a F R Z B J K w := hO.to rfl
  exact W.iret (v := (nI (1 + nlm))) hx hb hr (fun t99 ht99 hW99 => ⟨⟨_, (w, (nI (1 + nlm))), rfl, ⟨rfl, hO⟩, by rw [ht99]; exact hP, hD⟩, hS.F ht99⟩) hS.2.2 dX2_cells_9
theorem dX5_makeObject_0 : decode cX5_makeObject 0 = .ok (.aload_n 0, 1) := by decide +kernel
theorem dX5_makeObject_1 : decode cX5_makeObject 1 = .ok (.getfield 47, 3) := by decide +kernel
theorem dX5_makeObject_4 : decode cX5_makeObject 4 = .ok (.iload_n 1, 1) := by decide +kernel
theorem dX5_makeObject_5 : decode cX5_makeObject 5 = .ok (.invokevirtual 55, 3) := by decide +kernel
theorem dX5_makeObject_8 : decode cX5_makeObject 8 = .ok (.astore_n 2, 1) := by decide +kernel
theorem dX5_makeObject_9 : decode cX5_makeObject 9 = .ok (.aload_n 2, 1) := by decide +kernel
theorem dX5_makeObject_10 : decode cX5_makeObject 10 = .ok (.ifnonnull 10, 3) := by decide +kernel
theorem dX5_makeObject_30 : decode cX5_makeObject 30 = .ok (.return_, 1) := by decide +kernel
theorem dX5_makeObject_20 : decode cX5_makeObject 20 = .ok (.aload_n 0, 1) := by decide +kernel
theorem dX5_makeObject_21 : decode cX5_makeObject 21 = .ok (.iload_n 1, 1) := by decide +kernel
theorem dX5_makeObject_22 : decode cX5_makeObject 22 = .ok (.aload_n 2, 1) := by decide +kernel
theorem dX5_makeObject_23 : decode cX5_makeObject 23 = .ok (.invokevirtual 272, 3) := by decide +kernel
theorem dX5_makeObject_26 : decode cX5_makeObject 26 = .ok (.i2l, 1) := by decide +kernel
theorem dX5_makeObject_27 : decode cX5_makeObject 27 = .ok (.invokevirtual 275, 3) := by decide +kernel
theorem hV_X2_cells : yX2_cells.cls = RX2 ∧ yX2_cells.cls ≠ "java/lang/invoke/MethodHandle" ∧ yX2_cells.cls ≠ "java/lang/invoke/VarHandle" ∧ (parseMethodDescriptor yX2_cells.desc).map (fun d => d.parameters.length) = some 0 := by decide +kernel
theorem hV_X5_make : yX5_make.cls = RX5 ∧ yX5_make.cls ≠ "java/lang/invoke/MethodHandle" ∧ yX5_make.cls ≠ "java/lang/invoke/VarHandle" ∧ (parseMethodDescriptor yX5_make.desc).map (fun d => d.parameters.length) = some 2 := by decide +kernel
theorem dX5_makeArray_0 : decode cX5_makeArray 0 = .ok (.aload_n 0, 1) := by decide +kernel
theorem dX5_makeArray_1 : decode cX5_makeArray 1 = .ok (.invokevirtual 166, 3) := by decide +kernel
theorem dX5_makeArray_4 : decode cX5_makeArray 4 = .ok (.ifCond .ne 4, 3) := by decide +kernel
theorem dX5_makeArray_8 : decode cX5_makeArray 8 = .ok (.iload_n 2, 1) := by decide +kernel
theorem dX5_makeArray_9 : decode cX5_makeArray 9 = .ok (.ifCond .ge 12, 3) := by decide +kernel
theorem dX5_makeArray_21 : decode cX5_makeArray 21 = .ok (.aload_n 0, 1) := by decide +kernel
theorem dX5_makeArray_22 : decode cX5_makeArray 22 = .ok (.iload_n 1, 1) := by decide +kernel
theorem dX5_makeArray_23 : decode cX5_makeArray 23 = .ok (.ldc2_w 278, 3) := by decide +kernel
theorem dX5_makeArray_26 : decode cX5_makeArray 26 = .ok (.iload_n 2, 1) := by decide +kernel
theorem dX5_makeArray_27 : decode cX5_makeArray 27 = .ok (.i2l, 1) := by decide +kernel
theorem dX5_makeArray_28 : decode cX5_makeArray 28 = .ok (.ladd, 1) := by decide +kernel
theorem dX5_makeArray_29 : decode cX5_makeArray 29 = .ok (.invokevirtual 275, 3) := by decide +kernel
theorem dX5_makeArray_32 : decode cX5_makeArray 32 = .ok (.return_, 1) := by decide +kernel
theorem dX5_makeArray_12 : decode cX5_makeArray 12 = .ok (.aload_n 0, 1) := by decide +kernel
theorem dX5_makeArray_13 : decode cX5_makeArray 13 = .ok (.bipush 6, 2) := by decide +kernel
theorem dX5_makeArray_15 : decode cX5_makeArray 15 = .ok (.invokevirtual 252, 3) := by decide +kernel
theorem dX5_makeArray_18 : decode cX5_makeArray 18 = .ok (.goto 14, 3) := by decide +kernel
theorem dX5_makeArray_7 : decode cX5_makeArray 7 = .ok (.return_, 1) := by decide +kernel
theorem dX5_begin_0 : decode cX5_begin 0 = .ok (.aload_n 0, 1) := by decide +kernel
theorem dX5_begin_1 : decode cX5_begin 1 = .ok (.getfield 93, 3) := by decide +kernel
theorem dX5_begin_4 : decode cX5_begin 4 = .ok (.bipush 100, 2) := by decide +kernel
theorem dX5_begin_6 : decode cX5_begin 6 = .ok (.if_icmp .lt 9, 3) := by decide +kernel
theorem dX5_begin_15 : decode cX5_begin 15 = .ok (.aload_n 1, 1) := by decide +kernel
theorem dX5_begin_16 : decode cX5_begin 16 = .ok (.ifnull 21, 3) := by decide +kernel
theorem dX5_begin_9 : decode cX5_begin 9 = .ok (.aload_n 0, 1) := by decide +kernel
theorem dX5_begin_10 : decode cX5_begin 10 = .ok (.iconst 4, 1) := by decide +kernel
theorem dX5_begin_11 : decode cX5_begin 11 = .ok (.putfield 116, 3) := by decide +kernel
theorem dX5_begin_14 : decode cX5_begin 14 = .ok (.return_, 1) := by decide +kernel
theorem dX5_begin_19 : decode cX5_begin 19 = .ok (.iload_n 2, 1) := by decide +kernel
theorem dX5_begin_20 : decode cX5_begin 20 = .ok (.ifCond .lt 17, 3) := by decide +kernel
theorem dX5_begin_23 : decode cX5_begin 23 = .ok (.iload_n 2, 1) := by decide +kernel
theorem dX5_begin_24 : decode cX5_begin 24 = .ok (.aload_n 1, 1) := by decide +kernel
theorem dX5_begin_25 : decode cX5_begin 25 = .ok (.getfield 295, 3) := by decide +kernel
theorem dX5_begin_28 : decode cX5_begin 28 = .ok (.iadd, 1) := by decide +kernel
theorem dX5_begin_29 : decode cX5_begin 29 = .ok (.aload_n 0, 1) := by decide +kernel
theorem dX5_begin_30 : decode cX5_begin 30 = .ok (.getfield 22, 3) := by decide +kernel
theorem dX5_begin_33 : decode cX5_begin 33 = .ok (.arraylength, 1) := by decide +kernel
theorem dX5_begin_34 : decode cX5_begin 34 = .ok (.if_icmp .le 8, 3) := by decide +kernel
theorem dX5_begin_42 : decode cX5_begin 42 = .ok (.aload_n 0, 1) := by decide +kernel
theorem dX5_begin_43 : decode cX5_begin 43 = .ok (.getfield 26, 3) := by decide +kernel
theorem dX5_begin_46 : decode cX5_begin 46 = .ok (.iconst 3, 1) := by decide +kernel
theorem dX5_begin_47 : decode cX5_begin 47 = .ok (.aload_n 0, 1) := by decide +kernel
theorem dX5_begin_48 : decode cX5_begin 48 = .ok (.getfield 93, 3) := by decide +kernel
theorem dX5_begin_51 : decode cX5_begin 51 = .ok (.imul, 1) := by decide +kernel
theorem dX5_begin_52 : decode cX5_begin 52 = .ok (.aload_n 0, 1) := by decide +kernel
theorem dX5_begin_53 : decode cX5_begin 53 = .ok (.getfield 106, 3) := by decide +kernel
theorem dX5_begin_56 : decode cX5_begin 56 = .ok (.iastore, 1) := by decide +kernel
theorem dX5_begin_57 : decode cX5_begin 57 = .ok (.aload_n 0, 1) := by decide +kernel
theorem dX5_begin_58 : decode cX5_begin 58 = .ok (.getfield 26, 3) := by decide +kernel
theorem dX5_begin_61 : decode cX5_begin 61 = .ok (.iconst 3, 1) := by decide +kernel
theorem dX5_begin_62 : decode cX5_begin 62 = .ok (.aload_n 0, 1) := by decide +kernel
theorem dX5_begin_63 : decode cX5_begin 63 = .ok (.getfield 93, 3) := by decide +kernel
theorem dX5_begin_66 : decode cX5_begin 66 = .ok (.imul, 1) := by decide +kernel
theorem dX5_begin_67 : decode cX5_begin 67 = .ok (.iconst 1, 1) := by decide +kernel
theorem dX5_begin_68 : decode cX5_begin 68 = .ok (.iadd, 1) := by decide +kernel
theorem dX5_begin_69 : decode cX5_begin 69 = .ok (.aload_n 0, 1) := by decide +kernel
theorem dX5_begin_70 : decode cX5_begin 70 = .ok (.getfield 100, 3) := by decide +kernel
theorem dX5_begin_73 : decode cX5_begin 73 = .ok (.iastore, 1) := by decide +kernel
theorem dX5_begin_74 : decode cX5_begin 74 = .ok (.aload_n 0, 1) := by decide +kernel
theorem dX5_begin_75 : decode cX5_begin 75 = .ok (.getfield 26, 3) := by decide +kernel
theorem dX5_begin_78 : decode cX5_begin 78 = .ok (.iconst 3, 1) := by decide +kernel
theorem dX5_begin_79 : decode cX5_begin 79 = .ok (.aload_n 0, 1) := by decide +kernel
theorem dX5_begin_80 : decode cX5_begin 80 = .ok (.getfield 93, 3) := by decide +kernel
theorem dX5_begin_83 : decode cX5_begin 83 = .ok (.imul, 1) := by decide +kernel
theorem dX5_begin_84 : decode cX5_begin 84 = .ok (.iconst 2, 1) := by decide +kernel
theorem dX5_begin_85 : decode cX5_begin 85 = .ok (.iadd, 1) := by decide +kernel
theorem dX5_begin_86 : decode cX5_begin 86 = .ok (.aload_n 0, 1) := by decide +kernel
theorem dX5_begin_87 : decode cX5_begin 87 = .ok (.getfield 96, 3) := by decide +kernel
theorem dX5_begin_90 : decode cX5_begin 90 = .ok (.ifnonnull 7, 3) := by decide +kernel
theorem dX5_begin_93 : decode cX5_begin 93 = .ok (.iconst (-1), 1) := by decide +kernel
theorem dX5_begin_94 : decode cX5_begin 94 = .ok (.goto 10, 3) := by decide +kernel
theorem dX5_begin_104 : decode cX5_begin 104 = .ok (.iastore, 1) := by decide +kernel
theorem dX5_begin_105 : decode cX5_begin 105 = .ok (.aload_n 0, 1) := by decide +kernel
theorem dX5_begin_106 : decode cX5_begin 106 = .ok (.dup, 1) := by decide +kernel
theorem dX5_begin_107 : decode cX5_begin 107 = .ok (.getfield 93, 3) := by decide +kernel
theorem dX5_begin_110 : decode cX5_begin 110 = .ok (.iconst 1, 1) := by decide +kernel
theorem dX5_begin_111 : decode cX5_begin 111 = .ok (.iadd, 1) := by decide +kernel
theorem dX5_begin_112 : decode cX5_begin 112 = .ok (.putfield 93, 3) := by decide +kernel
theorem dX5_begin_115 : decode cX5_begin 115 = .ok (.aload_n 0, 1) := by decide +kernel
theorem dX5_begin_116 : decode cX5_begin 116 = .ok (.getfield 36, 3) := by decide +kernel
theorem dX5_begin_119 : decode cX5_begin 119 = .ok (.bipush 10, 2) := by decide +kernel
theorem dX5_begin_121 : decode cX5_begin 121 = .ok (.dup2, 1) := by decide +kernel
theorem dX5_begin_122 : decode cX5_begin 122 = .ok (.iaload, 1) := by decide +kernel
theorem dX5_begin_123 : decode cX5_begin 123 = .ok (.iconst 1, 1) := by decide +kernel
theorem dX5_begin_124 : decode cX5_begin 124 = .ok (.iadd, 1) := by decide +kernel
theorem dX5_begin_125 : decode cX5_begin 125 = .ok (.iastore, 1) := by decide +kernel
theorem dX5_begin_126 : decode cX5_begin 126 = .ok (.aload_n 0, 1) := by decide +kernel
theorem dX5_begin_127 : decode cX5_begin 127 = .ok (.getfield 36, 3) := by decide +kernel
theorem dX5_begin_130 : decode cX5_begin 130 = .ok (.bipush 11, 2) := by decide +kernel
theorem dX5_begin_132 : decode cX5_begin 132 = .ok (.aload_n 0, 1) := by decide +kernel
theorem dX5_begin_133 : decode cX5_begin 133 = .ok (.getfield 36, 3) := by decide +kernel
theorem dX5_begin_136 : decode cX5_begin 136 = .ok (.bipush 11, 2) := by decide +kernel
theorem dX5_begin_138 : decode cX5_begin 138 = .ok (.iaload, 1) := by decide +kernel
theorem dX5_begin_139 : decode cX5_begin 139 = .ok (.aload_n 0, 1) := by decide +kernel
theorem dX5_begin_140 : decode cX5_begin 140 = .ok (.getfield 93, 3) := by decide +kernel
theorem dX5_begin_143 : decode cX5_begin 143 = .ok (.invokestatic 300, 3) := by decide +kernel
theorem dX5_begin_146 : decode cX5_begin 146 = .ok (.iastore, 1) := by decide +kernel
theorem dX5_begin_147 : decode cX5_begin 147 = .ok (.aload_n 0, 1) := by decide +kernel
theorem dX5_begin_148 : decode cX5_begin 148 = .ok (.aload_n 1, 1) := by decide +kernel
theorem dX5_begin_149 : decode cX5_begin 149 = .ok (.putfield 96, 3) := by decide +kernel
theorem dX5_begin_152 : decode cX5_begin 152 = .ok (.aload_n 0, 1) := by decide +kernel
theorem dX5_begin_153 : decode cX5_begin 153 = .ok (.iload_n 2, 1) := by decide +kernel
theorem dX5_begin_154 : decode cX5_begin 154 = .ok (.putfield 100, 3) := by decide +kernel
theorem dX5_begin_157 : decode cX5_begin 157 = .ok (.aload_n 0, 1) := by decide +kernel
theorem dX5_begin_158 : decode cX5_begin 158 = .ok (.aload_n 0, 1) := by decide +kernel
theorem dX5_begin_159 : decode cX5_begin 159 = .ok (.getfield 100, 3) := by decide +kernel
theorem dX5_begin_162 : decode cX5_begin 162 = .ok (.aload_n 1, 1) := by decide +kernel
theorem dX5_begin_163 : decode cX5_begin 163 = .ok (.getfield 295, 3) := by decide +kernel
theorem dX5_begin_166 : decode cX5_begin 166 = .ok (.iadd, 1) := by decide +kernel
theorem dX5_begin_167 : decode cX5_begin 167 = .ok (.putfield 103, 3) := by decide +kernel
theorem dX5_begin_170 : decode cX5_begin 170 = .ok (.aload_n 0, 1) := by decide +kernel
theorem dX5_begin_171 : decode cX5_begin 171 = .ok (.aload_n 1, 1) := by decide +kernel
theorem dX5_begin_172 : decode cX5_begin 172 = .ok (.getfield 324, 3) := by decide +kernel
theorem dX5_begin_175 : decode cX5_begin 175 = .ok (.putfield 132, 3) := by decide +kernel
theorem dX5_begin_178 : decode cX5_begin 178 = .ok (.return_, 1) := by decide +kernel
theorem dX5_begin_97 : decode cX5_begin 97 = .ok (.aload_n 0, 1) := by decide +kernel
theorem dX5_begin_98 : decode cX5_begin 98 = .ok (.getfield 96, 3) := by decide +kernel
theorem dX5_begin_101 : decode cX5_begin 101 = .ok (.getfield 323, 3) := by decide +kernel
theorem dX5_close_0 : decode cX5_close 0 = .ok (.aload_n 0, 1) := by decide +kernel
theorem dX5_close_1 : decode cX5_close 1 = .ok (.dup, 1) := by decide +kernel
theorem dX5_close_2 : decode cX5_close 2 = .ok (.getfield 93, 3) := by decide +kernel
theorem dX5_close_5 : decode cX5_close 5 = .ok (.iconst 1, 1) := by decide +kernel
theorem dX5_close_6 : decode cX5_close 6 = .ok (.isub, 1) := by decide +kernel
theorem dX5_close_7 : decode cX5_close 7 = .ok (.putfield 93, 3) := by decide +kernel
theorem dX5_close_10 : decode cX5_close 10 = .ok (.aload_n 0, 1) := by decide +kernel
theorem dX5_close_11 : decode cX5_close 11 = .ok (.aload_n 0, 1) := by decide +kernel
theorem dX5_close_12 : decode cX5_close 12 = .ok (.getfield 100, 3) := by decide +kernel
theorem dX5_close_15 : decode cX5_close 15 = .ok (.putfield 103, 3) := by decide +kernel
theorem dX5_close_18 : decode cX5_close 18 = .ok (.aload_n 0, 1) := by decide +kernel
theorem dX5_close_19 : decode cX5_close 19 = .ok (.getfield 93, 3) := by decide +kernel
theorem dX5_close_22 : decode cX5_close 22 = .ok (.ifCond .lt 68, 3) := by decide +kernel
theorem dX5_close_90 : decode cX5_close 90 = .ok (.return_, 1) := by decide +kernel
theorem dX5_close_25 : decode cX5_close 25 = .ok (.aload_n 0, 1) := by decide +kernel
theorem dX5_close_26 : decode cX5_close 26 = .ok (.getfield 93, 3) := by decide +kernel
theorem dX5_close_29 : decode cX5_close 29 = .ok (.bipush 100, 2) := by decide +kernel
theorem dX5_close_31 : decode cX5_close 31 = .ok (.if_icmp .ge 59, 3) := by decide +kernel
theorem dX5_close_34 : decode cX5_close 34 = .ok (.aload_n 0, 1) := by decide +kernel
theorem dX5_close_35 : decode cX5_close 35 = .ok (.aload_n 0, 1) := by decide +kernel
theorem dX5_close_36 : decode cX5_close 36 = .ok (.getfield 26, 3) := by decide +kernel
theorem dX5_close_39 : decode cX5_close 39 = .ok (.iconst 3, 1) := by decide +kernel
theorem dX5_close_40 : decode cX5_close 40 = .ok (.aload_n 0, 1) := by decide +kernel
theorem dX5_close_41 : decode cX5_close 41 = .ok (.getfield 93, 3) := by decide +kernel
theorem dX5_close_44 : decode cX5_close 44 = .ok (.imul, 1) := by decide +kernel
theorem dX5_close_45 : decode cX5_close 45 = .ok (.iaload, 1) := by decide +kernel
theorem dX5_close_46 : decode cX5_close 46 = .ok (.putfield 106, 3) := by decide +kernel
theorem dX5_close_49 : decode cX5_close 49 = .ok (.aload_n 0, 1) := by decide +kernel
theorem dX5_close_50 : decode cX5_close 50 = .ok (.aload_n 0, 1) := by decide +kernel
theorem dX5_close_51 : decode cX5_close 51 = .ok (.getfield 26, 3) := by decide +kernel
theorem dX5_close_54 : decode cX5_close 54 = .ok (.iconst 3, 1) := by decide +kernel
theorem dX5_close_55 : decode cX5_close 55 = .ok (.aload_n 0, 1) := by decide +kernel
theorem dX5_close_56 : decode cX5_close 56 = .ok (.getfield 93, 3) := by decide +kernel
theorem dX5_close_59 : decode cX5_close 59 = .ok (.imul, 1) := by decide +kernel
theorem dX5_close_60 : decode cX5_close 60 = .ok (.iconst 1, 1) := by decide +kernel
theorem dX5_close_61 : decode cX5_close 61 = .ok (.iadd, 1) := by decide +kernel
theorem dX5_close_62 : decode cX5_close 62 = .ok (.iaload, 1) := by decide +kernel
theorem dX5_close_63 : decode cX5_close 63 = .ok (.putfield 100, 3) := by decide +kernel
theorem dX5_close_66 : decode cX5_close 66 = .ok (.aload_n 0, 1) := by decide +kernel
theorem dX5_close_67 : decode cX5_close 67 = .ok (.aload_n 0, 1) := by decide +kernel
theorem dX5_close_68 : decode cX5_close 68 = .ok (.getfield 47, 3) := by decide +kernel
theorem dX5_close_71 : decode cX5_close 71 = .ok (.aload_n 0, 1) := by decide +kernel
theorem dX5_close_72 : decode cX5_close 72 = .ok (.getfield 26, 3) := by decide +kernel
theorem dX5_close_75 : decode cX5_close 75 = .ok (.iconst 3, 1) := by decide +kernel
theorem dX5_close_76 : decode cX5_close 76 = .ok (.aload_n 0, 1) := by decide +kernel
theorem dX5_close_77 : decode cX5_close 77 = .ok (.getfield 93, 3) := by decide +kernel
theorem dX5_close_80 : decode cX5_close 80 = .ok (.imul, 1) := by decide +kernel
theorem dX5_close_81 : decode cX5_close 81 = .ok (.iconst 2, 1) := by decide +kernel
theorem dX5_close_82 : decode cX5_close 82 = .ok (.iadd, 1) := by decide +kernel
theorem dX5_close_83 : decode cX5_close 83 = .ok (.iaload, 1) := by decide +kernel
theorem dX5_close_84 : decode cX5_close 84 = .ok (.invokevirtual 310, 3) := by decide +kernel
theorem dX5_close_87 : decode cX5_close 87 = .ok (.putfield 96, 3) := by decide +kernel
theorem dX5_land_0 : decode cX5_land 0 = .ok (.aload_n 0, 1) := by decide +kernel
theorem dX5_land_1 : decode cX5_land 1 = .ok (.aload_n 0, 1) := by decide +kernel
theorem dX5_land_2 : decode cX5_land 2 = .ok (.getfield 100, 3) := by decide +kernel
theorem dX5_land_5 : decode cX5_land 5 = .ok (.aload_n 0, 1) := by decide +kernel
theorem dX5_land_6 : decode cX5_land 6 = .ok (.getfield 96, 3) := by decide +kernel
theorem dX5_land_9 : decode cX5_land 9 = .ok (.getfield 295, 3) := by decide +kernel
theorem dX5_land_12 : decode cX5_land 12 = .ok (.iadd, 1) := by decide +kernel
theorem dX5_land_13 : decode cX5_land 13 = .ok (.putfield 103, 3) := by decide +kernel
theorem dX5_land_16 : decode cX5_land 16 = .ok (.aload_n 0, 1) := by decide +kernel
theorem dX5_land_17 : decode cX5_land 17 = .ok (.aload_n 0, 1) := by decide +kernel
theorem dX5_land_18 : decode cX5_land 18 = .ok (.getfield 11, 3) := by decide +kernel
theorem dX5_land_21 : decode cX5_land 21 = .ok (.iload_n 1, 1) := by decide +kernel
theorem dX5_land_22 : decode cX5_land 22 = .ok (.invokevirtual 350, 3) := by decide +kernel
theorem dX5_land_25 : decode cX5_land 25 = .ok (.putfield 132, 3) := by decide +kernel
theorem dX5_land_28 : decode cX5_land 28 = .ok (.aload_n 0, 1) := by decide +kernel
theorem dX5_land_29 : decode cX5_land 29 = .ok (.getfield 11, 3) := by decide +kernel
theorem dX5_land_32 : decode cX5_land 32 = .ok (.iload_n 1, 1) := by decide +kernel
theorem dX5_land_33 : decode cX5_land 33 = .ok (.invokevirtual 353, 3) := by decide +kernel
theorem dX5_land_36 : decode cX5_land 36 = .ok (.istore 5, 2) := by decide +kernel
theorem dX5_land_38 : decode cX5_land 38 = .ok (.aload_n 0, 1) := by decide +kernel
theorem dX5_land_39 : decode cX5_land 39 = .ok (.getfield 11, 3) := by decide +kernel
theorem dX5_land_42 : decode cX5_land 42 = .ok (.iload_n 1, 1) := by decide +kernel
theorem dX5_land_43 : decode cX5_land 43 = .ok (.invokevirtual 344, 3) := by decide +kernel
theorem dX5_land_46 : decode cX5_land 46 = .ok (.iconst (-1), 1) := by decide +kernel
theorem dX5_land_47 : decode cX5_land 47 = .ok (.if_icmp .ne 27, 3) := by decide +kernel
theorem dX5_land_74 : decode cX5_land 74 = .ok (.aload_n 0, 1) := by decide +kernel
theorem dX5_land_75 : decode cX5_land 75 = .ok (.iload 5, 2) := by decide +kernel
theorem dX5_land_77 : decode cX5_land 77 = .ok (.lload_n 3, 1) := by decide +kernel
theorem dX5_land_78 : decode cX5_land 78 = .ok (.invokevirtual 184, 3) := by decide +kernel
theorem dX5_land_81 : decode cX5_land 81 = .ok (.return_, 1) := by decide +kernel
theorem dX5_land_50 : decode cX5_land 50 = .ok (.aload_n 0, 1) := by decide +kernel
theorem dX5_land_51 : decode cX5_land 51 = .ok (.iload 5, 2) := by decide +kernel
theorem dX5_land_53 : decode cX5_land 53 = .ok (.iload_n 2, 1) := by decide +kernel
theorem dX5_land_54 : decode cX5_land 54 = .ok (.i2l, 1) := by decide +kernel
theorem dX5_land_55 : decode cX5_land 55 = .ok (.ldc2_w 170, 3) := by decide +kernel
theorem dX5_land_58 : decode cX5_land 58 = .ok (.land, 1) := by decide +kernel
theorem dX5_land_59 : decode cX5_land 59 = .ok (.invokevirtual 184, 3) := by decide +kernel
theorem dX5_land_62 : decode cX5_land 62 = .ok (.aload_n 0, 1) := by decide +kernel
theorem dX5_land_63 : decode cX5_land 63 = .ok (.iload 5, 2) := by decide +kernel
theorem dX5_land_65 : decode cX5_land 65 = .ok (.iconst 1, 1) := by decide +kernel
theorem dX5_land_66 : decode cX5_land 66 = .ok (.iadd, 1) := by decide +kernel
theorem dX5_land_67 : decode cX5_land 67 = .ok (.lload_n 3, 1) := by decide +kernel
theorem dX5_land_68 : decode cX5_land 68 = .ok (.invokevirtual 184, 3) := by decide +kernel
theorem dX5_land_71 : decode cX5_land 71 = .ok (.goto 10, 3) := by decide +kernel
theorem hV_X1_handler : yX1_handler.cls = RX1 ∧ yX1_handler.cls ≠ "java/lang/invoke/MethodHandle" ∧ yX1_handler.cls ≠ "java/lang/invoke/VarHandle" ∧ (parseMethodDescriptor yX1_handler.desc).map (fun d => d.parameters.length) = some 1 := by decide +kernel
theorem hV_X1_slot : yX1_slot.cls = RX1 ∧ yX1_slot.cls ≠ "java/lang/invoke/MethodHandle" ∧ yX1_slot.cls ≠ "java/lang/invoke/VarHandle" ∧ (parseMethodDescriptor yX1_slot.desc).map (fun d => d.parameters.length) = some 1 := by decide +kernel
theorem hV_X1_caught : yX1_caught.cls = RX1 ∧ yX1_caught.cls ≠ "java/lang/invoke/MethodHandle" ∧ yX1_caught.cls ≠ "java/lang/invoke/VarHandle" ∧ (parseMethodDescriptor yX1_caught.desc).map (fun d => d.parameters.length) = some 1 := by decide +kernel
theorem dX5_handlerOf_0 : decode cX5_handlerOf 0 = .ok (.aload_n 0, 1) := by decide +kernel
theorem dX5_handlerOf_1 : decode cX5_handlerOf 1 = .ok (.getfield 96, 3) := by decide +kernel
theorem dX5_handlerOf_4 : decode cX5_handlerOf 4 = .ok (.getfield 338, 3) := by decide +kernel
theorem dX5_handlerOf_7 : decode cX5_handlerOf 7 = .ok (.istore_n 2, 1) := by decide +kernel
theorem dX5_handlerOf_8 : decode cX5_handlerOf 8 = .ok (.iload_n 2, 1) := by decide +kernel
theorem dX5_handlerOf_9 : decode cX5_handlerOf 9 = .ok (.aload_n 0, 1) := by decide +kernel
theorem dX5_handlerOf_10 : decode cX5_handlerOf 10 = .ok (.getfield 96, 3) := by decide +kernel
theorem dX5_handlerOf_13 : decode cX5_handlerOf 13 = .ok (.getfield 341, 3) := by decide +kernel
theorem dX5_handlerOf_16 : decode cX5_handlerOf 16 = .ok (.if_icmp .ge 52, 3) := by decide +kernel
theorem dX5_handlerOf_68 : decode cX5_handlerOf 68 = .ok (.iconst (-1), 1) := by decide +kernel
theorem dX5_handlerOf_69 : decode cX5_handlerOf 69 = .ok (.ireturn, 1) := by decide +kernel
theorem dX5_handlerOf_19 : decode cX5_handlerOf 19 = .ok (.aload_n 0, 1) := by decide +kernel
theorem dX5_handlerOf_20 : decode cX5_handlerOf 20 = .ok (.getfield 11, 3) := by decide +kernel
theorem dX5_handlerOf_23 : decode cX5_handlerOf 23 = .ok (.iload_n 2, 1) := by decide +kernel
theorem dX5_handlerOf_24 : decode cX5_handlerOf 24 = .ok (.invokevirtual 344, 3) := by decide +kernel
theorem dX5_handlerOf_27 : decode cX5_handlerOf 27 = .ok (.istore_n 3, 1) := by decide +kernel
theorem dX5_handlerOf_28 : decode cX5_handlerOf 28 = .ok (.aload_n 0, 1) := by decide +kernel
theorem dX5_handlerOf_29 : decode cX5_handlerOf 29 = .ok (.getfield 11, 3) := by decide +kernel
theorem dX5_handlerOf_32 : decode cX5_handlerOf 32 = .ok (.iload_n 2, 1) := by decide +kernel
theorem dX5_handlerOf_33 : decode cX5_handlerOf 33 = .ok (.aload_n 0, 1) := by decide +kernel
theorem dX5_handlerOf_34 : decode cX5_handlerOf 34 = .ok (.getfield 106, 3) := by decide +kernel
theorem dX5_handlerOf_37 : decode cX5_handlerOf 37 = .ok (.invokevirtual 347, 3) := by decide +kernel
theorem dX5_handlerOf_40 : decode cX5_handlerOf 40 = .ok (.ifCond .eq 22, 3) := by decide +kernel
theorem dX5_handlerOf_62 : decode cX5_handlerOf 62 = .ok (.iinc 2 1, 3) := by decide +kernel
theorem dX5_handlerOf_65 : decode cX5_handlerOf 65 = .ok (.goto (-57), 3) := by decide +kernel
theorem dX5_handlerOf_43 : decode cX5_handlerOf 43 = .ok (.iload_n 3, 1) := by decide +kernel
theorem dX5_handlerOf_44 : decode cX5_handlerOf 44 = .ok (.iconst (-1), 1) := by decide +kernel
theorem dX5_handlerOf_45 : decode cX5_handlerOf 45 = .ok (.if_icmp .eq 15, 3) := by decide +kernel
theorem dX5_handlerOf_60 : decode cX5_handlerOf 60 = .ok (.iload_n 2, 1) := by decide +kernel
theorem dX5_handlerOf_61 : decode cX5_handlerOf 61 = .ok (.ireturn, 1) := by decide +kernel
theorem dX5_handlerOf_48 : decode cX5_handlerOf 48 = .ok (.aload_n 0, 1) := by decide +kernel
theorem dX5_handlerOf_49 : decode cX5_handlerOf 49 = .ok (.getfield 47, 3) := by decide +kernel
theorem dX5_handlerOf_52 : decode cX5_handlerOf 52 = .ok (.iload_n 1, 1) := by decide +kernel
theorem dX5_handlerOf_53 : decode cX5_handlerOf 53 = .ok (.iload_n 3, 1) := by decide +kernel
theorem dX5_handlerOf_54 : decode cX5_handlerOf 54 = .ok (.invokevirtual 257, 3) := by decide +kernel
theorem dX5_handlerOf_57 : decode cX5_handlerOf 57 = .ok (.ifCond .eq 5, 3) := by decide +kernel
theorem hV_X1_isWithin : yX1_isWithin.cls = RX1 ∧ yX1_isWithin.cls ≠ "java/lang/invoke/MethodHandle" ∧ yX1_isWithin.cls ≠ "java/lang/invoke/VarHandle" ∧ (parseMethodDescriptor yX1_isWithin.desc).map (fun d => d.parameters.length) = some 2 := by decide +kernel
theorem nn_le {x : Int32} (h : 0 ≤ x) : ¬ x < 0 := fun q => by
  rw [Int32.le_iff_toInt_le] at h
  rw [Int32.lt_iff_toInt_lt] at q
  omega
theorem dX5_giveBack_0 : decode cX5_giveBack 0 = .ok (.aload_n 0, 1) := by decide +kernel
theorem dX5_giveBack_1 : decode cX5_giveBack 1 = .ok (.getfield 96, 3) := by decide +kernel
theorem dX5_giveBack_4 : decode cX5_giveBack 4 = .ok (.ifnull 19, 3) := by decide +kernel
theorem dX5_giveBack_23 : decode cX5_giveBack 23 = .ok (.iconst 0, 1) := by decide +kernel
theorem dX5_giveBack_24 : decode cX5_giveBack 24 = .ok (.istore_n 3, 1) := by decide +kernel
theorem dX5_giveBack_25 : decode cX5_giveBack 25 = .ok (.aload_n 0, 1) := by decide +kernel
theorem dX5_giveBack_26 : decode cX5_giveBack 26 = .ok (.getfield 93, 3) := by decide +kernel
theorem dX5_giveBack_29 : decode cX5_giveBack 29 = .ok (.iconst 1, 1) := by decide +kernel
theorem dX5_giveBack_30 : decode cX5_giveBack 30 = .ok (.if_icmp .gt 15, 3) := by decide +kernel
theorem dX5_giveBack_45 : decode cX5_giveBack 45 = .ok (.aload_n 0, 1) := by decide +kernel
theorem dX5_giveBack_46 : decode cX5_giveBack 46 = .ok (.invokevirtual 328, 3) := by decide +kernel
theorem dX5_giveBack_49 : decode cX5_giveBack 49 = .ok (.aload_n 0, 1) := by decide +kernel
theorem dX5_giveBack_50 : decode cX5_giveBack 50 = .ok (.aload_n 0, 1) := by decide +kernel
theorem dX5_giveBack_51 : decode cX5_giveBack 51 = .ok (.getfield 106, 3) := by decide +kernel
theorem dX5_giveBack_54 : decode cX5_giveBack 54 = .ok (.iconst 1, 1) := by decide +kernel
theorem dX5_giveBack_55 : decode cX5_giveBack 55 = .ok (.iadd, 1) := by decide +kernel
theorem dX5_giveBack_56 : decode cX5_giveBack 56 = .ok (.putfield 132, 3) := by decide +kernel
theorem dX5_giveBack_59 : decode cX5_giveBack 59 = .ok (.iload_n 3, 1) := by decide +kernel
theorem dX5_giveBack_60 : decode cX5_giveBack 60 = .ok (.ifCond .eq 8, 3) := by decide +kernel
theorem dX5_giveBack_68 : decode cX5_giveBack 68 = .ok (.return_, 1) := by decide +kernel
theorem dX5_giveBack_33 : decode cX5_giveBack 33 = .ok (.aload_n 0, 1) := by decide +kernel
theorem dX5_giveBack_34 : decode cX5_giveBack 34 = .ok (.lload_n 1, 1) := by decide +kernel
theorem dX5_giveBack_35 : decode cX5_giveBack 35 = .ok (.l2i, 1) := by decide +kernel
theorem dX5_giveBack_36 : decode cX5_giveBack 36 = .ok (.putfield 90, 3) := by decide +kernel
theorem dX5_giveBack_39 : decode cX5_giveBack 39 = .ok (.aload_n 0, 1) := by decide +kernel
theorem dX5_giveBack_40 : decode cX5_giveBack 40 = .ok (.iconst 0, 1) := by decide +kernel
theorem dX5_giveBack_41 : decode cX5_giveBack 41 = .ok (.putfield 116, 3) := by decide +kernel
theorem dX5_giveBack_44 : decode cX5_giveBack 44 = .ok (.return_, 1) := by decide +kernel
theorem dX5_giveBack_7 : decode cX5_giveBack 7 = .ok (.aload_n 0, 1) := by decide +kernel
theorem dX5_giveBack_8 : decode cX5_giveBack 8 = .ok (.getfield 96, 3) := by decide +kernel
theorem dX5_giveBack_11 : decode cX5_giveBack 11 = .ok (.getfield 327, 3) := by decide +kernel
theorem dX5_giveBack_14 : decode cX5_giveBack 14 = .ok (.bipush 63, 2) := by decide +kernel
theorem dX5_giveBack_16 : decode cX5_giveBack 16 = .ok (.if_icmp .eq 7, 3) := by decide +kernel
theorem dX5_giveBack_19 : decode cX5_giveBack 19 = .ok (.iconst 1, 1) := by decide +kernel
theorem dX5_giveBack_20 : decode cX5_giveBack 20 = .ok (.goto 4, 3) := by decide +kernel
theorem dX5_giveBack_63 : decode cX5_giveBack 63 = .ok (.aload_n 0, 1) := by decide +kernel
theorem dX5_giveBack_64 : decode cX5_giveBack 64 = .ok (.lload_n 1, 1) := by decide +kernel
theorem dX5_giveBack_65 : decode cX5_giveBack 65 = .ok (.invokevirtual 172, 3) := by decide +kernel
theorem hV_X5_close : yX5_close.cls = RX5 ∧ yX5_close.cls ≠ "java/lang/invoke/MethodHandle" ∧ yX5_close.cls ≠ "java/lang/invoke/VarHandle" ∧ (parseMethodDescriptor yX5_close.desc).map (fun d => d.parameters.length) = some 0 := by decide +kernel
theorem dX5_leave_0 : decode cX5_leave 0 = .ok (.aload_n 0, 1) := by decide +kernel
theorem dX5_leave_1 : decode cX5_leave 1 = .ok (.getfield 96, 3) := by decide +kernel
theorem dX5_leave_4 : decode cX5_leave 4 = .ok (.ifnonnull 8, 3) := by decide +kernel
theorem dX5_leave_12 : decode cX5_leave 12 = .ok (.aload_n 0, 1) := by decide +kernel
theorem dX5_leave_13 : decode cX5_leave 13 = .ok (.getfield 96, 3) := by decide +kernel
theorem dX5_leave_16 : decode cX5_leave 16 = .ok (.getfield 338, 3) := by decide +kernel
theorem dX5_leave_19 : decode cX5_leave 19 = .ok (.istore 4, 2) := by decide +kernel
theorem dX5_leave_21 : decode cX5_leave 21 = .ok (.iload 4, 2) := by decide +kernel
theorem dX5_leave_23 : decode cX5_leave 23 = .ok (.aload_n 0, 1) := by decide +kernel
theorem dX5_leave_24 : decode cX5_leave 24 = .ok (.getfield 96, 3) := by decide +kernel
theorem dX5_leave_27 : decode cX5_leave 27 = .ok (.getfield 341, 3) := by decide +kernel
theorem dX5_leave_30 : decode cX5_leave 30 = .ok (.if_icmp .ge 76, 3) := by decide +kernel
theorem dX5_leave_106 : decode cX5_leave 106 = .ok (.iload_n 1, 1) := by decide +kernel
theorem dX5_leave_107 : decode cX5_leave 107 = .ok (.ifCond .lt 11, 3) := by decide +kernel
theorem dX5_leave_118 : decode cX5_leave 118 = .ok (.aload_n 0, 1) := by decide +kernel
theorem dX5_leave_119 : decode cX5_leave 119 = .ok (.lload_n 2, 1) := by decide +kernel
theorem dX5_leave_120 : decode cX5_leave 120 = .ok (.invokevirtual 356, 3) := by decide +kernel
theorem dX5_leave_123 : decode cX5_leave 123 = .ok (.return_, 1) := by decide +kernel
theorem dX5_leave_110 : decode cX5_leave 110 = .ok (.aload_n 0, 1) := by decide +kernel
theorem dX5_leave_111 : decode cX5_leave 111 = .ok (.iload_n 1, 1) := by decide +kernel
theorem dX5_leave_112 : decode cX5_leave 112 = .ok (.putfield 132, 3) := by decide +kernel
theorem dX5_leave_115 : decode cX5_leave 115 = .ok (.goto 8, 3) := by decide +kernel
theorem dX5_leave_33 : decode cX5_leave 33 = .ok (.aload_n 0, 1) := by decide +kernel
theorem dX5_leave_34 : decode cX5_leave 34 = .ok (.getfield 11, 3) := by decide +kernel
theorem dX5_leave_37 : decode cX5_leave 37 = .ok (.iload 4, 2) := by decide +kernel
theorem dX5_leave_39 : decode cX5_leave 39 = .ok (.aload_n 0, 1) := by decide +kernel
theorem dX5_leave_40 : decode cX5_leave 40 = .ok (.getfield 106, 3) := by decide +kernel
theorem dX5_leave_43 : decode cX5_leave 43 = .ok (.invokevirtual 347, 3) := by decide +kernel
theorem dX5_leave_46 : decode cX5_leave 46 = .ok (.ifCond .eq 24, 3) := by decide +kernel
theorem dX5_leave_70 : decode cX5_leave 70 = .ok (.iconst 0, 1) := by decide +kernel
theorem dX5_leave_71 : decode cX5_leave 71 = .ok (.istore 5, 2) := by decide +kernel
theorem dX5_leave_73 : decode cX5_leave 73 = .ok (.iload 5, 2) := by decide +kernel
theorem dX5_leave_75 : decode cX5_leave 75 = .ok (.ifCond .eq 25, 3) := by decide +kernel
theorem dX5_leave_100 : decode cX5_leave 100 = .ok (.iinc 4 1, 3) := by decide +kernel
theorem dX5_leave_103 : decode cX5_leave 103 = .ok (.goto (-82), 3) := by decide +kernel
theorem dX5_leave_49 : decode cX5_leave 49 = .ok (.iload_n 1, 1) := by decide +kernel
theorem dX5_leave_50 : decode cX5_leave 50 = .ok (.ifCond .lt 16, 3) := by decide +kernel
theorem dX5_leave_66 : decode cX5_leave 66 = .ok (.iconst 1, 1) := by decide +kernel
theorem dX5_leave_67 : decode cX5_leave 67 = .ok (.goto 4, 3) := by decide +kernel
theorem dX5_leave_78 : decode cX5_leave 78 = .ok (.aload_n 0, 1) := by decide +kernel
theorem dX5_leave_79 : decode cX5_leave 79 = .ok (.getfield 11, 3) := by decide +kernel
theorem dX5_leave_82 : decode cX5_leave 82 = .ok (.iload 4, 2) := by decide +kernel
theorem dX5_leave_84 : decode cX5_leave 84 = .ok (.invokevirtual 344, 3) := by decide +kernel
theorem dX5_leave_87 : decode cX5_leave 87 = .ok (.iconst (-1), 1) := by decide +kernel
theorem dX5_leave_88 : decode cX5_leave 88 = .ok (.if_icmp .ne 12, 3) := by decide +kernel
theorem dX5_leave_91 : decode cX5_leave 91 = .ok (.aload_n 0, 1) := by decide +kernel
theorem dX5_leave_92 : decode cX5_leave 92 = .ok (.iload 4, 2) := by decide +kernel
theorem dX5_leave_94 : decode cX5_leave 94 = .ok (.iload_n 1, 1) := by decide +kernel
theorem dX5_leave_95 : decode cX5_leave 95 = .ok (.lload_n 2, 1) := by decide +kernel
theorem dX5_leave_96 : decode cX5_leave 96 = .ok (.invokevirtual 334, 3) := by decide +kernel
theorem dX5_leave_99 : decode cX5_leave 99 = .ok (.return_, 1) := by decide +kernel
theorem dX5_leave_53 : decode cX5_leave 53 = .ok (.aload_n 0, 1) := by decide +kernel
theorem dX5_leave_54 : decode cX5_leave 54 = .ok (.getfield 11, 3) := by decide +kernel
theorem dX5_leave_57 : decode cX5_leave 57 = .ok (.iload 4, 2) := by decide +kernel
theorem dX5_leave_59 : decode cX5_leave 59 = .ok (.iload_n 1, 1) := by decide +kernel
theorem dX5_leave_60 : decode cX5_leave 60 = .ok (.invokevirtual 347, 3) := by decide +kernel
theorem dX5_leave_63 : decode cX5_leave 63 = .ok (.ifCond .ne 7, 3) := by decide +kernel
theorem hV_X5_giveBack : yX5_giveBack.cls = RX5 ∧ yX5_giveBack.cls ≠ "java/lang/invoke/MethodHandle" ∧ yX5_giveBack.cls ≠ "java/lang/invoke/VarHandle" ∧ (parseMethodDescriptor yX5_giveBack.desc).map (fun d => d.parameters.length) = some 1 := by decide +kernel
theorem hV_X5_land : yX5_land.cls = RX5 ∧ yX5_land.cls ≠ "java/lang/invoke/MethodHandle" ∧ yX5_land.cls ≠ "java/lang/invoke/VarHandle" ∧ (parseMethodDescriptor yX5_land.desc).map (fun d => d.parameters.length) = some 3 := by decide +kernel
theorem dX5_goOn_0 : decode cX5_goOn 0 = .ok (.iload_n 1, 1) := by decide +kernel
theorem dX5_goOn_1 : decode cX5_goOn 1 = .ok (.bipush (-2), 2) := by decide +kernel
theorem dX5_goOn_3 : decode cX5_goOn 3 = .ok (.if_icmp .ne 11, 3) := by decide +kernel
theorem dX5_goOn_14 : decode cX5_goOn 14 = .ok (.iload_n 1, 1) := by decide +kernel
theorem dX5_goOn_15 : decode cX5_goOn 15 = .ok (.iconst (-1), 1) := by decide +kernel
theorem dX5_goOn_16 : decode cX5_goOn 16 = .ok (.if_icmp .eq 9, 3) := by decide +kernel
theorem dX5_goOn_25 : decode cX5_goOn 25 = .ok (.return_, 1) := by decide +kernel
theorem dX5_goOn_19 : decode cX5_goOn 19 = .ok (.aload_n 0, 1) := by decide +kernel
theorem dX5_goOn_20 : decode cX5_goOn 20 = .ok (.iload_n 1, 1) := by decide +kernel
theorem dX5_goOn_21 : decode cX5_goOn 21 = .ok (.lload_n 2, 1) := by decide +kernel
theorem dX5_goOn_22 : decode cX5_goOn 22 = .ok (.invokevirtual 231, 3) := by decide +kernel
theorem dX5_goOn_6 : decode cX5_goOn 6 = .ok (.aload_n 0, 1) := by decide +kernel
theorem dX5_goOn_7 : decode cX5_goOn 7 = .ok (.lload_n 2, 1) := by decide +kernel
theorem dX5_goOn_8 : decode cX5_goOn 8 = .ok (.putfield 43, 3) := by decide +kernel
theorem dX5_goOn_11 : decode cX5_goOn 11 = .ok (.goto 14, 3) := by decide +kernel
theorem hV_X5_leave : yX5_leave.cls = RX5 ∧ yX5_leave.cls ≠ "java/lang/invoke/MethodHandle" ∧ yX5_leave.cls ≠ "java/lang/invoke/VarHandle" ∧ (parseMethodDescriptor yX5_leave.desc).map (fun d => d.parameters.length) = some 2 := by decide +kernel
theorem dX5_goOutward_0 : decode cX5_goOutward 0 = .ok (.iconst 0, 1) := by decide +kernel
theorem dX5_goOutward_1 : decode cX5_goOutward 1 = .ok (.istore_n 1, 1) := by decide +kernel
theorem dX5_goOutward_2 : decode cX5_goOutward 2 = .ok (.iload_n 1, 1) := by decide +kernel
theorem dX5_goOutward_3 : decode cX5_goOutward 3 = .ok (.bipush 100, 2) := by decide +kernel
theorem dX5_goOutward_5 : decode cX5_goOutward 5 = .ok (.if_icmp .ge 72, 3) := by decide +kernel
theorem dX5_goOutward_8 : decode cX5_goOutward 8 = .ok (.aload_n 0, 1) := by decide +kernel
theorem dX5_goOutward_9 : decode cX5_goOutward 9 = .ok (.getfield 96, 3) := by decide +kernel
theorem dX5_goOutward_12 : decode cX5_goOutward 12 = .ok (.ifnull 65, 3) := by decide +kernel
theorem dX5_goOutward_15 : decode cX5_goOutward 15 = .ok (.aload_n 0, 1) := by decide +kernel
theorem dX5_goOutward_16 : decode cX5_goOutward 16 = .ok (.aload_n 0, 1) := by decide +kernel
theorem dX5_goOutward_17 : decode cX5_goOutward 17 = .ok (.getfield 18, 3) := by decide +kernel
theorem dX5_goOutward_20 : decode cX5_goOutward 20 = .ok (.aload_n 0, 1) := by decide +kernel
theorem dX5_goOutward_21 : decode cX5_goOutward 21 = .ok (.getfield 43, 3) := by decide +kernel
theorem dX5_goOutward_24 : decode cX5_goOutward 24 = .ok (.invokevirtual 51, 3) := by decide +kernel
theorem dX5_goOutward_27 : decode cX5_goOutward 27 = .ok (.invokevirtual 331, 3) := by decide +kernel
theorem dX5_goOutward_30 : decode cX5_goOutward 30 = .ok (.istore_n 2, 1) := by decide +kernel
theorem dX5_goOutward_31 : decode cX5_goOutward 31 = .ok (.iload_n 2, 1) := by decide +kernel
theorem dX5_goOutward_32 : decode cX5_goOutward 32 = .ok (.iconst (-1), 1) := by decide +kernel
theorem dX5_goOutward_33 : decode cX5_goOutward 33 = .ok (.if_icmp .eq 20, 3) := by decide +kernel
theorem dX5_goOutward_53 : decode cX5_goOutward 53 = .ok (.aload_n 0, 1) := by decide +kernel
theorem dX5_goOutward_54 : decode cX5_goOutward 54 = .ok (.getfield 93, 3) := by decide +kernel
theorem dX5_goOutward_57 : decode cX5_goOutward 57 = .ok (.iconst 1, 1) := by decide +kernel
theorem dX5_goOutward_58 : decode cX5_goOutward 58 = .ok (.if_icmp .gt 9, 3) := by decide +kernel
theorem dX5_goOutward_67 : decode cX5_goOutward 67 = .ok (.aload_n 0, 1) := by decide +kernel
theorem dX5_goOutward_68 : decode cX5_goOutward 68 = .ok (.invokevirtual 328, 3) := by decide +kernel
theorem dX5_goOutward_71 : decode cX5_goOutward 71 = .ok (.iinc 1 1, 3) := by decide +kernel
theorem dX5_goOutward_74 : decode cX5_goOutward 74 = .ok (.goto (-72), 3) := by decide +kernel
theorem dX5_goOutward_61 : decode cX5_goOutward 61 = .ok (.aload_n 0, 1) := by decide +kernel
theorem dX5_goOutward_62 : decode cX5_goOutward 62 = .ok (.iconst 1, 1) := by decide +kernel
theorem dX5_goOutward_63 : decode cX5_goOutward 63 = .ok (.putfield 116, 3) := by decide +kernel
theorem dX5_goOutward_66 : decode cX5_goOutward 66 = .ok (.return_, 1) := by decide +kernel
theorem dX5_goOutward_36 : decode cX5_goOutward 36 = .ok (.aload_n 0, 1) := by decide +kernel
theorem dX5_goOutward_37 : decode cX5_goOutward 37 = .ok (.iload_n 2, 1) := by decide +kernel
theorem dX5_goOutward_38 : decode cX5_goOutward 38 = .ok (.bipush (-2), 2) := by decide +kernel
theorem dX5_goOutward_40 : decode cX5_goOutward 40 = .ok (.aload_n 0, 1) := by decide +kernel
theorem dX5_goOutward_41 : decode cX5_goOutward 41 = .ok (.getfield 43, 3) := by decide +kernel
theorem dX5_goOutward_44 : decode cX5_goOutward 44 = .ok (.invokevirtual 334, 3) := by decide +kernel
theorem dX5_goOutward_47 : decode cX5_goOutward 47 = .ok (.aload_n 0, 1) := by decide +kernel
theorem dX5_goOutward_48 : decode cX5_goOutward 48 = .ok (.lconst 0, 1) := by decide +kernel
theorem dX5_goOutward_49 : decode cX5_goOutward 49 = .ok (.putfield 43, 3) := by decide +kernel
theorem dX5_goOutward_52 : decode cX5_goOutward 52 = .ok (.return_, 1) := by decide +kernel
theorem hV_X5_handlerOf : yX5_handlerOf.cls = RX5 ∧ yX5_handlerOf.cls ≠ "java/lang/invoke/MethodHandle" ∧ yX5_handlerOf.cls ≠ "java/lang/invoke/VarHandle" ∧ (parseMethodDescriptor yX5_handlerOf.desc).map (fun d => d.parameters.length) = some 1 := by decide +kernel
theorem dX5_callSuper_0 : decode cX5_callSuper 0 = .ok (.aload_n 0, 1) := by decide +kernel
theorem dX5_callSuper_1 : decode cX5_callSuper 1 = .ok (.invokevirtual 166, 3) := by decide +kernel
theorem dX5_callSuper_4 : decode cX5_callSuper 4 = .ok (.ifCond .eq 23, 3) := by decide +kernel
theorem dX5_callSuper_27 : decode cX5_callSuper 27 = .ok (.return_, 1) := by decide +kernel
theorem dX5_callSuper_7 : decode cX5_callSuper 7 = .ok (.aload_n 0, 1) := by decide +kernel
theorem dX5_callSuper_8 : decode cX5_callSuper 8 = .ok (.aload_n 0, 1) := by decide +kernel
theorem dX5_callSuper_9 : decode cX5_callSuper 9 = .ok (.getfield 47, 3) := by decide +kernel
theorem dX5_callSuper_12 : decode cX5_callSuper 12 = .ok (.iload_n 1, 1) := by decide +kernel
theorem dX5_callSuper_13 : decode cX5_callSuper 13 = .ok (.invokevirtual 310, 3) := by decide +kernel
theorem dX5_callSuper_16 : decode cX5_callSuper 16 = .ok (.aload_n 0, 1) := by decide +kernel
theorem dX5_callSuper_17 : decode cX5_callSuper 17 = .ok (.getfield 103, 3) := by decide +kernel
theorem dX5_callSuper_20 : decode cX5_callSuper 20 = .ok (.iload_n 2, 1) := by decide +kernel
theorem dX5_callSuper_21 : decode cX5_callSuper 21 = .ok (.isub, 1) := by decide +kernel
theorem dX5_callSuper_22 : decode cX5_callSuper 22 = .ok (.iconst 1, 1) := by decide +kernel
theorem dX5_callSuper_23 : decode cX5_callSuper 23 = .ok (.isub, 1) := by decide +kernel
theorem dX5_callSuper_24 : decode cX5_callSuper 24 = .ok (.invokevirtual 319, 3) := by decide +kernel
theorem hV_X5_begin : yX5_begin.cls = RX5 ∧ yX5_begin.cls ≠ "java/lang/invoke/MethodHandle" ∧ yX5_begin.cls ≠ "java/lang/invoke/VarHandle" ∧ (parseMethodDescriptor yX5_begin.desc).map (fun d => d.parameters.length) = some 2 := by decide +kernel
theorem dX5_callNearest_0 : decode cX5_callNearest 0 = .ok (.aload_n 0, 1) := by decide +kernel
theorem dX5_callNearest_1 : decode cX5_callNearest 1 = .ok (.getfield 103, 3) := by decide +kernel
theorem dX5_callNearest_4 : decode cX5_callNearest 4 = .ok (.iload_n 2, 1) := by decide +kernel
theorem dX5_callNearest_5 : decode cX5_callNearest 5 = .ok (.isub, 1) := by decide +kernel
theorem dX5_callNearest_6 : decode cX5_callNearest 6 = .ok (.iconst 1, 1) := by decide +kernel
theorem dX5_callNearest_7 : decode cX5_callNearest 7 = .ok (.isub, 1) := by decide +kernel
theorem dX5_callNearest_8 : decode cX5_callNearest 8 = .ok (.istore_n 3, 1) := by decide +kernel
theorem dX5_callNearest_9 : decode cX5_callNearest 9 = .ok (.iload_n 3, 1) := by decide +kernel
theorem dX5_callNearest_10 : decode cX5_callNearest 10 = .ok (.ifCond .ge 8, 3) := by decide +kernel
theorem dX5_callNearest_18 : decode cX5_callNearest 18 = .ok (.aload_n 0, 1) := by decide +kernel
theorem dX5_callNearest_19 : decode cX5_callNearest 19 = .ok (.invokevirtual 166, 3) := by decide +kernel
theorem dX5_callNearest_22 : decode cX5_callNearest 22 = .ok (.ifCond .ne 4, 3) := by decide +kernel
theorem dX5_callNearest_26 : decode cX5_callNearest 26 = .ok (.aload_n 0, 1) := by decide +kernel
theorem dX5_callNearest_27 : decode cX5_callNearest 27 = .ok (.getfield 22, 3) := by decide +kernel
theorem dX5_callNearest_30 : decode cX5_callNearest 30 = .ok (.iload_n 3, 1) := by decide +kernel
theorem dX5_callNearest_31 : decode cX5_callNearest 31 = .ok (.laload, 1) := by decide +kernel
theorem dX5_callNearest_32 : decode cX5_callNearest 32 = .ok (.lconst 0, 1) := by decide +kernel
theorem dX5_callNearest_33 : decode cX5_callNearest 33 = .ok (.lcmp, 1) := by decide +kernel
theorem dX5_callNearest_34 : decode cX5_callNearest 34 = .ok (.ifCond .ne 9, 3) := by decide +kernel
theorem dX5_callNearest_43 : decode cX5_callNearest 43 = .ok (.aload_n 0, 1) := by decide +kernel
theorem dX5_callNearest_44 : decode cX5_callNearest 44 = .ok (.getfield 47, 3) := by decide +kernel
theorem dX5_callNearest_47 : decode cX5_callNearest 47 = .ok (.aload_n 0, 1) := by decide +kernel
theorem dX5_callNearest_48 : decode cX5_callNearest 48 = .ok (.getfield 18, 3) := by decide +kernel
theorem dX5_callNearest_51 : decode cX5_callNearest 51 = .ok (.aload_n 0, 1) := by decide +kernel
theorem dX5_callNearest_52 : decode cX5_callNearest 52 = .ok (.getfield 22, 3) := by decide +kernel
theorem dX5_callNearest_55 : decode cX5_callNearest 55 = .ok (.iload_n 3, 1) := by decide +kernel
theorem dX5_callNearest_56 : decode cX5_callNearest 56 = .ok (.laload, 1) := by decide +kernel
theorem dX5_callNearest_57 : decode cX5_callNearest 57 = .ok (.invokevirtual 51, 3) := by decide +kernel
theorem dX5_callNearest_60 : decode cX5_callNearest 60 = .ok (.invokevirtual 55, 3) := by decide +kernel
theorem dX5_callNearest_63 : decode cX5_callNearest 63 = .ok (.astore 4, 2) := by decide +kernel
theorem dX5_callNearest_65 : decode cX5_callNearest 65 = .ok (.aload_n 0, 1) := by decide +kernel
theorem dX5_callNearest_66 : decode cX5_callNearest 66 = .ok (.aload 4, 2) := by decide +kernel
theorem dX5_callNearest_68 : decode cX5_callNearest 68 = .ok (.ifnonnull 7, 3) := by decide +kernel
theorem dX5_callNearest_81 : decode cX5_callNearest 81 = .ok (.iload_n 3, 1) := by decide +kernel
theorem dX5_callNearest_82 : decode cX5_callNearest 82 = .ok (.invokevirtual 319, 3) := by decide +kernel
theorem dX5_callNearest_85 : decode cX5_callNearest 85 = .ok (.return_, 1) := by decide +kernel
theorem dX5_callNearest_75 : decode cX5_callNearest 75 = .ok (.aload 4, 2) := by decide +kernel
theorem dX5_callNearest_77 : decode cX5_callNearest 77 = .ok (.iload_n 1, 1) := by decide +kernel
theorem dX5_callNearest_78 : decode cX5_callNearest 78 = .ok (.invokevirtual 316, 3) := by decide +kernel
theorem dX5_callNearest_37 : decode cX5_callNearest 37 = .ok (.aload_n 0, 1) := by decide +kernel
theorem dX5_callNearest_38 : decode cX5_callNearest 38 = .ok (.iconst 1, 1) := by decide +kernel
theorem dX5_callNearest_39 : decode cX5_callNearest 39 = .ok (.invokevirtual 252, 3) := by decide +kernel
theorem dX5_callNearest_42 : decode cX5_callNearest 42 = .ok (.return_, 1) := by decide +kernel
theorem dX5_callNearest_25 : decode cX5_callNearest 25 = .ok (.return_, 1) := by decide +kernel
theorem dX5_stepAmongThings_0 : decode cX5_stepAmongThings 0 = .ok (.iload_n 1, 1) := by decide +kernel
theorem dX5_stepAmongThings_1 : decode cX5_stepAmongThings 1 = .ok (.tableswitch 176 14 25 #[63, 63, 82, 89, 97, 105, 112, 119, 134, 147, 156, 165], 63) := by decide +kernel
theorem dX5_stepAmongThings_64 : decode cX5_stepAmongThings 64 = .ok (.aload_n 0, 1) := by decide +kernel
theorem dX5_stepAmongThings_65 : decode cX5_stepAmongThings 65 = .ok (.iload_n 1, 1) := by decide +kernel
theorem dX5_stepAmongThings_66 : decode cX5_stepAmongThings 66 = .ok (.bipush 15, 2) := by decide +kernel
theorem dX5_stepAmongThings_68 : decode cX5_stepAmongThings 68 = .ok (.if_icmp .ne 7, 3) := by decide +kernel
theorem dX5_stepAmongThings_75 : decode cX5_stepAmongThings 75 = .ok (.iconst 0, 1) := by decide +kernel
theorem dX5_stepAmongThings_76 : decode cX5_stepAmongThings 76 = .ok (.iload_n 2, 1) := by decide +kernel
theorem dX5_stepAmongThings_77 : decode cX5_stepAmongThings 77 = .ok (.invokevirtual 204, 3) := by decide +kernel
theorem dX5_stepAmongThings_80 : decode cX5_stepAmongThings 80 = .ok (.goto 101, 3) := by decide +kernel
theorem dX5_stepAmongThings_181 : decode cX5_stepAmongThings 181 = .ok (.return_, 1) := by decide +kernel
theorem dX5_stepAmongThings_71 : decode cX5_stepAmongThings 71 = .ok (.iconst 1, 1) := by decide +kernel
theorem dX5_stepAmongThings_72 : decode cX5_stepAmongThings 72 = .ok (.goto 4, 3) := by decide +kernel
theorem dX5_stepAmongThings_83 : decode cX5_stepAmongThings 83 = .ok (.aload_n 0, 1) := by decide +kernel
theorem dX5_stepAmongThings_84 : decode cX5_stepAmongThings 84 = .ok (.invokevirtual 207, 3) := by decide +kernel
theorem dX5_stepAmongThings_87 : decode cX5_stepAmongThings 87 = .ok (.goto 94, 3) := by decide +kernel
theorem dX5_stepAmongThings_90 : decode cX5_stepAmongThings 90 = .ok (.aload_n 0, 1) := by decide +kernel
theorem dX5_stepAmongThings_91 : decode cX5_stepAmongThings 91 = .ok (.iload_n 2, 1) := by decide +kernel
theorem dX5_stepAmongThings_92 : decode cX5_stepAmongThings 92 = .ok (.invokevirtual 210, 3) := by decide +kernel
theorem dX5_stepAmongThings_95 : decode cX5_stepAmongThings 95 = .ok (.goto 86, 3) := by decide +kernel
theorem dX5_stepAmongThings_98 : decode cX5_stepAmongThings 98 = .ok (.aload_n 0, 1) := by decide +kernel
theorem dX5_stepAmongThings_99 : decode cX5_stepAmongThings 99 = .ok (.iload_n 2, 1) := by decide +kernel
theorem dX5_stepAmongThings_100 : decode cX5_stepAmongThings 100 = .ok (.invokevirtual 213, 3) := by decide +kernel
theorem dX5_stepAmongThings_103 : decode cX5_stepAmongThings 103 = .ok (.goto 78, 3) := by decide +kernel
theorem dX5_stepAmongThings_106 : decode cX5_stepAmongThings 106 = .ok (.aload_n 0, 1) := by decide +kernel
theorem dX5_stepAmongThings_107 : decode cX5_stepAmongThings 107 = .ok (.invokevirtual 216, 3) := by decide +kernel
theorem dX5_stepAmongThings_110 : decode cX5_stepAmongThings 110 = .ok (.goto 71, 3) := by decide +kernel
theorem dX5_stepAmongThings_113 : decode cX5_stepAmongThings 113 = .ok (.aload_n 0, 1) := by decide +kernel
theorem dX5_stepAmongThings_114 : decode cX5_stepAmongThings 114 = .ok (.invokevirtual 219, 3) := by decide +kernel
theorem dX5_stepAmongThings_117 : decode cX5_stepAmongThings 117 = .ok (.goto 64, 3) := by decide +kernel
theorem dX5_stepAmongThings_120 : decode cX5_stepAmongThings 120 = .ok (.aload_n 0, 1) := by decide +kernel
theorem dX5_stepAmongThings_121 : decode cX5_stepAmongThings 121 = .ok (.invokevirtual 166, 3) := by decide +kernel
theorem dX5_stepAmongThings_124 : decode cX5_stepAmongThings 124 = .ok (.ifCond .eq 57, 3) := by decide +kernel
theorem dX5_stepAmongThings_127 : decode cX5_stepAmongThings 127 = .ok (.aload_n 0, 1) := by decide +kernel
theorem dX5_stepAmongThings_128 : decode cX5_stepAmongThings 128 = .ok (.iload_n 2, 1) := by decide +kernel
theorem dX5_stepAmongThings_129 : decode cX5_stepAmongThings 129 = .ok (.invokevirtual 125, 3) := by decide +kernel
theorem dX5_stepAmongThings_132 : decode cX5_stepAmongThings 132 = .ok (.goto 49, 3) := by decide +kernel
theorem dX5_stepAmongThings_135 : decode cX5_stepAmongThings 135 = .ok (.aload_n 0, 1) := by decide +kernel
theorem dX5_stepAmongThings_136 : decode cX5_stepAmongThings 136 = .ok (.iload_n 2, 1) := by decide +kernel
theorem dX5_stepAmongThings_137 : decode cX5_stepAmongThings 137 = .ok (.aload_n 0, 1) := by decide +kernel
theorem dX5_stepAmongThings_138 : decode cX5_stepAmongThings 138 = .ok (.invokevirtual 180, 3) := by decide +kernel
theorem dX5_stepAmongThings_141 : decode cX5_stepAmongThings 141 = .ok (.l2i, 1) := by decide +kernel
theorem dX5_stepAmongThings_142 : decode cX5_stepAmongThings 142 = .ok (.invokevirtual 222, 3) := by decide +kernel
theorem dX5_stepAmongThings_145 : decode cX5_stepAmongThings 145 = .ok (.goto 36, 3) := by decide +kernel
theorem dX5_stepAmongThings_148 : decode cX5_stepAmongThings 148 = .ok (.aload_n 0, 1) := by decide +kernel
theorem dX5_stepAmongThings_149 : decode cX5_stepAmongThings 149 = .ok (.iload_n 2, 1) := by decide +kernel
theorem dX5_stepAmongThings_150 : decode cX5_stepAmongThings 150 = .ok (.iload_n 3, 1) := by decide +kernel
theorem dX5_stepAmongThings_151 : decode cX5_stepAmongThings 151 = .ok (.invokevirtual 128, 3) := by decide +kernel
theorem dX5_stepAmongThings_154 : decode cX5_stepAmongThings 154 = .ok (.goto 27, 3) := by decide +kernel
theorem dX5_stepAmongThings_157 : decode cX5_stepAmongThings 157 = .ok (.aload_n 0, 1) := by decide +kernel
theorem dX5_stepAmongThings_158 : decode cX5_stepAmongThings 158 = .ok (.iload_n 2, 1) := by decide +kernel
theorem dX5_stepAmongThings_159 : decode cX5_stepAmongThings 159 = .ok (.iload_n 3, 1) := by decide +kernel
theorem dX5_stepAmongThings_160 : decode cX5_stepAmongThings 160 = .ok (.invokevirtual 225, 3) := by decide +kernel
theorem dX5_stepAmongThings_163 : decode cX5_stepAmongThings 163 = .ok (.goto 18, 3) := by decide +kernel
theorem dX5_stepAmongThings_166 : decode cX5_stepAmongThings 166 = .ok (.aload_n 0, 1) := by decide +kernel
theorem dX5_stepAmongThings_167 : decode cX5_stepAmongThings 167 = .ok (.aload_n 0, 1) := by decide +kernel
theorem dX5_stepAmongThings_168 : decode cX5_stepAmongThings 168 = .ok (.invokevirtual 180, 3) := by decide +kernel
theorem dX5_stepAmongThings_171 : decode cX5_stepAmongThings 171 = .ok (.invokevirtual 228, 3) := by decide +kernel
theorem dX5_stepAmongThings_174 : decode cX5_stepAmongThings 174 = .ok (.goto 7, 3) := by decide +kernel
theorem hV_X5_check : yX5_check.cls = RX5 ∧ yX5_check.cls ≠ "java/lang/invoke/MethodHandle" ∧ yX5_check.cls ≠ "java/lang/invoke/VarHandle" ∧ (parseMethodDescriptor yX5_check.desc).map (fun d => d.parameters.length) = some 2 := by decide +kernel
theorem hV_X5_length : yX5_length.cls = RX5 ∧ yX5_length.cls ≠ "java/lang/invoke/MethodHandle" ∧ yX5_length.cls ≠ "java/lang/invoke/VarHandle" ∧ (parseMethodDescriptor yX5_length.desc).map (fun d => d.parameters.length) = some 0 := by decide +kernel
theorem hV_X5_getField : yX5_getField.cls = RX5 ∧ yX5_getField.cls ≠ "java/lang/invoke/MethodHandle" ∧ yX5_getField.cls ≠ "java/lang/invoke/VarHandle" ∧ (parseMethodDescriptor yX5_getField.desc).map (fun d => d.parameters.length) = some 1 := by decide +kernel
theorem hV_X5_putField : yX5_putField.cls = RX5 ∧ yX5_putField.cls ≠ "java/lang/invoke/MethodHandle" ∧ yX5_putField.cls ≠ "java/lang/invoke/VarHandle" ∧ (parseMethodDescriptor yX5_putField.desc).map (fun d => d.parameters.length) = some 1 := by decide +kernel
theorem hV_X5_getElement : yX5_getElement.cls = RX5 ∧ yX5_getElement.cls ≠ "java/lang/invoke/MethodHandle" ∧ yX5_getElement.cls ≠ "java/lang/invoke/VarHandle" ∧ (parseMethodDescriptor yX5_getElement.desc).map (fun d => d.parameters.length) = some 0 := by decide +kernel
theorem hV_X5_putElement : yX5_putElement.cls = RX5 ∧ yX5_putElement.cls ≠ "java/lang/invoke/MethodHandle" ∧ yX5_putElement.cls ≠ "java/lang/invoke/VarHandle" ∧ (parseMethodDescriptor yX5_putElement.desc).map (fun d => d.parameters.length) = some 0 := by decide +kernel
theorem hV_X5_makeObject : yX5_makeObject.cls = RX5 ∧ yX5_makeObject.cls ≠ "java/lang/invoke/MethodHandle" ∧ yX5_makeObject.cls ≠ "java/lang/invoke/VarHandle" ∧ (parseMethodDescriptor yX5_makeObject.desc).map (fun d => d.parameters.length) = some 1 := by decide +kernel
theorem hV_X5_makeArray : yX5_makeArray.cls = RX5 ∧ yX5_makeArray.cls ≠ "java/lang/invoke/MethodHandle" ∧ yX5_makeArray.cls ≠ "java/lang/invoke/VarHandle" ∧ (parseMethodDescriptor yX5_makeArray.desc).map (fun d => d.parameters.length) = some 2 := by decide +kernel
theorem hV_X5_callNearest : yX5_callNearest.cls = RX5 ∧ yX5_callNearest.cls ≠ "java/lang/invoke/MethodHandle" ∧ yX5_callNearest.cls ≠ "java/lang/invoke/VarHandle" ∧ (parseMethodDescriptor yX5_callNearest.desc).map (fun d => d.parameters.length) = some 2 := by decide +kernel
theorem hV_X5_callSuper : yX5_callSuper.cls = RX5 ∧ yX5_callSuper.cls ≠ "java/lang/invoke/MethodHandle" ∧ yX5_callSuper.cls ≠ "java/lang/invoke/VarHandle" ∧ (parseMethodDescriptor yX5_callSuper.desc).map (fun d => d.parameters.length) = some 2 := by decide +kernel
theorem hV_X5_throwValue : yX5_throwValue.cls = RX5 ∧ yX5_throwValue.cls ≠ "java/lang/invoke/MethodHandle" ∧ yX5_throwValue.cls ≠ "java/lang/invoke/VarHandle" ∧ (parseMethodDescriptor yX5_throwValue.desc).map (fun d => d.parameters.length) = some 1 := by decide +kernel
theorem dX5_stepOut_0 : decode cX5_stepOut 0 = .ok (.iload_n 1, 1) := by decide +kernel
theorem dX5_stepOut_1 : decode cX5_stepOut 1 = .ok (.tableswitch 111 26 30 #[35, 45, 58, 67, 91], 35) := by decide +kernel
theorem dX5_stepOut_36 : decode cX5_stepOut 36 = .ok (.aload_n 0, 1) := by decide +kernel
theorem dX5_stepOut_37 : decode cX5_stepOut 37 = .ok (.bipush (-3), 2) := by decide +kernel
theorem dX5_stepOut_39 : decode cX5_stepOut 39 = .ok (.lconst 0, 1) := by decide +kernel
theorem dX5_stepOut_40 : decode cX5_stepOut 40 = .ok (.invokevirtual 231, 3) := by decide +kernel
theorem dX5_stepOut_43 : decode cX5_stepOut 43 = .ok (.goto 73, 3) := by decide +kernel
theorem dX5_stepOut_116 : decode cX5_stepOut 116 = .ok (.return_, 1) := by decide +kernel
theorem dX5_stepOut_46 : decode cX5_stepOut 46 = .ok (.aload_n 0, 1) := by decide +kernel
theorem dX5_stepOut_47 : decode cX5_stepOut 47 = .ok (.bipush (-3), 2) := by decide +kernel
theorem dX5_stepOut_49 : decode cX5_stepOut 49 = .ok (.aload_n 0, 1) := by decide +kernel
theorem dX5_stepOut_50 : decode cX5_stepOut 50 = .ok (.invokevirtual 180, 3) := by decide +kernel
theorem dX5_stepOut_53 : decode cX5_stepOut 53 = .ok (.invokevirtual 231, 3) := by decide +kernel
theorem dX5_stepOut_56 : decode cX5_stepOut 56 = .ok (.goto 60, 3) := by decide +kernel
theorem dX5_stepOut_59 : decode cX5_stepOut 59 = .ok (.aload_n 0, 1) := by decide +kernel
theorem dX5_stepOut_60 : decode cX5_stepOut 60 = .ok (.iload_n 2, 1) := by decide +kernel
theorem dX5_stepOut_61 : decode cX5_stepOut 61 = .ok (.lconst 0, 1) := by decide +kernel
theorem dX5_stepOut_62 : decode cX5_stepOut 62 = .ok (.invokevirtual 231, 3) := by decide +kernel
theorem dX5_stepOut_65 : decode cX5_stepOut 65 = .ok (.goto 51, 3) := by decide +kernel
theorem dX5_stepOut_68 : decode cX5_stepOut 68 = .ok (.aload_n 0, 1) := by decide +kernel
theorem dX5_stepOut_69 : decode cX5_stepOut 69 = .ok (.iload_n 3, 1) := by decide +kernel
theorem dX5_stepOut_70 : decode cX5_stepOut 70 = .ok (.ldc2_w 170, 3) := by decide +kernel
theorem dX5_stepOut_73 : decode cX5_stepOut 73 = .ok (.invokevirtual 184, 3) := by decide +kernel
theorem dX5_stepOut_76 : decode cX5_stepOut 76 = .ok (.aload_n 0, 1) := by decide +kernel
theorem dX5_stepOut_77 : decode cX5_stepOut 77 = .ok (.iload_n 3, 1) := by decide +kernel
theorem dX5_stepOut_78 : decode cX5_stepOut 78 = .ok (.iconst 1, 1) := by decide +kernel
theorem dX5_stepOut_79 : decode cX5_stepOut 79 = .ok (.iadd, 1) := by decide +kernel
theorem dX5_stepOut_80 : decode cX5_stepOut 80 = .ok (.lconst 0, 1) := by decide +kernel
theorem dX5_stepOut_81 : decode cX5_stepOut 81 = .ok (.invokevirtual 184, 3) := by decide +kernel
theorem dX5_stepOut_84 : decode cX5_stepOut 84 = .ok (.aload_n 0, 1) := by decide +kernel
theorem dX5_stepOut_85 : decode cX5_stepOut 85 = .ok (.iload_n 2, 1) := by decide +kernel
theorem dX5_stepOut_86 : decode cX5_stepOut 86 = .ok (.putfield 132, 3) := by decide +kernel
theorem dX5_stepOut_89 : decode cX5_stepOut 89 = .ok (.goto 27, 3) := by decide +kernel
theorem dX5_stepOut_92 : decode cX5_stepOut 92 = .ok (.aload_n 0, 1) := by decide +kernel
theorem dX5_stepOut_93 : decode cX5_stepOut 93 = .ok (.aload_n 0, 1) := by decide +kernel
theorem dX5_stepOut_94 : decode cX5_stepOut 94 = .ok (.iload_n 2, 1) := by decide +kernel
theorem dX5_stepOut_95 : decode cX5_stepOut 95 = .ok (.invokevirtual 176, 3) := by decide +kernel
theorem dX5_stepOut_98 : decode cX5_stepOut 98 = .ok (.l2i, 1) := by decide +kernel
theorem dX5_stepOut_99 : decode cX5_stepOut 99 = .ok (.aload_n 0, 1) := by decide +kernel
theorem dX5_stepOut_100 : decode cX5_stepOut 100 = .ok (.iload_n 2, 1) := by decide +kernel
theorem dX5_stepOut_101 : decode cX5_stepOut 101 = .ok (.iconst 1, 1) := by decide +kernel
theorem dX5_stepOut_102 : decode cX5_stepOut 102 = .ok (.iadd, 1) := by decide +kernel
theorem dX5_stepOut_103 : decode cX5_stepOut 103 = .ok (.invokevirtual 176, 3) := by decide +kernel
theorem dX5_stepOut_106 : decode cX5_stepOut 106 = .ok (.invokevirtual 234, 3) := by decide +kernel
theorem dX5_stepOut_109 : decode cX5_stepOut 109 = .ok (.goto 7, 3) := by decide +kernel
theorem hV_X5_goOn : yX5_goOn.cls = RX5 ∧ yX5_goOn.cls ≠ "java/lang/invoke/MethodHandle" ∧ yX5_goOn.cls ≠ "java/lang/invoke/VarHandle" ∧ (parseMethodDescriptor yX5_goOn.desc).map (fun d => d.parameters.length) = some 2 := by decide +kernel
theorem dX5_work_0 : decode cX5_work 0 = .ok (.iconst 0, 1) := by decide +kernel
theorem dX5_work_1 : decode cX5_work 1 = .ok (.istore_n 1, 1) := by decide +kernel
theorem dX5_work_2 : decode cX5_work 2 = .ok (.iload_n 1, 1) := by decide +kernel
theorem dX5_work_3 : decode cX5_work 3 = .ok (.ldc 135, 2) := by decide +kernel
theorem dX5_work_5 : decode cX5_work 5 = .ok (.if_icmp .ge 148, 3) := by decide +kernel
theorem dX5_work_153 : decode cX5_work 153 = .ok (.aload_n 0, 1) := by decide +kernel
theorem dX5_work_154 : decode cX5_work 154 = .ok (.getfield 116, 3) := by decide +kernel
theorem dX5_work_157 : decode cX5_work 157 = .ok (.iconst 5, 1) := by decide +kernel
theorem dX5_work_158 : decode cX5_work 158 = .ok (.if_icmp .ne 7, 3) := by decide +kernel
theorem dX5_work_165 : decode cX5_work 165 = .ok (.aload_n 0, 1) := by decide +kernel
theorem dX5_work_166 : decode cX5_work 166 = .ok (.getfield 116, 3) := by decide +kernel
theorem dX5_work_169 : decode cX5_work 169 = .ok (.ireturn, 1) := by decide +kernel
theorem dX5_work_8 : decode cX5_work 8 = .ok (.aload_n 0, 1) := by decide +kernel
theorem dX5_work_9 : decode cX5_work 9 = .ok (.getfield 116, 3) := by decide +kernel
theorem dX5_work_12 : decode cX5_work 12 = .ok (.iconst 5, 1) := by decide +kernel
theorem dX5_work_13 : decode cX5_work 13 = .ok (.if_icmp .ne 140, 3) := by decide +kernel
theorem dX5_work_16 : decode cX5_work 16 = .ok (.aload_n 0, 1) := by decide +kernel
theorem dX5_work_17 : decode cX5_work 17 = .ok (.aload_n 0, 1) := by decide +kernel
theorem dX5_work_18 : decode cX5_work 18 = .ok (.getfield 106, 3) := by decide +kernel
theorem dX5_work_21 : decode cX5_work 21 = .ok (.iconst 1, 1) := by decide +kernel
theorem dX5_work_22 : decode cX5_work 22 = .ok (.iadd, 1) := by decide +kernel
theorem dX5_work_23 : decode cX5_work 23 = .ok (.putfield 132, 3) := by decide +kernel
theorem dX5_work_26 : decode cX5_work 26 = .ok (.aload_n 0, 1) := by decide +kernel
theorem dX5_work_27 : decode cX5_work 27 = .ok (.getfield 11, 3) := by decide +kernel
theorem dX5_work_30 : decode cX5_work 30 = .ok (.aload_n 0, 1) := by decide +kernel
theorem dX5_work_31 : decode cX5_work 31 = .ok (.getfield 106, 3) := by decide +kernel
theorem dX5_work_34 : decode cX5_work 34 = .ok (.invokevirtual 136, 3) := by decide +kernel
theorem dX5_work_37 : decode cX5_work 37 = .ok (.istore_n 2, 1) := by decide +kernel
theorem dX5_work_38 : decode cX5_work 38 = .ok (.iload_n 2, 1) := by decide +kernel
theorem dX5_work_39 : decode cX5_work 39 = .ok (.bipush 14, 2) := by decide +kernel
theorem dX5_work_41 : decode cX5_work 41 = .ok (.if_icmp .ge 22, 3) := by decide +kernel
theorem dX5_work_63 : decode cX5_work 63 = .ok (.iload_n 2, 1) := by decide +kernel
theorem dX5_work_64 : decode cX5_work 64 = .ok (.bipush 26, 2) := by decide +kernel
theorem dX5_work_66 : decode cX5_work 66 = .ok (.if_icmp .ge 33, 3) := by decide +kernel
theorem dX5_work_99 : decode cX5_work 99 = .ok (.aload_n 0, 1) := by decide +kernel
theorem dX5_work_100 : decode cX5_work 100 = .ok (.iload_n 2, 1) := by decide +kernel
theorem dX5_work_101 : decode cX5_work 101 = .ok (.aload_n 0, 1) := by decide +kernel
theorem dX5_work_102 : decode cX5_work 102 = .ok (.getfield 11, 3) := by decide +kernel
theorem dX5_work_105 : decode cX5_work 105 = .ok (.aload_n 0, 1) := by decide +kernel
theorem dX5_work_106 : decode cX5_work 106 = .ok (.getfield 106, 3) := by decide +kernel
theorem dX5_work_109 : decode cX5_work 109 = .ok (.invokevirtual 141, 3) := by decide +kernel
theorem dX5_work_112 : decode cX5_work 112 = .ok (.aload_n 0, 1) := by decide +kernel
theorem dX5_work_113 : decode cX5_work 113 = .ok (.getfield 11, 3) := by decide +kernel
theorem dX5_work_116 : decode cX5_work 116 = .ok (.aload_n 0, 1) := by decide +kernel
theorem dX5_work_117 : decode cX5_work 117 = .ok (.getfield 106, 3) := by decide +kernel
theorem dX5_work_120 : decode cX5_work 120 = .ok (.invokevirtual 147, 3) := by decide +kernel
theorem dX5_work_123 : decode cX5_work 123 = .ok (.invokevirtual 154, 3) := by decide +kernel
theorem dX5_work_126 : decode cX5_work 126 = .ok (.aload_n 0, 1) := by decide +kernel
theorem dX5_work_127 : decode cX5_work 127 = .ok (.getfield 43, 3) := by decide +kernel
theorem dX5_work_130 : decode cX5_work 130 = .ok (.lconst 0, 1) := by decide +kernel
theorem dX5_work_131 : decode cX5_work 131 = .ok (.lcmp, 1) := by decide +kernel
theorem dX5_work_132 : decode cX5_work 132 = .ok (.ifCond .eq 7, 3) := by decide +kernel
theorem dX5_work_139 : decode cX5_work 139 = .ok (.aload_n 0, 1) := by decide +kernel
theorem dX5_work_140 : decode cX5_work 140 = .ok (.aload_n 0, 1) := by decide +kernel
theorem dX5_work_141 : decode cX5_work 141 = .ok (.getfield 132, 3) := by decide +kernel
theorem dX5_work_144 : decode cX5_work 144 = .ok (.putfield 106, 3) := by decide +kernel
theorem dX5_work_147 : decode cX5_work 147 = .ok (.iinc 1 1, 3) := by decide +kernel
theorem dX5_work_150 : decode cX5_work 150 = .ok (.goto (-148), 3) := by decide +kernel
theorem dX5_work_135 : decode cX5_work 135 = .ok (.aload_n 0, 1) := by decide +kernel
theorem dX5_work_136 : decode cX5_work 136 = .ok (.invokevirtual 157, 3) := by decide +kernel
theorem dX5_work_69 : decode cX5_work 69 = .ok (.aload_n 0, 1) := by decide +kernel
theorem dX5_work_70 : decode cX5_work 70 = .ok (.iload_n 2, 1) := by decide +kernel
theorem dX5_work_71 : decode cX5_work 71 = .ok (.aload_n 0, 1) := by decide +kernel
theorem dX5_work_72 : decode cX5_work 72 = .ok (.getfield 11, 3) := by decide +kernel
theorem dX5_work_75 : decode cX5_work 75 = .ok (.aload_n 0, 1) := by decide +kernel
theorem dX5_work_76 : decode cX5_work 76 = .ok (.getfield 106, 3) := by decide +kernel
theorem dX5_work_79 : decode cX5_work 79 = .ok (.invokevirtual 141, 3) := by decide +kernel
theorem dX5_work_82 : decode cX5_work 82 = .ok (.aload_n 0, 1) := by decide +kernel
theorem dX5_work_83 : decode cX5_work 83 = .ok (.getfield 11, 3) := by decide +kernel
theorem dX5_work_86 : decode cX5_work 86 = .ok (.aload_n 0, 1) := by decide +kernel
theorem dX5_work_87 : decode cX5_work 87 = .ok (.getfield 106, 3) := by decide +kernel
theorem dX5_work_90 : decode cX5_work 90 = .ok (.invokevirtual 147, 3) := by decide +kernel
theorem dX5_work_93 : decode cX5_work 93 = .ok (.invokevirtual 150, 3) := by decide +kernel
theorem dX5_work_96 : decode cX5_work 96 = .ok (.goto 30, 3) := by decide +kernel
theorem dX5_work_44 : decode cX5_work 44 = .ok (.aload_n 0, 1) := by decide +kernel
theorem dX5_work_45 : decode cX5_work 45 = .ok (.iload_n 2, 1) := by decide +kernel
theorem dX5_work_46 : decode cX5_work 46 = .ok (.aload_n 0, 1) := by decide +kernel
theorem dX5_work_47 : decode cX5_work 47 = .ok (.getfield 11, 3) := by decide +kernel
theorem dX5_work_50 : decode cX5_work 50 = .ok (.aload_n 0, 1) := by decide +kernel
theorem dX5_work_51 : decode cX5_work 51 = .ok (.getfield 106, 3) := by decide +kernel
theorem dX5_work_54 : decode cX5_work 54 = .ok (.invokevirtual 141, 3) := by decide +kernel
theorem dX5_work_57 : decode cX5_work 57 = .ok (.invokevirtual 144, 3) := by decide +kernel
theorem dX5_work_60 : decode cX5_work 60 = .ok (.goto 66, 3) := by decide +kernel
theorem hV_X1_operation : yX1_operation.cls = RX1 ∧ yX1_operation.cls ≠ "java/lang/invoke/MethodHandle" ∧ yX1_operation.cls ≠ "java/lang/invoke/VarHandle" ∧ (parseMethodDescriptor yX1_operation.desc).map (fun d => d.parameters.length) = some 1 := by decide +kernel
theorem hV_X1_left : yX1_left.cls = RX1 ∧ yX1_left.cls ≠ "java/lang/invoke/MethodHandle" ∧ yX1_left.cls ≠ "java/lang/invoke/VarHandle" ∧ (parseMethodDescriptor yX1_left.desc).map (fun d => d.parameters.length) = some 1 := by decide +kernel
theorem hV_X1_right : yX1_right.cls = RX1 ∧ yX1_right.cls ≠ "java/lang/invoke/MethodHandle" ∧ yX1_right.cls ≠ "java/lang/invoke/VarHandle" ∧ (parseMethodDescriptor yX1_right.desc).map (fun d => d.parameters.length) = some 1 := by decide +kernel
theorem hV_X5_stepOut : yX5_stepOut.cls = RX5 ∧ yX5_stepOut.cls ≠ "java/lang/invoke/MethodHandle" ∧ yX5_stepOut.cls ≠ "java/lang/invoke/VarHandle" ∧ (parseMethodDescriptor yX5_stepOut.desc).map (fun d => d.parameters.length) = some 3 := by decide +kernel
theorem hV_X5_goOutward : yX5_goOutward.cls = RX5 ∧ yX5_goOutward.cls ≠ "java/lang/invoke/MethodHandle" ∧ yX5_goOutward.cls ≠ "java/lang/invoke/VarHandle" ∧ (parseMethodDescriptor yX5_goOutward.desc).map (fun d => d.parameters.length) = some 0 := by decide +kernel
theorem hV_X5_stepAmongThings : yX5_stepAmongThings.cls = RX5 ∧ yX5_stepAmongThings.cls ≠ "java/lang/invoke/MethodHandle" ∧ yX5_stepAmongThings.cls ≠ "java/lang/invoke/VarHandle" ∧ (parseMethodDescriptor yX5_stepAmongThings.desc).map (fun d => d.parameters.length) = some 3 := by decide +kernel
theorem hV_X5_step : yX5_step.cls = RX5 ∧ yX5_step.cls ≠ "java/lang/invoke/MethodHandle" ∧ yX5_step.cls ≠ "java/lang/invoke/VarHandle" ∧ (parseMethodDescriptor yX5_step.desc).map (fun d => d.parameters.length) = some 2 := by decide +kernel
theorem lt5_nn {x : Int32} (h : ¬ x < 5) : ¬ x < 0 := fun q => h (by
  rw [Int32.lt_iff_toInt_lt] at q ⊢
  have z1 : (0 : Int32).toInt = 0 := by decide
  have z2 : (5 : Int32).toInt = 5 := by decide
  omega)
theorem dX5_takeInput_0 : decode cX5_takeInput 0 = .ok (.aload_n 0, 1) := by decide +kernel
theorem dX5_takeInput_1 : decode cX5_takeInput 1 = .ok (.getfield 39, 3) := by decide +kernel
theorem dX5_takeInput_4 : decode cX5_takeInput 4 = .ok (.sipush 200, 3) := by decide +kernel
theorem dX5_takeInput_7 : decode cX5_takeInput 7 = .ok (.if_icmp .lt 5, 3) := by decide +kernel
theorem dX5_takeInput_12 : decode cX5_takeInput 12 = .ok (.aload_n 0, 1) := by decide +kernel
theorem dX5_takeInput_13 : decode cX5_takeInput 13 = .ok (.getfield 30, 3) := by decide +kernel
theorem dX5_takeInput_16 : decode cX5_takeInput 16 = .ok (.aload_n 0, 1) := by decide +kernel
theorem dX5_takeInput_17 : decode cX5_takeInput 17 = .ok (.getfield 39, 3) := by decide +kernel
theorem dX5_takeInput_20 : decode cX5_takeInput 20 = .ok (.iload_n 1, 1) := by decide +kernel
theorem dX5_takeInput_21 : decode cX5_takeInput 21 = .ok (.iastore, 1) := by decide +kernel
theorem dX5_takeInput_22 : decode cX5_takeInput 22 = .ok (.aload_n 0, 1) := by decide +kernel
theorem dX5_takeInput_23 : decode cX5_takeInput 23 = .ok (.dup, 1) := by decide +kernel
theorem dX5_takeInput_24 : decode cX5_takeInput 24 = .ok (.getfield 39, 3) := by decide +kernel
theorem dX5_takeInput_27 : decode cX5_takeInput 27 = .ok (.iconst 1, 1) := by decide +kernel
theorem dX5_takeInput_28 : decode cX5_takeInput 28 = .ok (.iadd, 1) := by decide +kernel
theorem dX5_takeInput_29 : decode cX5_takeInput 29 = .ok (.putfield 39, 3) := by decide +kernel
theorem dX5_takeInput_32 : decode cX5_takeInput 32 = .ok (.aload_n 0, 1) := by decide +kernel
theorem dX5_takeInput_33 : decode cX5_takeInput 33 = .ok (.getfield 39, 3) := by decide +kernel
theorem dX5_takeInput_36 : decode cX5_takeInput 36 = .ok (.ireturn, 1) := by decide +kernel
theorem dX5_takeInput_10 : decode cX5_takeInput 10 = .ok (.iconst (-1), 1) := by decide +kernel
theorem dX5_takeInput_11 : decode cX5_takeInput 11 = .ok (.ireturn, 1) := by decide +kernel
set_option maxHeartbeats 6000000 in
set_option maxRecDepth 100000 in
theorem M_takeInput (l : Launch) (G : pT) (h0 : Nat) (a : Nat → Nat) (F : Nat → Int32) (R : Nat → Value) (Z : Int64) (B : Nat → Nat → Int32) (J : Nat → Nat → Int64) (T : Nat → Nat) (Pi : Nat → va_E → Prop) (w : va_W) (x : Int32) (ni : Nat) (hni : ni ≤ 200) (hO : OKW G h0 a (upd F 17 (nI ni)) R Z B J T Pi w) : PM l G pX0 yX5_takeInput cX5_takeInput 2 (some .int) ({ frames := 2, cells := 0, slots := 0, locals := 60 }) [.ref (a 5), .int x] w (fun (v : Option Value) (u : va_W × (Nat × Int32 × (Nat → Int32))) => v = some (.int u.2.2.1) ∧ (u.2.1 ≤ 200) ∧ (InQ ni u.2.1 u.2.2.1) ∧ (OKW G h0 a (upd F 17 (nI u.2.1)) R Z (updA B 31 u.2.2.2) J T Pi u.1)) (fun u => u.1) := by
  intro sz
  refine Met.ofW (cc := cX5_takeInput) (maxL := 2) (ret := (some .int)) (by decide) rfl ?_
  intro p e s m args below meth c s₁ B9 hml hv
  obtain ⟨rfl, hsz, hP, hD0, hE, hX⟩ := hv
  have hx := B9.exec
  have hb := B9.bytes
  have hr := B9.returns
  have hts := atoms_spec (ws := Cond.code yX5_takeInput cX5_takeInput 2 (some .int) :: pw) B9.pre
  have hq : ∀ w ∈ pw, w.before _ s = true := fun w h => hts w (List.mem_cons_of_mem _ h)
  have hown : s.vm.findClass RX5 = some m.cls := findClass_of_methodNamed B9.named
  have hlocks := B9.notSynchronized
  subst hsz
  have hD := hD0.self (sz := s.heap.size)
  have hA : ∀ q : Nat, s.heap.size ≤ q → va_A w s.heap.size q := fun q h => Or.inr h
  generalize va_A w s.heap.size = A at hD hE hA ⊢
  have hS : va_S A s.heap s.heap [] := va_S.rf
  have hl := lv_entry ([.ref (a 5), .int x]) (n := 2) (Nat.le_of_ble_eq_true rfl)
  rw [lg_entry_eq]
  generalize (lg_sl ([.ref (a 5), .int x]) ++ List.replicate (2 - (lg_sl ([.ref (a 5), .int x])).length) Slot.unset).toArray = ls at hl ⊢
  have hl : lv_has ls 2 [(0, .ref (a 5)), (1, .int x)] := hl
  refine lv_aload_n hx hb dX5_takeInput_0 rfl (lv_at hl 0 rfl) ?_
  refine c_get (v := .int (nI ni)) (C := RX5) (Tc := TX5) (N := 19) (ci := 4) hx hb hq pin_wsX50 hown hE hP hO 28 (sg_28 G h0 a _ _ _ _ _) rfl 5 (by decide) (hq _ pw_482) (fun _ h9 => h9) rfl dX5_takeInput_1 ?_
  refine lv_sipush (v := 200) hx hb dX5_takeInput_4 (by decide) ?_
  refine lv_icmp_lt (tgt := 12) hx hb dX5_takeInput_7 (by decide) (fun c1 => ?_) (fun c1 => ?_)
  · have n2 : ni < 200 := (nI_ltI (a := ni) (b := 200) (by omega) (by omega)).mp c1
    refine lv_aload_n hx hb dX5_takeInput_12 rfl (lv_at hl 0 rfl) ?_
    refine c_get (v := .ref (a 31)) (C := RX5) (Tc := TX5) (N := 19) (ci := 4) hx hb hq pin_wsX50 hown hE hP hO 28 (sg_28 G h0 a _ _ _ _ _) rfl 4 (by decide) (hq _ pw_476) (fun _ h9 => h9) rfl dX5_takeInput_13 ?_
    refine lv_aload_n hx hb dX5_takeInput_16 rfl (lv_at hl 0 rfl) ?_
    refine c_get (v := .int (nI ni)) (C := RX5) (Tc := TX5) (N := 19) (ci := 4) hx hb hq pin_wsX50 hown hE hP hO 28 (sg_28 G h0 a _ _ _ _ _) rfl 5 (by decide) (hq _ pw_482) (fun _ h9 => h9) rfl dX5_takeInput_17 ?_
    refine lv_iload_n hx hb dX5_takeInput_20 rfl (lv_at hl 1 rfl) ?_
    refine c_sti (f := (B 31)) (n := 200) (t0 := 0) hx hb hE hP hD hS hO 34 (sg_34 G h0 a _ _ _ _ _) rfl (vp_in_nI (by omega) (by decide)) (sb_31 G h0 a _ _ _ _ _ _) dX5_takeInput_21 (fun H locs w hP hD hS hO => ?_)
    rw [(nI_clamp (show ni < 2 ^ 31 by omega))] at hO
    refine lv_aload_n hx hb dX5_takeInput_22 rfl (lv_at hl 0 rfl) ?_
    refine lv_dup hx hb dX5_takeInput_23 rfl ?_
    refine c_get (v := .int (nI ni)) (C := RX5) (Tc := TX5) (N := 19) (ci := 4) hx hb hq pin_wsX50 hown hE hP hO 28 (sg_28 G h0 a _ _ _ _ _) rfl 5 (by decide) (hq _ pw_482) (fun _ h9 => h9) rfl dX5_takeInput_24 ?_
    refine lv_iconst (v := 1) hx hb dX5_takeInput_27 (by decide) ?_
    refine lv_iadd hx hb dX5_takeInput_28 ?_
    refine lv_topi (fun x3 e4 => ?_)
    obtain rfl : x3 = nI (ni + 1) := e4.trans (nI_add (ni) (1))
    refine c_put (v := .int (nI (ni + 1))) (ty := .int) (C := RX5) (Tc := TX5) (N := 19) (ci := 4) hx hb hq pin_wsX50 tyX5 tyX5_ok nmX5 hown hE hP hD hS hO 28 (sg_28 G h0 a _ _ _ _ _) rfl 5 (by decide) (hq _ pw_482) (fun _ h9 => h9) rfl (by decide +kernel) rfl rfl (Nat.le_of_ble_eq_true rfl) (sf_17 G h0 a _ _ _ _ _ (nI (ni + 1))) dX5_takeInput_29 (fun H locs w hP hD hS hO => ?_)
    refine lv_aload_n hx hb dX5_takeInput_32 rfl (lv_at hl 0 rfl) ?_
    refine c_get (v := .int (nI (ni + 1))) (C := RX5) (Tc := TX5) (N := 19) (ci := 4) hx hb hq pin_wsX50 hown hE hP hO 28 (sg_28 G h0 a _ _ _ _ _) rfl 5 (by decide) (hq _ pw_482) (fun _ h9 => h9) rfl dX5_takeInput_33 ?_
    have hz5 : (ni + 1) ≤ 200 := (by omega)
    have hz6 : InQ ni (ni + 1) (nI (ni + 1)) := (Or.inl ⟨(by omega), rfl, rfl⟩)
    have hO : OKW G h0 a (upd F 17 (nI (ni + 1))) R Z (updA B 31 (upd (B 31) ni x)) J T Pi w := hO.to rfl
    exact W.iret (v := (nI (ni + 1))) hx hb hr (fun t99 ht99 hW99 => ⟨⟨_, (w, ((ni + 1), (nI (ni + 1)), (upd (B 31) ni x))), rfl, ⟨rfl, hz5, hz6, hO⟩, by rw [ht99]; exact hP, hD⟩, hS.F ht99⟩) hS.2.2 dX5_takeInput_36
  · have n7 : ¬ (ni < 200) := fun h9 => c1 ((nI_ltI (a := ni) (b := 200) (by omega) (by omega)).mpr h9)
    refine lv_iconst (v := (-1)) hx hb dX5_takeInput_10 (by decide) ?_
    have hz8 : ni ≤ 200 := (by omega)
    have hz9 : InQ ni ni ((-1) : Int32) := (Or.inr ⟨(by omega), rfl, rfl⟩)
    have hO : OKW G h0 a (upd F 17 (nI ni)) R Z (updA B 31 (B 31)) J T Pi w := hO.to rfl
    exact W.iret (v := (-1)) hx hb hr (fun t99 ht99 hW99 => ⟨⟨_, (w, (ni, ((-1) : Int32), (B 31))), rfl, ⟨rfl, hz8, hz9, hO⟩, by rw [ht99]; exact hP, hD⟩, hS.F ht99⟩) hS.2.2 dX5_takeInput_11
theorem dX5_printed_0 : decode cX5_printed 0 = .ok (.iload_n 1, 1) := by decide +kernel
theorem dX5_printed_1 : decode cX5_printed 1 = .ok (.ifCond .lt 30, 3) := by decide +kernel
theorem dX5_printed_31 : decode cX5_printed 31 = .ok (.iconst 0, 1) := by decide +kernel
theorem dX5_printed_32 : decode cX5_printed 32 = .ok (.ireturn, 1) := by decide +kernel
theorem dX5_printed_4 : decode cX5_printed 4 = .ok (.iload_n 1, 1) := by decide +kernel
theorem dX5_printed_5 : decode cX5_printed 5 = .ok (.aload_n 0, 1) := by decide +kernel
theorem dX5_printed_6 : decode cX5_printed 6 = .ok (.getfield 36, 3) := by decide +kernel
theorem dX5_printed_9 : decode cX5_printed 9 = .ok (.bipush 6, 2) := by decide +kernel
theorem dX5_printed_11 : decode cX5_printed 11 = .ok (.iaload, 1) := by decide +kernel
theorem dX5_printed_12 : decode cX5_printed 12 = .ok (.if_icmp .ge 19, 3) := by decide +kernel
theorem dX5_printed_15 : decode cX5_printed 15 = .ok (.iload_n 1, 1) := by decide +kernel
theorem dX5_printed_16 : decode cX5_printed 16 = .ok (.sipush 400, 3) := by decide +kernel
theorem dX5_printed_19 : decode cX5_printed 19 = .ok (.if_icmp .ge 12, 3) := by decide +kernel
theorem dX5_printed_22 : decode cX5_printed 22 = .ok (.aload_n 0, 1) := by decide +kernel
theorem dX5_printed_23 : decode cX5_printed 23 = .ok (.getfield 33, 3) := by decide +kernel
theorem dX5_printed_26 : decode cX5_printed 26 = .ok (.iload_n 1, 1) := by decide +kernel
theorem dX5_printed_27 : decode cX5_printed 27 = .ok (.iaload, 1) := by decide +kernel
theorem dX5_printed_28 : decode cX5_printed 28 = .ok (.goto 4, 3) := by decide +kernel
set_option maxHeartbeats 2000000 in
set_option maxRecDepth 100000 in
theorem M_printed (l : Launch) (G : pT) (h0 : Nat) (a : Nat → Nat) (F : Nat → Int32) (R : Nat → Value) (Z : Int64) (B : Nat → Nat → Int32) (J : Nat → Nat → Int64) (T : Nat → Nat) (Pi : Nat → va_E → Prop) (w : va_W) (x : Int32) (hO : OKW G h0 a F R Z B J T Pi w) : PM l G pX0 yX5_printed cX5_printed 2 (some .int) ({ frames := 2, cells := 0, slots := 0, locals := 60 }) [.ref (a 5), .int x] w (fun (v : Option Value) (u : va_W × (Int32)) => v = some (.int u.2) ∧ (OKW G h0 a F R Z B J T Pi u.1)) (fun u => u.1) := by
  intro sz
  refine Met.ofW (cc := cX5_printed) (maxL := 2) (ret := (some .int)) (by decide) rfl ?_
  intro p e s m args below meth c s₁ B9 hml hv
  obtain ⟨rfl, hsz, hP, hD0, hE, hX⟩ := hv
  have hx := B9.exec
  have hb := B9.bytes
  have hr := B9.returns
  have hts := atoms_spec (ws := Cond.code yX5_printed cX5_printed 2 (some .int) :: pw) B9.pre
  have hq : ∀ w ∈ pw, w.before _ s = true := fun w h => hts w (List.mem_cons_of_mem _ h)
  have hown : s.vm.findClass RX5 = some m.cls := findClass_of_methodNamed B9.named
  have hlocks := B9.notSynchronized
  subst hsz
  have hD := hD0.self (sz := s.heap.size)
  have hA : ∀ q : Nat, s.heap.size ≤ q → va_A w s.heap.size q := fun q h => Or.inr h
  generalize va_A w s.heap.size = A at hD hE hA ⊢
  have hS : va_S A s.heap s.heap [] := va_S.rf
  have hl := lv_entry ([.ref (a 5), .int x]) (n := 2) (Nat.le_of_ble_eq_true rfl)
  rw [lg_entry_eq]
  generalize (lg_sl ([.ref (a 5), .int x]) ++ List.replicate (2 - (lg_sl ([.ref (a 5), .int x])).length) Slot.unset).toArray = ls at hl ⊢
  have hl : lv_has ls 2 [(0, .ref (a 5)), (1, .int x)] := hl
  refine lv_iload_n hx hb dX5_printed_0 rfl (lv_at hl 1 rfl) ?_
  refine lv_if_lt (tgt := 31) hx hb dX5_printed_1 (by decide) (fun c1 => ?_) (fun c1 => ?_)
  · refine lv_iconst (v := 0) hx hb dX5_printed_31 (by decide) ?_
    have hO : OKW G h0 a F R Z B J T Pi w := hO.to rfl
    exact W.iret (v := 0) hx hb hr (fun t99 ht99 hW99 => ⟨⟨_, (w, (0 : Int32)), rfl, ⟨rfl, hO⟩, by rw [ht99]; exact hP, hD⟩, hS.F ht99⟩) hS.2.2 dX5_printed_32
  · obtain ⟨k9, ht_k9, hb_k9⟩ := nI_nn2 c1
    rw [ht_k9] at hl
    refine lv_iload_n hx hb dX5_printed_4 rfl (lv_at hl 1 rfl) ?_
    refine lv_aload_n hx hb dX5_printed_5 rfl (lv_at hl 0 rfl) ?_
    refine c_get (v := .ref (a 33)) (C := RX5) (Tc := TX5) (N := 19) (ci := 4) hx hb hq pin_wsX50 hown hE hP hO 28 (sg_28 G h0 a _ _ _ _ _) rfl 7 (by decide) (hq _ pw_478) (fun _ h9 => h9) rfl dX5_printed_6 ?_
    refine lv_bipush (v := 6) hx hb dX5_printed_9 (by decide) ?_
    refine c_ldi (f := (B 33)) (n := 12) (t0 := 0) hx hb hE hP hO 36 (sg_36 G h0 a _ _ _ _ _) rfl (by unfold vp_in; decide) dX5_printed_11 ?_
    refine W.eq (g2 := F0 m 12 ls [.int ((B 33) 6), .int (nI k9)]) rfl ?_
    refine lv_topi (fun x2 e3 => ?_)
    refine lv_icmp_ge (tgt := 31) hx hb dX5_printed_12 (by decide) (fun c4 => ?_) (fun c4 => ?_)
    · refine lv_iconst (v := 0) hx hb dX5_printed_31 (by decide) ?_
      have hO : OKW G h0 a F R Z B J T Pi w := hO.to rfl
      exact W.iret (v := 0) hx hb hr (fun t99 ht99 hW99 => ⟨⟨_, (w, (0 : Int32)), rfl, ⟨rfl, hO⟩, by rw [ht99]; exact hP, hD⟩, hS.F ht99⟩) hS.2.2 dX5_printed_32
    · refine lv_iload_n hx hb dX5_printed_15 rfl (lv_at hl 1 rfl) ?_
      refine lv_sipush (v := 400) hx hb dX5_printed_16 (by decide) ?_
      refine lv_icmp_ge (tgt := 31) hx hb dX5_printed_19 (by decide) (fun c5 => ?_) (fun c5 => ?_)
      · have n6 : 400 ≤ k9 := (nI_leI (a := 400) (b := k9) (by omega) (by omega)).mp c5
        refine lv_iconst (v := 0) hx hb dX5_printed_31 (by decide) ?_
        have hO : OKW G h0 a F R Z B J T Pi w := hO.to rfl
        exact W.iret (v := 0) hx hb hr (fun t99 ht99 hW99 => ⟨⟨_, (w, (0 : Int32)), rfl, ⟨rfl, hO⟩, by rw [ht99]; exact hP, hD⟩, hS.F ht99⟩) hS.2.2 dX5_printed_32
      · have n7 : ¬ (400 ≤ k9) := fun h9 => c5 ((nI_leI (a := 400) (b := k9) (by omega) (by omega)).mpr h9)
        refine lv_aload_n hx hb dX5_printed_22 rfl (lv_at hl 0 rfl) ?_
        refine c_get (v := .ref (a 32)) (C := RX5) (Tc := TX5) (N := 19) (ci := 4) hx hb hq pin_wsX50 hown hE hP hO 28 (sg_28 G h0 a _ _ _ _ _) rfl 6 (by decide) (hq _ pw_477) (fun _ h9 => h9) rfl dX5_printed_23 ?_
        refine lv_iload_n hx hb dX5_printed_26 rfl (lv_at hl 1 rfl) ?_
        refine c_ldi (f := (B 32)) (n := 400) (t0 := 0) hx hb hE hP hO 35 (sg_35 G h0 a _ _ _ _ _) rfl (vp_in_nI (by omega) (by decide)) dX5_printed_27 ?_
        rw [(nI_clamp (show k9 < 2 ^ 31 by omega))]
        refine lv_goto (tgt := 32) hx hb dX5_printed_28 (by decide) ?_
        have hO : OKW G h0 a F R Z B J T Pi w := hO.to rfl
        exact W.iret (v := ((B 32) k9)) hx hb hr (fun t99 ht99 hW99 => ⟨⟨_, (w, ((B 32) k9)), rfl, ⟨rfl, hO⟩, by rw [ht99]; exact hP, hD⟩, hS.F ht99⟩) hS.2.2 dX5_printed_32
theorem dX5_told_0 : decode cX5_told 0 = .ok (.iload_n 1, 1) := by decide +kernel
theorem dX5_told_1 : decode cX5_told 1 = .ok (.iconst 5, 1) := by decide +kernel
theorem dX5_told_2 : decode cX5_told 2 = .ok (.if_icmp .lt 18, 3) := by decide +kernel
theorem dX5_told_20 : decode cX5_told 20 = .ok (.iconst (-1), 1) := by decide +kernel
theorem dX5_told_21 : decode cX5_told 21 = .ok (.ireturn, 1) := by decide +kernel
theorem dX5_told_5 : decode cX5_told 5 = .ok (.iload_n 1, 1) := by decide +kernel
theorem dX5_told_6 : decode cX5_told 6 = .ok (.bipush 11, 2) := by decide +kernel
theorem dX5_told_8 : decode cX5_told 8 = .ok (.if_icmp .gt 12, 3) := by decide +kernel
theorem dX5_told_11 : decode cX5_told 11 = .ok (.aload_n 0, 1) := by decide +kernel
theorem dX5_told_12 : decode cX5_told 12 = .ok (.getfield 36, 3) := by decide +kernel
theorem dX5_told_15 : decode cX5_told 15 = .ok (.iload_n 1, 1) := by decide +kernel
theorem dX5_told_16 : decode cX5_told 16 = .ok (.iaload, 1) := by decide +kernel
theorem dX5_told_17 : decode cX5_told 17 = .ok (.goto 4, 3) := by decide +kernel
set_option maxHeartbeats 2000000 in
set_option maxRecDepth 100000 in
theorem M_told (l : Launch) (G : pT) (h0 : Nat) (a : Nat → Nat) (F : Nat → Int32) (R : Nat → Value) (Z : Int64) (B : Nat → Nat → Int32) (J : Nat → Nat → Int64) (T : Nat → Nat) (Pi : Nat → va_E → Prop) (w : va_W) (x : Int32) (hO : OKW G h0 a F R Z B J T Pi w) : PM l G pX0 yX5_told cX5_told 2 (some .int) ({ frames := 2, cells := 0, slots := 0, locals := 60 }) [.ref (a 5), .int x] w (fun (v : Option Value) (u : va_W × (Int32)) => v = some (.int u.2) ∧ (OKW G h0 a F R Z B J T Pi u.1)) (fun u => u.1) := by
  intro sz
  refine Met.ofW (cc := cX5_told) (maxL := 2) (ret := (some .int)) (by decide) rfl ?_
  intro p e s m args below meth c s₁ B9 hml hv
  obtain ⟨rfl, hsz, hP, hD0, hE, hX⟩ := hv
  have hx := B9.exec
  have hb := B9.bytes
  have hr := B9.returns
  have hts := atoms_spec (ws := Cond.code yX5_told cX5_told 2 (some .int) :: pw) B9.pre
  have hq : ∀ w ∈ pw, w.before _ s = true := fun w h => hts w (List.mem_cons_of_mem _ h)
  have hown : s.vm.findClass RX5 = some m.cls := findClass_of_methodNamed B9.named
  have hlocks := B9.notSynchronized
  subst hsz
  have hD := hD0.self (sz := s.heap.size)
  have hA : ∀ q : Nat, s.heap.size ≤ q → va_A w s.heap.size q := fun q h => Or.inr h
  generalize va_A w s.heap.size = A at hD hE hA ⊢
  have hS : va_S A s.heap s.heap [] := va_S.rf
  have hl := lv_entry ([.ref (a 5), .int x]) (n := 2) (Nat.le_of_ble_eq_true rfl)
  rw [lg_entry_eq]
  generalize (lg_sl ([.ref (a 5), .int x]) ++ List.replicate (2 - (lg_sl ([.ref (a 5), .int x])).length) Slot.unset).toArray = ls at hl ⊢
  have hl : lv_has ls 2 [(0, .ref (a 5)), (1, .int x)] := hl
  refine lv_iload_n hx hb dX5_told_0 rfl (lv_at hl 1 rfl) ?_
  refine lv_iconst (v := 5) hx hb dX5_told_1 (by decide) ?_
  refine lv_icmp_lt (tgt := 20) hx hb dX5_told_2 (by decide) (fun c1 => ?_) (fun c1 => ?_)
  · refine lv_iconst (v := (-1)) hx hb dX5_told_20 (by decide) ?_
    have hO : OKW G h0 a F R Z B J T Pi w := hO.to rfl
    exact W.iret (v := (-1)) hx hb hr (fun t99 ht99 hW99 => ⟨⟨_, (w, ((-1) : Int32)), rfl, ⟨rfl, hO⟩, by rw [ht99]; exact hP, hD⟩, hS.F ht99⟩) hS.2.2 dX5_told_21
  · obtain ⟨k9, ht_k9, hb_k9⟩ := nI_nn2 (lt5_nn c1)
    rw [ht_k9] at hl
    refine lv_iload_n hx hb dX5_told_5 rfl (lv_at hl 1 rfl) ?_
    refine lv_bipush (v := 11) hx hb dX5_told_6 (by decide) ?_
    refine lv_icmp_gt (tgt := 20) hx hb dX5_told_8 (by decide) (fun c2 => ?_) (fun c2 => ?_)
    · have n3 : 11 < k9 := (nI_ltI (a := 11) (b := k9) (by omega) (by omega)).mp c2
      refine lv_iconst (v := (-1)) hx hb dX5_told_20 (by decide) ?_
      have hO : OKW G h0 a F R Z B J T Pi w := hO.to rfl
      exact W.iret (v := (-1)) hx hb hr (fun t99 ht99 hW99 => ⟨⟨_, (w, ((-1) : Int32)), rfl, ⟨rfl, hO⟩, by rw [ht99]; exact hP, hD⟩, hS.F ht99⟩) hS.2.2 dX5_told_21
    · have n4 : ¬ (11 < k9) := fun h9 => c2 ((nI_ltI (a := 11) (b := k9) (by omega) (by omega)).mpr h9)
      refine lv_aload_n hx hb dX5_told_11 rfl (lv_at hl 0 rfl) ?_
      refine c_get (v := .ref (a 33)) (C := RX5) (Tc := TX5) (N := 19) (ci := 4) hx hb hq pin_wsX50 hown hE hP hO 28 (sg_28 G h0 a _ _ _ _ _) rfl 7 (by decide) (hq _ pw_478) (fun _ h9 => h9) rfl dX5_told_12 ?_
      refine lv_iload_n hx hb dX5_told_15 rfl (lv_at hl 1 rfl) ?_
      refine c_ldi (f := (B 33)) (n := 12) (t0 := 0) hx hb hE hP hO 36 (sg_36 G h0 a _ _ _ _ _) rfl (vp_in_nI (by omega) (by decide)) dX5_told_16 ?_
      rw [(nI_clamp (show k9 < 2 ^ 31 by omega))]
      refine lv_goto (tgt := 21) hx hb dX5_told_17 (by decide) ?_
      have hO : OKW G h0 a F R Z B J T Pi w := hO.to rfl
      exact W.iret (v := ((B 33) k9)) hx hb hr (fun t99 ht99 hW99 => ⟨⟨_, (w, ((B 33) k9)), rfl, ⟨rfl, hO⟩, by rw [ht99]; exact hP, hD⟩, hS.F ht99⟩) hS.2.2 dX5_told_21
set_option maxHeartbeats 2000000 in
set_option maxRecDepth 100000 in
theorem K_fill33 (l : Launch) (G : pT) (h0 : Nat) (a : Nat → Nat) (F : Nat → Int32) (R : Nat → Value) (Z : Int64) (B : Nat → Nat → Int32) (J : Nat → Nat → Int64) (T : Nat → Nat) (Pi : Nat → va_E → Prop) (w : va_W) (x : Int32) (hO : OKW G h0 a F R Z B J T Pi w) : PM l G pX0 yJ7_fill_53178 cJ7_fill_53178 4 none ({ frames := 2, cells := 0, slots := 0, locals := 60 }) [.ref (a 33), .int x] w (fun (v : Option Value) (u : va_W × ((Nat → Int32))) => v = none ∧ (OKW G h0 a F R Z (updA B 33 u.2) J T Pi u.1)) (fun u => u.1) := by
  intro sz
  refine Met.ofW (cc := cJ7_fill_53178) (maxL := 4) (ret := none) (by decide) rfl ?_
  intro p e s m args below meth c s₁ B9 hml hv
  obtain ⟨rfl, hsz, hP, hD0, hE, hX⟩ := hv
  have hx := B9.exec
  have hb := B9.bytes
  have hr := B9.returns
  have hts := atoms_spec (ws := Cond.code yJ7_fill_53178 cJ7_fill_53178 4 none :: pw) B9.pre
  have hq : ∀ w ∈ pw, w.before _ s = true := fun w h => hts w (List.mem_cons_of_mem _ h)
  have hown : s.vm.findClass RJ7 = some m.cls := findClass_of_methodNamed B9.named
  have hlocks := B9.notSynchronized
  subst hsz
  have hD := hD0.self (sz := s.heap.size)
  have hA : ∀ q : Nat, s.heap.size ≤ q → va_A w s.heap.size q := fun q h => Or.inr h
  generalize va_A w s.heap.size = A at hD hE hA ⊢
  have hS : va_S A s.heap s.heap [] := va_S.rf
  have hl := lv_entry ([.ref (a 33), .int x]) (n := 4) (Nat.le_of_ble_eq_true rfl)
  rw [lg_entry_eq]
  generalize (lg_sl ([.ref (a 33), .int x]) ++ List.replicate (4 - (lg_sl ([.ref (a 33), .int x])).length) Slot.unset).toArray = ls at hl ⊢
  have hl : lv_has ls 4 [(0, .ref (a 33)), (1, .int x)] := hl
  refine lv_iconst (v := 0) hx hb dJ7_fill_53178_0 (by decide) ?_
  refine lv_istore_n (lv' := [(2, .int 0), (0, .ref (a 33)), (1, .int x)]) hx hb dJ7_fill_53178_1 rfl hl (by decide) rfl (fun ls hl => ?_)
  refine lv_aload_n hx hb dJ7_fill_53178_2 rfl (lv_at hl 1 rfl) ?_
  refine c_len (n := 0) (t0 := 0) (v := 12) hx hb hE hP hO 36 (sg_36 G h0 a _ _ _ _ _) rfl rfl dJ7_fill_53178_3 ?_
  refine lv_istore_n (lv' := [(3, .int 12), (2, .int 0), (0, .ref (a 33)), (1, .int x)]) hx hb dJ7_fill_53178_4 rfl hl (by decide) rfl (fun ls hl => ?_)
  have loop_i : ∀ (n_i : Nat) (i2 : Nat) (f2 : Nat → Int32) (H : Heap) (locs : List Loc) (ls : Array Slot) (w : va_W), i2 ≤ 12 → 12 + 1 ≤ i2 + n_i → va_P G.1 pCl w H → va_D A w → va_S A s.heap H locs → OKW G h0 a F R Z (updA B 33 f2) J T Pi w → lv_has ls 4 [(3, .int 12), (2, .int (nI i2)), (1, .int x), (0, .ref (a 33))] → W p l e (headSpec (Cond.code yJ7_fill_53178 cJ7_fill_53178 4 none :: pw) ({ frames := 2, cells := 0, slots := 0, locals := 60 } : Room)).room s m ([.ref (a 33), .int x] : List Value).toArray below meth c H locs 0 0 (MQ below (pQ G A (fun (v : Option Value) (u : va_W × ((Nat → Int32))) => v = none ∧ (OKW G h0 a F R Z (updA B 33 u.2) J T Pi u.1)) (fun u => u.1)) ([.ref (a 33), .int x] : List Value).toArray s ({ frames := 2, cells := 0, slots := 0, locals := 60 } : Room).cells ({ frames := 2, cells := 0, slots := 0, locals := 60 } : Room).slots A) (F0 m 5 ls []) := by
    intro n_i
    induction n_i with
    | zero => intro i2 f2 H locs ls w hk_i hn_i; omega
    | succ n_i ih_i =>
      intro i2 f2 H locs ls w hk_i hn_i hP hD hS hO hl
      refine lv_iload_n hx hb dJ7_fill_53178_5 rfl (lv_at hl 1 rfl) ?_
      refine lv_iload_n hx hb dJ7_fill_53178_6 rfl (lv_at hl 0 rfl) ?_
      refine lv_icmp_ge (tgt := 20) hx hb dJ7_fill_53178_7 (by decide) (fun c1 => ?_) (fun c1 => ?_)
      · have n2 : 12 ≤ i2 := (nI_leI (a := 12) (b := i2) (by omega) (by omega)).mp c1
        have hO : OKW G h0 a F R Z (updA B 33 f2) J T Pi w := hO.to rfl
        exact W.vret hx hb hr (fun t99 ht99 hW99 => ⟨⟨_, (w, f2), rfl, ⟨rfl, hO⟩, by rw [ht99]; exact hP, hD⟩, hS.F ht99⟩) hS.2.2 dJ7_fill_53178_20
      · have n3 : ¬ (12 ≤ i2) := fun h9 => c1 ((nI_leI (a := 12) (b := i2) (by omega) (by omega)).mpr h9)
        refine lv_aload_n hx hb dJ7_fill_53178_10 rfl (lv_at hl 3 rfl) ?_
        refine lv_iload_n hx hb dJ7_fill_53178_11 rfl (lv_at hl 1 rfl) ?_
        refine lv_iload_n hx hb dJ7_fill_53178_12 rfl (lv_at hl 2 rfl) ?_
        refine c_sti (f := f2) (n := 12) (t0 := 0) hx hb hE hP hD hS hO 36 (sg_36 G h0 a _ _ _ _ _) rfl (vp_in_nI (by omega) (by decide)) (sb_33 G h0 a _ _ _ _ _ _) dJ7_fill_53178_13 (fun H locs w hP hD hS hO => ?_)
        rw [(nI_clamp (show i2 < 2 ^ 31 by omega))] at hO
        refine lv_iinc (v := (nI (i2 + 1))) (lv' := [(2, .int (nI (i2 + 1))), (3, .int 12), (1, .int x), (0, .ref (a 33))]) hx hb dJ7_fill_53178_14 hl (k := 1) rfl (nI_1 i2) (by decide) rfl (fun ls hl => ?_)
        refine lv_goto (tgt := 5) hx hb dJ7_fill_53178_17 (by decide) ?_
        have hO : OKW G h0 a F R Z (updA B 33 (upd f2 i2 x)) J T Pi w := hO.to rfl
        exact ih_i (i2 + 1) (upd f2 i2 x) _ _ _ _ (by omega) (by omega) hP hD hS hO (lv_sub hl [1, 0, 2, 3] rfl)
  have hO : OKW G h0 a F R Z (updA B 33 (B 33)) J T Pi w := hO.to rfl
  exact loop_i (12 + 1) 0 (B 33) _ _ _ _ (by omega) (by omega) hP hD hS hO (lv_sub hl [0, 1, 3, 2] rfl)
theorem dX5_clear_0 : decode cX5_clear 0 = .ok (.aload_n 0, 1) := by decide +kernel
theorem dX5_clear_1 : decode cX5_clear 1 = .ok (.getfield 36, 3) := by decide +kernel
theorem dX5_clear_4 : decode cX5_clear 4 = .ok (.iconst 0, 1) := by decide +kernel
theorem dX5_clear_5 : decode cX5_clear 5 = .ok (.invokestatic 84, 3) := by decide +kernel
theorem dX5_clear_8 : decode cX5_clear 8 = .ok (.aload_n 0, 1) := by decide +kernel
theorem dX5_clear_9 : decode cX5_clear 9 = .ok (.lconst 0, 1) := by decide +kernel
theorem dX5_clear_10 : decode cX5_clear 10 = .ok (.putfield 43, 3) := by decide +kernel
theorem dX5_clear_13 : decode cX5_clear 13 = .ok (.aload_n 0, 1) := by decide +kernel
theorem dX5_clear_14 : decode cX5_clear 14 = .ok (.iconst 0, 1) := by decide +kernel
theorem dX5_clear_15 : decode cX5_clear 15 = .ok (.putfield 90, 3) := by decide +kernel
theorem dX5_clear_18 : decode cX5_clear 18 = .ok (.aload_n 0, 1) := by decide +kernel
theorem dX5_clear_19 : decode cX5_clear 19 = .ok (.iconst 0, 1) := by decide +kernel
theorem dX5_clear_20 : decode cX5_clear 20 = .ok (.putfield 93, 3) := by decide +kernel
theorem dX5_clear_23 : decode cX5_clear 23 = .ok (.aload_n 0, 1) := by decide +kernel
theorem dX5_clear_24 : decode cX5_clear 24 = .ok (.aconst_null, 1) := by decide +kernel
theorem dX5_clear_25 : decode cX5_clear 25 = .ok (.putfield 96, 3) := by decide +kernel
theorem dX5_clear_28 : decode cX5_clear 28 = .ok (.aload_n 0, 1) := by decide +kernel
theorem dX5_clear_29 : decode cX5_clear 29 = .ok (.iconst 0, 1) := by decide +kernel
theorem dX5_clear_30 : decode cX5_clear 30 = .ok (.putfield 100, 3) := by decide +kernel
theorem dX5_clear_33 : decode cX5_clear 33 = .ok (.aload_n 0, 1) := by decide +kernel
theorem dX5_clear_34 : decode cX5_clear 34 = .ok (.iconst 0, 1) := by decide +kernel
theorem dX5_clear_35 : decode cX5_clear 35 = .ok (.putfield 103, 3) := by decide +kernel
theorem dX5_clear_38 : decode cX5_clear 38 = .ok (.aload_n 0, 1) := by decide +kernel
theorem dX5_clear_39 : decode cX5_clear 39 = .ok (.iconst 0, 1) := by decide +kernel
theorem dX5_clear_40 : decode cX5_clear 40 = .ok (.putfield 106, 3) := by decide +kernel
theorem dX5_clear_43 : decode cX5_clear 43 = .ok (.return_, 1) := by decide +kernel
set_option maxHeartbeats 2000000 in
set_option maxRecDepth 100000 in
theorem M_clear (l : Launch) (G : pT) (h0 : Nat) (a : Nat → Nat) (F : Nat → Int32) (R : Nat → Value) (Z : Int64) (B : Nat → Nat → Int32) (J : Nat → Nat → Int64) (T : Nat → Nat) (Pi : Nat → va_E → Prop) (w : va_W) (hO : OKW G h0 a F R Z B J T Pi w) : PM l G pX0 yX5_clear cX5_clear 1 none ({ frames := 3, cells := 0, slots := 0, locals := 83 }) [.ref (a 5)] w (fun (v : Option Value) (u : va_W × ((Nat → Int32))) => v = none ∧ (OKW G h0 a (upd (upd (upd (upd (upd F 18 0) 19 0) 20 0) 22 0) 24 0) (updR R 6 (.null)) 0 (updA B 33 u.2) J T Pi u.1)) (fun u => u.1) := by
  intro sz
  refine Met.ofW (cc := cX5_clear) (maxL := 1) (ret := none) (by decide) rfl ?_
  intro p e s m args below meth c s₁ B9 hml hv
  obtain ⟨rfl, hsz, hP, hD0, hE, hX⟩ := hv
  have hx := B9.exec
  have hb := B9.bytes
  have hr := B9.returns
  have hts := atoms_spec (ws := Cond.code yX5_clear cX5_clear 1 none :: pw) B9.pre
  have hq : ∀ w ∈ pw, w.before _ s = true := fun w h => hts w (List.mem_cons_of_mem _ h)
  have hown : s.vm.findClass RX5 = some m.cls := findClass_of_methodNamed B9.named
  have hlocks := B9.notSynchronized
  subst hsz
  have hD := hD0.self (sz := s.heap.size)
  have hA : ∀ q : Nat, s.heap.size ≤ q → va_A w s.heap.size q := fun q h => Or.inr h
  generalize va_A w s.heap.size = A at hD hE hA ⊢
  have hS : va_S A s.heap s.heap [] := va_S.rf
  have hl := lv_entry ([.ref (a 5)]) (n := 1) (Nat.le_of_ble_eq_true rfl)
  rw [lg_entry_eq]
  generalize (lg_sl ([.ref (a 5)]) ++ List.replicate (1 - (lg_sl ([.ref (a 5)])).length) Slot.unset).toArray = ls at hl ⊢
  have hl : lv_has ls 1 [(0, .ref (a 5))] := hl
  refine lv_aload_n hx hb dX5_clear_0 rfl (lv_at hl 0 rfl) ?_
  refine c_get (v := .ref (a 33)) (C := RX5) (Tc := TX5) (N := 19) (ci := 4) hx hb hq pin_wsX50 hown hE hP hO 28 (sg_28 G h0 a _ _ _ _ _) rfl 7 (by decide) (hq _ pw_478) (fun _ h9 => h9) rfl dX5_clear_1 ?_
  refine lv_iconst (v := 0) hx hb dX5_clear_4 (by decide) ?_
  have hO : OKW G h0 a F R Z B J T Pi w := hO.to rfl
  refine pc_S0 (G := G) (As := [.ref (a 33), .int 0]) (rest := []) hx hb hml hown hq hE hX pX0_al hP hD hS hA hl.1 (K_fill33 l G h0 a F R Z B J T Pi w 0 hO) (gS pw_507 pw_508 pw_433 pw_499) hS_J7_fill_53178 rfl (Nat.le_of_ble_eq_true rfl) dX5_clear_5 ⟨Nat.le_of_ble_eq_true rfl, Nat.le_of_ble_eq_true rfl⟩ ⟨Nat.le_of_ble_eq_true rfl, Nat.le_of_ble_eq_true rfl⟩ (fun v3 u1 H locs hw2 hP hD hS => ?_)
  obtain ⟨w, f4⟩ := u1
  obtain ⟨hw2, hO⟩ := hw2
  obtain rfl : v3 = none := hw2
  have hO : OKW G h0 a F R Z (updA B 33 f4) J T Pi w := hO.to rfl
  refine W.widen (k := 0) (n := 0) (Nat.le_of_ble_eq_true rfl) (Nat.le_of_ble_eq_true rfl) ?_
  refine W.eq (g2 := F0 m 8 ls []) rfl ?_
  refine lv_aload_n hx hb dX5_clear_8 rfl (lv_at hl 0 rfl) ?_
  refine lv_lconst (v := 0) hx hb dX5_clear_9 (by decide) ?_
  refine c_put (v := .long 0) (ty := .long) (C := RX5) (Tc := TX5) (N := 19) (ci := 4) hx hb hq pin_wsX50 tyX5 tyX5_ok nmX5 hown hE hP hD hS hO 28 (sg_28 G h0 a _ _ _ _ _) rfl 14 (by decide) (hq _ pw_485) (fun _ h9 => h9) rfl (by decide +kernel) rfl rfl (Nat.le_of_ble_eq_true rfl) (sz G h0 a _ _ _ _ _ 0) dX5_clear_10 (fun H locs w hP hD hS hO => ?_)
  refine lv_aload_n hx hb dX5_clear_13 rfl (lv_at hl 0 rfl) ?_
  refine lv_iconst (v := 0) hx hb dX5_clear_14 (by decide) ?_
  refine c_put (v := .int 0) (ty := .int) (C := RX5) (Tc := TX5) (N := 19) (ci := 4) hx hb hq pin_wsX50 tyX5 tyX5_ok nmX5 hown hE hP hD hS hO 28 (sg_28 G h0 a _ _ _ _ _) rfl 17 (by decide) (hq _ pw_501) (fun _ h9 => h9) rfl (by decide +kernel) rfl rfl (Nat.le_of_ble_eq_true rfl) (sf_24 G h0 a _ _ _ _ _ 0) dX5_clear_15 (fun H locs w hP hD hS hO => ?_)
  refine lv_aload_n hx hb dX5_clear_18 rfl (lv_at hl 0 rfl) ?_
  refine lv_iconst (v := 0) hx hb dX5_clear_19 (by decide) ?_
  refine c_put (v := .int 0) (ty := .int) (C := RX5) (Tc := TX5) (N := 19) (ci := 4) hx hb hq pin_wsX50 tyX5 tyX5_ok nmX5 hown hE hP hD hS hO 28 (sg_28 G h0 a _ _ _ _ _) rfl 15 (by decide) (hq _ pw_502) (fun _ h9 => h9) rfl (by decide +kernel) rfl rfl (Nat.le_of_ble_eq_true rfl) (sf_22 G h0 a _ _ _ _ _ 0) dX5_clear_20 (fun H locs w hP hD hS hO => ?_)
  refine lv_aload_n hx hb dX5_clear_23 rfl (lv_at hl 0 rfl) ?_
  refine lv_null hx hb dX5_clear_24 ?_
  refine c_put (v := .null) (ty := (.object "JinjaTongue$Method")) (C := RX5) (Tc := TX5) (N := 19) (ci := 4) hx hb hq pin_wsX50 tyX5 tyX5_ok nmX5 hown hE hP hD hS hO 28 (sg_28 G h0 a _ _ _ _ _) rfl 9 (by decide) (hq _ pw_503) (fun _ h9 => h9) rfl (by decide +kernel) rfl rfl (Nat.le_of_ble_eq_true rfl) (sr_6 G h0 a _ _ _ _ _ (.null)) dX5_clear_25 (fun H locs w hP hD hS hO => ?_)
  refine lv_aload_n hx hb dX5_clear_28 rfl (lv_at hl 0 rfl) ?_
  refine lv_iconst (v := 0) hx hb dX5_clear_29 (by decide) ?_
  refine c_put (v := .int 0) (ty := .int) (C := RX5) (Tc := TX5) (N := 19) (ci := 4) hx hb hq pin_wsX50 tyX5 tyX5_ok nmX5 hown hE hP hD hS hO 28 (sg_28 G h0 a _ _ _ _ _) rfl 10 (by decide) (hq _ pw_504) (fun _ h9 => h9) rfl (by decide +kernel) rfl rfl (Nat.le_of_ble_eq_true rfl) (sf_18 G h0 a _ _ _ _ _ 0) dX5_clear_30 (fun H locs w hP hD hS hO => ?_)
  refine lv_aload_n hx hb dX5_clear_33 rfl (lv_at hl 0 rfl) ?_
  refine lv_iconst (v := 0) hx hb dX5_clear_34 (by decide) ?_
  refine c_put (v := .int 0) (ty := .int) (C := RX5) (Tc := TX5) (N := 19) (ci := 4) hx hb hq pin_wsX50 tyX5 tyX5_ok nmX5 hown hE hP hD hS hO 28 (sg_28 G h0 a _ _ _ _ _) rfl 11 (by decide) (hq _ pw_505) (fun _ h9 => h9) rfl (by decide +kernel) rfl rfl (Nat.le_of_ble_eq_true rfl) (sf_19 G h0 a _ _ _ _ _ 0) dX5_clear_35 (fun H locs w hP hD hS hO => ?_)
  refine lv_aload_n hx hb dX5_clear_38 rfl (lv_at hl 0 rfl) ?_
  refine lv_iconst (v := 0) hx hb dX5_clear_39 (by decide) ?_
  refine c_put (v := .int 0) (ty := .int) (C := RX5) (Tc := TX5) (N := 19) (ci := 4) hx hb hq pin_wsX50 tyX5 tyX5_ok nmX5 hown hE hP hD hS hO 28 (sg_28 G h0 a _ _ _ _ _) rfl 12 (by decide) (hq _ pw_506) (fun _ h9 => h9) rfl (by decide +kernel) rfl rfl (Nat.le_of_ble_eq_true rfl) (sf_20 G h0 a _ _ _ _ _ 0) dX5_clear_40 (fun H locs w hP hD hS hO => ?_)
  have hO : OKW G h0 a (upd (upd (upd (upd (upd F 18 0) 19 0) 20 0) 22 0) 24 0) (updR R 6 (.null)) 0 (updA B 33 f4) J T Pi w := hO.to rfl
  exact W.vret hx hb hr (fun t99 ht99 hW99 => ⟨⟨_, (w, f4), rfl, ⟨rfl, hO⟩, by rw [ht99]; exact hP, hD⟩, hS.F ht99⟩) hS.2.2 dX5_clear_43
theorem dX5_uncaught_0 : decode cX5_uncaught 0 = .ok (.aload_n 0, 1) := by decide +kernel
theorem dX5_uncaught_1 : decode cX5_uncaught 1 = .ok (.getfield 43, 3) := by decide +kernel
theorem dX5_uncaught_4 : decode cX5_uncaught 4 = .ok (.lconst 0, 1) := by decide +kernel
theorem dX5_uncaught_5 : decode cX5_uncaught 5 = .ok (.lcmp, 1) := by decide +kernel
theorem dX5_uncaught_6 : decode cX5_uncaught 6 = .ok (.ifCond .eq 10, 3) := by decide +kernel
theorem dX5_uncaught_16 : decode cX5_uncaught 16 = .ok (.aconst_null, 1) := by decide +kernel
theorem dX5_uncaught_17 : decode cX5_uncaught 17 = .ok (.goto 21, 3) := by decide +kernel
theorem dX5_uncaught_38 : decode cX5_uncaught 38 = .ok (.astore_n 2, 1) := by decide +kernel
theorem dX5_uncaught_39 : decode cX5_uncaught 39 = .ok (.aload_n 2, 1) := by decide +kernel
theorem dX5_uncaught_40 : decode cX5_uncaught 40 = .ok (.ifnull 20, 3) := by decide +kernel
theorem dX5_uncaught_60 : decode cX5_uncaught 60 = .ok (.iconst (-1), 1) := by decide +kernel
theorem dX5_uncaught_61 : decode cX5_uncaught 61 = .ok (.ireturn, 1) := by decide +kernel
theorem dX5_uncaught_9 : decode cX5_uncaught 9 = .ok (.aload_n 0, 1) := by decide +kernel
theorem dX5_uncaught_10 : decode cX5_uncaught 10 = .ok (.getfield 47, 3) := by decide +kernel
theorem dX5_uncaught_13 : decode cX5_uncaught 13 = .ok (.ifnonnull 7, 3) := by decide +kernel
set_option maxHeartbeats 2000000 in
set_option maxRecDepth 100000 in
theorem M_uncaughtN (l : Launch) (G : pT) (h0 : Nat) (a : Nat → Nat) (F : Nat → Int32) (R : Nat → Value) (Z : Int64) (B : Nat → Nat → Int32) (J : Nat → Nat → Int64) (T : Nat → Nat) (Pi : Nat → va_E → Prop) (w : va_W) (x : Int32) (hO : OKW G h0 a F (updR R 5 (.null)) Z B J T Pi w) : PM l G pX0 yX5_uncaught cX5_uncaught 5 (some .int) ({ frames := 2, cells := 0, slots := 0, locals := 60 }) [.ref (a 5), .int x] w (fun (v : Option Value) (u : va_W × (Int32)) => v = some (.int u.2) ∧ (OKW G h0 a F (updR R 5 (.null)) Z B J T Pi u.1)) (fun u => u.1) := by
  intro sz
  refine Met.ofW (cc := cX5_uncaught) (maxL := 5) (ret := (some .int)) (by decide) rfl ?_
  intro p e s m args below meth c s₁ B9 hml hv
  obtain ⟨rfl, hsz, hP, hD0, hE, hX⟩ := hv
  have hx := B9.exec
  have hb := B9.bytes
  have hr := B9.returns
  have hts := atoms_spec (ws := Cond.code yX5_uncaught cX5_uncaught 5 (some .int) :: pw) B9.pre
  have hq : ∀ w ∈ pw, w.before _ s = true := fun w h => hts w (List.mem_cons_of_mem _ h)
  have hown : s.vm.findClass RX5 = some m.cls := findClass_of_methodNamed B9.named
  have hlocks := B9.notSynchronized
  subst hsz
  have hD := hD0.self (sz := s.heap.size)
  have hA : ∀ q : Nat, s.heap.size ≤ q → va_A w s.heap.size q := fun q h => Or.inr h
  generalize va_A w s.heap.size = A at hD hE hA ⊢
  have hS : va_S A s.heap s.heap [] := va_S.rf
  have hl := lv_entry ([.ref (a 5), .int x]) (n := 5) (Nat.le_of_ble_eq_true rfl)
  rw [lg_entry_eq]
  generalize (lg_sl ([.ref (a 5), .int x]) ++ List.replicate (5 - (lg_sl ([.ref (a 5), .int x])).length) Slot.unset).toArray = ls at hl ⊢
  have hl : lv_has ls 5 [(0, .ref (a 5)), (1, .int x)] := hl
  refine lv_aload_n hx hb dX5_uncaught_0 rfl (lv_at hl 0 rfl) ?_
  refine c_get (v := .long Z) (C := RX5) (Tc := TX5) (N := 19) (ci := 4) hx hb hq pin_wsX50 hown hE hP hO 28 (sg_28 G h0 a _ _ _ _ _) rfl 14 (by decide) (hq _ pw_485) (fun _ h9 => h9) rfl dX5_uncaught_1 ?_
  refine lv_lconst (v := 0) hx hb dX5_uncaught_4 (by decide) ?_
  refine W.lcmp hx hb dX5_uncaught_5 ?_
  refine lv_topi (fun x1 e2 => ?_)
  refine lv_if_eq (tgt := 16) hx hb dX5_uncaught_6 (by decide) (fun c3 => ?_) (fun c3 => ?_)
  · refine lv_null hx hb dX5_uncaught_16 ?_
    refine lv_goto (tgt := 38) hx hb dX5_uncaught_17 (by decide) ?_
    refine lv_astore_nN (lv' := [(2, .null), (0, .ref (a 5)), (1, .int x)]) hx hb dX5_uncaught_38 rfl hl (by decide) rfl (fun ls hl => ?_)
    refine lv_aload_nN hx hb dX5_uncaught_39 rfl (lv_at hl 0 rfl) ?_
    refine lv_ifnullN (tgt := 60) hx hb dX5_uncaught_40 (by decide) ?_
    refine lv_iconst (v := (-1)) hx hb dX5_uncaught_60 (by decide) ?_
    have hO : OKW G h0 a F (updR R 5 (.null)) Z B J T Pi w := hO.to rfl
    exact W.iret (v := (-1)) hx hb hr (fun t99 ht99 hW99 => ⟨⟨_, (w, ((-1) : Int32)), rfl, ⟨rfl, hO⟩, by rw [ht99]; exact hP, hD⟩, hS.F ht99⟩) hS.2.2 dX5_uncaught_61
  · refine lv_aload_n hx hb dX5_uncaught_9 rfl (lv_at hl 0 rfl) ?_
    refine c_get (v := .null) (C := RX5) (Tc := TX5) (N := 19) (ci := 4) hx hb hq pin_wsX50 hown hE hP hO 28 (sg_28 G h0 a _ _ _ _ _) rfl 8 (by decide) (hq _ pw_486) (fun _ h9 => h9) rfl dX5_uncaught_10 ?_
    refine lv_ifnonnullN hx hb dX5_uncaught_13 ?_
    refine lv_null hx hb dX5_uncaught_16 ?_
    refine lv_goto (tgt := 38) hx hb dX5_uncaught_17 (by decide) ?_
    refine lv_astore_nN (lv' := [(2, .null), (0, .ref (a 5)), (1, .int x)]) hx hb dX5_uncaught_38 rfl hl (by decide) rfl (fun ls hl => ?_)
    refine lv_aload_nN hx hb dX5_uncaught_39 rfl (lv_at hl 0 rfl) ?_
    refine lv_ifnullN (tgt := 60) hx hb dX5_uncaught_40 (by decide) ?_
    refine lv_iconst (v := (-1)) hx hb dX5_uncaught_60 (by decide) ?_
    have hO : OKW G h0 a F (updR R 5 (.null)) Z B J T Pi w := hO.to rfl
    exact W.iret (v := (-1)) hx hb hr (fun t99 ht99 hW99 => ⟨⟨_, (w, ((-1) : Int32)), rfl, ⟨rfl, hO⟩, by rw [ht99]; exact hP, hD⟩, hS.F ht99⟩) hS.2.2 dX5_uncaught_61
theorem dX5_uncaught_20 : decode cX5_uncaught 20 = .ok (.aload_n 0, 1) := by decide +kernel
theorem dX5_uncaught_21 : decode cX5_uncaught 21 = .ok (.getfield 47, 3) := by decide +kernel
theorem dX5_uncaught_24 : decode cX5_uncaught 24 = .ok (.aload_n 0, 1) := by decide +kernel
theorem dX5_uncaught_25 : decode cX5_uncaught 25 = .ok (.getfield 18, 3) := by decide +kernel
theorem dX5_uncaught_28 : decode cX5_uncaught 28 = .ok (.aload_n 0, 1) := by decide +kernel
theorem dX5_uncaught_29 : decode cX5_uncaught 29 = .ok (.getfield 43, 3) := by decide +kernel
theorem dX5_uncaught_32 : decode cX5_uncaught 32 = .ok (.invokevirtual 51, 3) := by decide +kernel
theorem dX5_uncaught_35 : decode cX5_uncaught 35 = .ok (.invokevirtual 55, 3) := by decide +kernel
theorem dX5_uncaught_43 : decode cX5_uncaught 43 = .ok (.iload_n 1, 1) := by decide +kernel
theorem dX5_uncaught_44 : decode cX5_uncaught 44 = .ok (.ifCond .lt 16, 3) := by decide +kernel
theorem dX5_uncaught_47 : decode cX5_uncaught 47 = .ok (.iload_n 1, 1) := by decide +kernel
theorem dX5_uncaught_48 : decode cX5_uncaught 48 = .ok (.iconst 2, 1) := by decide +kernel
theorem dX5_uncaught_49 : decode cX5_uncaught 49 = .ok (.isub, 1) := by decide +kernel
theorem dX5_uncaught_50 : decode cX5_uncaught 50 = .ok (.aload_n 2, 1) := by decide +kernel
theorem dX5_uncaught_51 : decode cX5_uncaught 51 = .ok (.getfield 61, 3) := by decide +kernel
theorem dX5_uncaught_54 : decode cX5_uncaught 54 = .ok (.invokevirtual 67, 3) := by decide +kernel
theorem dX5_uncaught_57 : decode cX5_uncaught 57 = .ok (.if_icmp .lt 5, 3) := by decide +kernel
theorem dX5_uncaught_62 : decode cX5_uncaught 62 = .ok (.iload_n 1, 1) := by decide +kernel
theorem dX5_uncaught_63 : decode cX5_uncaught 63 = .ok (.iconst 2, 1) := by decide +kernel
theorem dX5_uncaught_64 : decode cX5_uncaught 64 = .ok (.if_icmp .ge 22, 3) := by decide +kernel
theorem dX5_uncaught_86 : decode cX5_uncaught 86 = .ok (.aload_n 0, 1) := by decide +kernel
theorem dX5_uncaught_87 : decode cX5_uncaught 87 = .ok (.getfield 18, 3) := by decide +kernel
theorem dX5_uncaught_90 : decode cX5_uncaught 90 = .ok (.aload_n 0, 1) := by decide +kernel
theorem dX5_uncaught_91 : decode cX5_uncaught 91 = .ok (.getfield 43, 3) := by decide +kernel
theorem dX5_uncaught_94 : decode cX5_uncaught 94 = .ok (.iload_n 1, 1) := by decide +kernel
theorem dX5_uncaught_95 : decode cX5_uncaught 95 = .ok (.iconst 2, 1) := by decide +kernel
theorem dX5_uncaught_96 : decode cX5_uncaught 96 = .ok (.isub, 1) := by decide +kernel
theorem dX5_uncaught_97 : decode cX5_uncaught 97 = .ok (.invokevirtual 76, 3) := by decide +kernel
theorem dX5_uncaught_100 : decode cX5_uncaught 100 = .ok (.lstore_n 3, 1) := by decide +kernel
theorem dX5_uncaught_101 : decode cX5_uncaught 101 = .ok (.lload_n 3, 1) := by decide +kernel
theorem dX5_uncaught_102 : decode cX5_uncaught 102 = .ok (.invokestatic 80, 3) := by decide +kernel
theorem dX5_uncaught_105 : decode cX5_uncaught 105 = .ok (.ifCond .eq 7, 3) := by decide +kernel
theorem dX5_uncaught_112 : decode cX5_uncaught 112 = .ok (.lload_n 3, 1) := by decide +kernel
theorem dX5_uncaught_113 : decode cX5_uncaught 113 = .ok (.l2i, 1) := by decide +kernel
theorem dX5_uncaught_114 : decode cX5_uncaught 114 = .ok (.ireturn, 1) := by decide +kernel
theorem dX5_uncaught_108 : decode cX5_uncaught 108 = .ok (.iconst 1, 1) := by decide +kernel
theorem dX5_uncaught_109 : decode cX5_uncaught 109 = .ok (.goto 5, 3) := by decide +kernel
theorem dX5_uncaught_67 : decode cX5_uncaught 67 = .ok (.iload_n 1, 1) := by decide +kernel
theorem dX5_uncaught_68 : decode cX5_uncaught 68 = .ok (.ifCond .ne 10, 3) := by decide +kernel
theorem dX5_uncaught_78 : decode cX5_uncaught 78 = .ok (.aload_n 2, 1) := by decide +kernel
theorem dX5_uncaught_79 : decode cX5_uncaught 79 = .ok (.getfield 61, 3) := by decide +kernel
theorem dX5_uncaught_82 : decode cX5_uncaught 82 = .ok (.invokevirtual 67, 3) := by decide +kernel
theorem dX5_uncaught_85 : decode cX5_uncaught 85 = .ok (.ireturn, 1) := by decide +kernel
theorem dX5_uncaught_71 : decode cX5_uncaught 71 = .ok (.aload_n 2, 1) := by decide +kernel
theorem dX5_uncaught_72 : decode cX5_uncaught 72 = .ok (.getfield 73, 3) := by decide +kernel
theorem dX5_uncaught_75 : decode cX5_uncaught 75 = .ok (.goto 10, 3) := by decide +kernel
set_option maxHeartbeats 16000000 in
set_option maxRecDepth 100000 in
theorem M_uncaught (l : Launch) (G : pT) (h0 : Nat) (a : Nat → Nat) (F : Nat → Int32) (R : Nat → Value) (Z : Int64) (B : Nat → Nat → Int32) (J : Nat → Nat → Int64) (K : PK) (w : va_W) (x : Int32) (sp : Nat) (op : Nat) (ht : Nat) (pq : Nat) (dr : Nat) (ml : Nat) (nd : Nat) (nm : Nat) (cp : Nat) (it : Nat → Nat) (s9 : Nat) (g : Nat → Nat → Nat) (rk : Nat → Nat) (hsp : (sp = 34 ∧ op = 35) ∨ (sp = 35 ∧ op = 34)) (hht : 8 ≤ ht ∧ ht ≤ 3008) (hwp : WPr G K g) (hps : PgT G K g (a 1) pq dr ml nd nm cp it s9) (hrk : RkO K rk) (hO : OKP G h0 a (upd F 26 (nI ht)) (updR (updR (updR R 5 (.ref pq)) 7 (.ref (a sp))) 8 (.ref (a op))) Z B J K w) : PM l G pX0 yX5_uncaught cX5_uncaught 5 (some .int) ({ frames := 6, cells := 0, slots := 0, locals := 153 }) [.ref (a 5), .int x] w (fun (v : Option Value) (u : va_W × (Int32)) => v = some (.int u.2) ∧ (OKP G h0 a (upd F 26 (nI ht)) (updR (updR (updR R 5 (.ref pq)) 7 (.ref (a sp))) 8 (.ref (a op))) Z B J K u.1)) (fun u => u.1) := by
  intro sz
  refine Met.ofW (cc := cX5_uncaught) (maxL := 5) (ret := (some .int)) (by decide) rfl ?_
  intro p e s m args below meth c s₁ B9 hml hv
  obtain ⟨rfl, hsz, hP, hD0, hE, hX⟩ := hv
  have hx := B9.exec
  have hb := B9.bytes
  have hr := B9.returns
  have hts := atoms_spec (ws := Cond.code yX5_uncaught cX5_uncaught 5 (some .int) :: pw) B9.pre
  have hq : ∀ w ∈ pw, w.before _ s = true := fun w h => hts w (List.mem_cons_of_mem _ h)
  have hown : s.vm.findClass RX5 = some m.cls := findClass_of_methodNamed B9.named
  have hlocks := B9.notSynchronized
  subst hsz
  have hD := hD0.self (sz := s.heap.size)
  have hA : ∀ q : Nat, s.heap.size ≤ q → va_A w s.heap.size q := fun q h => Or.inr h
  generalize va_A w s.heap.size = A at hD hE hA ⊢
  have hS : va_S A s.heap s.heap [] := va_S.rf
  have hl := lv_entry ([.ref (a 5), .int x]) (n := 5) (Nat.le_of_ble_eq_true rfl)
  rw [lg_entry_eq]
  generalize (lg_sl ([.ref (a 5), .int x]) ++ List.replicate (5 - (lg_sl ([.ref (a 5), .int x])).length) Slot.unset).toArray = ls at hl ⊢
  have hl : lv_has ls 5 [(0, .ref (a 5)), (1, .int x)] := hl
  have hpg := hps.1
  have hp1 := hpg.1
  have hp2 := hpg.2.1
  have hp3 := hpg.2.2.1
  have hp4 := hpg.2.2.2.1
  have hp5 := hpg.2.2.2.2.1
  have hp6 := hpg.2.2.2.2.2.1
  have hp8 := hpg.2.2.2.2.2.2.2.1
  have hp9 := hpg.2.2.2.2.2.2.2.2
  refine lv_aload_n hx hb dX5_uncaught_0 rfl (lv_at hl 0 rfl) ?_
  refine c_get (v := .long Z) (C := RX5) (Tc := TX5) (N := 19) (ci := 4) hx hb hq pin_wsX50 hown hE hP hO 28 (sg_28 G h0 a _ _ _ _ _) rfl 14 (by decide) (hq _ pw_485) (fun _ h9 => h9) rfl dX5_uncaught_1 ?_
  refine lv_lconst (v := 0) hx hb dX5_uncaught_4 (by decide) ?_
  refine W.lcmp hx hb dX5_uncaught_5 ?_
  refine lv_topi (fun x1 e2 => ?_)
  refine lv_if_eq (tgt := 16) hx hb dX5_uncaught_6 (by decide) (fun c3 => ?_) (fun c3 => ?_)
  · refine lv_null hx hb dX5_uncaught_16 ?_
    refine lv_goto (tgt := 38) hx hb dX5_uncaught_17 (by decide) ?_
    refine lv_astore_nN (lv' := [(2, .null), (0, .ref (a 5)), (1, .int x)]) hx hb dX5_uncaught_38 rfl hl (by decide) rfl (fun ls hl => ?_)
    refine lv_aload_nN hx hb dX5_uncaught_39 rfl (lv_at hl 0 rfl) ?_
    refine lv_ifnullN (tgt := 60) hx hb dX5_uncaught_40 (by decide) ?_
    refine lv_iconst (v := (-1)) hx hb dX5_uncaught_60 (by decide) ?_
    have hO : OKP G h0 a (upd F 26 (nI ht)) (updR (updR (updR R 5 (.ref pq)) 7 (.ref (a sp))) 8 (.ref (a op))) Z B J K w := hO.to rfl
    exact W.iret (v := (-1)) hx hb hr (fun t99 ht99 hW99 => ⟨⟨_, (w, ((-1) : Int32)), rfl, ⟨rfl, hO⟩, by rw [ht99]; exact hP, hD⟩, hS.F ht99⟩) hS.2.2 dX5_uncaught_61
  · refine lv_aload_n hx hb dX5_uncaught_9 rfl (lv_at hl 0 rfl) ?_
    refine c_get (v := .ref pq) (C := RX5) (Tc := TX5) (N := 19) (ci := 4) hx hb hq pin_wsX50 hown hE hP hO 28 (sg_28 G h0 a _ _ _ _ _) rfl 8 (by decide) (hq _ pw_486) (fun _ h9 => h9) rfl dX5_uncaught_10 ?_
    refine lv_ifnonnull (tgt := 20) hx hb dX5_uncaught_13 (by decide) ?_
    refine lv_aload_n hx hb dX5_uncaught_20 rfl (lv_at hl 0 rfl) ?_
    refine c_get (v := .ref pq) (C := RX5) (Tc := TX5) (N := 19) (ci := 4) hx hb hq pin_wsX50 hown hE hP hO 28 (sg_28 G h0 a _ _ _ _ _) rfl 8 (by decide) (hq _ pw_486) (fun _ h9 => h9) rfl dX5_uncaught_21 ?_
    refine lv_aload_n hx hb dX5_uncaught_24 rfl (lv_at hl 0 rfl) ?_
    refine c_get (v := .ref (a 28)) (C := RX5) (Tc := TX5) (N := 19) (ci := 4) hx hb hq pin_wsX50 hown hE hP hO 28 (sg_28 G h0 a _ _ _ _ _) rfl 1 (by decide) (hq _ pw_473) (fun _ h9 => h9) rfl dX5_uncaught_25 ?_
    refine lv_aload_n hx hb dX5_uncaught_28 rfl (lv_at hl 0 rfl) ?_
    refine c_get (v := .long Z) (C := RX5) (Tc := TX5) (N := 19) (ci := 4) hx hb hq pin_wsX50 hown hE hP hO 28 (sg_28 G h0 a _ _ _ _ _) rfl 14 (by decide) (hq _ pw_485) (fun _ h9 => h9) rfl dX5_uncaught_29 ?_
    have hO : OKW G h0 a (upd (upd F 26 (nI ht)) 26 (nI ht)) (updR (updR (updR (updR (updR R 5 (.ref pq)) 7 (.ref (a sp))) 8 (.ref (a op))) 7 (.ref (a sp))) 8 (.ref (a op))) Z B J K.1 (fun q99 x99 => x99 = rep G a K q99) w := hO.to rfl
    obtain ⟨_, qr7, hqr8⟩ := hO.2.1 29 _ (sg_29 G h0 a _ _ _ _ _)
    refine pc_V0 (G := G) (As := [.long Z]) (rest := [.ref pq]) hx hb hml hown hq hE hX pX0_al hP hD hS hA hl.1 (K_typeOf l G h0 a (upd F 26 (nI ht)) (updR (updR (updR R 5 (.ref pq)) 7 (.ref (a sp))) 8 (.ref (a op))) Z B J K.1 (fun q99 x99 => x99 = rep G a K q99) w Z sp op ht hsp (by omega) hO) (gV pw_489 pw_490 pw_491 pw_440 pw_441) hV_X3_typeOf qr7 3 hqr8 rfl rfl rfl (Nat.le_of_ble_eq_true rfl) dX5_uncaught_32 ⟨Nat.le_of_ble_eq_true rfl, Nat.le_of_ble_eq_true rfl⟩ ⟨Nat.le_of_ble_eq_true rfl, Nat.le_of_ble_eq_true rfl⟩ (fun v6 u4 H locs hw5 hP hD hS => ?_)
    obtain ⟨w, r9⟩ := u4
    obtain ⟨hw5, hO⟩ := hw5
    obtain rfl : v6 = some (.int r9) := hw5
    have hO : OKP G h0 a (upd F 26 (nI ht)) (updR (updR (updR R 5 (.ref pq)) 7 (.ref (a sp))) 8 (.ref (a op))) Z B J K w := hO.to rfl
    refine W.widen (k := 0) (n := 0) (Nat.le_of_ble_eq_true rfl) (Nat.le_of_ble_eq_true rfl) ?_
    refine W.eq (g2 := F0 m 35 ls [.int r9, .ref pq]) rfl ?_
    have hO : OKP G h0 a (upd F 26 (nI ht)) (updR (updR (updR R 5 (.ref pq)) 7 (.ref (a sp))) 8 (.ref (a op))) Z B J K w := hO.to rfl
    obtain ⟨qr13, hqr14⟩ := p_recv hO (by rw [hp1]; decide) (rep_7 hp1)
    refine pc_V0 (G := G) (As := [.int r9]) (rest := []) hx hb hml hown hq hE hX pX0_al hP hD hS hA hl.1 (G_decl l G h0 a (upd F 26 (nI ht)) (updR (updR (updR R 5 (.ref pq)) 7 (.ref (a sp))) 8 (.ref (a op))) Z B J K w pq dr ml nd r9 g hps.1 hps.2.1 hO) (gV pw_492 pw_182 pw_183 pw_106 pw_13) hV_X9_decl qr13 6 hqr14 rfl rfl rfl (Nat.le_of_ble_eq_true rfl) dX5_uncaught_35 ⟨Nat.le_of_ble_eq_true rfl, Nat.le_of_ble_eq_true rfl⟩ ⟨Nat.le_of_ble_eq_true rfl, Nat.le_of_ble_eq_true rfl⟩ (fun v12 u10 H locs hw11 hP hD hS => ?_)
    obtain ⟨w, o15⟩ := u10
    obtain ⟨hw11, h16, h17, hO⟩ := hw11
    have h16 : DoN K o15 := h16
    have h17 : DoK K dr nd r9 o15 := h17
    obtain rfl : v12 = some ((va_rf o15)) := hw11
    have hO : OKP G h0 a (upd F 26 (nI ht)) (updR (updR (updR R 5 (.ref pq)) 7 (.ref (a sp))) 8 (.ref (a op))) Z B J K w := hO.to rfl
    refine W.widen (k := 0) (n := 0) (Nat.le_of_ble_eq_true rfl) (Nat.le_of_ble_eq_true rfl) ?_
    refine W.eq (g2 := F0 m 38 ls [(va_rf o15)]) rfl ?_
    rcases o15 with _ | d18
    · have hl : lv_has ls 5 [(0, .ref (a 5)), (1, .int x)] := hl
      refine W.eq (g2 := F0 m 38 ls [.null]) rfl ?_
      refine lv_astore_nN (lv' := [(2, .null), (0, .ref (a 5)), (1, .int x)]) hx hb dX5_uncaught_38 rfl hl (by decide) rfl (fun ls hl => ?_)
      refine lv_aload_nN hx hb dX5_uncaught_39 rfl (lv_at hl 0 rfl) ?_
      refine lv_ifnullN (tgt := 60) hx hb dX5_uncaught_40 (by decide) ?_
      refine lv_iconst (v := (-1)) hx hb dX5_uncaught_60 (by decide) ?_
      have hO : OKP G h0 a (upd F 26 (nI ht)) (updR (updR (updR R 5 (.ref pq)) 7 (.ref (a sp))) 8 (.ref (a op))) Z B J K w := hO.to rfl
      exact W.iret (v := (-1)) hx hb hr (fun t99 ht99 hW99 => ⟨⟨_, (w, ((-1) : Int32)), rfl, ⟨rfl, hO⟩, by rw [ht99]; exact hP, hD⟩, hS.F ht99⟩) hS.2.2 dX5_uncaught_61
    · have hl : lv_has ls 5 [(0, .ref (a 5)), (1, .int x)] := hl
      refine W.eq (g2 := F0 m 38 ls [.ref d18]) rfl ?_
      have hdT := h16 d18 rfl
      obtain ⟨lm, hflm, htlm, hrlm, holm⟩ := (hwp.2.2.1 d18 hdT).2.2.1
      obtain ⟨nlm, itlm, cplm, hlclm, hnblm, hcblm⟩ := hwp.2.1 lm htlm
      rw [hrlm] at hlclm hnblm
      have hnclm := hlclm.2.2.1
      have hnblm : nlm ≤ 5000 := hnblm
      have hlclm : LsC G K lm 1 nlm itlm cplm := hlclm
      refine lv_astore_n (lv' := [(2, .ref d18), (0, .ref (a 5)), (1, .int x)]) hx hb dX5_uncaught_38 rfl hl (by decide) rfl (fun ls hl => ?_)
      refine lv_aload_n hx hb dX5_uncaught_39 rfl (lv_at hl 0 rfl) ?_
      refine lv_ifnull hx hb dX5_uncaught_40 ?_
      refine lv_iload_n hx hb dX5_uncaught_43 rfl (lv_at hl 2 rfl) ?_
      refine lv_if_lt (tgt := 60) hx hb dX5_uncaught_44 (by decide) (fun c19 => ?_) (fun c19 => ?_)
      · refine lv_iconst (v := (-1)) hx hb dX5_uncaught_60 (by decide) ?_
        have hO : OKP G h0 a (upd F 26 (nI ht)) (updR (updR (updR R 5 (.ref pq)) 7 (.ref (a sp))) 8 (.ref (a op))) Z B J K w := hO.to rfl
        exact W.iret (v := (-1)) hx hb hr (fun t99 ht99 hW99 => ⟨⟨_, (w, ((-1) : Int32)), rfl, ⟨rfl, hO⟩, by rw [ht99]; exact hP, hD⟩, hS.F ht99⟩) hS.2.2 dX5_uncaught_61
      · refine lv_iload_n hx hb dX5_uncaught_47 rfl (lv_at hl 2 rfl) ?_
        refine lv_iconst (v := 2) hx hb dX5_uncaught_48 (by decide) ?_
        refine lv_isub hx hb dX5_uncaught_49 ?_
        refine lv_topi (fun x20 e21 => ?_)
        refine lv_aload_n hx hb dX5_uncaught_50 rfl (lv_at hl 0 rfl) ?_
        refine p_get (v := .ref lm) (C := RX2) (Tc := TX2) (N := 13) (ci := 2) hx hb hq pin_wsX20 hown hE hP hO (by rw [hdT]; decide) (rep_4 hdT) rfl 11 (by decide) (hq _ pw_487) (fun _ h9 => h9) (congrArg (fun z => some (va_rf z)) hflm) dX5_uncaught_51 ?_
        have hO : OKP G h0 a (upd F 26 (nI ht)) (updR (updR (updR R 5 (.ref pq)) 7 (.ref (a sp))) 8 (.ref (a op))) Z B J K w := hO.to rfl
        obtain ⟨qr25, hqr26⟩ := p_recv hO (by rw [htlm]; decide) (rep_5 htlm)
        refine pc_V0 (G := G) (As := []) (rest := [.int x20]) hx hb hml hown hq hE hX pX0_al hP hD hS hA hl.1 (L_size l G h0 a (upd F 26 (nI ht)) (updR (updR (updR R 5 (.ref pq)) 7 (.ref (a sp))) 8 (.ref (a op))) Z B J K w lm 1 nlm itlm hlclm.ls hO) (gV pw_493 pw_87 pw_88 pw_32 pw_16) hV_Jx4a65c_size_8abf5 qr25 10 hqr26 rfl rfl rfl (Nat.le_of_ble_eq_true rfl) dX5_uncaught_54 ⟨Nat.le_of_ble_eq_true rfl, Nat.le_of_ble_eq_true rfl⟩ ⟨Nat.le_of_ble_eq_true rfl, Nat.le_of_ble_eq_true rfl⟩ (fun v24 u22 H locs hw23 hP hD hS => ?_)
        obtain ⟨w, _⟩ := u22
        obtain ⟨hw23, hO⟩ := hw23
        obtain rfl : v24 = some (.int (nI nlm)) := hw23
        have hO : OKP G h0 a (upd F 26 (nI ht)) (updR (updR (updR R 5 (.ref pq)) 7 (.ref (a sp))) 8 (.ref (a op))) Z B J K w := hO.to rfl
        refine W.widen (k := 0) (n := 0) (Nat.le_of_ble_eq_true rfl) (Nat.le_of_ble_eq_true rfl) ?_
        refine W.eq (g2 := F0 m 57 ls [.int (nI nlm), .int x20]) rfl ?_
        refine lv_icmp_lt (tgt := 62) hx hb dX5_uncaught_57 (by decide) (fun c27 => ?_) (fun c27 => ?_)
        · refine lv_iload_n hx hb dX5_uncaught_62 rfl (lv_at hl 2 rfl) ?_
          refine lv_iconst (v := 2) hx hb dX5_uncaught_63 (by decide) ?_
          refine lv_icmp_ge (tgt := 86) hx hb dX5_uncaught_64 (by decide) (fun c28 => ?_) (fun c28 => ?_)
          · refine lv_aload_n hx hb dX5_uncaught_86 rfl (lv_at hl 1 rfl) ?_
            refine c_get (v := .ref (a 28)) (C := RX5) (Tc := TX5) (N := 19) (ci := 4) hx hb hq pin_wsX50 hown hE hP hO 28 (sg_28 G h0 a _ _ _ _ _) rfl 1 (by decide) (hq _ pw_473) (fun _ h9 => h9) rfl dX5_uncaught_87 ?_
            refine lv_aload_n hx hb dX5_uncaught_90 rfl (lv_at hl 1 rfl) ?_
            refine c_get (v := .long Z) (C := RX5) (Tc := TX5) (N := 19) (ci := 4) hx hb hq pin_wsX50 hown hE hP hO 28 (sg_28 G h0 a _ _ _ _ _) rfl 14 (by decide) (hq _ pw_485) (fun _ h9 => h9) rfl dX5_uncaught_91 ?_
            refine lv_iload_n hx hb dX5_uncaught_94 rfl (lv_at hl 2 rfl) ?_
            refine lv_iconst (v := 2) hx hb dX5_uncaught_95 (by decide) ?_
            refine lv_isub hx hb dX5_uncaught_96 ?_
            refine lv_topi (fun x29 e30 => ?_)
            have hO : OKW G h0 a (upd (upd F 26 (nI ht)) 26 (nI ht)) (updR (updR (updR (updR (updR R 5 (.ref pq)) 7 (.ref (a sp))) 8 (.ref (a op))) 7 (.ref (a sp))) 8 (.ref (a op))) Z B J K.1 (fun q99 x99 => x99 = rep G a K q99) w := hO.to rfl
            obtain ⟨_, qr34, hqr35⟩ := hO.2.1 29 _ (sg_29 G h0 a _ _ _ _ _)
            refine pc_V0 (G := G) (As := [.long Z, .int x29]) (rest := []) hx hb hml hown hq hE hX pX0_al hP hD hS hA hl.1 (K_get l G h0 a (upd F 26 (nI ht)) (updR (updR (updR R 5 (.ref pq)) 7 (.ref (a sp))) 8 (.ref (a op))) Z B J K.1 (fun q99 x99 => x99 = rep G a K q99) w Z x29 sp op ht hsp (by omega) hO) (gV pw_494 pw_495 pw_496 pw_440 pw_452) hV_X3_get qr34 3 hqr35 rfl rfl rfl (Nat.le_of_ble_eq_true rfl) dX5_uncaught_97 ⟨Nat.le_of_ble_eq_true rfl, Nat.le_of_ble_eq_true rfl⟩ ⟨Nat.le_of_ble_eq_true rfl, Nat.le_of_ble_eq_true rfl⟩ (fun v33 u31 H locs hw32 hP hD hS => ?_)
            obtain ⟨w, r36⟩ := u31
            obtain ⟨hw32, hO⟩ := hw32
            obtain rfl : v33 = some (.long r36) := hw32
            have hO : OKP G h0 a (upd F 26 (nI ht)) (updR (updR (updR R 5 (.ref pq)) 7 (.ref (a sp))) 8 (.ref (a op))) Z B J K w := hO.to rfl
            refine W.widen (k := 0) (n := 0) (Nat.le_of_ble_eq_true rfl) (Nat.le_of_ble_eq_true rfl) ?_
            refine W.eq (g2 := F0 m 100 ls [.long r36]) rfl ?_
            refine lv_lstore_n (lv' := [(3, .long r36), (2, .ref d18), (0, .ref (a 5)), (1, .int x)]) hx hb dX5_uncaught_100 rfl hl (by decide) rfl (fun ls hl => ?_)
            refine lv_lload_n hx hb dX5_uncaught_101 rfl (lv_at hl 0 rfl) ?_
            refine pc_SN (G := G) (As := [.long r36]) (rest := []) hx hb hml hown hq hE hX pX0_al hP hS hA hl.1 (s_isRef l G r36) (gS pw_497 pw_439 pw_440 pw_423) hS_X3_isReference rfl (Nat.le_of_ble_eq_true rfl) dX5_uncaught_102 ⟨Nat.le_of_ble_eq_true rfl, Nat.le_of_ble_eq_true rfl⟩ ⟨Nat.le_of_ble_eq_true rfl, Nat.le_of_ble_eq_true rfl⟩ (fun v39 u37 H locs hw38 hP hS => ?_)
            obtain ⟨rfl, h41⟩ := hw38
            refine W.widen (k := 0) (n := 0) (Nat.le_of_ble_eq_true rfl) (Nat.le_of_ble_eq_true rfl) ?_
            refine W.eq (g2 := F0 m 105 ls [.int (nI u37)]) rfl ?_
            refine lv_if_eq (tgt := 112) hx hb dX5_uncaught_105 (by decide) (fun c42 => ?_) (fun c42 => ?_)
            · have n43 : u37 = 0 := (nI_eq (a := u37) (b := 0) (by omega) (by omega)).mp c42
              refine lv_lload_n hx hb dX5_uncaught_112 rfl (lv_at hl 0 rfl) ?_
              refine lv_l2i hx hb dX5_uncaught_113 rfl ?_
              refine lv_topi (fun x44 e45 => ?_)
              have hO : OKP G h0 a (upd F 26 (nI ht)) (updR (updR (updR R 5 (.ref pq)) 7 (.ref (a sp))) 8 (.ref (a op))) Z B J K w := hO.to rfl
              exact W.iret (v := x44) hx hb hr (fun t99 ht99 hW99 => ⟨⟨_, (w, x44), rfl, ⟨rfl, hO⟩, by rw [ht99]; exact hP, hD⟩, hS.F ht99⟩) hS.2.2 dX5_uncaught_114
            · have n46 : ¬ (u37 = 0) := fun h9 => c42 ((nI_eq (a := u37) (b := 0) (by omega) (by omega)).mpr h9)
              refine lv_iconst (v := 1) hx hb dX5_uncaught_108 (by decide) ?_
              refine lv_goto (tgt := 114) hx hb dX5_uncaught_109 (by decide) ?_
              have hO : OKP G h0 a (upd F 26 (nI ht)) (updR (updR (updR R 5 (.ref pq)) 7 (.ref (a sp))) 8 (.ref (a op))) Z B J K w := hO.to rfl
              exact W.iret (v := 1) hx hb hr (fun t99 ht99 hW99 => ⟨⟨_, (w, (1 : Int32)), rfl, ⟨rfl, hO⟩, by rw [ht99]; exact hP, hD⟩, hS.F ht99⟩) hS.2.2 dX5_uncaught_114
          · refine lv_iload_n hx hb dX5_uncaught_67 rfl (lv_at hl 2 rfl) ?_
            refine lv_if_ne (tgt := 78) hx hb dX5_uncaught_68 (by decide) (fun c47 => ?_) (fun c47 => ?_)
            · refine lv_aload_n hx hb dX5_uncaught_78 rfl (lv_at hl 0 rfl) ?_
              refine p_get (v := .ref lm) (C := RX2) (Tc := TX2) (N := 13) (ci := 2) hx hb hq pin_wsX20 hown hE hP hO (by rw [hdT]; decide) (rep_4 hdT) rfl 11 (by decide) (hq _ pw_487) (fun _ h9 => h9) (congrArg (fun z => some (va_rf z)) hflm) dX5_uncaught_79 ?_
              have hO : OKP G h0 a (upd F 26 (nI ht)) (updR (updR (updR R 5 (.ref pq)) 7 (.ref (a sp))) 8 (.ref (a op))) Z B J K w := hO.to rfl
              obtain ⟨qr51, hqr52⟩ := p_recv hO (by rw [htlm]; decide) (rep_5 htlm)
              refine pc_V0 (G := G) (As := []) (rest := []) hx hb hml hown hq hE hX pX0_al hP hD hS hA hl.1 (L_size l G h0 a (upd F 26 (nI ht)) (updR (updR (updR R 5 (.ref pq)) 7 (.ref (a sp))) 8 (.ref (a op))) Z B J K w lm 1 nlm itlm hlclm.ls hO) (gV pw_493 pw_87 pw_88 pw_32 pw_16) hV_Jx4a65c_size_8abf5 qr51 10 hqr52 rfl rfl rfl (Nat.le_of_ble_eq_true rfl) dX5_uncaught_82 ⟨Nat.le_of_ble_eq_true rfl, Nat.le_of_ble_eq_true rfl⟩ ⟨Nat.le_of_ble_eq_true rfl, Nat.le_of_ble_eq_true rfl⟩ (fun v50 u48 H locs hw49 hP hD hS => ?_)
              obtain ⟨w, _⟩ := u48
              obtain ⟨hw49, hO⟩ := hw49
              obtain rfl : v50 = some (.int (nI nlm)) := hw49
              have hO : OKP G h0 a (upd F 26 (nI ht)) (updR (updR (updR R 5 (.ref pq)) 7 (.ref (a sp))) 8 (.ref (a op))) Z B J K w := hO.to rfl
              refine W.widen (k := 0) (n := 0) (Nat.le_of_ble_eq_true rfl) (Nat.le_of_ble_eq_true rfl) ?_
              refine W.eq (g2 := F0 m 85 ls [.int (nI nlm)]) rfl ?_
              have hO : OKP G h0 a (upd F 26 (nI ht)) (updR (updR (updR R 5 (.ref pq)) 7 (.ref (a sp))) 8 (.ref (a op))) Z B J K w := hO.to rfl
              exact W.iret (v := (nI nlm)) hx hb hr (fun t99 ht99 hW99 => ⟨⟨_, (w, (nI nlm)), rfl, ⟨rfl, hO⟩, by rw [ht99]; exact hP, hD⟩, hS.F ht99⟩) hS.2.2 dX5_uncaught_85
            · refine lv_aload_n hx hb dX5_uncaught_71 rfl (lv_at hl 0 rfl) ?_
              refine p_get (v := .int (K.2.1 15 d18)) (C := RX2) (Tc := TX2) (N := 13) (ci := 2) hx hb hq pin_wsX20 hown hE hP hO (by rw [hdT]; decide) (rep_4 hdT) rfl 0 (by decide) (hq _ pw_488) (fun _ h9 => h9) rfl dX5_uncaught_72 ?_
              refine lv_goto (tgt := 85) hx hb dX5_uncaught_75 (by decide) ?_
              have hO : OKP G h0 a (upd F 26 (nI ht)) (updR (updR (updR R 5 (.ref pq)) 7 (.ref (a sp))) 8 (.ref (a op))) Z B J K w := hO.to rfl
              exact W.iret (v := (K.2.1 15 d18)) hx hb hr (fun t99 ht99 hW99 => ⟨⟨_, (w, (K.2.1 15 d18)), rfl, ⟨rfl, hO⟩, by rw [ht99]; exact hP, hD⟩, hS.F ht99⟩) hS.2.2 dX5_uncaught_85
        · refine lv_iconst (v := (-1)) hx hb dX5_uncaught_60 (by decide) ?_
          have hO : OKP G h0 a (upd F 26 (nI ht)) (updR (updR (updR R 5 (.ref pq)) 7 (.ref (a sp))) 8 (.ref (a op))) Z B J K w := hO.to rfl
          exact W.iret (v := (-1)) hx hb hr (fun t99 ht99 hW99 => ⟨⟨_, (w, ((-1) : Int32)), rfl, ⟨rfl, hO⟩, by rw [ht99]; exact hP, hD⟩, hS.F ht99⟩) hS.2.2 dX5_uncaught_61

theorem dX5_start_0 : decode cX5_start 0 = .ok (.aload_n 0, 1) := by decide +kernel
theorem dX5_start_1 : decode cX5_start 1 = .ok (.invokevirtual 109, 3) := by decide +kernel
theorem dX5_start_4 : decode cX5_start 4 = .ok (.aload_n 0, 1) := by decide +kernel
theorem dX5_start_5 : decode cX5_start 5 = .ok (.aload_n 1, 1) := by decide +kernel
theorem dX5_start_6 : decode cX5_start 6 = .ok (.putfield 47, 3) := by decide +kernel
theorem dX5_start_9 : decode cX5_start 9 = .ok (.aload_n 0, 1) := by decide +kernel
theorem dX5_start_10 : decode cX5_start 10 = .ok (.getfield 36, 3) := by decide +kernel
theorem dX5_start_13 : decode cX5_start 13 = .ok (.iconst 5, 1) := by decide +kernel
theorem dX5_start_14 : decode cX5_start 14 = .ok (.iload_n 2, 1) := by decide +kernel
theorem dX5_start_15 : decode cX5_start 15 = .ok (.iastore, 1) := by decide +kernel
theorem dX5_start_16 : decode cX5_start 16 = .ok (.aload_n 0, 1) := by decide +kernel
theorem dX5_start_17 : decode cX5_start 17 = .ok (.getfield 18, 3) := by decide +kernel
theorem dX5_start_20 : decode cX5_start 20 = .ok (.iload_n 3, 1) := by decide +kernel
theorem dX5_start_21 : decode cX5_start 21 = .ok (.invokevirtual 112, 3) := by decide +kernel
theorem dX5_start_24 : decode cX5_start 24 = .ok (.aload_n 0, 1) := by decide +kernel
theorem dX5_start_25 : decode cX5_start 25 = .ok (.iconst 5, 1) := by decide +kernel
theorem dX5_start_26 : decode cX5_start 26 = .ok (.putfield 116, 3) := by decide +kernel
theorem dX5_start_29 : decode cX5_start 29 = .ok (.aload_n 0, 1) := by decide +kernel
theorem dX5_start_30 : decode cX5_start 30 = .ok (.aload_n 0, 1) := by decide +kernel
theorem dX5_start_31 : decode cX5_start 31 = .ok (.getfield 47, 3) := by decide +kernel
theorem dX5_start_34 : decode cX5_start 34 = .ok (.bipush 36, 2) := by decide +kernel
theorem dX5_start_36 : decode cX5_start 36 = .ok (.invokevirtual 121, 3) := by decide +kernel
theorem dX5_start_39 : decode cX5_start 39 = .ok (.invokevirtual 125, 3) := by decide +kernel
theorem dX5_start_42 : decode cX5_start 42 = .ok (.aload_n 0, 1) := by decide +kernel
theorem dX5_start_43 : decode cX5_start 43 = .ok (.getfield 116, 3) := by decide +kernel
theorem dX5_start_46 : decode cX5_start 46 = .ok (.iconst 5, 1) := by decide +kernel
theorem dX5_start_47 : decode cX5_start 47 = .ok (.if_icmp .ne 18, 3) := by decide +kernel
theorem dX5_start_65 : decode cX5_start 65 = .ok (.return_, 1) := by decide +kernel
theorem dX5_start_50 : decode cX5_start 50 = .ok (.aload_n 0, 1) := by decide +kernel
theorem dX5_start_51 : decode cX5_start 51 = .ok (.bipush 37, 2) := by decide +kernel
theorem dX5_start_53 : decode cX5_start 53 = .ok (.iconst 0, 1) := by decide +kernel
theorem dX5_start_54 : decode cX5_start 54 = .ok (.invokevirtual 128, 3) := by decide +kernel
theorem dX5_start_57 : decode cX5_start 57 = .ok (.aload_n 0, 1) := by decide +kernel
theorem dX5_start_58 : decode cX5_start 58 = .ok (.aload_n 0, 1) := by decide +kernel
theorem dX5_start_59 : decode cX5_start 59 = .ok (.getfield 132, 3) := by decide +kernel
theorem dX5_start_62 : decode cX5_start 62 = .ok (.putfield 106, 3) := by decide +kernel
theorem hV_X5_clear : yX5_clear.cls = RX5 ∧ yX5_clear.cls ≠ "java/lang/invoke/MethodHandle" ∧ yX5_clear.cls ≠ "java/lang/invoke/VarHandle" ∧ (parseMethodDescriptor yX5_clear.desc).map (fun d => d.parameters.length) = some 0 := by decide +kernel
theorem hV_X3_start : yX3_start.cls = RX3 ∧ yX3_start.cls ≠ "java/lang/invoke/MethodHandle" ∧ yX3_start.cls ≠ "java/lang/invoke/VarHandle" ∧ (parseMethodDescriptor yX3_start.desc).map (fun d => d.parameters.length) = some 1 := by decide +kernel
theorem dX11_input_0 : decode cX11_input 0 = .ok (.aload_n 0, 1) := by decide +kernel
theorem dX11_input_1 : decode cX11_input 1 = .ok (.getfield 50, 3) := by decide +kernel
theorem dX11_input_4 : decode cX11_input 4 = .ok (.iload_n 1, 1) := by decide +kernel
theorem dX11_input_5 : decode cX11_input 5 = .ok (.invokevirtual 159, 3) := by decide +kernel
theorem dX11_input_8 : decode cX11_input 8 = .ok (.ireturn, 1) := by decide +kernel
theorem hV_X5_takeInput : yX5_takeInput.cls = RX5 ∧ yX5_takeInput.cls ≠ "java/lang/invoke/MethodHandle" ∧ yX5_takeInput.cls ≠ "java/lang/invoke/VarHandle" ∧ (parseMethodDescriptor yX5_takeInput.desc).map (fun d => d.parameters.length) = some 1 := by decide +kernel
set_option maxHeartbeats 2000000 in
set_option maxRecDepth 100000 in
theorem J_input (l : Launch) (G : pT) (h0 : Nat) (a : Nat → Nat) (F : Nat → Int32) (R : Nat → Value) (Z : Int64) (B : Nat → Nat → Int32) (J : Nat → Nat → Int64) (T : Nat → Nat) (Pi : Nat → va_E → Prop) (w : va_W) (x : Int32) (ni : Nat) (hni : ni ≤ 200) (hO : OKW G h0 a (upd F 17 (nI ni)) R Z B J T Pi w) : PM l G pX0 yX11_input cX11_input 2 (some .int) ({ frames := 3, cells := 0, slots := 0, locals := 81 }) [.ref h0, .int x] w (fun (v : Option Value) (u : va_W × (Nat × Int32 × (Nat → Int32))) => v = some (.int u.2.2.1) ∧ (u.2.1 ≤ 200) ∧ (InQ ni u.2.1 u.2.2.1) ∧ (OKW G h0 a (upd F 17 (nI u.2.1)) R Z (updA B 31 u.2.2.2) J T Pi u.1)) (fun u => u.1) := by
  intro sz
  refine Met.ofW (cc := cX11_input) (maxL := 2) (ret := (some .int)) (by decide) rfl ?_
  intro p e s m args below meth c s₁ B9 hml hv
  obtain ⟨rfl, hsz, hP, hD0, hE, hX⟩ := hv
  have hx := B9.exec
  have hb := B9.bytes
  have hr := B9.returns
  have hts := atoms_spec (ws := Cond.code yX11_input cX11_input 2 (some .int) :: pw) B9.pre
  have hq : ∀ w ∈ pw, w.before _ s = true := fun w h => hts w (List.mem_cons_of_mem _ h)
  have hown : s.vm.findClass RX11 = some m.cls := findClass_of_methodNamed B9.named
  have hlocks := B9.notSynchronized
  subst hsz
  have hD := hD0.self (sz := s.heap.size)
  have hA : ∀ q : Nat, s.heap.size ≤ q → va_A w s.heap.size q := fun q h => Or.inr h
  generalize va_A w s.heap.size = A at hD hE hA ⊢
  have hS : va_S A s.heap s.heap [] := va_S.rf
  have hl := lv_entry ([.ref h0, .int x]) (n := 2) (Nat.le_of_ble_eq_true rfl)
  rw [lg_entry_eq]
  generalize (lg_sl ([.ref h0, .int x]) ++ List.replicate (2 - (lg_sl ([.ref h0, .int x])).length) Slot.unset).toArray = ls at hl ⊢
  have hl : lv_has ls 2 [(0, .ref h0), (1, .int x)] := hl
  refine lv_aload_n hx hb dX11_input_0 rfl (lv_at hl 0 rfl) ?_
  refine c_get (v := .ref (a 5)) (C := RX11) (Tc := TX11) (N := 8) (ci := 8) hx hb hq pin_wsX110 hown hE hP hO 0 (sg_0 G h0 a _ _ _ _ _) rfl 6 (by decide) (hq _ pw_1321) (fun _ h9 => h9) rfl dX11_input_1 ?_
  refine lv_iload_n hx hb dX11_input_4 rfl (lv_at hl 1 rfl) ?_
  have hO : OKW G h0 a (upd (upd F 17 (nI ni)) 17 (nI ni)) R Z B J T Pi w := hO.to rfl
  obtain ⟨_, qr4, hqr5⟩ := hO.2.1 28 _ (sg_28 G h0 a _ _ _ _ _)
  refine pc_V0 (G := G) (As := [.int x]) (rest := []) hx hb hml hown hq hE hX pX0_al hP hD hS hA hl.1 (M_takeInput l G h0 a (upd F 17 (nI ni)) R Z B J T Pi w x ni (by omega) hO) (gV pw_1396 pw_1397 pw_1398 pw_539 pw_481) hV_X5_takeInput qr4 4 hqr5 rfl rfl rfl (Nat.le_of_ble_eq_true rfl) dX11_input_5 ⟨Nat.le_of_ble_eq_true rfl, Nat.le_of_ble_eq_true rfl⟩ ⟨Nat.le_of_ble_eq_true rfl, Nat.le_of_ble_eq_true rfl⟩ (fun v3 u1 H locs hw2 hP hD hS => ?_)
  obtain ⟨w, ni6, r7, f8⟩ := u1
  obtain ⟨hw2, h9, h10, hO⟩ := hw2
  have h9 : ni6 ≤ 200 := h9
  have h10 : InQ ni ni6 r7 := h10
  obtain rfl : v3 = some (.int r7) := hw2
  have hO : OKW G h0 a (upd F 17 (nI ni6)) R Z (updA B 31 f8) J T Pi w := hO.to rfl
  refine W.widen (k := 0) (n := 0) (Nat.le_of_ble_eq_true rfl) (Nat.le_of_ble_eq_true rfl) ?_
  refine W.eq (g2 := F0 m 8 ls [.int r7]) rfl ?_
  have hz11 : ni6 ≤ 200 := (by omega)
  have hz12 : InQ ni ni6 r7 := h10
  have hO : OKW G h0 a (upd F 17 (nI ni6)) R Z (updA B 31 f8) J T Pi w := hO.to rfl
  exact W.iret (v := r7) hx hb hr (fun t99 ht99 hW99 => ⟨⟨_, (w, (ni6, r7, f8)), rfl, ⟨rfl, hz11, hz12, hO⟩, by rw [ht99]; exact hP, hD⟩, hS.F ht99⟩) hS.2.2 dX11_input_8
theorem dX11_forget_0 : decode cX11_forget 0 = .ok (.aload_n 0, 1) := by decide +kernel
theorem dX11_forget_1 : decode cX11_forget 1 = .ok (.getfield 50, 3) := by decide +kernel
theorem dX11_forget_4 : decode cX11_forget 4 = .ok (.iconst 0, 1) := by decide +kernel
theorem dX11_forget_5 : decode cX11_forget 5 = .ok (.putfield 163, 3) := by decide +kernel
theorem dX11_forget_8 : decode cX11_forget 8 = .ok (.return_, 1) := by decide +kernel
set_option maxHeartbeats 2000000 in
set_option maxRecDepth 100000 in
theorem J_forget (l : Launch) (G : pT) (h0 : Nat) (a : Nat → Nat) (F : Nat → Int32) (R : Nat → Value) (Z : Int64) (B : Nat → Nat → Int32) (J : Nat → Nat → Int64) (T : Nat → Nat) (Pi : Nat → va_E → Prop) (w : va_W) (hO : OKW G h0 a F R Z B J T Pi w) : PM l G pX0 yX11_forget cX11_forget 1 none ({ frames := 2, cells := 0, slots := 0, locals := 60 }) [.ref h0] w (fun (v : Option Value) (u : va_W × (Unit)) => v = none ∧ (OKW G h0 a (upd F 17 0) R Z B J T Pi u.1)) (fun u => u.1) := by
  intro sz
  refine Met.ofW (cc := cX11_forget) (maxL := 1) (ret := none) (by decide) rfl ?_
  intro p e s m args below meth c s₁ B9 hml hv
  obtain ⟨rfl, hsz, hP, hD0, hE, hX⟩ := hv
  have hx := B9.exec
  have hb := B9.bytes
  have hr := B9.returns
  have hts := atoms_spec (ws := Cond.code yX11_forget cX11_forget 1 none :: pw) B9.pre
  have hq : ∀ w ∈ pw, w.before _ s = true := fun w h => hts w (List.mem_cons_of_mem _ h)
  have hown : s.vm.findClass RX11 = some m.cls := findClass_of_methodNamed B9.named
  have hlocks := B9.notSynchronized
  subst hsz
  have hD := hD0.self (sz := s.heap.size)
  have hA : ∀ q : Nat, s.heap.size ≤ q → va_A w s.heap.size q := fun q h => Or.inr h
  generalize va_A w s.heap.size = A at hD hE hA ⊢
  have hS : va_S A s.heap s.heap [] := va_S.rf
  have hl := lv_entry ([.ref h0]) (n := 1) (Nat.le_of_ble_eq_true rfl)
  rw [lg_entry_eq]
  generalize (lg_sl ([.ref h0]) ++ List.replicate (1 - (lg_sl ([.ref h0])).length) Slot.unset).toArray = ls at hl ⊢
  have hl : lv_has ls 1 [(0, .ref h0)] := hl
  refine lv_aload_n hx hb dX11_forget_0 rfl (lv_at hl 0 rfl) ?_
  refine c_get (v := .ref (a 5)) (C := RX11) (Tc := TX11) (N := 8) (ci := 8) hx hb hq pin_wsX110 hown hE hP hO 0 (sg_0 G h0 a _ _ _ _ _) rfl 6 (by decide) (hq _ pw_1321) (fun _ h9 => h9) rfl dX11_forget_1 ?_
  refine lv_iconst (v := 0) hx hb dX11_forget_4 (by decide) ?_
  refine c_put (v := .int 0) (ty := .int) (C := RX5) (Tc := TX5) (N := 19) (ci := 4) hx hb hq pin_wsX50 tyX5 tyX5_ok nmX5 hown hE hP hD hS hO 28 (sg_28 G h0 a _ _ _ _ _) rfl 5 (by decide) (hq _ pw_1400) (fun _ h9 => h9) rfl (by decide +kernel) rfl rfl (Nat.le_of_ble_eq_true rfl) (sf_17 G h0 a _ _ _ _ _ 0) dX11_forget_5 (fun H locs w hP hD hS hO => ?_)
  have hO : OKW G h0 a (upd F 17 0) R Z B J T Pi w := hO.to rfl
  exact W.vret hx hb hr (fun t99 ht99 hW99 => ⟨⟨_, (w, ()), rfl, ⟨rfl, hO⟩, by rw [ht99]; exact hP, hD⟩, hS.F ht99⟩) hS.2.2 dX11_forget_8
theorem dX11_result_0 : decode cX11_result 0 = .ok (.aload_n 0, 1) := by decide +kernel
theorem dX11_result_1 : decode cX11_result 1 = .ok (.getfield 50, 3) := by decide +kernel
theorem dX11_result_4 : decode cX11_result 4 = .ok (.getfield 183, 3) := by decide +kernel
theorem dX11_result_7 : decode cX11_result 7 = .ok (.ireturn, 1) := by decide +kernel
set_option maxHeartbeats 2000000 in
set_option maxRecDepth 100000 in
theorem J_result (l : Launch) (G : pT) (h0 : Nat) (a : Nat → Nat) (F : Nat → Int32) (R : Nat → Value) (Z : Int64) (B : Nat → Nat → Int32) (J : Nat → Nat → Int64) (T : Nat → Nat) (Pi : Nat → va_E → Prop) (w : va_W) (hO : OKW G h0 a F R Z B J T Pi w) : PM l G pX0 yX11_result cX11_result 1 (some .int) ({ frames := 2, cells := 0, slots := 0, locals := 60 }) [.ref h0] w (fun (v : Option Value) (u : va_W × (Int32)) => v = some (.int u.2) ∧ (u.2 = F 24) ∧ (OKW G h0 a F R Z B J T Pi u.1)) (fun u => u.1) := by
  intro sz
  refine Met.ofW (cc := cX11_result) (maxL := 1) (ret := (some .int)) (by decide) rfl ?_
  intro p e s m args below meth c s₁ B9 hml hv
  obtain ⟨rfl, hsz, hP, hD0, hE, hX⟩ := hv
  have hx := B9.exec
  have hb := B9.bytes
  have hr := B9.returns
  have hts := atoms_spec (ws := Cond.code yX11_result cX11_result 1 (some .int) :: pw) B9.pre
  have hq : ∀ w ∈ pw, w.before _ s = true := fun w h => hts w (List.mem_cons_of_mem _ h)
  have hown : s.vm.findClass RX11 = some m.cls := findClass_of_methodNamed B9.named
  have hlocks := B9.notSynchronized
  subst hsz
  have hD := hD0.self (sz := s.heap.size)
  have hA : ∀ q : Nat, s.heap.size ≤ q → va_A w s.heap.size q := fun q h => Or.inr h
  generalize va_A w s.heap.size = A at hD hE hA ⊢
  have hS : va_S A s.heap s.heap [] := va_S.rf
  have hl := lv_entry ([.ref h0]) (n := 1) (Nat.le_of_ble_eq_true rfl)
  rw [lg_entry_eq]
  generalize (lg_sl ([.ref h0]) ++ List.replicate (1 - (lg_sl ([.ref h0])).length) Slot.unset).toArray = ls at hl ⊢
  have hl : lv_has ls 1 [(0, .ref h0)] := hl
  refine lv_aload_n hx hb dX11_result_0 rfl (lv_at hl 0 rfl) ?_
  refine c_get (v := .ref (a 5)) (C := RX11) (Tc := TX11) (N := 8) (ci := 8) hx hb hq pin_wsX110 hown hE hP hO 0 (sg_0 G h0 a _ _ _ _ _) rfl 6 (by decide) (hq _ pw_1321) (fun _ h9 => h9) rfl dX11_result_1 ?_
  refine c_get (v := .int (F 24)) (C := RX5) (Tc := TX5) (N := 19) (ci := 4) hx hb hq pin_wsX50 hown hE hP hO 28 (sg_28 G h0 a _ _ _ _ _) rfl 17 (by decide) (hq _ pw_1411) (fun _ h9 => h9) rfl dX11_result_4 ?_
  have hz1 : (F 24) = F 24 := rfl
  have hO : OKW G h0 a F R Z B J T Pi w := hO.to rfl
  exact W.iret (v := (F 24)) hx hb hr (fun t99 ht99 hW99 => ⟨⟨_, (w, (F 24)), rfl, ⟨rfl, hz1, hO⟩, by rw [ht99]; exact hP, hD⟩, hS.F ht99⟩) hS.2.2 dX11_result_7
theorem dX11_refusals_0 : decode cX11_refusals 0 = .ok (.aload_n 0, 1) := by decide +kernel
theorem dX11_refusals_1 : decode cX11_refusals 1 = .ok (.getfield 50, 3) := by decide +kernel
theorem dX11_refusals_4 : decode cX11_refusals 4 = .ok (.getfield 201, 3) := by decide +kernel
theorem dX11_refusals_7 : decode cX11_refusals 7 = .ok (.ireturn, 1) := by decide +kernel
set_option maxHeartbeats 2000000 in
set_option maxRecDepth 100000 in
theorem J_refusals (l : Launch) (G : pT) (h0 : Nat) (a : Nat → Nat) (F : Nat → Int32) (R : Nat → Value) (Z : Int64) (B : Nat → Nat → Int32) (J : Nat → Nat → Int64) (T : Nat → Nat) (Pi : Nat → va_E → Prop) (w : va_W) (hO : OKW G h0 a F R Z B J T Pi w) : PM l G pX0 yX11_refusals cX11_refusals 1 (some .int) ({ frames := 2, cells := 0, slots := 0, locals := 60 }) [.ref h0] w (fun (v : Option Value) (u : va_W × (Int32)) => v = some (.int u.2) ∧ (u.2 = F 25) ∧ (OKW G h0 a F R Z B J T Pi u.1)) (fun u => u.1) := by
  intro sz
  refine Met.ofW (cc := cX11_refusals) (maxL := 1) (ret := (some .int)) (by decide) rfl ?_
  intro p e s m args below meth c s₁ B9 hml hv
  obtain ⟨rfl, hsz, hP, hD0, hE, hX⟩ := hv
  have hx := B9.exec
  have hb := B9.bytes
  have hr := B9.returns
  have hts := atoms_spec (ws := Cond.code yX11_refusals cX11_refusals 1 (some .int) :: pw) B9.pre
  have hq : ∀ w ∈ pw, w.before _ s = true := fun w h => hts w (List.mem_cons_of_mem _ h)
  have hown : s.vm.findClass RX11 = some m.cls := findClass_of_methodNamed B9.named
  have hlocks := B9.notSynchronized
  subst hsz
  have hD := hD0.self (sz := s.heap.size)
  have hA : ∀ q : Nat, s.heap.size ≤ q → va_A w s.heap.size q := fun q h => Or.inr h
  generalize va_A w s.heap.size = A at hD hE hA ⊢
  have hS : va_S A s.heap s.heap [] := va_S.rf
  have hl := lv_entry ([.ref h0]) (n := 1) (Nat.le_of_ble_eq_true rfl)
  rw [lg_entry_eq]
  generalize (lg_sl ([.ref h0]) ++ List.replicate (1 - (lg_sl ([.ref h0])).length) Slot.unset).toArray = ls at hl ⊢
  have hl : lv_has ls 1 [(0, .ref h0)] := hl
  refine lv_aload_n hx hb dX11_refusals_0 rfl (lv_at hl 0 rfl) ?_
  refine c_get (v := .ref (a 5)) (C := RX11) (Tc := TX11) (N := 8) (ci := 8) hx hb hq pin_wsX110 hown hE hP hO 0 (sg_0 G h0 a _ _ _ _ _) rfl 6 (by decide) (hq _ pw_1321) (fun _ h9 => h9) rfl dX11_refusals_1 ?_
  refine c_get (v := .int (F 25)) (C := RX5) (Tc := TX5) (N := 19) (ci := 4) hx hb hq pin_wsX50 hown hE hP hO 28 (sg_28 G h0 a _ _ _ _ _) rfl 18 (by decide) (hq _ pw_1428) (fun _ h9 => h9) rfl dX11_refusals_4 ?_
  have hz1 : (F 25) = F 25 := rfl
  have hO : OKW G h0 a F R Z B J T Pi w := hO.to rfl
  exact W.iret (v := (F 25)) hx hb hr (fun t99 ht99 hW99 => ⟨⟨_, (w, (F 25)), rfl, ⟨rfl, hz1, hO⟩, by rw [ht99]; exact hP, hD⟩, hS.F ht99⟩) hS.2.2 dX11_refusals_7
theorem dX11_output_0 : decode cX11_output 0 = .ok (.aload_n 0, 1) := by decide +kernel
theorem dX11_output_1 : decode cX11_output 1 = .ok (.getfield 50, 3) := by decide +kernel
theorem dX11_output_4 : decode cX11_output 4 = .ok (.iload_n 1, 1) := by decide +kernel
theorem dX11_output_5 : decode cX11_output 5 = .ok (.invokevirtual 186, 3) := by decide +kernel
theorem dX11_output_8 : decode cX11_output 8 = .ok (.ireturn, 1) := by decide +kernel
theorem hV_X5_printed : yX5_printed.cls = RX5 ∧ yX5_printed.cls ≠ "java/lang/invoke/MethodHandle" ∧ yX5_printed.cls ≠ "java/lang/invoke/VarHandle" ∧ (parseMethodDescriptor yX5_printed.desc).map (fun d => d.parameters.length) = some 1 := by decide +kernel
set_option maxHeartbeats 2000000 in
set_option maxRecDepth 100000 in
theorem J_output (l : Launch) (G : pT) (h0 : Nat) (a : Nat → Nat) (F : Nat → Int32) (R : Nat → Value) (Z : Int64) (B : Nat → Nat → Int32) (J : Nat → Nat → Int64) (T : Nat → Nat) (Pi : Nat → va_E → Prop) (w : va_W) (x : Int32) (hO : OKW G h0 a F R Z B J T Pi w) : PM l G pX0 yX11_output cX11_output 2 (some .int) ({ frames := 3, cells := 0, slots := 0, locals := 81 }) [.ref h0, .int x] w (fun (v : Option Value) (u : va_W × (Int32)) => v = some (.int u.2) ∧ (OKW G h0 a F R Z B J T Pi u.1)) (fun u => u.1) := by
  intro sz
  refine Met.ofW (cc := cX11_output) (maxL := 2) (ret := (some .int)) (by decide) rfl ?_
  intro p e s m args below meth c s₁ B9 hml hv
  obtain ⟨rfl, hsz, hP, hD0, hE, hX⟩ := hv
  have hx := B9.exec
  have hb := B9.bytes
  have hr := B9.returns
  have hts := atoms_spec (ws := Cond.code yX11_output cX11_output 2 (some .int) :: pw) B9.pre
  have hq : ∀ w ∈ pw, w.before _ s = true := fun w h => hts w (List.mem_cons_of_mem _ h)
  have hown : s.vm.findClass RX11 = some m.cls := findClass_of_methodNamed B9.named
  have hlocks := B9.notSynchronized
  subst hsz
  have hD := hD0.self (sz := s.heap.size)
  have hA : ∀ q : Nat, s.heap.size ≤ q → va_A w s.heap.size q := fun q h => Or.inr h
  generalize va_A w s.heap.size = A at hD hE hA ⊢
  have hS : va_S A s.heap s.heap [] := va_S.rf
  have hl := lv_entry ([.ref h0, .int x]) (n := 2) (Nat.le_of_ble_eq_true rfl)
  rw [lg_entry_eq]
  generalize (lg_sl ([.ref h0, .int x]) ++ List.replicate (2 - (lg_sl ([.ref h0, .int x])).length) Slot.unset).toArray = ls at hl ⊢
  have hl : lv_has ls 2 [(0, .ref h0), (1, .int x)] := hl
  refine lv_aload_n hx hb dX11_output_0 rfl (lv_at hl 0 rfl) ?_
  refine c_get (v := .ref (a 5)) (C := RX11) (Tc := TX11) (N := 8) (ci := 8) hx hb hq pin_wsX110 hown hE hP hO 0 (sg_0 G h0 a _ _ _ _ _) rfl 6 (by decide) (hq _ pw_1321) (fun _ h9 => h9) rfl dX11_output_1 ?_
  refine lv_iload_n hx hb dX11_output_4 rfl (lv_at hl 1 rfl) ?_
  have hO : OKW G h0 a F R Z B J T Pi w := hO.to rfl
  obtain ⟨_, qr4, hqr5⟩ := hO.2.1 28 _ (sg_28 G h0 a _ _ _ _ _)
  refine pc_V0 (G := G) (As := [.int x]) (rest := []) hx hb hml hown hq hE hX pX0_al hP hD hS hA hl.1 (M_printed l G h0 a F R Z B J T Pi w x hO) (gV pw_1413 pw_1414 pw_1415 pw_539 pw_483) hV_X5_printed qr4 4 hqr5 rfl rfl rfl (Nat.le_of_ble_eq_true rfl) dX11_output_5 ⟨Nat.le_of_ble_eq_true rfl, Nat.le_of_ble_eq_true rfl⟩ ⟨Nat.le_of_ble_eq_true rfl, Nat.le_of_ble_eq_true rfl⟩ (fun v3 u1 H locs hw2 hP hD hS => ?_)
  obtain ⟨w, r6⟩ := u1
  obtain ⟨hw2, hO⟩ := hw2
  obtain rfl : v3 = some (.int r6) := hw2
  have hO : OKW G h0 a F R Z B J T Pi w := hO.to rfl
  refine W.widen (k := 0) (n := 0) (Nat.le_of_ble_eq_true rfl) (Nat.le_of_ble_eq_true rfl) ?_
  refine W.eq (g2 := F0 m 8 ls [.int r6]) rfl ?_
  have hO : OKW G h0 a F R Z B J T Pi w := hO.to rfl
  exact W.iret (v := r6) hx hb hr (fun t99 ht99 hW99 => ⟨⟨_, (w, r6), rfl, ⟨rfl, hO⟩, by rw [ht99]; exact hP, hD⟩, hS.F ht99⟩) hS.2.2 dX11_output_8

theorem sw_m0_5 {x : Int32} (h0 : ¬ x = 0) (h1 : ¬ x = 1) (h2 : ¬ x = 2) (h3 : ¬ x = 3) (h4 : ¬ x = 4) (h5 : ¬ x = 5) : x.toInt < 0 ∨ 5 < x.toInt := by
  have a0 : ¬ x.toInt = 0 := tJ_ne (n := 0) (by decide) h0
  have a1 : ¬ x.toInt = 1 := tJ_ne (n := 1) (by decide) h1
  have a2 : ¬ x.toInt = 2 := tJ_ne (n := 2) (by decide) h2
  have a3 : ¬ x.toInt = 3 := tJ_ne (n := 3) (by decide) h3
  have a4 : ¬ x.toInt = 4 := tJ_ne (n := 4) (by decide) h4
  have a5 : ¬ x.toInt = 5 := tJ_ne (n := 5) (by decide) h5
  omega
theorem dX11_declared_0 : decode cX11_declared 0 = .ok (.aload_n 0, 1) := by decide +kernel
theorem dX11_declared_1 : decode cX11_declared 1 = .ok (.getfield 69, 3) := by decide +kernel
theorem dX11_declared_4 : decode cX11_declared 4 = .ok (.ifnonnull 7, 3) := by decide +kernel
theorem dX11_declared_7 : decode cX11_declared 7 = .ok (.aconst_null, 1) := by decide +kernel
theorem dX11_declared_8 : decode cX11_declared 8 = .ok (.goto 11, 3) := by decide +kernel
theorem dX11_declared_19 : decode cX11_declared 19 = .ok (.areturn, 1) := by decide +kernel
set_option maxHeartbeats 2000000 in
set_option maxRecDepth 100000 in
theorem J_declaredN (l : Launch) (G : pT) (h0 : Nat) (a : Nat → Nat) (F : Nat → Int32) (R : Nat → Value) (Z : Int64) (B : Nat → Nat → Int32) (J : Nat → Nat → Int64) (T : Nat → Nat) (Pi : Nat → va_E → Prop) (w : va_W) (x : Int32) (hO : OKW G h0 a F (updR R 0 (.null)) Z B J T Pi w) : PM l G pX0 yX11_declared cX11_declared 2 (some (.object "JinjaTongue$Decl")) ({ frames := 2, cells := 0, slots := 0, locals := 60 }) [.ref h0, .int x] w (fun (v : Option Value) (u : va_W × (Unit)) => v = some (.null) ∧ (OKW G h0 a F (updR R 0 (.null)) Z B J T Pi u.1)) (fun u => u.1) := by
  intro sz
  refine Met.ofW (cc := cX11_declared) (maxL := 2) (ret := (some (.object "JinjaTongue$Decl"))) (by decide) rfl ?_
  intro p e s m args below meth c s₁ B9 hml hv
  obtain ⟨rfl, hsz, hP, hD0, hE, hX⟩ := hv
  have hx := B9.exec
  have hb := B9.bytes
  have hr := B9.returns
  have hts := atoms_spec (ws := Cond.code yX11_declared cX11_declared 2 (some (.object "JinjaTongue$Decl")) :: pw) B9.pre
  have hq : ∀ w ∈ pw, w.before _ s = true := fun w h => hts w (List.mem_cons_of_mem _ h)
  have hown : s.vm.findClass RX11 = some m.cls := findClass_of_methodNamed B9.named
  have hlocks := B9.notSynchronized
  subst hsz
  have hD := hD0.self (sz := s.heap.size)
  have hA : ∀ q : Nat, s.heap.size ≤ q → va_A w s.heap.size q := fun q h => Or.inr h
  generalize va_A w s.heap.size = A at hD hE hA ⊢
  have hS : va_S A s.heap s.heap [] := va_S.rf
  have hl := lv_entry ([.ref h0, .int x]) (n := 2) (Nat.le_of_ble_eq_true rfl)
  rw [lg_entry_eq]
  generalize (lg_sl ([.ref h0, .int x]) ++ List.replicate (2 - (lg_sl ([.ref h0, .int x])).length) Slot.unset).toArray = ls at hl ⊢
  have hl : lv_has ls 2 [(0, .ref h0), (1, .int x)] := hl
  refine lv_aload_n hx hb dX11_declared_0 rfl (lv_at hl 0 rfl) ?_
  refine c_get (v := .null) (C := RX11) (Tc := TX11) (N := 8) (ci := 8) hx hb hq pin_wsX110 hown hE hP hO 0 (sg_0 G h0 a _ _ _ _ _) rfl 7 (by decide) (hq _ pw_1342) (fun _ h9 => h9) rfl dX11_declared_1 ?_
  refine lv_ifnonnullN hx hb dX11_declared_4 ?_
  refine lv_null hx hb dX11_declared_7 ?_
  refine lv_goto (tgt := 19) hx hb dX11_declared_8 (by decide) ?_
  have hO : OKW G h0 a F (updR R 0 (.null)) Z B J T Pi w := hO.to rfl
  exact W.aret (v := .null) hx hb hr (Or.inl ⟨_, rfl⟩) (Or.inl rfl) (fun t99 ht99 hW99 => ⟨⟨_, (w, ()), rfl, ⟨rfl, hO⟩, by rw [ht99]; exact hP, hD⟩, hS.F ht99⟩) hS.2.2 dX11_declared_19
theorem dX11_declared_11 : decode cX11_declared 11 = .ok (.aload_n 0, 1) := by decide +kernel
theorem dX11_declared_12 : decode cX11_declared 12 = .ok (.getfield 69, 3) := by decide +kernel
theorem dX11_declared_15 : decode cX11_declared 15 = .ok (.iload_n 1, 1) := by decide +kernel
theorem dX11_declared_16 : decode cX11_declared 16 = .ok (.invokevirtual 91, 3) := by decide +kernel
set_option maxHeartbeats 20000000 in
set_option maxRecDepth 100000 in
theorem J_declared (l : Launch) (G : pT) (h0 : Nat) (a : Nat → Nat) (F : Nat → Int32) (R : Nat → Value) (Z : Int64) (B : Nat → Nat → Int32) (J : Nat → Nat → Int64) (K : PK) (w : va_W) (x : Int32) (pq : Nat) (dr : Nat) (ml : Nat) (nd : Nat) (nm : Nat) (cp : Nat) (it : Nat → Nat) (s9 : Nat) (g : Nat → Nat → Nat) (rk : Nat → Nat) (hwp : WPr G K g) (hps : PgT G K g (a 1) pq dr ml nd nm cp it s9) (hrk : RkO K rk) (hO : OKP G h0 a F (updR R 0 (.ref pq)) Z B J K w) : PM l G pX0 yX11_declared cX11_declared 2 (some (.object "JinjaTongue$Decl")) ({ frames := 3, cells := 0, slots := 0, locals := 81 }) [.ref h0, .int x] w (fun (v : Option Value) (u : va_W × (Option Nat)) => v = some ((va_rf u.2)) ∧ (DoN K u.2) ∧ (OKP G h0 a F (updR R 0 (.ref pq)) Z B J K u.1)) (fun u => u.1) := by
  intro sz
  refine Met.ofW (cc := cX11_declared) (maxL := 2) (ret := (some (.object "JinjaTongue$Decl"))) (by decide) rfl ?_
  intro p e s m args below meth c s₁ B9 hml hv
  obtain ⟨rfl, hsz, hP, hD0, hE, hX⟩ := hv
  have hx := B9.exec
  have hb := B9.bytes
  have hr := B9.returns
  have hts := atoms_spec (ws := Cond.code yX11_declared cX11_declared 2 (some (.object "JinjaTongue$Decl")) :: pw) B9.pre
  have hq : ∀ w ∈ pw, w.before _ s = true := fun w h => hts w (List.mem_cons_of_mem _ h)
  have hown : s.vm.findClass RX11 = some m.cls := findClass_of_methodNamed B9.named
  have hlocks := B9.notSynchronized
  subst hsz
  have hD := hD0.self (sz := s.heap.size)
  have hA : ∀ q : Nat, s.heap.size ≤ q → va_A w s.heap.size q := fun q h => Or.inr h
  generalize va_A w s.heap.size = A at hD hE hA ⊢
  have hS : va_S A s.heap s.heap [] := va_S.rf
  have hl := lv_entry ([.ref h0, .int x]) (n := 2) (Nat.le_of_ble_eq_true rfl)
  rw [lg_entry_eq]
  generalize (lg_sl ([.ref h0, .int x]) ++ List.replicate (2 - (lg_sl ([.ref h0, .int x])).length) Slot.unset).toArray = ls at hl ⊢
  have hl : lv_has ls 2 [(0, .ref h0), (1, .int x)] := hl
  have hpg := hps.1
  have hp1 := hpg.1
  have hp2 := hpg.2.1
  have hp3 := hpg.2.2.1
  have hp4 := hpg.2.2.2.1
  have hp5 := hpg.2.2.2.2.1
  have hp6 := hpg.2.2.2.2.2.1
  have hp8 := hpg.2.2.2.2.2.2.2.1
  have hp9 := hpg.2.2.2.2.2.2.2.2
  refine lv_aload_n hx hb dX11_declared_0 rfl (lv_at hl 0 rfl) ?_
  refine c_get (v := .ref pq) (C := RX11) (Tc := TX11) (N := 8) (ci := 8) hx hb hq pin_wsX110 hown hE hP hO 0 (sg_0 G h0 a _ _ _ _ _) rfl 7 (by decide) (hq _ pw_1342) (fun _ h9 => h9) rfl dX11_declared_1 ?_
  refine lv_ifnonnull (tgt := 11) hx hb dX11_declared_4 (by decide) ?_
  refine lv_aload_n hx hb dX11_declared_11 rfl (lv_at hl 0 rfl) ?_
  refine c_get (v := .ref pq) (C := RX11) (Tc := TX11) (N := 8) (ci := 8) hx hb hq pin_wsX110 hown hE hP hO 0 (sg_0 G h0 a _ _ _ _ _) rfl 7 (by decide) (hq _ pw_1342) (fun _ h9 => h9) rfl dX11_declared_12 ?_
  refine lv_iload_n hx hb dX11_declared_15 rfl (lv_at hl 1 rfl) ?_
  have hO : OKP G h0 a F (updR R 0 (.ref pq)) Z B J K w := hO.to rfl
  obtain ⟨qr4, hqr5⟩ := p_recv hO (by rw [hp1]; decide) (rep_7 hp1)
  refine pc_V0 (G := G) (As := [.int x]) (rest := []) hx hb hml hown hq hE hX pX0_al hP hD hS hA hl.1 (G_decl l G h0 a F (updR R 0 (.ref pq)) Z B J K w pq dr ml nd x g hps.1 hps.2.1 hO) (gV pw_1363 pw_182 pw_183 pw_106 pw_13) hV_X9_decl qr4 6 hqr5 rfl rfl rfl (Nat.le_of_ble_eq_true rfl) dX11_declared_16 ⟨Nat.le_of_ble_eq_true rfl, Nat.le_of_ble_eq_true rfl⟩ ⟨Nat.le_of_ble_eq_true rfl, Nat.le_of_ble_eq_true rfl⟩ (fun v3 u1 H locs hw2 hP hD hS => ?_)
  obtain ⟨w, o6⟩ := u1
  obtain ⟨hw2, h7, h8, hO⟩ := hw2
  have h7 : DoN K o6 := h7
  have h8 : DoK K dr nd x o6 := h8
  obtain rfl : v3 = some ((va_rf o6)) := hw2
  have hO : OKP G h0 a F (updR R 0 (.ref pq)) Z B J K w := hO.to rfl
  refine W.widen (k := 0) (n := 0) (Nat.le_of_ble_eq_true rfl) (Nat.le_of_ble_eq_true rfl) ?_
  refine W.eq (g2 := F0 m 19 ls [(va_rf o6)]) rfl ?_
  rcases o6 with _ | d9
  · have hl : lv_has ls 2 [(0, .ref h0), (1, .int x)] := hl
    refine W.eq (g2 := F0 m 19 ls [.null]) rfl ?_
    have hz10 : DoN K none := (fun z h => by cases h)
    have hO : OKP G h0 a F (updR R 0 (.ref pq)) Z B J K w := hO.to rfl
    exact W.aret (v := .null) hx hb hr (Or.inl ⟨_, rfl⟩) (Or.inl rfl) (fun t99 ht99 hW99 => ⟨⟨_, (w, none), rfl, ⟨rfl, hz10, hO⟩, by rw [ht99]; exact hP, hD⟩, hS.F ht99⟩) hS.2.2 dX11_declared_19
  · have hl : lv_has ls 2 [(0, .ref h0), (1, .int x)] := hl
    refine W.eq (g2 := F0 m 19 ls [.ref d9]) rfl ?_
    have hdT := h7 d9 rfl
    have hz11 : DoN K (some d9) := (fun z h => by cases h; exact hdT)
    have hO : OKP G h0 a F (updR R 0 (.ref pq)) Z B J K w := hO.to rfl
    exact W.aret (v := .ref d9) hx hb hr (Or.inl ⟨_, rfl⟩) (Or.inr ⟨_, rfl⟩) (fun t99 ht99 hW99 => ⟨⟨_, (w, (some d9)), rfl, ⟨rfl, hz11, hO⟩, by rw [ht99]; exact hP, hD⟩, hS.F ht99⟩) hS.2.2 dX11_declared_19
theorem dJ13_bitCount_95d88_0 : decode cJ13_bitCount_95d88 0 = .ok (.lload_n 0, 1) := by decide +kernel
theorem dJ13_bitCount_95d88_1 : decode cJ13_bitCount_95d88 1 = .ok (.lload_n 0, 1) := by decide +kernel
theorem dJ13_bitCount_95d88_2 : decode cJ13_bitCount_95d88 2 = .ok (.iconst 1, 1) := by decide +kernel
theorem dJ13_bitCount_95d88_3 : decode cJ13_bitCount_95d88 3 = .ok (.lushr, 1) := by decide +kernel
theorem dJ13_bitCount_95d88_4 : decode cJ13_bitCount_95d88 4 = .ok (.ldc2_w 314, 3) := by decide +kernel
theorem dJ13_bitCount_95d88_7 : decode cJ13_bitCount_95d88 7 = .ok (.land, 1) := by decide +kernel
theorem dJ13_bitCount_95d88_8 : decode cJ13_bitCount_95d88 8 = .ok (.lsub, 1) := by decide +kernel
theorem dJ13_bitCount_95d88_9 : decode cJ13_bitCount_95d88 9 = .ok (.lstore_n 0, 1) := by decide +kernel
theorem dJ13_bitCount_95d88_10 : decode cJ13_bitCount_95d88 10 = .ok (.lload_n 0, 1) := by decide +kernel
theorem dJ13_bitCount_95d88_11 : decode cJ13_bitCount_95d88 11 = .ok (.ldc2_w 316, 3) := by decide +kernel
theorem dJ13_bitCount_95d88_14 : decode cJ13_bitCount_95d88 14 = .ok (.land, 1) := by decide +kernel
theorem dJ13_bitCount_95d88_15 : decode cJ13_bitCount_95d88 15 = .ok (.lload_n 0, 1) := by decide +kernel
theorem dJ13_bitCount_95d88_16 : decode cJ13_bitCount_95d88 16 = .ok (.iconst 2, 1) := by decide +kernel
theorem dJ13_bitCount_95d88_17 : decode cJ13_bitCount_95d88 17 = .ok (.lushr, 1) := by decide +kernel
theorem dJ13_bitCount_95d88_18 : decode cJ13_bitCount_95d88 18 = .ok (.ldc2_w 316, 3) := by decide +kernel
theorem dJ13_bitCount_95d88_21 : decode cJ13_bitCount_95d88 21 = .ok (.land, 1) := by decide +kernel
theorem dJ13_bitCount_95d88_22 : decode cJ13_bitCount_95d88 22 = .ok (.ladd, 1) := by decide +kernel
theorem dJ13_bitCount_95d88_23 : decode cJ13_bitCount_95d88 23 = .ok (.lstore_n 0, 1) := by decide +kernel
theorem dJ13_bitCount_95d88_24 : decode cJ13_bitCount_95d88 24 = .ok (.lload_n 0, 1) := by decide +kernel
theorem dJ13_bitCount_95d88_25 : decode cJ13_bitCount_95d88 25 = .ok (.lload_n 0, 1) := by decide +kernel
theorem dJ13_bitCount_95d88_26 : decode cJ13_bitCount_95d88 26 = .ok (.iconst 4, 1) := by decide +kernel
theorem dJ13_bitCount_95d88_27 : decode cJ13_bitCount_95d88 27 = .ok (.lushr, 1) := by decide +kernel
theorem dJ13_bitCount_95d88_28 : decode cJ13_bitCount_95d88 28 = .ok (.ladd, 1) := by decide +kernel
theorem dJ13_bitCount_95d88_29 : decode cJ13_bitCount_95d88 29 = .ok (.ldc2_w 318, 3) := by decide +kernel
theorem dJ13_bitCount_95d88_32 : decode cJ13_bitCount_95d88 32 = .ok (.land, 1) := by decide +kernel
theorem dJ13_bitCount_95d88_33 : decode cJ13_bitCount_95d88 33 = .ok (.lstore_n 0, 1) := by decide +kernel
theorem dJ13_bitCount_95d88_34 : decode cJ13_bitCount_95d88 34 = .ok (.lload_n 0, 1) := by decide +kernel
theorem dJ13_bitCount_95d88_35 : decode cJ13_bitCount_95d88 35 = .ok (.lload_n 0, 1) := by decide +kernel
theorem dJ13_bitCount_95d88_36 : decode cJ13_bitCount_95d88 36 = .ok (.bipush 8, 2) := by decide +kernel
theorem dJ13_bitCount_95d88_38 : decode cJ13_bitCount_95d88 38 = .ok (.lushr, 1) := by decide +kernel
theorem dJ13_bitCount_95d88_39 : decode cJ13_bitCount_95d88 39 = .ok (.ladd, 1) := by decide +kernel
theorem dJ13_bitCount_95d88_40 : decode cJ13_bitCount_95d88 40 = .ok (.lstore_n 0, 1) := by decide +kernel
theorem dJ13_bitCount_95d88_41 : decode cJ13_bitCount_95d88 41 = .ok (.lload_n 0, 1) := by decide +kernel
theorem dJ13_bitCount_95d88_42 : decode cJ13_bitCount_95d88 42 = .ok (.lload_n 0, 1) := by decide +kernel
theorem dJ13_bitCount_95d88_43 : decode cJ13_bitCount_95d88 43 = .ok (.bipush 16, 2) := by decide +kernel
theorem dJ13_bitCount_95d88_45 : decode cJ13_bitCount_95d88 45 = .ok (.lushr, 1) := by decide +kernel
theorem dJ13_bitCount_95d88_46 : decode cJ13_bitCount_95d88 46 = .ok (.ladd, 1) := by decide +kernel
theorem dJ13_bitCount_95d88_47 : decode cJ13_bitCount_95d88 47 = .ok (.lstore_n 0, 1) := by decide +kernel
theorem dJ13_bitCount_95d88_48 : decode cJ13_bitCount_95d88 48 = .ok (.lload_n 0, 1) := by decide +kernel
theorem dJ13_bitCount_95d88_49 : decode cJ13_bitCount_95d88 49 = .ok (.lload_n 0, 1) := by decide +kernel
theorem dJ13_bitCount_95d88_50 : decode cJ13_bitCount_95d88 50 = .ok (.bipush 32, 2) := by decide +kernel
theorem dJ13_bitCount_95d88_52 : decode cJ13_bitCount_95d88 52 = .ok (.lushr, 1) := by decide +kernel
theorem dJ13_bitCount_95d88_53 : decode cJ13_bitCount_95d88 53 = .ok (.ladd, 1) := by decide +kernel
theorem dJ13_bitCount_95d88_54 : decode cJ13_bitCount_95d88 54 = .ok (.lstore_n 0, 1) := by decide +kernel
theorem dJ13_bitCount_95d88_55 : decode cJ13_bitCount_95d88 55 = .ok (.lload_n 0, 1) := by decide +kernel
theorem dJ13_bitCount_95d88_56 : decode cJ13_bitCount_95d88 56 = .ok (.l2i, 1) := by decide +kernel
theorem dJ13_bitCount_95d88_57 : decode cJ13_bitCount_95d88 57 = .ok (.bipush 127, 2) := by decide +kernel
theorem dJ13_bitCount_95d88_59 : decode cJ13_bitCount_95d88 59 = .ok (.iand, 1) := by decide +kernel
theorem dJ13_bitCount_95d88_60 : decode cJ13_bitCount_95d88 60 = .ok (.ireturn, 1) := by decide +kernel
set_option maxHeartbeats 1000000 in
set_option maxRecDepth 100000 in
/-- bitCount -/
theorem s_bitCount (l : Launch) (G : pT) (x : Int64) : PM l G pX0 yJ13_bitCount_95d88 cJ13_bitCount_95d88 2 (some .int) ({ frames := 2, cells := 0, slots := 0, locals := 60 }) [.long x] [] (fun (v : Option Value) (u : Unit) => ∃ r : Int32, v = some (.int r)) (fun u => []) := by
  intro sz
  refine Met.ofW (cc := cJ13_bitCount_95d88) (maxL := 2) (ret := (some .int)) (by decide) rfl ?_
  intro p e s m args below meth c s₁ B hml hv
  obtain ⟨rfl, hsz, hP, hD0, hE, hX⟩ := hv
  have hx := B.exec
  have hb := B.bytes
  have hr := B.returns
  have hts := atoms_spec (ws := Cond.code yJ13_bitCount_95d88 cJ13_bitCount_95d88 2 (some .int) :: pw) B.pre
  have hq : ∀ w ∈ pw, w.before _ s = true := fun w h => hts w (List.mem_cons_of_mem _ h)
  have hown : s.vm.findClass RJ13 = some m.cls := findClass_of_methodNamed B.named
  have hlocks := B.notSynchronized
  subst hsz
  have hD := hD0.self (sz := s.heap.size)
  have hA : ∀ q : Nat, s.heap.size ≤ q → va_A [] s.heap.size q := fun q h => Or.inr h
  have hP : va_P G.1 pCl [] s.heap := hP
  generalize va_A [] s.heap.size = A at hD hE hA ⊢
  have hS : va_S A s.heap s.heap [] := va_S.rf
  have hl := lv_entry ([.long x]) (n := 2) (Nat.le_of_ble_eq_true rfl)
  rw [lg_entry_eq]
  generalize (lg_sl ([.long x]) ++ List.replicate (2 - (lg_sl ([.long x])).length) Slot.unset).toArray = ls at hl ⊢
  have hl : lv_has ls 2 [(0, .long x)] := hl
  refine lv_lload_n hx hb dJ13_bitCount_95d88_0 rfl (lv_at hl 0 rfl) ?_
  refine lv_lload_n hx hb dJ13_bitCount_95d88_1 rfl (lv_at hl 0 rfl) ?_
  refine lv_iconst (v := 1) hx hb dJ13_bitCount_95d88_2 (by decide) ?_
  refine lv_lushr hx hb dJ13_bitCount_95d88_3 rfl ?_
  refine lv_topl (fun x1 e2 => ?_)
  refine lv_ldc2 (v := 6148914691236517205) hx hb hown (hq _ pw_1365) dJ13_bitCount_95d88_4 ?_
  refine lv_land hx hb dJ13_bitCount_95d88_7 ?_
  refine lv_topl (fun x3 e4 => ?_)
  refine lv_lsub hx hb dJ13_bitCount_95d88_8 ?_
  refine lv_topl (fun x5 e6 => ?_)
  refine lv_lstore_n (lv' := [(0, .long x5)]) hx hb dJ13_bitCount_95d88_9 rfl hl (by decide) rfl (fun ls hl => ?_)
  refine lv_lload_n hx hb dJ13_bitCount_95d88_10 rfl (lv_at hl 0 rfl) ?_
  refine lv_ldc2 (v := 3689348814741910323) hx hb hown (hq _ pw_1366) dJ13_bitCount_95d88_11 ?_
  refine lv_land hx hb dJ13_bitCount_95d88_14 ?_
  refine lv_topl (fun x7 e8 => ?_)
  refine lv_lload_n hx hb dJ13_bitCount_95d88_15 rfl (lv_at hl 0 rfl) ?_
  refine lv_iconst (v := 2) hx hb dJ13_bitCount_95d88_16 (by decide) ?_
  refine lv_lushr hx hb dJ13_bitCount_95d88_17 rfl ?_
  refine lv_topl (fun x9 e10 => ?_)
  refine lv_ldc2 (v := 3689348814741910323) hx hb hown (hq _ pw_1366) dJ13_bitCount_95d88_18 ?_
  refine lv_land hx hb dJ13_bitCount_95d88_21 ?_
  refine lv_topl (fun x11 e12 => ?_)
  refine lv_ladd hx hb dJ13_bitCount_95d88_22 ?_
  refine lv_topl (fun x13 e14 => ?_)
  refine lv_lstore_n (lv' := [(0, .long x13)]) hx hb dJ13_bitCount_95d88_23 rfl hl (by decide) rfl (fun ls hl => ?_)
  refine lv_lload_n hx hb dJ13_bitCount_95d88_24 rfl (lv_at hl 0 rfl) ?_
  refine lv_lload_n hx hb dJ13_bitCount_95d88_25 rfl (lv_at hl 0 rfl) ?_
  refine lv_iconst (v := 4) hx hb dJ13_bitCount_95d88_26 (by decide) ?_
  refine lv_lushr hx hb dJ13_bitCount_95d88_27 rfl ?_
  refine lv_topl (fun x15 e16 => ?_)
  refine lv_ladd hx hb dJ13_bitCount_95d88_28 ?_
  refine lv_topl (fun x17 e18 => ?_)
  refine lv_ldc2 (v := 1085102592571150095) hx hb hown (hq _ pw_1367) dJ13_bitCount_95d88_29 ?_
  refine lv_land hx hb dJ13_bitCount_95d88_32 ?_
  refine lv_topl (fun x19 e20 => ?_)
  refine lv_lstore_n (lv' := [(0, .long x19)]) hx hb dJ13_bitCount_95d88_33 rfl hl (by decide) rfl (fun ls hl => ?_)
  refine lv_lload_n hx hb dJ13_bitCount_95d88_34 rfl (lv_at hl 0 rfl) ?_
  refine lv_lload_n hx hb dJ13_bitCount_95d88_35 rfl (lv_at hl 0 rfl) ?_
  refine lv_bipush (v := 8) hx hb dJ13_bitCount_95d88_36 (by decide) ?_
  refine lv_lushr hx hb dJ13_bitCount_95d88_38 rfl ?_
  refine lv_topl (fun x21 e22 => ?_)
  refine lv_ladd hx hb dJ13_bitCount_95d88_39 ?_
  refine lv_topl (fun x23 e24 => ?_)
  refine lv_lstore_n (lv' := [(0, .long x23)]) hx hb dJ13_bitCount_95d88_40 rfl hl (by decide) rfl (fun ls hl => ?_)
  refine lv_lload_n hx hb dJ13_bitCount_95d88_41 rfl (lv_at hl 0 rfl) ?_
  refine lv_lload_n hx hb dJ13_bitCount_95d88_42 rfl (lv_at hl 0 rfl) ?_
  refine lv_bipush (v := 16) hx hb dJ13_bitCount_95d88_43 (by decide) ?_
  refine lv_lushr hx hb dJ13_bitCount_95d88_45 rfl ?_
  refine lv_topl (fun x25 e26 => ?_)
  refine lv_ladd hx hb dJ13_bitCount_95d88_46 ?_
  refine lv_topl (fun x27 e28 => ?_)
  refine lv_lstore_n (lv' := [(0, .long x27)]) hx hb dJ13_bitCount_95d88_47 rfl hl (by decide) rfl (fun ls hl => ?_)
  refine lv_lload_n hx hb dJ13_bitCount_95d88_48 rfl (lv_at hl 0 rfl) ?_
  refine lv_lload_n hx hb dJ13_bitCount_95d88_49 rfl (lv_at hl 0 rfl) ?_
  refine lv_bipush (v := 32) hx hb dJ13_bitCount_95d88_50 (by decide) ?_
  refine lv_lushr hx hb dJ13_bitCount_95d88_52 rfl ?_
  refine lv_topl (fun x29 e30 => ?_)
  refine lv_ladd hx hb dJ13_bitCount_95d88_53 ?_
  refine lv_topl (fun x31 e32 => ?_)
  refine lv_lstore_n (lv' := [(0, .long x31)]) hx hb dJ13_bitCount_95d88_54 rfl hl (by decide) rfl (fun ls hl => ?_)
  refine lv_lload_n hx hb dJ13_bitCount_95d88_55 rfl (lv_at hl 0 rfl) ?_
  refine lv_l2i hx hb dJ13_bitCount_95d88_56 rfl ?_
  refine lv_topi (fun x33 e34 => ?_)
  refine lv_bipush (v := 127) hx hb dJ13_bitCount_95d88_57 (by decide) ?_
  refine lv_iand hx hb dJ13_bitCount_95d88_59 ?_
  refine lv_topi (fun x35 e36 => ?_)
  refine W.widen (k := 0) (n := 0) (Nat.le_of_ble_eq_true rfl) (Nat.le_of_ble_eq_true rfl) ?_
  exact W.iret (v := x35) hx hb hr (fun t ht hW => ⟨⟨_, (), rfl, ⟨_, rfl⟩, by rw [ht]; exact hP.sub [] rfl, hD.sub [] (by decide) rfl⟩, hS.F ht⟩) hS.2.2 dJ13_bitCount_95d88_60
theorem dX11_type_0 : decode cX11_type 0 = .ok (.aload_n 0, 1) := by decide +kernel
theorem dX11_type_1 : decode cX11_type 1 = .ok (.iload_n 1, 1) := by decide +kernel
theorem dX11_type_2 : decode cX11_type 2 = .ok (.invokevirtual 95, 3) := by decide +kernel
theorem dX11_type_5 : decode cX11_type 5 = .ok (.astore_n 3, 1) := by decide +kernel
theorem dX11_type_6 : decode cX11_type 6 = .ok (.aload_n 3, 1) := by decide +kernel
theorem dX11_type_7 : decode cX11_type 7 = .ok (.ifnonnull 5, 3) := by decide +kernel
theorem dX11_type_10 : decode cX11_type 10 = .ok (.iconst (-1), 1) := by decide +kernel
theorem dX11_type_11 : decode cX11_type 11 = .ok (.ireturn, 1) := by decide +kernel
theorem hV_X11_declared : yX11_declared.cls = RX11 ∧ yX11_declared.cls ≠ "java/lang/invoke/MethodHandle" ∧ yX11_declared.cls ≠ "java/lang/invoke/VarHandle" ∧ (parseMethodDescriptor yX11_declared.desc).map (fun d => d.parameters.length) = some 1 := by decide +kernel
set_option maxHeartbeats 2000000 in
set_option maxRecDepth 100000 in
theorem J_typeN (l : Launch) (G : pT) (h0 : Nat) (a : Nat → Nat) (F : Nat → Int32) (R : Nat → Value) (Z : Int64) (B : Nat → Nat → Int32) (J : Nat → Nat → Int64) (T : Nat → Nat) (Pi : Nat → va_E → Prop) (w : va_W) (x : Int32) (y : Int32) (hO : OKW G h0 a F (updR R 0 (.null)) Z B J T Pi w) : PM l G pX0 yX11_type cX11_type 4 (some .int) ({ frames := 3, cells := 0, slots := 0, locals := 81 }) [.ref h0, .int x, .int y] w (fun (v : Option Value) (u : va_W × (Int32)) => v = some (.int u.2) ∧ (OKW G h0 a F (updR R 0 (.null)) Z B J T Pi u.1)) (fun u => u.1) := by
  intro sz
  refine Met.ofW (cc := cX11_type) (maxL := 4) (ret := (some .int)) (by decide) rfl ?_
  intro p e s m args below meth c s₁ B9 hml hv
  obtain ⟨rfl, hsz, hP, hD0, hE, hX⟩ := hv
  have hx := B9.exec
  have hb := B9.bytes
  have hr := B9.returns
  have hts := atoms_spec (ws := Cond.code yX11_type cX11_type 4 (some .int) :: pw) B9.pre
  have hq : ∀ w ∈ pw, w.before _ s = true := fun w h => hts w (List.mem_cons_of_mem _ h)
  have hown : s.vm.findClass RX11 = some m.cls := findClass_of_methodNamed B9.named
  have hlocks := B9.notSynchronized
  subst hsz
  have hD := hD0.self (sz := s.heap.size)
  have hA : ∀ q : Nat, s.heap.size ≤ q → va_A w s.heap.size q := fun q h => Or.inr h
  generalize va_A w s.heap.size = A at hD hE hA ⊢
  have hS : va_S A s.heap s.heap [] := va_S.rf
  have hl := lv_entry ([.ref h0, .int x, .int y]) (n := 4) (Nat.le_of_ble_eq_true rfl)
  rw [lg_entry_eq]
  generalize (lg_sl ([.ref h0, .int x, .int y]) ++ List.replicate (4 - (lg_sl ([.ref h0, .int x, .int y])).length) Slot.unset).toArray = ls at hl ⊢
  have hl : lv_has ls 4 [(0, .ref h0), (1, .int x), (2, .int y)] := hl
  refine lv_aload_n hx hb dX11_type_0 rfl (lv_at hl 0 rfl) ?_
  refine lv_iload_n hx hb dX11_type_1 rfl (lv_at hl 1 rfl) ?_
  have hO : OKW G h0 a F (updR (updR R 0 (.null)) 0 (.null)) Z B J T Pi w := hO.to rfl
  obtain ⟨_, qr4, hqr5⟩ := hO.2.1 0 _ (sg_0 G h0 a _ _ _ _ _)
  refine pc_V0 (G := G) (As := [.int x]) (rest := []) hx hb hml hown hq hE hX pX0_al hP hD hS hA hl.1 (J_declaredN l G h0 a F (updR R 0 (.null)) Z B J T Pi w x hO) (gV pw_1374 pw_1375 pw_1376 pw_1339 pw_1362) hV_X11_declared qr4 8 hqr5 rfl rfl rfl (Nat.le_of_ble_eq_true rfl) dX11_type_2 ⟨Nat.le_of_ble_eq_true rfl, Nat.le_of_ble_eq_true rfl⟩ ⟨Nat.le_of_ble_eq_true rfl, Nat.le_of_ble_eq_true rfl⟩ (fun v3 u1 H locs hw2 hP hD hS => ?_)
  obtain ⟨w, _⟩ := u1
  obtain ⟨hw2, hO⟩ := hw2
  obtain rfl : v3 = some (.null) := hw2
  have hO : OKW G h0 a F (updR R 0 (.null)) Z B J T Pi w := hO.to rfl
  refine W.widen (k := 0) (n := 0) (Nat.le_of_ble_eq_true rfl) (Nat.le_of_ble_eq_true rfl) ?_
  refine W.eq (g2 := F0 m 5 ls [.null]) rfl ?_
  refine lv_astore_nN (lv' := [(3, .null), (0, .ref h0), (1, .int x), (2, .int y)]) hx hb dX11_type_5 rfl hl (by decide) rfl (fun ls hl => ?_)
  refine lv_aload_nN hx hb dX11_type_6 rfl (lv_at hl 0 rfl) ?_
  refine lv_ifnonnullN hx hb dX11_type_7 ?_
  refine lv_iconst (v := (-1)) hx hb dX11_type_10 (by decide) ?_
  have hO : OKW G h0 a F (updR R 0 (.null)) Z B J T Pi w := hO.to rfl
  exact W.iret (v := (-1)) hx hb hr (fun t99 ht99 hW99 => ⟨⟨_, (w, ((-1) : Int32)), rfl, ⟨rfl, hO⟩, by rw [ht99]; exact hP, hD⟩, hS.F ht99⟩) hS.2.2 dX11_type_11
theorem dX11_type_12 : decode cX11_type 12 = .ok (.iload_n 2, 1) := by decide +kernel
theorem dX11_type_13 : decode cX11_type 13 = .ok (.tableswitch 111 0 5 #[39, 58, 66, 74, 87, 95], 39) := by decide +kernel
theorem dX11_type_52 : decode cX11_type 52 = .ok (.aload_n 3, 1) := by decide +kernel
theorem dX11_type_53 : decode cX11_type 53 = .ok (.getfield 98, 3) := by decide +kernel
theorem dX11_type_56 : decode cX11_type 56 = .ok (.ifnonnull 7, 3) := by decide +kernel
theorem dX11_type_59 : decode cX11_type 59 = .ok (.iconst (-1), 1) := by decide +kernel
theorem dX11_type_60 : decode cX11_type 60 = .ok (.goto 10, 3) := by decide +kernel
theorem dX11_type_70 : decode cX11_type 70 = .ok (.ireturn, 1) := by decide +kernel
theorem dX11_type_63 : decode cX11_type 63 = .ok (.aload_n 3, 1) := by decide +kernel
theorem dX11_type_64 : decode cX11_type 64 = .ok (.getfield 98, 3) := by decide +kernel
theorem dX11_type_67 : decode cX11_type 67 = .ok (.getfield 104, 3) := by decide +kernel
theorem dX11_type_71 : decode cX11_type 71 = .ok (.aload_n 3, 1) := by decide +kernel
theorem dX11_type_72 : decode cX11_type 72 = .ok (.getfield 107, 3) := by decide +kernel
theorem dX11_type_75 : decode cX11_type 75 = .ok (.invokevirtual 111, 3) := by decide +kernel
theorem dX11_type_78 : decode cX11_type 78 = .ok (.ireturn, 1) := by decide +kernel
theorem dX11_type_79 : decode cX11_type 79 = .ok (.aload_n 3, 1) := by decide +kernel
theorem dX11_type_80 : decode cX11_type 80 = .ok (.getfield 117, 3) := by decide +kernel
theorem dX11_type_83 : decode cX11_type 83 = .ok (.invokevirtual 111, 3) := by decide +kernel
theorem dX11_type_86 : decode cX11_type 86 = .ok (.ireturn, 1) := by decide +kernel
theorem dX11_type_87 : decode cX11_type 87 = .ok (.aload_n 3, 1) := by decide +kernel
theorem dX11_type_88 : decode cX11_type 88 = .ok (.getfield 120, 3) := by decide +kernel
theorem dX11_type_91 : decode cX11_type 91 = .ok (.ifCond .eq 7, 3) := by decide +kernel
theorem dX11_type_98 : decode cX11_type 98 = .ok (.iconst 0, 1) := by decide +kernel
theorem dX11_type_99 : decode cX11_type 99 = .ok (.ireturn, 1) := by decide +kernel
theorem dX11_type_94 : decode cX11_type 94 = .ok (.iconst 1, 1) := by decide +kernel
theorem dX11_type_95 : decode cX11_type 95 = .ok (.goto 4, 3) := by decide +kernel
theorem dX11_type_100 : decode cX11_type 100 = .ok (.aload_n 3, 1) := by decide +kernel
theorem dX11_type_101 : decode cX11_type 101 = .ok (.getfield 124, 3) := by decide +kernel
theorem dX11_type_104 : decode cX11_type 104 = .ok (.invokestatic 128, 3) := by decide +kernel
theorem dX11_type_107 : decode cX11_type 107 = .ok (.ireturn, 1) := by decide +kernel
theorem dX11_type_108 : decode cX11_type 108 = .ok (.aload_n 3, 1) := by decide +kernel
theorem dX11_type_109 : decode cX11_type 109 = .ok (.getfield 120, 3) := by decide +kernel
theorem dX11_type_112 : decode cX11_type 112 = .ok (.ifCond .eq 7, 3) := by decide +kernel
theorem dX11_type_119 : decode cX11_type 119 = .ok (.aload_n 3, 1) := by decide +kernel
theorem dX11_type_120 : decode cX11_type 120 = .ok (.invokevirtual 134, 3) := by decide +kernel
theorem dX11_type_123 : decode cX11_type 123 = .ok (.ireturn, 1) := by decide +kernel
theorem dX11_type_115 : decode cX11_type 115 = .ok (.iconst (-1), 1) := by decide +kernel
theorem dX11_type_116 : decode cX11_type 116 = .ok (.goto 7, 3) := by decide +kernel
theorem dX11_type_124 : decode cX11_type 124 = .ok (.iconst (-1), 1) := by decide +kernel
theorem dX11_type_125 : decode cX11_type 125 = .ok (.ireturn, 1) := by decide +kernel
theorem hS_J13_bitCount_95d88 : yJ13_bitCount_95d88.cls ≠ "java/lang/invoke/MethodHandle" ∧ yJ13_bitCount_95d88.cls ≠ "java/lang/invoke/VarHandle" ∧ (parseMethodDescriptor yJ13_bitCount_95d88.desc).map (fun d => d.parameters.length) = some 1 := by decide +kernel
set_option maxHeartbeats 20000000 in
set_option maxRecDepth 100000 in
theorem J_type (l : Launch) (G : pT) (h0 : Nat) (a : Nat → Nat) (F : Nat → Int32) (R : Nat → Value) (Z : Int64) (B : Nat → Nat → Int32) (J : Nat → Nat → Int64) (K : PK) (w : va_W) (x : Int32) (y : Int32) (pq : Nat) (dr : Nat) (ml : Nat) (nd : Nat) (nm : Nat) (cp : Nat) (it : Nat → Nat) (s9 : Nat) (g : Nat → Nat → Nat) (rk : Nat → Nat) (hwp : WPr G K g) (hps : PgT G K g (a 1) pq dr ml nd nm cp it s9) (hrk : RkO K rk) (hO : OKP G h0 a F (updR R 0 (.ref pq)) Z B J K w) : PM l G pX0 yX11_type cX11_type 4 (some .int) ({ frames := 4, cells := 0, slots := 0, locals := 102 }) [.ref h0, .int x, .int y] w (fun (v : Option Value) (u : va_W × (Int32)) => v = some (.int u.2) ∧ (OKP G h0 a F (updR R 0 (.ref pq)) Z B J K u.1)) (fun u => u.1) := by
  intro sz
  refine Met.ofW (cc := cX11_type) (maxL := 4) (ret := (some .int)) (by decide) rfl ?_
  intro p e s m args below meth c s₁ B9 hml hv
  obtain ⟨rfl, hsz, hP, hD0, hE, hX⟩ := hv
  have hx := B9.exec
  have hb := B9.bytes
  have hr := B9.returns
  have hts := atoms_spec (ws := Cond.code yX11_type cX11_type 4 (some .int) :: pw) B9.pre
  have hq : ∀ w ∈ pw, w.before _ s = true := fun w h => hts w (List.mem_cons_of_mem _ h)
  have hown : s.vm.findClass RX11 = some m.cls := findClass_of_methodNamed B9.named
  have hlocks := B9.notSynchronized
  subst hsz
  have hD := hD0.self (sz := s.heap.size)
  have hA : ∀ q : Nat, s.heap.size ≤ q → va_A w s.heap.size q := fun q h => Or.inr h
  generalize va_A w s.heap.size = A at hD hE hA ⊢
  have hS : va_S A s.heap s.heap [] := va_S.rf
  have hl := lv_entry ([.ref h0, .int x, .int y]) (n := 4) (Nat.le_of_ble_eq_true rfl)
  rw [lg_entry_eq]
  generalize (lg_sl ([.ref h0, .int x, .int y]) ++ List.replicate (4 - (lg_sl ([.ref h0, .int x, .int y])).length) Slot.unset).toArray = ls at hl ⊢
  have hl : lv_has ls 4 [(0, .ref h0), (1, .int x), (2, .int y)] := hl
  have hpg := hps.1
  have hp1 := hpg.1
  have hp2 := hpg.2.1
  have hp3 := hpg.2.2.1
  have hp4 := hpg.2.2.2.1
  have hp5 := hpg.2.2.2.2.1
  have hp6 := hpg.2.2.2.2.2.1
  have hp8 := hpg.2.2.2.2.2.2.2.1
  have hp9 := hpg.2.2.2.2.2.2.2.2
  refine lv_aload_n hx hb dX11_type_0 rfl (lv_at hl 0 rfl) ?_
  refine lv_iload_n hx hb dX11_type_1 rfl (lv_at hl 1 rfl) ?_
  have hO : OKP G h0 a F (updR (updR R 0 (.ref pq)) 0 (.ref pq)) Z B J K w := hO.to rfl
  obtain ⟨_, qr4, hqr5⟩ := hO.2.1 0 _ (sg_0 G h0 a _ _ _ _ _)
  refine pc_V0 (G := G) (As := [.int x]) (rest := []) hx hb hml hown hq hE hX pX0_al hP hD hS hA hl.1 (J_declared l G h0 a F (updR R 0 (.ref pq)) Z B J K w x pq dr ml nd nm cp it s9 g rk hwp hps hrk hO) (gV pw_1374 pw_1375 pw_1376 pw_1339 pw_1362) hV_X11_declared qr4 8 hqr5 rfl rfl rfl (Nat.le_of_ble_eq_true rfl) dX11_type_2 ⟨Nat.le_of_ble_eq_true rfl, Nat.le_of_ble_eq_true rfl⟩ ⟨Nat.le_of_ble_eq_true rfl, Nat.le_of_ble_eq_true rfl⟩ (fun v3 u1 H locs hw2 hP hD hS => ?_)
  obtain ⟨w, o6⟩ := u1
  obtain ⟨hw2, h7, hO⟩ := hw2
  have h7 : DoN K o6 := h7
  obtain rfl : v3 = some ((va_rf o6)) := hw2
  have hO : OKP G h0 a F (updR R 0 (.ref pq)) Z B J K w := hO.to rfl
  refine W.widen (k := 0) (n := 0) (Nat.le_of_ble_eq_true rfl) (Nat.le_of_ble_eq_true rfl) ?_
  refine W.eq (g2 := F0 m 5 ls [(va_rf o6)]) rfl ?_
  rcases o6 with _ | d8
  · have hl : lv_has ls 4 [(0, .ref h0), (1, .int x), (2, .int y)] := hl
    refine W.eq (g2 := F0 m 5 ls [.null]) rfl ?_
    refine lv_astore_nN (lv' := [(3, .null), (0, .ref h0), (1, .int x), (2, .int y)]) hx hb dX11_type_5 rfl hl (by decide) rfl (fun ls hl => ?_)
    refine lv_aload_nN hx hb dX11_type_6 rfl (lv_at hl 0 rfl) ?_
    refine lv_ifnonnullN hx hb dX11_type_7 ?_
    refine lv_iconst (v := (-1)) hx hb dX11_type_10 (by decide) ?_
    have hO : OKP G h0 a F (updR R 0 (.ref pq)) Z B J K w := hO.to rfl
    exact W.iret (v := (-1)) hx hb hr (fun t99 ht99 hW99 => ⟨⟨_, (w, ((-1) : Int32)), rfl, ⟨rfl, hO⟩, by rw [ht99]; exact hP, hD⟩, hS.F ht99⟩) hS.2.2 dX11_type_11
  · have hl : lv_has ls 4 [(0, .ref h0), (1, .int x), (2, .int y)] := hl
    refine W.eq (g2 := F0 m 5 ls [.ref d8]) rfl ?_
    have hdT := h7 d8 rfl
    obtain ⟨lm, hflm, htlm, hrlm, holm⟩ := (hwp.2.2.1 d8 hdT).2.2.1
    obtain ⟨nlm, itlm, cplm, hlclm, hnblm, hcblm⟩ := hwp.2.1 lm htlm
    rw [hrlm] at hlclm hnblm
    have hnclm := hlclm.2.2.1
    have hnblm : nlm ≤ 5000 := hnblm
    have hlclm : LsC G K lm 1 nlm itlm cplm := hlclm
    obtain ⟨lk, hflk, htlk, hrlk, holk⟩ := (hwp.2.2.1 d8 hdT).2.2.2.1
    obtain ⟨nlk, itlk, cplk, hlclk, hnblk, hcblk⟩ := hwp.2.1 lk htlk
    rw [hrlk] at hlclk hnblk
    have hnclk := hlclk.2.2.1
    have hnblk : nlk ≤ 5000 := hnblk
    have hlclk : LsC G K lk 3 nlk itlk cplk := hlclk
    refine lv_astore_n (lv' := [(3, .ref d8), (0, .ref h0), (1, .int x), (2, .int y)]) hx hb dX11_type_5 rfl hl (by decide) rfl (fun ls hl => ?_)
    refine lv_aload_n hx hb dX11_type_6 rfl (lv_at hl 0 rfl) ?_
    refine lv_ifnonnull (tgt := 12) hx hb dX11_type_7 (by decide) ?_
    refine lv_iload_n hx hb dX11_type_12 rfl (lv_at hl 3 rfl) ?_
    by_cases h9 : y = 0
    · subst h9
      refine lv_tableIn (tgt := 52) (off := 39) hx hb dX11_type_13 (by decide) (by decide) (by decide) (by decide) ?_
      refine lv_aload_n hx hb dX11_type_52 rfl (lv_at hl 0 rfl) ?_
      rcases ho11 : K.2.2.1 10 d8 with _ | o10
      · skip
        refine p_get (v := .null) (C := RX2) (Tc := TX2) (N := 13) (ci := 2) hx hb hq pin_wsX20 hown hE hP hO (by rw [hdT]; decide) (rep_4 hdT) rfl 9 (by decide) (hq _ pw_1368) (fun _ h9 => h9) (congrArg (fun z => some (va_rf z)) ho11) dX11_type_53 ?_
        refine lv_ifnonnullN hx hb dX11_type_56 ?_
        refine lv_iconst (v := (-1)) hx hb dX11_type_59 (by decide) ?_
        refine lv_goto (tgt := 70) hx hb dX11_type_60 (by decide) ?_
        have hO : OKP G h0 a F (updR R 0 (.ref pq)) Z B J K w := hO.to rfl
        exact W.iret (v := (-1)) hx hb hr (fun t99 ht99 hW99 => ⟨⟨_, (w, ((-1) : Int32)), rfl, ⟨rfl, hO⟩, by rw [ht99]; exact hP, hD⟩, hS.F ht99⟩) hS.2.2 dX11_type_70
      · have hpT := (hwp.2.2.1 d8 hdT).2.2.2.2.1 o10 ho11
        refine p_get (v := .ref o10) (C := RX2) (Tc := TX2) (N := 13) (ci := 2) hx hb hq pin_wsX20 hown hE hP hO (by rw [hdT]; decide) (rep_4 hdT) rfl 9 (by decide) (hq _ pw_1368) (fun _ h9 => h9) (congrArg (fun z => some (va_rf z)) ho11) dX11_type_53 ?_
        refine lv_ifnonnull (tgt := 63) hx hb dX11_type_56 (by decide) ?_
        refine lv_aload_n hx hb dX11_type_63 rfl (lv_at hl 0 rfl) ?_
        refine p_get (v := .ref o10) (C := RX2) (Tc := TX2) (N := 13) (ci := 2) hx hb hq pin_wsX20 hown hE hP hO (by rw [hdT]; decide) (rep_4 hdT) rfl 9 (by decide) (hq _ pw_1368) (fun _ h9 => h9) (congrArg (fun z => some (va_rf z)) ho11) dX11_type_64 ?_
        refine p_get (v := .int (K.2.1 15 o10)) (C := RX2) (Tc := TX2) (N := 13) (ci := 2) hx hb hq pin_wsX20 hown hE hP hO (by rw [hpT]; decide) (rep_4 hpT) rfl 0 (by decide) (hq _ pw_1369) (fun _ h9 => h9) rfl dX11_type_67 ?_
        have hO : OKP G h0 a F (updR R 0 (.ref pq)) Z B J K w := hO.to rfl
        exact W.iret (v := (K.2.1 15 o10)) hx hb hr (fun t99 ht99 hW99 => ⟨⟨_, (w, (K.2.1 15 o10)), rfl, ⟨rfl, hO⟩, by rw [ht99]; exact hP, hD⟩, hS.F ht99⟩) hS.2.2 dX11_type_70
    by_cases h12 : y = 1
    · subst h12
      refine lv_tableIn (tgt := 71) (off := 58) hx hb dX11_type_13 (by decide) (by decide) (by decide) (by decide) ?_
      refine lv_aload_n hx hb dX11_type_71 rfl (lv_at hl 0 rfl) ?_
      refine p_get (v := .ref lm) (C := RX2) (Tc := TX2) (N := 13) (ci := 2) hx hb hq pin_wsX20 hown hE hP hO (by rw [hdT]; decide) (rep_4 hdT) rfl 11 (by decide) (hq _ pw_1370) (fun _ h9 => h9) (congrArg (fun z => some (va_rf z)) hflm) dX11_type_72 ?_
      have hO : OKP G h0 a F (updR R 0 (.ref pq)) Z B J K w := hO.to rfl
      obtain ⟨qr16, hqr17⟩ := p_recv hO (by rw [htlm]; decide) (rep_5 htlm)
      refine pc_V0 (G := G) (As := []) (rest := []) hx hb hml hown hq hE hX pX0_al hP hD hS hA hl.1 (L_size l G h0 a F (updR R 0 (.ref pq)) Z B J K w lm 1 nlm itlm hlclm.ls hO) (gV pw_1377 pw_87 pw_88 pw_32 pw_16) hV_Jx4a65c_size_8abf5 qr16 10 hqr17 rfl rfl rfl (Nat.le_of_ble_eq_true rfl) dX11_type_75 ⟨Nat.le_of_ble_eq_true rfl, Nat.le_of_ble_eq_true rfl⟩ ⟨Nat.le_of_ble_eq_true rfl, Nat.le_of_ble_eq_true rfl⟩ (fun v15 u13 H locs hw14 hP hD hS => ?_)
      obtain ⟨w, _⟩ := u13
      obtain ⟨hw14, hO⟩ := hw14
      obtain rfl : v15 = some (.int (nI nlm)) := hw14
      have hO : OKP G h0 a F (updR R 0 (.ref pq)) Z B J K w := hO.to rfl
      refine W.widen (k := 0) (n := 0) (Nat.le_of_ble_eq_true rfl) (Nat.le_of_ble_eq_true rfl) ?_
      refine W.eq (g2 := F0 m 78 ls [.int (nI nlm)]) rfl ?_
      have hO : OKP G h0 a F (updR R 0 (.ref pq)) Z B J K w := hO.to rfl
      exact W.iret (v := (nI nlm)) hx hb hr (fun t99 ht99 hW99 => ⟨⟨_, (w, (nI nlm)), rfl, ⟨rfl, hO⟩, by rw [ht99]; exact hP, hD⟩, hS.F ht99⟩) hS.2.2 dX11_type_78
    by_cases h18 : y = 2
    · subst h18
      refine lv_tableIn (tgt := 79) (off := 66) hx hb dX11_type_13 (by decide) (by decide) (by decide) (by decide) ?_
      refine lv_aload_n hx hb dX11_type_79 rfl (lv_at hl 0 rfl) ?_
      refine p_get (v := .ref lk) (C := RX2) (Tc := TX2) (N := 13) (ci := 2) hx hb hq pin_wsX20 hown hE hP hO (by rw [hdT]; decide) (rep_4 hdT) rfl 12 (by decide) (hq _ pw_1371) (fun _ h9 => h9) (congrArg (fun z => some (va_rf z)) hflk) dX11_type_80 ?_
      have hO : OKP G h0 a F (updR R 0 (.ref pq)) Z B J K w := hO.to rfl
      obtain ⟨qr22, hqr23⟩ := p_recv hO (by rw [htlk]; decide) (rep_5 htlk)
      refine pc_V0 (G := G) (As := []) (rest := []) hx hb hml hown hq hE hX pX0_al hP hD hS hA hl.1 (L_size l G h0 a F (updR R 0 (.ref pq)) Z B J K w lk 3 nlk itlk hlclk.ls hO) (gV pw_1377 pw_87 pw_88 pw_32 pw_16) hV_Jx4a65c_size_8abf5 qr22 10 hqr23 rfl rfl rfl (Nat.le_of_ble_eq_true rfl) dX11_type_83 ⟨Nat.le_of_ble_eq_true rfl, Nat.le_of_ble_eq_true rfl⟩ ⟨Nat.le_of_ble_eq_true rfl, Nat.le_of_ble_eq_true rfl⟩ (fun v21 u19 H locs hw20 hP hD hS => ?_)
      obtain ⟨w, _⟩ := u19
      obtain ⟨hw20, hO⟩ := hw20
      obtain rfl : v21 = some (.int (nI nlk)) := hw20
      have hO : OKP G h0 a F (updR R 0 (.ref pq)) Z B J K w := hO.to rfl
      refine W.widen (k := 0) (n := 0) (Nat.le_of_ble_eq_true rfl) (Nat.le_of_ble_eq_true rfl) ?_
      refine W.eq (g2 := F0 m 86 ls [.int (nI nlk)]) rfl ?_
      have hO : OKP G h0 a F (updR R 0 (.ref pq)) Z B J K w := hO.to rfl
      exact W.iret (v := (nI nlk)) hx hb hr (fun t99 ht99 hW99 => ⟨⟨_, (w, (nI nlk)), rfl, ⟨rfl, hO⟩, by rw [ht99]; exact hP, hD⟩, hS.F ht99⟩) hS.2.2 dX11_type_86
    by_cases h24 : y = 3
    · subst h24
      refine lv_tableIn (tgt := 87) (off := 74) hx hb dX11_type_13 (by decide) (by decide) (by decide) (by decide) ?_
      refine lv_aload_n hx hb dX11_type_87 rfl (lv_at hl 0 rfl) ?_
      refine p_get (v := .int (K.2.1 18 d8)) (C := RX2) (Tc := TX2) (N := 13) (ci := 2) hx hb hq pin_wsX20 hown hE hP hO (by rw [hdT]; decide) (rep_4 hdT) rfl 3 (by decide) (hq _ pw_1372) (fun _ h9 => h9) rfl dX11_type_88 ?_
      refine lv_if_eq (tgt := 98) hx hb dX11_type_91 (by decide) (fun c25 => ?_) (fun c25 => ?_)
      · refine lv_iconst (v := 0) hx hb dX11_type_98 (by decide) ?_
        have hO : OKP G h0 a F (updR R 0 (.ref pq)) Z B J K w := hO.to rfl
        exact W.iret (v := 0) hx hb hr (fun t99 ht99 hW99 => ⟨⟨_, (w, (0 : Int32)), rfl, ⟨rfl, hO⟩, by rw [ht99]; exact hP, hD⟩, hS.F ht99⟩) hS.2.2 dX11_type_99
      · refine lv_iconst (v := 1) hx hb dX11_type_94 (by decide) ?_
        refine lv_goto (tgt := 99) hx hb dX11_type_95 (by decide) ?_
        have hO : OKP G h0 a F (updR R 0 (.ref pq)) Z B J K w := hO.to rfl
        exact W.iret (v := 1) hx hb hr (fun t99 ht99 hW99 => ⟨⟨_, (w, (1 : Int32)), rfl, ⟨rfl, hO⟩, by rw [ht99]; exact hP, hD⟩, hS.F ht99⟩) hS.2.2 dX11_type_99
    by_cases h26 : y = 4
    · subst h26
      refine lv_tableIn (tgt := 100) (off := 87) hx hb dX11_type_13 (by decide) (by decide) (by decide) (by decide) ?_
      refine lv_aload_n hx hb dX11_type_100 rfl (lv_at hl 0 rfl) ?_
      refine p_get (v := .long (K.2.2.2.1 d8)) (C := RX2) (Tc := TX2) (N := 13) (ci := 2) hx hb hq pin_wsX20 hown hE hP hO (by rw [hdT]; decide) (rep_4 hdT) rfl 10 (by decide) (hq _ pw_1373) (fun _ h9 => h9) rfl dX11_type_101 ?_
      refine pc_SN (G := G) (As := [.long (K.2.2.2.1 d8)]) (rest := []) hx hb hml hown hq hE hX pX0_al hP hS hA hl.1 (s_bitCount l G (K.2.2.2.1 d8)) (gS pw_1378 pw_1379 pw_1380 pw_1364) hS_J13_bitCount_95d88 rfl (Nat.le_of_ble_eq_true rfl) dX11_type_104 ⟨Nat.le_of_ble_eq_true rfl, Nat.le_of_ble_eq_true rfl⟩ ⟨Nat.le_of_ble_eq_true rfl, Nat.le_of_ble_eq_true rfl⟩ (fun v29 u27 H locs hw28 hP hS => ?_)
      obtain ⟨r30, rfl⟩ := hw28
      refine W.widen (k := 0) (n := 0) (Nat.le_of_ble_eq_true rfl) (Nat.le_of_ble_eq_true rfl) ?_
      refine W.eq (g2 := F0 m 107 ls [.int r30]) rfl ?_
      have hO : OKP G h0 a F (updR R 0 (.ref pq)) Z B J K w := hO.to rfl
      exact W.iret (v := r30) hx hb hr (fun t99 ht99 hW99 => ⟨⟨_, (w, r30), rfl, ⟨rfl, hO⟩, by rw [ht99]; exact hP, hD⟩, hS.F ht99⟩) hS.2.2 dX11_type_107
    by_cases h31 : y = 5
    · subst h31
      refine lv_tableIn (tgt := 108) (off := 95) hx hb dX11_type_13 (by decide) (by decide) (by decide) (by decide) ?_
      refine lv_aload_n hx hb dX11_type_108 rfl (lv_at hl 0 rfl) ?_
      refine p_get (v := .int (K.2.1 18 d8)) (C := RX2) (Tc := TX2) (N := 13) (ci := 2) hx hb hq pin_wsX20 hown hE hP hO (by rw [hdT]; decide) (rep_4 hdT) rfl 3 (by decide) (hq _ pw_1372) (fun _ h9 => h9) rfl dX11_type_109 ?_
      refine lv_if_eq (tgt := 119) hx hb dX11_type_112 (by decide) (fun c32 => ?_) (fun c32 => ?_)
      · refine lv_aload_n hx hb dX11_type_119 rfl (lv_at hl 0 rfl) ?_
        have hO : OKP G h0 a F (updR R 0 (.ref pq)) Z B J K w := hO.to rfl
        obtain ⟨qr36, hqr37⟩ := p_recv hO (by rw [hdT]; decide) (rep_4 hdT)
        refine pc_V0 (G := G) (As := []) (rest := []) hx hb hml hown hq hE hX pX0_al hP hD hS hA hl.1 (O_cells l G h0 a F (updR R 0 (.ref pq)) Z B J K w d8 g hdT hwp hO) (gV pw_1381 pw_554 pw_555 pw_146 pw_411) hV_X2_cells qr36 2 hqr37 rfl rfl rfl (Nat.le_of_ble_eq_true rfl) dX11_type_120 ⟨Nat.le_of_ble_eq_true rfl, Nat.le_of_ble_eq_true rfl⟩ ⟨Nat.le_of_ble_eq_true rfl, Nat.le_of_ble_eq_true rfl⟩ (fun v35 u33 H locs hw34 hP hD hS => ?_)
        obtain ⟨w, r38⟩ := u33
        obtain ⟨hw34, hO⟩ := hw34
        obtain rfl : v35 = some (.int r38) := hw34
        have hO : OKP G h0 a F (updR R 0 (.ref pq)) Z B J K w := hO.to rfl
        refine W.widen (k := 0) (n := 0) (Nat.le_of_ble_eq_true rfl) (Nat.le_of_ble_eq_true rfl) ?_
        refine W.eq (g2 := F0 m 123 ls [.int r38]) rfl ?_
        have hO : OKP G h0 a F (updR R 0 (.ref pq)) Z B J K w := hO.to rfl
        exact W.iret (v := r38) hx hb hr (fun t99 ht99 hW99 => ⟨⟨_, (w, r38), rfl, ⟨rfl, hO⟩, by rw [ht99]; exact hP, hD⟩, hS.F ht99⟩) hS.2.2 dX11_type_123
      · refine lv_iconst (v := (-1)) hx hb dX11_type_115 (by decide) ?_
        refine lv_goto (tgt := 123) hx hb dX11_type_116 (by decide) ?_
        have hO : OKP G h0 a F (updR R 0 (.ref pq)) Z B J K w := hO.to rfl
        exact W.iret (v := (-1)) hx hb hr (fun t99 ht99 hW99 => ⟨⟨_, (w, ((-1) : Int32)), rfl, ⟨rfl, hO⟩, by rw [ht99]; exact hP, hD⟩, hS.F ht99⟩) hS.2.2 dX11_type_123
    refine lv_tableOut (tgt := 124) hx hb dX11_type_13 (sw_m0_5 h9 h12 h18 h24 h26 h31) (by decide) ?_
    refine lv_iconst (v := (-1)) hx hb dX11_type_124 (by decide) ?_
    have hO : OKP G h0 a F (updR R 0 (.ref pq)) Z B J K w := hO.to rfl
    exact W.iret (v := (-1)) hx hb hr (fun t99 ht99 hW99 => ⟨⟨_, (w, ((-1) : Int32)), rfl, ⟨rfl, hO⟩, by rw [ht99]; exact hP, hD⟩, hS.F ht99⟩) hS.2.2 dX11_type_125

theorem dX11_above_0 : decode cX11_above 0 = .ok (.aload_n 0, 1) := by decide +kernel
theorem dX11_above_1 : decode cX11_above 1 = .ok (.iload_n 1, 1) := by decide +kernel
theorem dX11_above_2 : decode cX11_above 2 = .ok (.invokevirtual 95, 3) := by decide +kernel
theorem dX11_above_5 : decode cX11_above 5 = .ok (.ifnull 11, 3) := by decide +kernel
theorem dX11_above_16 : decode cX11_above 16 = .ok (.iconst (-1), 1) := by decide +kernel
theorem dX11_above_17 : decode cX11_above 17 = .ok (.ireturn, 1) := by decide +kernel
set_option maxHeartbeats 2000000 in
set_option maxRecDepth 100000 in
theorem J_aboveN (l : Launch) (G : pT) (h0 : Nat) (a : Nat → Nat) (F : Nat → Int32) (R : Nat → Value) (Z : Int64) (B : Nat → Nat → Int32) (J : Nat → Nat → Int64) (T : Nat → Nat) (Pi : Nat → va_E → Prop) (w : va_W) (x : Int32) (y : Int32) (hO : OKW G h0 a F (updR R 0 (.null)) Z B J T Pi w) : PM l G pX0 yX11_above cX11_above 3 (some .int) ({ frames := 3, cells := 0, slots := 0, locals := 81 }) [.ref h0, .int x, .int y] w (fun (v : Option Value) (u : va_W × (Int32)) => v = some (.int u.2) ∧ (OKW G h0 a F (updR R 0 (.null)) Z B J T Pi u.1)) (fun u => u.1) := by
  intro sz
  refine Met.ofW (cc := cX11_above) (maxL := 3) (ret := (some .int)) (by decide) rfl ?_
  intro p e s m args below meth c s₁ B9 hml hv
  obtain ⟨rfl, hsz, hP, hD0, hE, hX⟩ := hv
  have hx := B9.exec
  have hb := B9.bytes
  have hr := B9.returns
  have hts := atoms_spec (ws := Cond.code yX11_above cX11_above 3 (some .int) :: pw) B9.pre
  have hq : ∀ w ∈ pw, w.before _ s = true := fun w h => hts w (List.mem_cons_of_mem _ h)
  have hown : s.vm.findClass RX11 = some m.cls := findClass_of_methodNamed B9.named
  have hlocks := B9.notSynchronized
  subst hsz
  have hD := hD0.self (sz := s.heap.size)
  have hA : ∀ q : Nat, s.heap.size ≤ q → va_A w s.heap.size q := fun q h => Or.inr h
  generalize va_A w s.heap.size = A at hD hE hA ⊢
  have hS : va_S A s.heap s.heap [] := va_S.rf
  have hl := lv_entry ([.ref h0, .int x, .int y]) (n := 3) (Nat.le_of_ble_eq_true rfl)
  rw [lg_entry_eq]
  generalize (lg_sl ([.ref h0, .int x, .int y]) ++ List.replicate (3 - (lg_sl ([.ref h0, .int x, .int y])).length) Slot.unset).toArray = ls at hl ⊢
  have hl : lv_has ls 3 [(0, .ref h0), (1, .int x), (2, .int y)] := hl
  refine lv_aload_n hx hb dX11_above_0 rfl (lv_at hl 0 rfl) ?_
  refine lv_iload_n hx hb dX11_above_1 rfl (lv_at hl 1 rfl) ?_
  have hO : OKW G h0 a F (updR (updR R 0 (.null)) 0 (.null)) Z B J T Pi w := hO.to rfl
  obtain ⟨_, qr4, hqr5⟩ := hO.2.1 0 _ (sg_0 G h0 a _ _ _ _ _)
  refine pc_V0 (G := G) (As := [.int x]) (rest := []) hx hb hml hown hq hE hX pX0_al hP hD hS hA hl.1 (J_declaredN l G h0 a F (updR R 0 (.null)) Z B J T Pi w x hO) (gV pw_1374 pw_1375 pw_1376 pw_1339 pw_1362) hV_X11_declared qr4 8 hqr5 rfl rfl rfl (Nat.le_of_ble_eq_true rfl) dX11_above_2 ⟨Nat.le_of_ble_eq_true rfl, Nat.le_of_ble_eq_true rfl⟩ ⟨Nat.le_of_ble_eq_true rfl, Nat.le_of_ble_eq_true rfl⟩ (fun v3 u1 H locs hw2 hP hD hS => ?_)
  obtain ⟨w, _⟩ := u1
  obtain ⟨hw2, hO⟩ := hw2
  obtain rfl : v3 = some (.null) := hw2
  have hO : OKW G h0 a F (updR R 0 (.null)) Z B J T Pi w := hO.to rfl
  refine W.widen (k := 0) (n := 0) (Nat.le_of_ble_eq_true rfl) (Nat.le_of_ble_eq_true rfl) ?_
  refine W.eq (g2 := F0 m 5 ls [.null]) rfl ?_
  refine lv_ifnullN (tgt := 16) hx hb dX11_above_5 (by decide) ?_
  refine lv_iconst (v := (-1)) hx hb dX11_above_16 (by decide) ?_
  have hO : OKW G h0 a F (updR R 0 (.null)) Z B J T Pi w := hO.to rfl
  exact W.iret (v := (-1)) hx hb hr (fun t99 ht99 hW99 => ⟨⟨_, (w, ((-1) : Int32)), rfl, ⟨rfl, hO⟩, by rw [ht99]; exact hP, hD⟩, hS.F ht99⟩) hS.2.2 dX11_above_17
theorem dX11_called_0 : decode cX11_called 0 = .ok (.aload_n 0, 1) := by decide +kernel
theorem dX11_called_1 : decode cX11_called 1 = .ok (.iload_n 1, 1) := by decide +kernel
theorem dX11_called_2 : decode cX11_called 2 = .ok (.invokevirtual 95, 3) := by decide +kernel
theorem dX11_called_5 : decode cX11_called 5 = .ok (.astore_n 3, 1) := by decide +kernel
theorem dX11_called_6 : decode cX11_called 6 = .ok (.aload_n 0, 1) := by decide +kernel
theorem dX11_called_7 : decode cX11_called 7 = .ok (.getfield 69, 3) := by decide +kernel
theorem dX11_called_10 : decode cX11_called 10 = .ok (.ifnonnull 7, 3) := by decide +kernel
theorem dX11_called_13 : decode cX11_called 13 = .ok (.aconst_null, 1) := by decide +kernel
theorem dX11_called_14 : decode cX11_called 14 = .ok (.goto 11, 3) := by decide +kernel
theorem dX11_called_25 : decode cX11_called 25 = .ok (.astore 4, 2) := by decide +kernel
theorem dX11_called_27 : decode cX11_called 27 = .ok (.aload_n 3, 1) := by decide +kernel
theorem dX11_called_28 : decode cX11_called 28 = .ok (.ifnull 15, 3) := by decide +kernel
theorem dX11_called_43 : decode cX11_called 43 = .ok (.iconst (-1), 1) := by decide +kernel
theorem dX11_called_44 : decode cX11_called 44 = .ok (.ireturn, 1) := by decide +kernel
set_option maxHeartbeats 2000000 in
set_option maxRecDepth 100000 in
theorem J_calledN (l : Launch) (G : pT) (h0 : Nat) (a : Nat → Nat) (F : Nat → Int32) (R : Nat → Value) (Z : Int64) (B : Nat → Nat → Int32) (J : Nat → Nat → Int64) (T : Nat → Nat) (Pi : Nat → va_E → Prop) (w : va_W) (x : Int32) (y : Int32) (hO : OKW G h0 a F (updR R 0 (.null)) Z B J T Pi w) : PM l G pX0 yX11_called cX11_called 6 (some .int) ({ frames := 3, cells := 0, slots := 0, locals := 81 }) [.ref h0, .int x, .int y] w (fun (v : Option Value) (u : va_W × (Int32)) => v = some (.int u.2) ∧ (OKW G h0 a F (updR R 0 (.null)) Z B J T Pi u.1)) (fun u => u.1) := by
  intro sz
  refine Met.ofW (cc := cX11_called) (maxL := 6) (ret := (some .int)) (by decide) rfl ?_
  intro p e s m args below meth c s₁ B9 hml hv
  obtain ⟨rfl, hsz, hP, hD0, hE, hX⟩ := hv
  have hx := B9.exec
  have hb := B9.bytes
  have hr := B9.returns
  have hts := atoms_spec (ws := Cond.code yX11_called cX11_called 6 (some .int) :: pw) B9.pre
  have hq : ∀ w ∈ pw, w.before _ s = true := fun w h => hts w (List.mem_cons_of_mem _ h)
  have hown : s.vm.findClass RX11 = some m.cls := findClass_of_methodNamed B9.named
  have hlocks := B9.notSynchronized
  subst hsz
  have hD := hD0.self (sz := s.heap.size)
  have hA : ∀ q : Nat, s.heap.size ≤ q → va_A w s.heap.size q := fun q h => Or.inr h
  generalize va_A w s.heap.size = A at hD hE hA ⊢
  have hS : va_S A s.heap s.heap [] := va_S.rf
  have hl := lv_entry ([.ref h0, .int x, .int y]) (n := 6) (Nat.le_of_ble_eq_true rfl)
  rw [lg_entry_eq]
  generalize (lg_sl ([.ref h0, .int x, .int y]) ++ List.replicate (6 - (lg_sl ([.ref h0, .int x, .int y])).length) Slot.unset).toArray = ls at hl ⊢
  have hl : lv_has ls 6 [(0, .ref h0), (1, .int x), (2, .int y)] := hl
  refine lv_aload_n hx hb dX11_called_0 rfl (lv_at hl 0 rfl) ?_
  refine lv_iload_n hx hb dX11_called_1 rfl (lv_at hl 1 rfl) ?_
  have hO : OKW G h0 a F (updR (updR R 0 (.null)) 0 (.null)) Z B J T Pi w := hO.to rfl
  obtain ⟨_, qr4, hqr5⟩ := hO.2.1 0 _ (sg_0 G h0 a _ _ _ _ _)
  refine pc_V0 (G := G) (As := [.int x]) (rest := []) hx hb hml hown hq hE hX pX0_al hP hD hS hA hl.1 (J_declaredN l G h0 a F (updR R 0 (.null)) Z B J T Pi w x hO) (gV pw_1374 pw_1375 pw_1376 pw_1339 pw_1362) hV_X11_declared qr4 8 hqr5 rfl rfl rfl (Nat.le_of_ble_eq_true rfl) dX11_called_2 ⟨Nat.le_of_ble_eq_true rfl, Nat.le_of_ble_eq_true rfl⟩ ⟨Nat.le_of_ble_eq_true rfl, Nat.le_of_ble_eq_true rfl⟩ (fun v3 u1 H locs hw2 hP hD hS => ?_)
  obtain ⟨w, _⟩ := u1
  obtain ⟨hw2, hO⟩ := hw2
  obtain rfl : v3 = some (.null) := hw2
  have hO : OKW G h0 a F (updR R 0 (.null)) Z B J T Pi w := hO.to rfl
  refine W.widen (k := 0) (n := 0) (Nat.le_of_ble_eq_true rfl) (Nat.le_of_ble_eq_true rfl) ?_
  refine W.eq (g2 := F0 m 5 ls [.null]) rfl ?_
  refine lv_astore_nN (lv' := [(3, .null), (0, .ref h0), (1, .int x), (2, .int y)]) hx hb dX11_called_5 rfl hl (by decide) rfl (fun ls hl => ?_)
  refine lv_aload_n hx hb dX11_called_6 rfl (lv_at hl 1 rfl) ?_
  refine c_get (v := .null) (C := RX11) (Tc := TX11) (N := 8) (ci := 8) hx hb hq pin_wsX110 hown hE hP hO 0 (sg_0 G h0 a _ _ _ _ _) rfl 7 (by decide) (hq _ pw_1342) (fun _ h9 => h9) rfl dX11_called_7 ?_
  refine lv_ifnonnullN hx hb dX11_called_10 ?_
  refine lv_null hx hb dX11_called_13 ?_
  refine lv_goto (tgt := 25) hx hb dX11_called_14 (by decide) ?_
  refine lv_astoreN (lv' := [(4, .null), (3, .null), (0, .ref h0), (1, .int x), (2, .int y)]) hx hb dX11_called_25 hl (by decide) rfl (fun ls hl => ?_)
  refine lv_aload_nN hx hb dX11_called_27 rfl (lv_at hl 1 rfl) ?_
  refine lv_ifnullN (tgt := 43) hx hb dX11_called_28 (by decide) ?_
  refine lv_iconst (v := (-1)) hx hb dX11_called_43 (by decide) ?_
  have hO : OKW G h0 a F (updR R 0 (.null)) Z B J T Pi w := hO.to rfl
  exact W.iret (v := (-1)) hx hb hr (fun t99 ht99 hW99 => ⟨⟨_, (w, ((-1) : Int32)), rfl, ⟨rfl, hO⟩, by rw [ht99]; exact hP, hD⟩, hS.F ht99⟩) hS.2.2 dX11_called_44
theorem dX11_letter_0 : decode cX11_letter 0 = .ok (.aload_n 0, 1) := by decide +kernel
theorem dX11_letter_1 : decode cX11_letter 1 = .ok (.iload_n 1, 1) := by decide +kernel
theorem dX11_letter_2 : decode cX11_letter 2 = .ok (.invokevirtual 95, 3) := by decide +kernel
theorem dX11_letter_5 : decode cX11_letter 5 = .ok (.astore_n 3, 1) := by decide +kernel
theorem dX11_letter_6 : decode cX11_letter 6 = .ok (.aload_n 3, 1) := by decide +kernel
theorem dX11_letter_7 : decode cX11_letter 7 = .ok (.ifnonnull 7, 3) := by decide +kernel
theorem dX11_letter_10 : decode cX11_letter 10 = .ok (.iconst (-1), 1) := by decide +kernel
theorem dX11_letter_11 : decode cX11_letter 11 = .ok (.goto 15, 3) := by decide +kernel
theorem dX11_letter_26 : decode cX11_letter 26 = .ok (.ireturn, 1) := by decide +kernel
set_option maxHeartbeats 2000000 in
set_option maxRecDepth 100000 in
theorem J_letterN (l : Launch) (G : pT) (h0 : Nat) (a : Nat → Nat) (F : Nat → Int32) (R : Nat → Value) (Z : Int64) (B : Nat → Nat → Int32) (J : Nat → Nat → Int64) (T : Nat → Nat) (Pi : Nat → va_E → Prop) (w : va_W) (x : Int32) (y : Int32) (hO : OKW G h0 a F (updR R 0 (.null)) Z B J T Pi w) : PM l G pX0 yX11_letter cX11_letter 4 (some .int) ({ frames := 3, cells := 0, slots := 0, locals := 81 }) [.ref h0, .int x, .int y] w (fun (v : Option Value) (u : va_W × (Int32)) => v = some (.int u.2) ∧ (OKW G h0 a F (updR R 0 (.null)) Z B J T Pi u.1)) (fun u => u.1) := by
  intro sz
  refine Met.ofW (cc := cX11_letter) (maxL := 4) (ret := (some .int)) (by decide) rfl ?_
  intro p e s m args below meth c s₁ B9 hml hv
  obtain ⟨rfl, hsz, hP, hD0, hE, hX⟩ := hv
  have hx := B9.exec
  have hb := B9.bytes
  have hr := B9.returns
  have hts := atoms_spec (ws := Cond.code yX11_letter cX11_letter 4 (some .int) :: pw) B9.pre
  have hq : ∀ w ∈ pw, w.before _ s = true := fun w h => hts w (List.mem_cons_of_mem _ h)
  have hown : s.vm.findClass RX11 = some m.cls := findClass_of_methodNamed B9.named
  have hlocks := B9.notSynchronized
  subst hsz
  have hD := hD0.self (sz := s.heap.size)
  have hA : ∀ q : Nat, s.heap.size ≤ q → va_A w s.heap.size q := fun q h => Or.inr h
  generalize va_A w s.heap.size = A at hD hE hA ⊢
  have hS : va_S A s.heap s.heap [] := va_S.rf
  have hl := lv_entry ([.ref h0, .int x, .int y]) (n := 4) (Nat.le_of_ble_eq_true rfl)
  rw [lg_entry_eq]
  generalize (lg_sl ([.ref h0, .int x, .int y]) ++ List.replicate (4 - (lg_sl ([.ref h0, .int x, .int y])).length) Slot.unset).toArray = ls at hl ⊢
  have hl : lv_has ls 4 [(0, .ref h0), (1, .int x), (2, .int y)] := hl
  refine lv_aload_n hx hb dX11_letter_0 rfl (lv_at hl 0 rfl) ?_
  refine lv_iload_n hx hb dX11_letter_1 rfl (lv_at hl 1 rfl) ?_
  have hO : OKW G h0 a F (updR (updR R 0 (.null)) 0 (.null)) Z B J T Pi w := hO.to rfl
  obtain ⟨_, qr4, hqr5⟩ := hO.2.1 0 _ (sg_0 G h0 a _ _ _ _ _)
  refine pc_V0 (G := G) (As := [.int x]) (rest := []) hx hb hml hown hq hE hX pX0_al hP hD hS hA hl.1 (J_declaredN l G h0 a F (updR R 0 (.null)) Z B J T Pi w x hO) (gV pw_1374 pw_1375 pw_1376 pw_1339 pw_1362) hV_X11_declared qr4 8 hqr5 rfl rfl rfl (Nat.le_of_ble_eq_true rfl) dX11_letter_2 ⟨Nat.le_of_ble_eq_true rfl, Nat.le_of_ble_eq_true rfl⟩ ⟨Nat.le_of_ble_eq_true rfl, Nat.le_of_ble_eq_true rfl⟩ (fun v3 u1 H locs hw2 hP hD hS => ?_)
  obtain ⟨w, _⟩ := u1
  obtain ⟨hw2, hO⟩ := hw2
  obtain rfl : v3 = some (.null) := hw2
  have hO : OKW G h0 a F (updR R 0 (.null)) Z B J T Pi w := hO.to rfl
  refine W.widen (k := 0) (n := 0) (Nat.le_of_ble_eq_true rfl) (Nat.le_of_ble_eq_true rfl) ?_
  refine W.eq (g2 := F0 m 5 ls [.null]) rfl ?_
  refine lv_astore_nN (lv' := [(3, .null), (0, .ref h0), (1, .int x), (2, .int y)]) hx hb dX11_letter_5 rfl hl (by decide) rfl (fun ls hl => ?_)
  refine lv_aload_nN hx hb dX11_letter_6 rfl (lv_at hl 0 rfl) ?_
  refine lv_ifnonnullN hx hb dX11_letter_7 ?_
  refine lv_iconst (v := (-1)) hx hb dX11_letter_10 (by decide) ?_
  refine lv_goto (tgt := 26) hx hb dX11_letter_11 (by decide) ?_
  have hO : OKW G h0 a F (updR R 0 (.null)) Z B J T Pi w := hO.to rfl
  exact W.iret (v := (-1)) hx hb hr (fun t99 ht99 hW99 => ⟨⟨_, (w, ((-1) : Int32)), rfl, ⟨rfl, hO⟩, by rw [ht99]; exact hP, hD⟩, hS.F ht99⟩) hS.2.2 dX11_letter_26
theorem dX11_above_8 : decode cX11_above 8 = .ok (.aload_n 0, 1) := by decide +kernel
theorem dX11_above_9 : decode cX11_above 9 = .ok (.iload_n 2, 1) := by decide +kernel
theorem dX11_above_10 : decode cX11_above 10 = .ok (.invokevirtual 95, 3) := by decide +kernel
theorem dX11_above_13 : decode cX11_above 13 = .ok (.ifnonnull 5, 3) := by decide +kernel
theorem dX11_above_18 : decode cX11_above 18 = .ok (.iload_n 1, 1) := by decide +kernel
theorem dX11_above_19 : decode cX11_above 19 = .ok (.iload_n 2, 1) := by decide +kernel
theorem dX11_above_20 : decode cX11_above 20 = .ok (.if_icmp .eq 15, 3) := by decide +kernel
theorem dX11_above_35 : decode cX11_above 35 = .ok (.iconst 1, 1) := by decide +kernel
theorem dX11_above_36 : decode cX11_above 36 = .ok (.goto 4, 3) := by decide +kernel
theorem dX11_above_40 : decode cX11_above 40 = .ok (.ireturn, 1) := by decide +kernel
theorem dX11_above_23 : decode cX11_above 23 = .ok (.aload_n 0, 1) := by decide +kernel
theorem dX11_above_24 : decode cX11_above 24 = .ok (.getfield 69, 3) := by decide +kernel
theorem dX11_above_27 : decode cX11_above 27 = .ok (.iload_n 1, 1) := by decide +kernel
theorem dX11_above_28 : decode cX11_above 28 = .ok (.iload_n 2, 1) := by decide +kernel
theorem dX11_above_29 : decode cX11_above 29 = .ok (.invokevirtual 137, 3) := by decide +kernel
theorem dX11_above_32 : decode cX11_above 32 = .ok (.ifCond .eq 7, 3) := by decide +kernel
theorem dX11_above_39 : decode cX11_above 39 = .ok (.iconst 0, 1) := by decide +kernel
set_option maxHeartbeats 20000000 in
set_option maxRecDepth 100000 in
theorem J_above (l : Launch) (G : pT) (h0 : Nat) (a : Nat → Nat) (F : Nat → Int32) (R : Nat → Value) (Z : Int64) (B : Nat → Nat → Int32) (J : Nat → Nat → Int64) (K : PK) (w : va_W) (x : Int32) (y : Int32) (pq : Nat) (dr : Nat) (ml : Nat) (nd : Nat) (nm : Nat) (cp : Nat) (it : Nat → Nat) (s9 : Nat) (g : Nat → Nat → Nat) (rk : Nat → Nat) (hwp : WPr G K g) (hps : PgT G K g (a 1) pq dr ml nd nm cp it s9) (hrk : RkO K rk) (hO : OKP G h0 a F (updR R 0 (.ref pq)) Z B J K w) : PM l G pX0 yX11_above cX11_above 3 (some .int) ({ frames := 4, cells := 0, slots := 0, locals := 102 }) [.ref h0, .int x, .int y] w (fun (v : Option Value) (u : va_W × (Int32)) => v = some (.int u.2) ∧ (OKP G h0 a F (updR R 0 (.ref pq)) Z B J K u.1)) (fun u => u.1) := by
  intro sz
  refine Met.ofW (cc := cX11_above) (maxL := 3) (ret := (some .int)) (by decide) rfl ?_
  intro p e s m args below meth c s₁ B9 hml hv
  obtain ⟨rfl, hsz, hP, hD0, hE, hX⟩ := hv
  have hx := B9.exec
  have hb := B9.bytes
  have hr := B9.returns
  have hts := atoms_spec (ws := Cond.code yX11_above cX11_above 3 (some .int) :: pw) B9.pre
  have hq : ∀ w ∈ pw, w.before _ s = true := fun w h => hts w (List.mem_cons_of_mem _ h)
  have hown : s.vm.findClass RX11 = some m.cls := findClass_of_methodNamed B9.named
  have hlocks := B9.notSynchronized
  subst hsz
  have hD := hD0.self (sz := s.heap.size)
  have hA : ∀ q : Nat, s.heap.size ≤ q → va_A w s.heap.size q := fun q h => Or.inr h
  generalize va_A w s.heap.size = A at hD hE hA ⊢
  have hS : va_S A s.heap s.heap [] := va_S.rf
  have hl := lv_entry ([.ref h0, .int x, .int y]) (n := 3) (Nat.le_of_ble_eq_true rfl)
  rw [lg_entry_eq]
  generalize (lg_sl ([.ref h0, .int x, .int y]) ++ List.replicate (3 - (lg_sl ([.ref h0, .int x, .int y])).length) Slot.unset).toArray = ls at hl ⊢
  have hl : lv_has ls 3 [(0, .ref h0), (1, .int x), (2, .int y)] := hl
  have hpg := hps.1
  have hp1 := hpg.1
  have hp2 := hpg.2.1
  have hp3 := hpg.2.2.1
  have hp4 := hpg.2.2.2.1
  have hp5 := hpg.2.2.2.2.1
  have hp6 := hpg.2.2.2.2.2.1
  have hp8 := hpg.2.2.2.2.2.2.2.1
  have hp9 := hpg.2.2.2.2.2.2.2.2
  refine lv_aload_n hx hb dX11_above_0 rfl (lv_at hl 0 rfl) ?_
  refine lv_iload_n hx hb dX11_above_1 rfl (lv_at hl 1 rfl) ?_
  have hO : OKP G h0 a F (updR (updR R 0 (.ref pq)) 0 (.ref pq)) Z B J K w := hO.to rfl
  obtain ⟨_, qr4, hqr5⟩ := hO.2.1 0 _ (sg_0 G h0 a _ _ _ _ _)
  refine pc_V0 (G := G) (As := [.int x]) (rest := []) hx hb hml hown hq hE hX pX0_al hP hD hS hA hl.1 (J_declared l G h0 a F (updR R 0 (.ref pq)) Z B J K w x pq dr ml nd nm cp it s9 g rk hwp hps hrk hO) (gV pw_1374 pw_1375 pw_1376 pw_1339 pw_1362) hV_X11_declared qr4 8 hqr5 rfl rfl rfl (Nat.le_of_ble_eq_true rfl) dX11_above_2 ⟨Nat.le_of_ble_eq_true rfl, Nat.le_of_ble_eq_true rfl⟩ ⟨Nat.le_of_ble_eq_true rfl, Nat.le_of_ble_eq_true rfl⟩ (fun v3 u1 H locs hw2 hP hD hS => ?_)
  obtain ⟨w, o6⟩ := u1
  obtain ⟨hw2, h7, hO⟩ := hw2
  have h7 : DoN K o6 := h7
  obtain rfl : v3 = some ((va_rf o6)) := hw2
  have hO : OKP G h0 a F (updR R 0 (.ref pq)) Z B J K w := hO.to rfl
  refine W.widen (k := 0) (n := 0) (Nat.le_of_ble_eq_true rfl) (Nat.le_of_ble_eq_true rfl) ?_
  refine W.eq (g2 := F0 m 5 ls [(va_rf o6)]) rfl ?_
  rcases o6 with _ | d8
  · have hl : lv_has ls 3 [(0, .ref h0), (1, .int x), (2, .int y)] := hl
    refine W.eq (g2 := F0 m 5 ls [.null]) rfl ?_
    refine lv_ifnullN (tgt := 16) hx hb dX11_above_5 (by decide) ?_
    refine lv_iconst (v := (-1)) hx hb dX11_above_16 (by decide) ?_
    have hO : OKP G h0 a F (updR R 0 (.ref pq)) Z B J K w := hO.to rfl
    exact W.iret (v := (-1)) hx hb hr (fun t99 ht99 hW99 => ⟨⟨_, (w, ((-1) : Int32)), rfl, ⟨rfl, hO⟩, by rw [ht99]; exact hP, hD⟩, hS.F ht99⟩) hS.2.2 dX11_above_17
  · have hl : lv_has ls 3 [(0, .ref h0), (1, .int x), (2, .int y)] := hl
    refine W.eq (g2 := F0 m 5 ls [.ref d8]) rfl ?_
    have hf9 := h7 d8 rfl
    refine lv_ifnull hx hb dX11_above_5 ?_
    refine lv_aload_n hx hb dX11_above_8 rfl (lv_at hl 0 rfl) ?_
    refine lv_iload_n hx hb dX11_above_9 rfl (lv_at hl 2 rfl) ?_
    have hO : OKP G h0 a F (updR (updR R 0 (.ref pq)) 0 (.ref pq)) Z B J K w := hO.to rfl
    obtain ⟨_, qr13, hqr14⟩ := hO.2.1 0 _ (sg_0 G h0 a _ _ _ _ _)
    refine pc_V0 (G := G) (As := [.int y]) (rest := []) hx hb hml hown hq hE hX pX0_al hP hD hS hA hl.1 (J_declared l G h0 a F (updR R 0 (.ref pq)) Z B J K w y pq dr ml nd nm cp it s9 g rk hwp hps hrk hO) (gV pw_1374 pw_1375 pw_1376 pw_1339 pw_1362) hV_X11_declared qr13 8 hqr14 rfl rfl rfl (Nat.le_of_ble_eq_true rfl) dX11_above_10 ⟨Nat.le_of_ble_eq_true rfl, Nat.le_of_ble_eq_true rfl⟩ ⟨Nat.le_of_ble_eq_true rfl, Nat.le_of_ble_eq_true rfl⟩ (fun v12 u10 H locs hw11 hP hD hS => ?_)
    obtain ⟨w, o15⟩ := u10
    obtain ⟨hw11, h16, hO⟩ := hw11
    have h16 : DoN K o15 := h16
    obtain rfl : v12 = some ((va_rf o15)) := hw11
    have hO : OKP G h0 a F (updR R 0 (.ref pq)) Z B J K w := hO.to rfl
    refine W.widen (k := 0) (n := 0) (Nat.le_of_ble_eq_true rfl) (Nat.le_of_ble_eq_true rfl) ?_
    refine W.eq (g2 := F0 m 13 ls [(va_rf o15)]) rfl ?_
    rcases o15 with _ | d17
    · have hl : lv_has ls 3 [(0, .ref h0), (1, .int x), (2, .int y)] := hl
      refine W.eq (g2 := F0 m 13 ls [.null]) rfl ?_
      refine lv_ifnonnullN hx hb dX11_above_13 ?_
      refine lv_iconst (v := (-1)) hx hb dX11_above_16 (by decide) ?_
      have hO : OKP G h0 a F (updR R 0 (.ref pq)) Z B J K w := hO.to rfl
      exact W.iret (v := (-1)) hx hb hr (fun t99 ht99 hW99 => ⟨⟨_, (w, ((-1) : Int32)), rfl, ⟨rfl, hO⟩, by rw [ht99]; exact hP, hD⟩, hS.F ht99⟩) hS.2.2 dX11_above_17
    · have hl : lv_has ls 3 [(0, .ref h0), (1, .int x), (2, .int y)] := hl
      refine W.eq (g2 := F0 m 13 ls [.ref d17]) rfl ?_
      have hf18 := h16 d17 rfl
      refine lv_ifnonnull (tgt := 18) hx hb dX11_above_13 (by decide) ?_
      refine lv_iload_n hx hb dX11_above_18 rfl (lv_at hl 1 rfl) ?_
      refine lv_iload_n hx hb dX11_above_19 rfl (lv_at hl 2 rfl) ?_
      refine lv_icmp_eq (tgt := 35) hx hb dX11_above_20 (by decide) (fun c19 => ?_) (fun c19 => ?_)
      · refine lv_iconst (v := 1) hx hb dX11_above_35 (by decide) ?_
        refine lv_goto (tgt := 40) hx hb dX11_above_36 (by decide) ?_
        have hO : OKP G h0 a F (updR R 0 (.ref pq)) Z B J K w := hO.to rfl
        exact W.iret (v := 1) hx hb hr (fun t99 ht99 hW99 => ⟨⟨_, (w, (1 : Int32)), rfl, ⟨rfl, hO⟩, by rw [ht99]; exact hP, hD⟩, hS.F ht99⟩) hS.2.2 dX11_above_40
      · refine lv_aload_n hx hb dX11_above_23 rfl (lv_at hl 0 rfl) ?_
        refine c_get (v := .ref pq) (C := RX11) (Tc := TX11) (N := 8) (ci := 8) hx hb hq pin_wsX110 hown hE hP hO 0 (sg_0 G h0 a _ _ _ _ _) rfl 7 (by decide) (hq _ pw_1342) (fun _ h9 => h9) rfl dX11_above_24 ?_
        refine lv_iload_n hx hb dX11_above_27 rfl (lv_at hl 1 rfl) ?_
        refine lv_iload_n hx hb dX11_above_28 rfl (lv_at hl 2 rfl) ?_
        have hO : OKP G h0 a F (updR R 0 (.ref pq)) Z B J K w := hO.to rfl
        obtain ⟨qr23, hqr24⟩ := p_recv hO (by rw [hp1]; decide) (rep_7 hp1)
        refine pc_V0 (G := G) (As := [.int x, .int y]) (rest := []) hx hb hml hown hq hE hX pX0_al hP hD hS hA hl.1 (G_isAbove l G h0 a F (updR R 0 (.ref pq)) Z B J K w pq dr ml nd x y g hps.1 hps.2.1 hO) (gV pw_1384 pw_108 pw_109 pw_106 pw_101) hV_X9_isAbove qr23 6 hqr24 rfl rfl rfl (Nat.le_of_ble_eq_true rfl) dX11_above_29 ⟨Nat.le_of_ble_eq_true rfl, Nat.le_of_ble_eq_true rfl⟩ ⟨Nat.le_of_ble_eq_true rfl, Nat.le_of_ble_eq_true rfl⟩ (fun v22 u20 H locs hw21 hP hD hS => ?_)
        obtain ⟨w, r25⟩ := u20
        obtain ⟨hw21, h26, h27, hO⟩ := hw21
        have h26 : r25 ≤ 1 := h26
        have h27 : AbQ K dr nd x y r25 := h27
        obtain rfl : v22 = some (.int (nI r25)) := hw21
        have hO : OKP G h0 a F (updR R 0 (.ref pq)) Z B J K w := hO.to rfl
        refine W.widen (k := 0) (n := 0) (Nat.le_of_ble_eq_true rfl) (Nat.le_of_ble_eq_true rfl) ?_
        refine W.eq (g2 := F0 m 32 ls [.int (nI r25)]) rfl ?_
        refine lv_if_eq (tgt := 39) hx hb dX11_above_32 (by decide) (fun c28 => ?_) (fun c28 => ?_)
        · have n29 : r25 = 0 := (nI_eq (a := r25) (b := 0) (by omega) (by omega)).mp c28
          refine lv_iconst (v := 0) hx hb dX11_above_39 (by decide) ?_
          have hO : OKP G h0 a F (updR R 0 (.ref pq)) Z B J K w := hO.to rfl
          exact W.iret (v := 0) hx hb hr (fun t99 ht99 hW99 => ⟨⟨_, (w, (0 : Int32)), rfl, ⟨rfl, hO⟩, by rw [ht99]; exact hP, hD⟩, hS.F ht99⟩) hS.2.2 dX11_above_40
        · have n30 : ¬ (r25 = 0) := fun h9 => c28 ((nI_eq (a := r25) (b := 0) (by omega) (by omega)).mpr h9)
          refine lv_iconst (v := 1) hx hb dX11_above_35 (by decide) ?_
          refine lv_goto (tgt := 40) hx hb dX11_above_36 (by decide) ?_
          have hO : OKP G h0 a F (updR R 0 (.ref pq)) Z B J K w := hO.to rfl
          exact W.iret (v := 1) hx hb hr (fun t99 ht99 hW99 => ⟨⟨_, (w, (1 : Int32)), rfl, ⟨rfl, hO⟩, by rw [ht99]; exact hP, hD⟩, hS.F ht99⟩) hS.2.2 dX11_above_40
theorem dX11_letter_14 : decode cX11_letter 14 = .ok (.aload_n 0, 1) := by decide +kernel
theorem dX11_letter_15 : decode cX11_letter 15 = .ok (.getfield 16, 3) := by decide +kernel
theorem dX11_letter_18 : decode cX11_letter 18 = .ok (.aload_n 3, 1) := by decide +kernel
theorem dX11_letter_19 : decode cX11_letter 19 = .ok (.getfield 141, 3) := by decide +kernel
theorem dX11_letter_22 : decode cX11_letter 22 = .ok (.iload_n 2, 1) := by decide +kernel
theorem dX11_letter_23 : decode cX11_letter 23 = .ok (.invokevirtual 144, 3) := by decide +kernel
theorem hV_X10_letterOf : yX10_letterOf.cls = RX10 ∧ yX10_letterOf.cls ≠ "java/lang/invoke/MethodHandle" ∧ yX10_letterOf.cls ≠ "java/lang/invoke/VarHandle" ∧ (parseMethodDescriptor yX10_letterOf.desc).map (fun d => d.parameters.length) = some 2 := by decide +kernel
set_option maxHeartbeats 20000000 in
set_option maxRecDepth 100000 in
theorem J_letter (l : Launch) (G : pT) (h0 : Nat) (a : Nat → Nat) (F : Nat → Int32) (R : Nat → Value) (Z : Int64) (B : Nat → Nat → Int32) (J : Nat → Nat → Int64) (K : PK) (w : va_W) (x : Int32) (y : Int32) (nz : Nat) (ns : Nat → Int32) (nl : Nat → Int32) (nn : Nat → Int32) (bk : Nat → Int32) (pq : Nat) (dr : Nat) (ml : Nat) (nd : Nat) (nm : Nat) (cp : Nat) (it : Nat → Nat) (s9 : Nat) (g : Nat → Nat → Nat) (rk : Nat → Nat) (hwp : WPr G K g) (hps : PgT G K g (a 1) pq dr ml nd nm cp it s9) (hrk : RkO K rk) (hnm : NmR nz ns nl nn bk) (hO : OKP G h0 a (upd F 3 (nI nz)) (updR R 0 (.ref pq)) Z (updA (updA (updA (updA B 12 ns) 13 nl) 14 nn) 15 bk) J K w) : PM l G pX0 yX11_letter cX11_letter 4 (some .int) ({ frames := 4, cells := 0, slots := 0, locals := 102 }) [.ref h0, .int x, .int y] w (fun (v : Option Value) (u : va_W × (Int32)) => v = some (.int u.2) ∧ (OKP G h0 a (upd F 3 (nI nz)) (updR R 0 (.ref pq)) Z (updA (updA (updA (updA B 12 ns) 13 nl) 14 nn) 15 bk) J K u.1)) (fun u => u.1) := by
  intro sz
  refine Met.ofW (cc := cX11_letter) (maxL := 4) (ret := (some .int)) (by decide) rfl ?_
  intro p e s m args below meth c s₁ B9 hml hv
  obtain ⟨rfl, hsz, hP, hD0, hE, hX⟩ := hv
  have hx := B9.exec
  have hb := B9.bytes
  have hr := B9.returns
  have hts := atoms_spec (ws := Cond.code yX11_letter cX11_letter 4 (some .int) :: pw) B9.pre
  have hq : ∀ w ∈ pw, w.before _ s = true := fun w h => hts w (List.mem_cons_of_mem _ h)
  have hown : s.vm.findClass RX11 = some m.cls := findClass_of_methodNamed B9.named
  have hlocks := B9.notSynchronized
  subst hsz
  have hD := hD0.self (sz := s.heap.size)
  have hA : ∀ q : Nat, s.heap.size ≤ q → va_A w s.heap.size q := fun q h => Or.inr h
  generalize va_A w s.heap.size = A at hD hE hA ⊢
  have hS : va_S A s.heap s.heap [] := va_S.rf
  have hl := lv_entry ([.ref h0, .int x, .int y]) (n := 4) (Nat.le_of_ble_eq_true rfl)
  rw [lg_entry_eq]
  generalize (lg_sl ([.ref h0, .int x, .int y]) ++ List.replicate (4 - (lg_sl ([.ref h0, .int x, .int y])).length) Slot.unset).toArray = ls at hl ⊢
  have hl : lv_has ls 4 [(0, .ref h0), (1, .int x), (2, .int y)] := hl
  have hpg := hps.1
  have hp1 := hpg.1
  have hp2 := hpg.2.1
  have hp3 := hpg.2.2.1
  have hp4 := hpg.2.2.2.1
  have hp5 := hpg.2.2.2.2.1
  have hp6 := hpg.2.2.2.2.2.1
  have hp8 := hpg.2.2.2.2.2.2.2.1
  have hp9 := hpg.2.2.2.2.2.2.2.2
  refine lv_aload_n hx hb dX11_letter_0 rfl (lv_at hl 0 rfl) ?_
  refine lv_iload_n hx hb dX11_letter_1 rfl (lv_at hl 1 rfl) ?_
  have hO : OKP G h0 a (upd F 3 (nI nz)) (updR (updR R 0 (.ref pq)) 0 (.ref pq)) Z (updA (updA (updA (updA B 12 ns) 13 nl) 14 nn) 15 bk) J K w := hO.to rfl
  obtain ⟨_, qr4, hqr5⟩ := hO.2.1 0 _ (sg_0 G h0 a _ _ _ _ _)
  refine pc_V0 (G := G) (As := [.int x]) (rest := []) hx hb hml hown hq hE hX pX0_al hP hD hS hA hl.1 (J_declared l G h0 a (upd F 3 (nI nz)) (updR R 0 (.ref pq)) Z (updA (updA (updA (updA B 12 ns) 13 nl) 14 nn) 15 bk) J K w x pq dr ml nd nm cp it s9 g rk hwp hps hrk hO) (gV pw_1374 pw_1375 pw_1376 pw_1339 pw_1362) hV_X11_declared qr4 8 hqr5 rfl rfl rfl (Nat.le_of_ble_eq_true rfl) dX11_letter_2 ⟨Nat.le_of_ble_eq_true rfl, Nat.le_of_ble_eq_true rfl⟩ ⟨Nat.le_of_ble_eq_true rfl, Nat.le_of_ble_eq_true rfl⟩ (fun v3 u1 H locs hw2 hP hD hS => ?_)
  obtain ⟨w, o6⟩ := u1
  obtain ⟨hw2, h7, hO⟩ := hw2
  have h7 : DoN K o6 := h7
  obtain rfl : v3 = some ((va_rf o6)) := hw2
  have hO : OKP G h0 a (upd F 3 (nI nz)) (updR R 0 (.ref pq)) Z (updA (updA (updA (updA B 12 ns) 13 nl) 14 nn) 15 bk) J K w := hO.to rfl
  refine W.widen (k := 0) (n := 0) (Nat.le_of_ble_eq_true rfl) (Nat.le_of_ble_eq_true rfl) ?_
  refine W.eq (g2 := F0 m 5 ls [(va_rf o6)]) rfl ?_
  rcases o6 with _ | d8
  · have hl : lv_has ls 4 [(0, .ref h0), (1, .int x), (2, .int y)] := hl
    refine W.eq (g2 := F0 m 5 ls [.null]) rfl ?_
    refine lv_astore_nN (lv' := [(3, .null), (0, .ref h0), (1, .int x), (2, .int y)]) hx hb dX11_letter_5 rfl hl (by decide) rfl (fun ls hl => ?_)
    refine lv_aload_nN hx hb dX11_letter_6 rfl (lv_at hl 0 rfl) ?_
    refine lv_ifnonnullN hx hb dX11_letter_7 ?_
    refine lv_iconst (v := (-1)) hx hb dX11_letter_10 (by decide) ?_
    refine lv_goto (tgt := 26) hx hb dX11_letter_11 (by decide) ?_
    have hO : OKP G h0 a (upd F 3 (nI nz)) (updR R 0 (.ref pq)) Z (updA (updA (updA (updA B 12 ns) 13 nl) 14 nn) 15 bk) J K w := hO.to rfl
    exact W.iret (v := (-1)) hx hb hr (fun t99 ht99 hW99 => ⟨⟨_, (w, ((-1) : Int32)), rfl, ⟨rfl, hO⟩, by rw [ht99]; exact hP, hD⟩, hS.F ht99⟩) hS.2.2 dX11_letter_26
  · have hl : lv_has ls 4 [(0, .ref h0), (1, .int x), (2, .int y)] := hl
    refine W.eq (g2 := F0 m 5 ls [.ref d8]) rfl ?_
    have hf9 := h7 d8 rfl
    refine lv_astore_n (lv' := [(3, .ref d8), (0, .ref h0), (1, .int x), (2, .int y)]) hx hb dX11_letter_5 rfl hl (by decide) rfl (fun ls hl => ?_)
    refine lv_aload_n hx hb dX11_letter_6 rfl (lv_at hl 0 rfl) ?_
    refine lv_ifnonnull (tgt := 14) hx hb dX11_letter_7 (by decide) ?_
    refine lv_aload_n hx hb dX11_letter_14 rfl (lv_at hl 1 rfl) ?_
    refine c_get (v := .ref (a 1)) (C := RX11) (Tc := TX11) (N := 8) (ci := 8) hx hb hq pin_wsX110 hown hE hP hO 0 (sg_0 G h0 a _ _ _ _ _) rfl 2 (by decide) (hq _ pw_1309) (fun _ h9 => h9) rfl dX11_letter_15 ?_
    refine lv_aload_n hx hb dX11_letter_18 rfl (lv_at hl 0 rfl) ?_
    refine p_get (v := .int (K.2.1 16 d8)) (C := RX2) (Tc := TX2) (N := 13) (ci := 2) hx hb hq pin_wsX20 hown hE hP hO (by rw [hf9]; decide) (rep_4 hf9) rfl 1 (by decide) (hq _ pw_1386) (fun _ h9 => h9) rfl dX11_letter_19 ?_
    refine lv_iload_n hx hb dX11_letter_22 rfl (lv_at hl 3 rfl) ?_
    have hO : OKW G h0 a (upd (upd F 3 (nI nz)) 3 (nI nz)) (updR R 0 (.ref pq)) Z (updA (updA (updA (updA (updA (updA (updA (updA B 12 ns) 13 nl) 14 nn) 15 bk) 12 ns) 13 nl) 14 nn) 15 bk) J K.1 (fun q99 x99 => x99 = rep G a K q99) w := hO.to rfl
    obtain ⟨_, qr13, hqr14⟩ := hO.2.1 2 _ (sg_2 G h0 a _ _ _ _ _)
    refine pc_V0 (G := G) (As := [.int (K.2.1 16 d8), .int y]) (rest := []) hx hb hml hown hq hE hX pX0_al hP hD hS hA hl.1 (K_letterOf l G h0 a (upd F 3 (nI nz)) (updR R 0 (.ref pq)) Z (updA (updA (updA (updA B 12 ns) 13 nl) 14 nn) 15 bk) J K.1 (fun q99 x99 => x99 = rep G a K q99) w (K.2.1 16 d8) y nz ns nl nn bk hnm hO) (gV pw_1387 pw_1388 pw_1389 pw_59 pw_1304) hV_X10_letterOf qr13 7 hqr14 rfl rfl rfl (Nat.le_of_ble_eq_true rfl) dX11_letter_23 ⟨Nat.le_of_ble_eq_true rfl, Nat.le_of_ble_eq_true rfl⟩ ⟨Nat.le_of_ble_eq_true rfl, Nat.le_of_ble_eq_true rfl⟩ (fun v12 u10 H locs hw11 hP hD hS => ?_)
    obtain ⟨w, r15⟩ := u10
    obtain ⟨hw11, hO⟩ := hw11
    obtain rfl : v12 = some (.int r15) := hw11
    have hO : OKP G h0 a (upd F 3 (nI nz)) (updR R 0 (.ref pq)) Z (updA (updA (updA (updA B 12 ns) 13 nl) 14 nn) 15 bk) J K w := hO.to rfl
    refine W.widen (k := 0) (n := 0) (Nat.le_of_ble_eq_true rfl) (Nat.le_of_ble_eq_true rfl) ?_
    refine W.eq (g2 := F0 m 26 ls [.int r15]) rfl ?_
    have hO : OKP G h0 a (upd F 3 (nI nz)) (updR R 0 (.ref pq)) Z (updA (updA (updA (updA B 12 ns) 13 nl) 14 nn) 15 bk) J K w := hO.to rfl
    exact W.iret (v := r15) hx hb hr (fun t99 ht99 hW99 => ⟨⟨_, (w, r15), rfl, ⟨rfl, hO⟩, by rw [ht99]; exact hP, hD⟩, hS.F ht99⟩) hS.2.2 dX11_letter_26
theorem dX11_called_17 : decode cX11_called 17 = .ok (.aload_n 0, 1) := by decide +kernel
theorem dX11_called_18 : decode cX11_called 18 = .ok (.getfield 69, 3) := by decide +kernel
theorem dX11_called_21 : decode cX11_called 21 = .ok (.iload_n 2, 1) := by decide +kernel
theorem dX11_called_22 : decode cX11_called 22 = .ok (.invokevirtual 148, 3) := by decide +kernel
theorem dX11_called_31 : decode cX11_called 31 = .ok (.aload_n 3, 1) := by decide +kernel
theorem dX11_called_32 : decode cX11_called 32 = .ok (.getfield 120, 3) := by decide +kernel
theorem dX11_called_35 : decode cX11_called 35 = .ok (.ifCond .ne 8, 3) := by decide +kernel
theorem dX11_called_38 : decode cX11_called 38 = .ok (.aload 4, 2) := by decide +kernel
theorem dX11_called_40 : decode cX11_called 40 = .ok (.ifnonnull 5, 3) := by decide +kernel
theorem dX11_called_45 : decode cX11_called 45 = .ok (.aload_n 3, 1) := by decide +kernel
theorem dX11_called_46 : decode cX11_called 46 = .ok (.aload 4, 2) := by decide +kernel
theorem dX11_called_48 : decode cX11_called 48 = .ok (.getfield 152, 3) := by decide +kernel
theorem dX11_called_51 : decode cX11_called 51 = .ok (.invokevirtual 155, 3) := by decide +kernel
theorem dX11_called_54 : decode cX11_called 54 = .ok (.astore 5, 2) := by decide +kernel
theorem dX11_called_56 : decode cX11_called 56 = .ok (.aload 5, 2) := by decide +kernel
theorem dX11_called_58 : decode cX11_called 58 = .ok (.ifnonnull 7, 3) := by decide +kernel
theorem dX11_called_61 : decode cX11_called 61 = .ok (.iconst (-1), 1) := by decide +kernel
theorem dX11_called_62 : decode cX11_called 62 = .ok (.goto 8, 3) := by decide +kernel
theorem dX11_called_70 : decode cX11_called 70 = .ok (.ireturn, 1) := by decide +kernel
theorem dX11_called_65 : decode cX11_called 65 = .ok (.aload 5, 2) := by decide +kernel
theorem dX11_called_67 : decode cX11_called 67 = .ok (.getfield 158, 3) := by decide +kernel
set_option maxHeartbeats 20000000 in
set_option maxRecDepth 100000 in
theorem J_called (l : Launch) (G : pT) (h0 : Nat) (a : Nat → Nat) (F : Nat → Int32) (R : Nat → Value) (Z : Int64) (B : Nat → Nat → Int32) (J : Nat → Nat → Int64) (K : PK) (w : va_W) (x : Int32) (y : Int32) (pq : Nat) (dr : Nat) (ml : Nat) (nd : Nat) (nm : Nat) (cp : Nat) (it : Nat → Nat) (s9 : Nat) (g : Nat → Nat → Nat) (rk : Nat → Nat) (hwp : WPr G K g) (hps : PgT G K g (a 1) pq dr ml nd nm cp it s9) (hrk : RkO K rk) (hO : OKP G h0 a F (updR R 0 (.ref pq)) Z B J K w) : PM l G pX0 yX11_called cX11_called 6 (some .int) ({ frames := 7, cells := 0, slots := 0, locals := 169 }) [.ref h0, .int x, .int y] w (fun (v : Option Value) (u : va_W × (Int32)) => v = some (.int u.2) ∧ (OKP G h0 a F (updR R 0 (.ref pq)) Z B J K u.1)) (fun u => u.1) := by
  intro sz
  refine Met.ofW (cc := cX11_called) (maxL := 6) (ret := (some .int)) (by decide) rfl ?_
  intro p e s m args below meth c s₁ B9 hml hv
  obtain ⟨rfl, hsz, hP, hD0, hE, hX⟩ := hv
  have hx := B9.exec
  have hb := B9.bytes
  have hr := B9.returns
  have hts := atoms_spec (ws := Cond.code yX11_called cX11_called 6 (some .int) :: pw) B9.pre
  have hq : ∀ w ∈ pw, w.before _ s = true := fun w h => hts w (List.mem_cons_of_mem _ h)
  have hown : s.vm.findClass RX11 = some m.cls := findClass_of_methodNamed B9.named
  have hlocks := B9.notSynchronized
  subst hsz
  have hD := hD0.self (sz := s.heap.size)
  have hA : ∀ q : Nat, s.heap.size ≤ q → va_A w s.heap.size q := fun q h => Or.inr h
  generalize va_A w s.heap.size = A at hD hE hA ⊢
  have hS : va_S A s.heap s.heap [] := va_S.rf
  have hl := lv_entry ([.ref h0, .int x, .int y]) (n := 6) (Nat.le_of_ble_eq_true rfl)
  rw [lg_entry_eq]
  generalize (lg_sl ([.ref h0, .int x, .int y]) ++ List.replicate (6 - (lg_sl ([.ref h0, .int x, .int y])).length) Slot.unset).toArray = ls at hl ⊢
  have hl : lv_has ls 6 [(0, .ref h0), (1, .int x), (2, .int y)] := hl
  have hpg := hps.1
  have hp1 := hpg.1
  have hp2 := hpg.2.1
  have hp3 := hpg.2.2.1
  have hp4 := hpg.2.2.2.1
  have hp5 := hpg.2.2.2.2.1
  have hp6 := hpg.2.2.2.2.2.1
  have hp8 := hpg.2.2.2.2.2.2.2.1
  have hp9 := hpg.2.2.2.2.2.2.2.2
  refine lv_aload_n hx hb dX11_called_0 rfl (lv_at hl 0 rfl) ?_
  refine lv_iload_n hx hb dX11_called_1 rfl (lv_at hl 1 rfl) ?_
  have hO : OKP G h0 a F (updR (updR R 0 (.ref pq)) 0 (.ref pq)) Z B J K w := hO.to rfl
  obtain ⟨_, qr4, hqr5⟩ := hO.2.1 0 _ (sg_0 G h0 a _ _ _ _ _)
  refine pc_V0 (G := G) (As := [.int x]) (rest := []) hx hb hml hown hq hE hX pX0_al hP hD hS hA hl.1 (J_declared l G h0 a F (updR R 0 (.ref pq)) Z B J K w x pq dr ml nd nm cp it s9 g rk hwp hps hrk hO) (gV pw_1374 pw_1375 pw_1376 pw_1339 pw_1362) hV_X11_declared qr4 8 hqr5 rfl rfl rfl (Nat.le_of_ble_eq_true rfl) dX11_called_2 ⟨Nat.le_of_ble_eq_true rfl, Nat.le_of_ble_eq_true rfl⟩ ⟨Nat.le_of_ble_eq_true rfl, Nat.le_of_ble_eq_true rfl⟩ (fun v3 u1 H locs hw2 hP hD hS => ?_)
  obtain ⟨w, o6⟩ := u1
  obtain ⟨hw2, h7, hO⟩ := hw2
  have h7 : DoN K o6 := h7
  obtain rfl : v3 = some ((va_rf o6)) := hw2
  have hO : OKP G h0 a F (updR R 0 (.ref pq)) Z B J K w := hO.to rfl
  refine W.widen (k := 0) (n := 0) (Nat.le_of_ble_eq_true rfl) (Nat.le_of_ble_eq_true rfl) ?_
  refine W.eq (g2 := F0 m 5 ls [(va_rf o6)]) rfl ?_
  rcases o6 with _ | d8
  · have hl : lv_has ls 6 [(0, .ref h0), (1, .int x), (2, .int y)] := hl
    refine W.eq (g2 := F0 m 5 ls [.null]) rfl ?_
    refine lv_astore_nN (lv' := [(3, .null), (0, .ref h0), (1, .int x), (2, .int y)]) hx hb dX11_called_5 rfl hl (by decide) rfl (fun ls hl => ?_)
    refine lv_aload_n hx hb dX11_called_6 rfl (lv_at hl 1 rfl) ?_
    refine c_get (v := .ref pq) (C := RX11) (Tc := TX11) (N := 8) (ci := 8) hx hb hq pin_wsX110 hown hE hP hO 0 (sg_0 G h0 a _ _ _ _ _) rfl 7 (by decide) (hq _ pw_1342) (fun _ h9 => h9) rfl dX11_called_7 ?_
    refine lv_ifnonnull (tgt := 17) hx hb dX11_called_10 (by decide) ?_
    refine lv_aload_n hx hb dX11_called_17 rfl (lv_at hl 1 rfl) ?_
    refine c_get (v := .ref pq) (C := RX11) (Tc := TX11) (N := 8) (ci := 8) hx hb hq pin_wsX110 hown hE hP hO 0 (sg_0 G h0 a _ _ _ _ _) rfl 7 (by decide) (hq _ pw_1342) (fun _ h9 => h9) rfl dX11_called_18 ?_
    refine lv_iload_n hx hb dX11_called_21 rfl (lv_at hl 3 rfl) ?_
    have hO : OKP G h0 a F (updR R 0 (.ref pq)) Z B J K w := hO.to rfl
    obtain ⟨qr12, hqr13⟩ := p_recv hO (by rw [hp1]; decide) (rep_7 hp1)
    refine pc_V0 (G := G) (As := [.int y]) (rest := []) hx hb hml hown hq hE hX pX0_al hP hD hS hA hl.1 (G_methodX l G h0 a F (updR R 0 (.ref pq)) Z B J K w pq dr ml nd y nm cp it g hps.1 hps.2.2.1 hO) (gV pw_1392 pw_529 pw_530 pw_106 pw_518) hV_X9_method qr12 6 hqr13 rfl rfl rfl (Nat.le_of_ble_eq_true rfl) dX11_called_22 ⟨Nat.le_of_ble_eq_true rfl, Nat.le_of_ble_eq_true rfl⟩ ⟨Nat.le_of_ble_eq_true rfl, Nat.le_of_ble_eq_true rfl⟩ (fun v11 u9 H locs hw10 hP hD hS => ?_)
    obtain ⟨w, o14⟩ := u9
    obtain ⟨hw10, h15, hO⟩ := hw10
    have h15 : MoX K nm it y o14 := h15
    obtain rfl : v11 = some ((va_rf o14)) := hw10
    have hO : OKP G h0 a F (updR R 0 (.ref pq)) Z B J K w := hO.to rfl
    refine W.widen (k := 0) (n := 0) (Nat.le_of_ble_eq_true rfl) (Nat.le_of_ble_eq_true rfl) ?_
    refine W.eq (g2 := F0 m 25 ls [(va_rf o14)]) rfl ?_
    rcases o14 with _ | d16
    · have hl : lv_has ls 6 [(3, .null), (0, .ref h0), (1, .int x), (2, .int y)] := hl
      refine W.eq (g2 := F0 m 25 ls [.null]) rfl ?_
      refine lv_astoreN (lv' := [(4, .null), (3, .null), (0, .ref h0), (1, .int x), (2, .int y)]) hx hb dX11_called_25 hl (by decide) rfl (fun ls hl => ?_)
      refine lv_aload_nN hx hb dX11_called_27 rfl (lv_at hl 1 rfl) ?_
      refine lv_ifnullN (tgt := 43) hx hb dX11_called_28 (by decide) ?_
      refine lv_iconst (v := (-1)) hx hb dX11_called_43 (by decide) ?_
      have hO : OKP G h0 a F (updR R 0 (.ref pq)) Z B J K w := hO.to rfl
      exact W.iret (v := (-1)) hx hb hr (fun t99 ht99 hW99 => ⟨⟨_, (w, ((-1) : Int32)), rfl, ⟨rfl, hO⟩, by rw [ht99]; exact hP, hD⟩, hS.F ht99⟩) hS.2.2 dX11_called_44
    · have hl : lv_has ls 6 [(3, .null), (0, .ref h0), (1, .int x), (2, .int y)] := hl
      refine W.eq (g2 := F0 m 25 ls [.ref d16]) rfl ?_
      have hf17 := (h15 d16 rfl).1
      refine lv_astore (lv' := [(4, .ref d16), (3, .null), (0, .ref h0), (1, .int x), (2, .int y)]) hx hb dX11_called_25 hl (by decide) rfl (fun ls hl => ?_)
      refine lv_aload_nN hx hb dX11_called_27 rfl (lv_at hl 1 rfl) ?_
      refine lv_ifnullN (tgt := 43) hx hb dX11_called_28 (by decide) ?_
      refine lv_iconst (v := (-1)) hx hb dX11_called_43 (by decide) ?_
      have hO : OKP G h0 a F (updR R 0 (.ref pq)) Z B J K w := hO.to rfl
      exact W.iret (v := (-1)) hx hb hr (fun t99 ht99 hW99 => ⟨⟨_, (w, ((-1) : Int32)), rfl, ⟨rfl, hO⟩, by rw [ht99]; exact hP, hD⟩, hS.F ht99⟩) hS.2.2 dX11_called_44
  · have hl : lv_has ls 6 [(0, .ref h0), (1, .int x), (2, .int y)] := hl
    refine W.eq (g2 := F0 m 5 ls [.ref d8]) rfl ?_
    have hf18 := h7 d8 rfl
    refine lv_astore_n (lv' := [(3, .ref d8), (0, .ref h0), (1, .int x), (2, .int y)]) hx hb dX11_called_5 rfl hl (by decide) rfl (fun ls hl => ?_)
    refine lv_aload_n hx hb dX11_called_6 rfl (lv_at hl 1 rfl) ?_
    refine c_get (v := .ref pq) (C := RX11) (Tc := TX11) (N := 8) (ci := 8) hx hb hq pin_wsX110 hown hE hP hO 0 (sg_0 G h0 a _ _ _ _ _) rfl 7 (by decide) (hq _ pw_1342) (fun _ h9 => h9) rfl dX11_called_7 ?_
    refine lv_ifnonnull (tgt := 17) hx hb dX11_called_10 (by decide) ?_
    refine lv_aload_n hx hb dX11_called_17 rfl (lv_at hl 1 rfl) ?_
    refine c_get (v := .ref pq) (C := RX11) (Tc := TX11) (N := 8) (ci := 8) hx hb hq pin_wsX110 hown hE hP hO 0 (sg_0 G h0 a _ _ _ _ _) rfl 7 (by decide) (hq _ pw_1342) (fun _ h9 => h9) rfl dX11_called_18 ?_
    refine lv_iload_n hx hb dX11_called_21 rfl (lv_at hl 3 rfl) ?_
    have hO : OKP G h0 a F (updR R 0 (.ref pq)) Z B J K w := hO.to rfl
    obtain ⟨qr22, hqr23⟩ := p_recv hO (by rw [hp1]; decide) (rep_7 hp1)
    refine pc_V0 (G := G) (As := [.int y]) (rest := []) hx hb hml hown hq hE hX pX0_al hP hD hS hA hl.1 (G_methodX l G h0 a F (updR R 0 (.ref pq)) Z B J K w pq dr ml nd y nm cp it g hps.1 hps.2.2.1 hO) (gV pw_1392 pw_529 pw_530 pw_106 pw_518) hV_X9_method qr22 6 hqr23 rfl rfl rfl (Nat.le_of_ble_eq_true rfl) dX11_called_22 ⟨Nat.le_of_ble_eq_true rfl, Nat.le_of_ble_eq_true rfl⟩ ⟨Nat.le_of_ble_eq_true rfl, Nat.le_of_ble_eq_true rfl⟩ (fun v21 u19 H locs hw20 hP hD hS => ?_)
    obtain ⟨w, o24⟩ := u19
    obtain ⟨hw20, h25, hO⟩ := hw20
    have h25 : MoX K nm it y o24 := h25
    obtain rfl : v21 = some ((va_rf o24)) := hw20
    have hO : OKP G h0 a F (updR R 0 (.ref pq)) Z B J K w := hO.to rfl
    refine W.widen (k := 0) (n := 0) (Nat.le_of_ble_eq_true rfl) (Nat.le_of_ble_eq_true rfl) ?_
    refine W.eq (g2 := F0 m 25 ls [(va_rf o24)]) rfl ?_
    rcases o24 with _ | d26
    · have hl : lv_has ls 6 [(3, .ref d8), (0, .ref h0), (1, .int x), (2, .int y)] := hl
      refine W.eq (g2 := F0 m 25 ls [.null]) rfl ?_
      refine lv_astoreN (lv' := [(4, .null), (3, .ref d8), (0, .ref h0), (1, .int x), (2, .int y)]) hx hb dX11_called_25 hl (by decide) rfl (fun ls hl => ?_)
      refine lv_aload_n hx hb dX11_called_27 rfl (lv_at hl 1 rfl) ?_
      refine lv_ifnull hx hb dX11_called_28 ?_
      refine lv_aload_n hx hb dX11_called_31 rfl (lv_at hl 1 rfl) ?_
      refine p_get (v := .int (K.2.1 18 d8)) (C := RX2) (Tc := TX2) (N := 13) (ci := 2) hx hb hq pin_wsX20 hown hE hP hO (by rw [hf18]; decide) (rep_4 hf18) rfl 3 (by decide) (hq _ pw_1372) (fun _ h9 => h9) rfl dX11_called_32 ?_
      refine lv_if_ne (tgt := 43) hx hb dX11_called_35 (by decide) (fun c27 => ?_) (fun c27 => ?_)
      · refine lv_iconst (v := (-1)) hx hb dX11_called_43 (by decide) ?_
        have hO : OKP G h0 a F (updR R 0 (.ref pq)) Z B J K w := hO.to rfl
        exact W.iret (v := (-1)) hx hb hr (fun t99 ht99 hW99 => ⟨⟨_, (w, ((-1) : Int32)), rfl, ⟨rfl, hO⟩, by rw [ht99]; exact hP, hD⟩, hS.F ht99⟩) hS.2.2 dX11_called_44
      · refine lv_aloadN hx hb dX11_called_38 (lv_at hl 0 rfl) ?_
        refine lv_ifnonnullN hx hb dX11_called_40 ?_
        refine lv_iconst (v := (-1)) hx hb dX11_called_43 (by decide) ?_
        have hO : OKP G h0 a F (updR R 0 (.ref pq)) Z B J K w := hO.to rfl
        exact W.iret (v := (-1)) hx hb hr (fun t99 ht99 hW99 => ⟨⟨_, (w, ((-1) : Int32)), rfl, ⟨rfl, hO⟩, by rw [ht99]; exact hP, hD⟩, hS.F ht99⟩) hS.2.2 dX11_called_44
    · have hl : lv_has ls 6 [(3, .ref d8), (0, .ref h0), (1, .int x), (2, .int y)] := hl
      refine W.eq (g2 := F0 m 25 ls [.ref d26]) rfl ?_
      have hf28 := (h25 d26 rfl).1
      refine lv_astore (lv' := [(4, .ref d26), (3, .ref d8), (0, .ref h0), (1, .int x), (2, .int y)]) hx hb dX11_called_25 hl (by decide) rfl (fun ls hl => ?_)
      refine lv_aload_n hx hb dX11_called_27 rfl (lv_at hl 1 rfl) ?_
      refine lv_ifnull hx hb dX11_called_28 ?_
      refine lv_aload_n hx hb dX11_called_31 rfl (lv_at hl 1 rfl) ?_
      refine p_get (v := .int (K.2.1 18 d8)) (C := RX2) (Tc := TX2) (N := 13) (ci := 2) hx hb hq pin_wsX20 hown hE hP hO (by rw [hf18]; decide) (rep_4 hf18) rfl 3 (by decide) (hq _ pw_1372) (fun _ h9 => h9) rfl dX11_called_32 ?_
      refine lv_if_ne (tgt := 43) hx hb dX11_called_35 (by decide) (fun c29 => ?_) (fun c29 => ?_)
      · refine lv_iconst (v := (-1)) hx hb dX11_called_43 (by decide) ?_
        have hO : OKP G h0 a F (updR R 0 (.ref pq)) Z B J K w := hO.to rfl
        exact W.iret (v := (-1)) hx hb hr (fun t99 ht99 hW99 => ⟨⟨_, (w, ((-1) : Int32)), rfl, ⟨rfl, hO⟩, by rw [ht99]; exact hP, hD⟩, hS.F ht99⟩) hS.2.2 dX11_called_44
      · refine lv_aload hx hb dX11_called_38 (lv_at hl 0 rfl) ?_
        refine lv_ifnonnull (tgt := 45) hx hb dX11_called_40 (by decide) ?_
        refine lv_aload_n hx hb dX11_called_45 rfl (lv_at hl 1 rfl) ?_
        refine lv_aload hx hb dX11_called_46 (lv_at hl 0 rfl) ?_
        refine p_get (v := .int (K.2.1 6 d26)) (C := RX6) (Tc := TX6) (N := 12) (ci := 12) hx hb hq pin_wsX60 hown hE hP hO (by rw [hf28]; decide) (rep_3 hf28) rfl 1 (by decide) (hq _ pw_1390) (fun _ h9 => h9) rfl dX11_called_48 ?_
        have hO : OKP G h0 a F (updR R 0 (.ref pq)) Z B J K w := hO.to rfl
        obtain ⟨qr33, hqr34⟩ := p_recv hO (by rw [hf18]; decide) (rep_4 hf18)
        refine pc_V0 (G := G) (As := [.int (K.2.1 6 d26)]) (rest := []) hx hb hml hown hq hE hX pX0_al hP hD hS hA hl.1 (O_nearest l G h0 a F (updR R 0 (.ref pq)) Z B J K w d8 (K.2.1 6 d26) g rk hf18 hwp hrk hO) (gV pw_1393 pw_222 pw_223 pw_146 pw_154) hV_X2_nearest qr33 2 hqr34 rfl rfl rfl (Nat.le_of_ble_eq_true rfl) dX11_called_51 ⟨Nat.le_of_ble_eq_true rfl, Nat.le_of_ble_eq_true rfl⟩ ⟨Nat.le_of_ble_eq_true rfl, Nat.le_of_ble_eq_true rfl⟩ (fun v32 u30 H locs hw31 hP hD hS => ?_)
        obtain ⟨w, o35⟩ := u30
        obtain ⟨hw31, h36, hO⟩ := hw31
        have h36 : MoN K o35 := h36
        obtain rfl : v32 = some ((va_rf o35)) := hw31
        have hO : OKP G h0 a F (updR R 0 (.ref pq)) Z B J K w := hO.to rfl
        refine W.widen (k := 0) (n := 0) (Nat.le_of_ble_eq_true rfl) (Nat.le_of_ble_eq_true rfl) ?_
        refine W.eq (g2 := F0 m 54 ls [(va_rf o35)]) rfl ?_
        rcases o35 with _ | d37
        · have hl : lv_has ls 6 [(4, .ref d26), (3, .ref d8), (0, .ref h0), (1, .int x), (2, .int y)] := hl
          refine W.eq (g2 := F0 m 54 ls [.null]) rfl ?_
          refine lv_astoreN (lv' := [(5, .null), (4, .ref d26), (3, .ref d8), (0, .ref h0), (1, .int x), (2, .int y)]) hx hb dX11_called_54 hl (by decide) rfl (fun ls hl => ?_)
          refine lv_aloadN hx hb dX11_called_56 (lv_at hl 0 rfl) ?_
          refine lv_ifnonnullN hx hb dX11_called_58 ?_
          refine lv_iconst (v := (-1)) hx hb dX11_called_61 (by decide) ?_
          refine lv_goto (tgt := 70) hx hb dX11_called_62 (by decide) ?_
          have hO : OKP G h0 a F (updR R 0 (.ref pq)) Z B J K w := hO.to rfl
          exact W.iret (v := (-1)) hx hb hr (fun t99 ht99 hW99 => ⟨⟨_, (w, ((-1) : Int32)), rfl, ⟨rfl, hO⟩, by rw [ht99]; exact hP, hD⟩, hS.F ht99⟩) hS.2.2 dX11_called_70
        · have hl : lv_has ls 6 [(4, .ref d26), (3, .ref d8), (0, .ref h0), (1, .int x), (2, .int y)] := hl
          refine W.eq (g2 := F0 m 54 ls [.ref d37]) rfl ?_
          have hf38 := h36 d37 rfl
          refine lv_astore (lv' := [(5, .ref d37), (4, .ref d26), (3, .ref d8), (0, .ref h0), (1, .int x), (2, .int y)]) hx hb dX11_called_54 hl (by decide) rfl (fun ls hl => ?_)
          refine lv_aload hx hb dX11_called_56 (lv_at hl 0 rfl) ?_
          refine lv_ifnonnull (tgt := 65) hx hb dX11_called_58 (by decide) ?_
          refine lv_aload hx hb dX11_called_65 (lv_at hl 0 rfl) ?_
          refine p_get (v := .int (K.2.1 9 d37)) (C := RX6) (Tc := TX6) (N := 12) (ci := 12) hx hb hq pin_wsX60 hown hE hP hO (by rw [hf38]; decide) (rep_3 hf38) rfl 6 (by decide) (hq _ pw_1391) (fun _ h9 => h9) rfl dX11_called_67 ?_
          have hO : OKP G h0 a F (updR R 0 (.ref pq)) Z B J K w := hO.to rfl
          exact W.iret (v := (K.2.1 9 d37)) hx hb hr (fun t99 ht99 hW99 => ⟨⟨_, (w, (K.2.1 9 d37)), rfl, ⟨rfl, hO⟩, by rw [ht99]; exact hP, hD⟩, hS.F ht99⟩) hS.2.2 dX11_called_70

theorem sw_m0_4 {x : Int32} (h0 : ¬ x = 0) (h1 : ¬ x = 1) (h2 : ¬ x = 2) (h3 : ¬ x = 3) (h4 : ¬ x = 4) : x.toInt < 0 ∨ 4 < x.toInt := by
  have a0 : ¬ x.toInt = 0 := tJ_ne (n := 0) (by decide) h0
  have a1 : ¬ x.toInt = 1 := tJ_ne (n := 1) (by decide) h1
  have a2 : ¬ x.toInt = 2 := tJ_ne (n := 2) (by decide) h2
  have a3 : ¬ x.toInt = 3 := tJ_ne (n := 3) (by decide) h3
  have a4 : ¬ x.toInt = 4 := tJ_ne (n := 4) (by decide) h4
  omega
theorem dX11_count_0 : decode cX11_count 0 = .ok (.iload_n 1, 1) := by decide +kernel
theorem dX11_count_1 : decode cX11_count 1 = .ok (.tableswitch 108 0 4 #[35, 40, 48, 67, 86], 35) := by decide +kernel
theorem dX11_count_36 : decode cX11_count 36 = .ok (.aload_n 0, 1) := by decide +kernel
theorem dX11_count_37 : decode cX11_count 37 = .ok (.getfield 54, 3) := by decide +kernel
theorem dX11_count_40 : decode cX11_count 40 = .ok (.ireturn, 1) := by decide +kernel
theorem dX11_count_41 : decode cX11_count 41 = .ok (.aload_n 0, 1) := by decide +kernel
theorem dX11_count_42 : decode cX11_count 42 = .ok (.getfield 50, 3) := by decide +kernel
theorem dX11_count_45 : decode cX11_count 45 = .ok (.getfield 163, 3) := by decide +kernel
theorem dX11_count_48 : decode cX11_count 48 = .ok (.ireturn, 1) := by decide +kernel
theorem dX11_count_49 : decode cX11_count 49 = .ok (.aload_n 0, 1) := by decide +kernel
theorem dX11_count_50 : decode cX11_count 50 = .ok (.getfield 69, 3) := by decide +kernel
theorem dX11_count_53 : decode cX11_count 53 = .ok (.ifnonnull 7, 3) := by decide +kernel
theorem dX11_count_56 : decode cX11_count 56 = .ok (.iconst 0, 1) := by decide +kernel
theorem dX11_count_57 : decode cX11_count 57 = .ok (.goto 10, 3) := by decide +kernel
theorem dX11_count_67 : decode cX11_count 67 = .ok (.ireturn, 1) := by decide +kernel
theorem dX11_count_68 : decode cX11_count 68 = .ok (.aload_n 0, 1) := by decide +kernel
theorem dX11_count_69 : decode cX11_count 69 = .ok (.getfield 69, 3) := by decide +kernel
theorem dX11_count_72 : decode cX11_count 72 = .ok (.ifnonnull 7, 3) := by decide +kernel
theorem dX11_count_75 : decode cX11_count 75 = .ok (.iconst 0, 1) := by decide +kernel
theorem dX11_count_76 : decode cX11_count 76 = .ok (.goto 10, 3) := by decide +kernel
theorem dX11_count_86 : decode cX11_count 86 = .ok (.ireturn, 1) := by decide +kernel
theorem dX11_count_87 : decode cX11_count 87 = .ok (.aload_n 0, 1) := by decide +kernel
theorem dX11_count_88 : decode cX11_count 88 = .ok (.getfield 69, 3) := by decide +kernel
theorem dX11_count_91 : decode cX11_count 91 = .ok (.ifnonnull 7, 3) := by decide +kernel
theorem dX11_count_94 : decode cX11_count 94 = .ok (.iconst 0, 1) := by decide +kernel
theorem dX11_count_95 : decode cX11_count 95 = .ok (.goto 13, 3) := by decide +kernel
theorem dX11_count_108 : decode cX11_count 108 = .ok (.ireturn, 1) := by decide +kernel
theorem dX11_count_109 : decode cX11_count 109 = .ok (.aload_n 0, 1) := by decide +kernel
theorem dX11_count_110 : decode cX11_count 110 = .ok (.getfield 50, 3) := by decide +kernel
theorem dX11_count_113 : decode cX11_count 113 = .ok (.iload_n 1, 1) := by decide +kernel
theorem dX11_count_114 : decode cX11_count 114 = .ok (.invokevirtual 198, 3) := by decide +kernel
theorem dX11_count_117 : decode cX11_count 117 = .ok (.ireturn, 1) := by decide +kernel
theorem hV_X5_told : yX5_told.cls = RX5 ∧ yX5_told.cls ≠ "java/lang/invoke/MethodHandle" ∧ yX5_told.cls ≠ "java/lang/invoke/VarHandle" ∧ (parseMethodDescriptor yX5_told.desc).map (fun d => d.parameters.length) = some 1 := by decide +kernel
set_option maxHeartbeats 2000000 in
set_option maxRecDepth 100000 in
theorem J_countN (l : Launch) (G : pT) (h0 : Nat) (a : Nat → Nat) (F : Nat → Int32) (R : Nat → Value) (Z : Int64) (B : Nat → Nat → Int32) (J : Nat → Nat → Int64) (T : Nat → Nat) (Pi : Nat → va_E → Prop) (w : va_W) (x : Int32) (hO : OKW G h0 a F (updR R 0 (.null)) Z B J T Pi w) : PM l G pX0 yX11_count cX11_count 2 (some .int) ({ frames := 3, cells := 0, slots := 0, locals := 81 }) [.ref h0, .int x] w (fun (v : Option Value) (u : va_W × (Int32)) => v = some (.int u.2) ∧ (OKW G h0 a F (updR R 0 (.null)) Z B J T Pi u.1)) (fun u => u.1) := by
  intro sz
  refine Met.ofW (cc := cX11_count) (maxL := 2) (ret := (some .int)) (by decide) rfl ?_
  intro p e s m args below meth c s₁ B9 hml hv
  obtain ⟨rfl, hsz, hP, hD0, hE, hX⟩ := hv
  have hx := B9.exec
  have hb := B9.bytes
  have hr := B9.returns
  have hts := atoms_spec (ws := Cond.code yX11_count cX11_count 2 (some .int) :: pw) B9.pre
  have hq : ∀ w ∈ pw, w.before _ s = true := fun w h => hts w (List.mem_cons_of_mem _ h)
  have hown : s.vm.findClass RX11 = some m.cls := findClass_of_methodNamed B9.named
  have hlocks := B9.notSynchronized
  subst hsz
  have hD := hD0.self (sz := s.heap.size)
  have hA : ∀ q : Nat, s.heap.size ≤ q → va_A w s.heap.size q := fun q h => Or.inr h
  generalize va_A w s.heap.size = A at hD hE hA ⊢
  have hS : va_S A s.heap s.heap [] := va_S.rf
  have hl := lv_entry ([.ref h0, .int x]) (n := 2) (Nat.le_of_ble_eq_true rfl)
  rw [lg_entry_eq]
  generalize (lg_sl ([.ref h0, .int x]) ++ List.replicate (2 - (lg_sl ([.ref h0, .int x])).length) Slot.unset).toArray = ls at hl ⊢
  have hl : lv_has ls 2 [(0, .ref h0), (1, .int x)] := hl
  refine lv_iload_n hx hb dX11_count_0 rfl (lv_at hl 1 rfl) ?_
  by_cases h1 : x = 0
  · subst h1
    refine lv_tableIn (tgt := 36) (off := 35) hx hb dX11_count_1 (by decide) (by decide) (by decide) (by decide) ?_
    refine lv_aload_n hx hb dX11_count_36 rfl (lv_at hl 0 rfl) ?_
    refine c_get (v := .int (F 0)) (C := RX11) (Tc := TX11) (N := 8) (ci := 8) hx hb hq pin_wsX110 hown hE hP hO 0 (sg_0 G h0 a _ _ _ _ _) rfl 1 (by decide) (hq _ pw_1334) (fun _ h9 => h9) rfl dX11_count_37 ?_
    have hO : OKW G h0 a F (updR R 0 (.null)) Z B J T Pi w := hO.to rfl
    exact W.iret (v := (F 0)) hx hb hr (fun t99 ht99 hW99 => ⟨⟨_, (w, (F 0)), rfl, ⟨rfl, hO⟩, by rw [ht99]; exact hP, hD⟩, hS.F ht99⟩) hS.2.2 dX11_count_40
  by_cases h2 : x = 1
  · subst h2
    refine lv_tableIn (tgt := 41) (off := 40) hx hb dX11_count_1 (by decide) (by decide) (by decide) (by decide) ?_
    refine lv_aload_n hx hb dX11_count_41 rfl (lv_at hl 0 rfl) ?_
    refine c_get (v := .ref (a 5)) (C := RX11) (Tc := TX11) (N := 8) (ci := 8) hx hb hq pin_wsX110 hown hE hP hO 0 (sg_0 G h0 a _ _ _ _ _) rfl 6 (by decide) (hq _ pw_1321) (fun _ h9 => h9) rfl dX11_count_42 ?_
    refine c_get (v := .int (F 17)) (C := RX5) (Tc := TX5) (N := 19) (ci := 4) hx hb hq pin_wsX50 hown hE hP hO 28 (sg_28 G h0 a _ _ _ _ _) rfl 5 (by decide) (hq _ pw_1400) (fun _ h9 => h9) rfl dX11_count_45 ?_
    have hO : OKW G h0 a F (updR R 0 (.null)) Z B J T Pi w := hO.to rfl
    exact W.iret (v := (F 17)) hx hb hr (fun t99 ht99 hW99 => ⟨⟨_, (w, (F 17)), rfl, ⟨rfl, hO⟩, by rw [ht99]; exact hP, hD⟩, hS.F ht99⟩) hS.2.2 dX11_count_48
  by_cases h3 : x = 2
  · subst h3
    refine lv_tableIn (tgt := 49) (off := 48) hx hb dX11_count_1 (by decide) (by decide) (by decide) (by decide) ?_
    refine lv_aload_n hx hb dX11_count_49 rfl (lv_at hl 0 rfl) ?_
    refine c_get (v := .null) (C := RX11) (Tc := TX11) (N := 8) (ci := 8) hx hb hq pin_wsX110 hown hE hP hO 0 (sg_0 G h0 a _ _ _ _ _) rfl 7 (by decide) (hq _ pw_1342) (fun _ h9 => h9) rfl dX11_count_50 ?_
    refine lv_ifnonnullN hx hb dX11_count_53 ?_
    refine lv_iconst (v := 0) hx hb dX11_count_56 (by decide) ?_
    refine lv_goto (tgt := 67) hx hb dX11_count_57 (by decide) ?_
    have hO : OKW G h0 a F (updR R 0 (.null)) Z B J T Pi w := hO.to rfl
    exact W.iret (v := 0) hx hb hr (fun t99 ht99 hW99 => ⟨⟨_, (w, (0 : Int32)), rfl, ⟨rfl, hO⟩, by rw [ht99]; exact hP, hD⟩, hS.F ht99⟩) hS.2.2 dX11_count_67
  by_cases h4 : x = 3
  · subst h4
    refine lv_tableIn (tgt := 68) (off := 67) hx hb dX11_count_1 (by decide) (by decide) (by decide) (by decide) ?_
    refine lv_aload_n hx hb dX11_count_68 rfl (lv_at hl 0 rfl) ?_
    refine c_get (v := .null) (C := RX11) (Tc := TX11) (N := 8) (ci := 8) hx hb hq pin_wsX110 hown hE hP hO 0 (sg_0 G h0 a _ _ _ _ _) rfl 7 (by decide) (hq _ pw_1342) (fun _ h9 => h9) rfl dX11_count_69 ?_
    refine lv_ifnonnullN hx hb dX11_count_72 ?_
    refine lv_iconst (v := 0) hx hb dX11_count_75 (by decide) ?_
    refine lv_goto (tgt := 86) hx hb dX11_count_76 (by decide) ?_
    have hO : OKW G h0 a F (updR R 0 (.null)) Z B J T Pi w := hO.to rfl
    exact W.iret (v := 0) hx hb hr (fun t99 ht99 hW99 => ⟨⟨_, (w, (0 : Int32)), rfl, ⟨rfl, hO⟩, by rw [ht99]; exact hP, hD⟩, hS.F ht99⟩) hS.2.2 dX11_count_86
  by_cases h5 : x = 4
  · subst h5
    refine lv_tableIn (tgt := 87) (off := 86) hx hb dX11_count_1 (by decide) (by decide) (by decide) (by decide) ?_
    refine lv_aload_n hx hb dX11_count_87 rfl (lv_at hl 0 rfl) ?_
    refine c_get (v := .null) (C := RX11) (Tc := TX11) (N := 8) (ci := 8) hx hb hq pin_wsX110 hown hE hP hO 0 (sg_0 G h0 a _ _ _ _ _) rfl 7 (by decide) (hq _ pw_1342) (fun _ h9 => h9) rfl dX11_count_88 ?_
    refine lv_ifnonnullN hx hb dX11_count_91 ?_
    refine lv_iconst (v := 0) hx hb dX11_count_94 (by decide) ?_
    refine lv_goto (tgt := 108) hx hb dX11_count_95 (by decide) ?_
    have hO : OKW G h0 a F (updR R 0 (.null)) Z B J T Pi w := hO.to rfl
    exact W.iret (v := 0) hx hb hr (fun t99 ht99 hW99 => ⟨⟨_, (w, (0 : Int32)), rfl, ⟨rfl, hO⟩, by rw [ht99]; exact hP, hD⟩, hS.F ht99⟩) hS.2.2 dX11_count_108
  refine lv_tableOut (tgt := 109) hx hb dX11_count_1 (sw_m0_4 h1 h2 h3 h4 h5) (by decide) ?_
  refine lv_aload_n hx hb dX11_count_109 rfl (lv_at hl 0 rfl) ?_
  refine c_get (v := .ref (a 5)) (C := RX11) (Tc := TX11) (N := 8) (ci := 8) hx hb hq pin_wsX110 hown hE hP hO 0 (sg_0 G h0 a _ _ _ _ _) rfl 6 (by decide) (hq _ pw_1321) (fun _ h9 => h9) rfl dX11_count_110 ?_
  refine lv_iload_n hx hb dX11_count_113 rfl (lv_at hl 1 rfl) ?_
  have hO : OKW G h0 a F (updR R 0 (.null)) Z B J T Pi w := hO.to rfl
  obtain ⟨_, qr9, hqr10⟩ := hO.2.1 28 _ (sg_28 G h0 a _ _ _ _ _)
  refine pc_V0 (G := G) (As := [.int x]) (rest := []) hx hb hml hown hq hE hX pX0_al hP hD hS hA hl.1 (M_told l G h0 a F (updR R 0 (.null)) Z B J T Pi w x hO) (gV pw_1424 pw_1425 pw_1426 pw_539 pw_484) hV_X5_told qr9 4 hqr10 rfl rfl rfl (Nat.le_of_ble_eq_true rfl) dX11_count_114 ⟨Nat.le_of_ble_eq_true rfl, Nat.le_of_ble_eq_true rfl⟩ ⟨Nat.le_of_ble_eq_true rfl, Nat.le_of_ble_eq_true rfl⟩ (fun v8 u6 H locs hw7 hP hD hS => ?_)
  obtain ⟨w, r11⟩ := u6
  obtain ⟨hw7, hO⟩ := hw7
  obtain rfl : v8 = some (.int r11) := hw7
  have hO : OKW G h0 a F (updR R 0 (.null)) Z B J T Pi w := hO.to rfl
  refine W.widen (k := 0) (n := 0) (Nat.le_of_ble_eq_true rfl) (Nat.le_of_ble_eq_true rfl) ?_
  refine W.eq (g2 := F0 m 117 ls [.int r11]) rfl ?_
  have hO : OKW G h0 a F (updR R 0 (.null)) Z B J T Pi w := hO.to rfl
  exact W.iret (v := r11) hx hb hr (fun t99 ht99 hW99 => ⟨⟨_, (w, r11), rfl, ⟨rfl, hO⟩, by rw [ht99]; exact hP, hD⟩, hS.F ht99⟩) hS.2.2 dX11_count_117
theorem dX11_count_60 : decode cX11_count 60 = .ok (.aload_n 0, 1) := by decide +kernel
theorem dX11_count_61 : decode cX11_count 61 = .ok (.getfield 16, 3) := by decide +kernel
theorem dX11_count_64 : decode cX11_count 64 = .ok (.getfield 192, 3) := by decide +kernel
theorem dX11_count_79 : decode cX11_count 79 = .ok (.aload_n 0, 1) := by decide +kernel
theorem dX11_count_80 : decode cX11_count 80 = .ok (.getfield 69, 3) := by decide +kernel
theorem dX11_count_83 : decode cX11_count 83 = .ok (.getfield 194, 3) := by decide +kernel
theorem dX11_count_98 : decode cX11_count 98 = .ok (.aload_n 0, 1) := by decide +kernel
theorem dX11_count_99 : decode cX11_count 99 = .ok (.getfield 69, 3) := by decide +kernel
theorem dX11_count_102 : decode cX11_count 102 = .ok (.getfield 195, 3) := by decide +kernel
theorem dX11_count_105 : decode cX11_count 105 = .ok (.invokevirtual 111, 3) := by decide +kernel
set_option maxHeartbeats 20000000 in
set_option maxRecDepth 100000 in
theorem J_count (l : Launch) (G : pT) (h0 : Nat) (a : Nat → Nat) (F : Nat → Int32) (R : Nat → Value) (Z : Int64) (B : Nat → Nat → Int32) (J : Nat → Nat → Int64) (K : PK) (w : va_W) (x : Int32) (pq : Nat) (dr : Nat) (ml : Nat) (nd : Nat) (nm : Nat) (cp : Nat) (it : Nat → Nat) (s9 : Nat) (g : Nat → Nat → Nat) (rk : Nat → Nat) (hwp : WPr G K g) (hps : PgT G K g (a 1) pq dr ml nd nm cp it s9) (hrk : RkO K rk) (hO : OKP G h0 a F (updR R 0 (.ref pq)) Z B J K w) : PM l G pX0 yX11_count cX11_count 2 (some .int) ({ frames := 3, cells := 0, slots := 0, locals := 81 }) [.ref h0, .int x] w (fun (v : Option Value) (u : va_W × (Int32)) => v = some (.int u.2) ∧ (OKP G h0 a F (updR R 0 (.ref pq)) Z B J K u.1)) (fun u => u.1) := by
  intro sz
  refine Met.ofW (cc := cX11_count) (maxL := 2) (ret := (some .int)) (by decide) rfl ?_
  intro p e s m args below meth c s₁ B9 hml hv
  obtain ⟨rfl, hsz, hP, hD0, hE, hX⟩ := hv
  have hx := B9.exec
  have hb := B9.bytes
  have hr := B9.returns
  have hts := atoms_spec (ws := Cond.code yX11_count cX11_count 2 (some .int) :: pw) B9.pre
  have hq : ∀ w ∈ pw, w.before _ s = true := fun w h => hts w (List.mem_cons_of_mem _ h)
  have hown : s.vm.findClass RX11 = some m.cls := findClass_of_methodNamed B9.named
  have hlocks := B9.notSynchronized
  subst hsz
  have hD := hD0.self (sz := s.heap.size)
  have hA : ∀ q : Nat, s.heap.size ≤ q → va_A w s.heap.size q := fun q h => Or.inr h
  generalize va_A w s.heap.size = A at hD hE hA ⊢
  have hS : va_S A s.heap s.heap [] := va_S.rf
  have hl := lv_entry ([.ref h0, .int x]) (n := 2) (Nat.le_of_ble_eq_true rfl)
  rw [lg_entry_eq]
  generalize (lg_sl ([.ref h0, .int x]) ++ List.replicate (2 - (lg_sl ([.ref h0, .int x])).length) Slot.unset).toArray = ls at hl ⊢
  have hl : lv_has ls 2 [(0, .ref h0), (1, .int x)] := hl
  have hpg := hps.1
  have hp1 := hpg.1
  have hp2 := hpg.2.1
  have hp3 := hpg.2.2.1
  have hp4 := hpg.2.2.2.1
  have hp5 := hpg.2.2.2.2.1
  have hp6 := hpg.2.2.2.2.2.1
  have hp8 := hpg.2.2.2.2.2.2.2.1
  have hp9 := hpg.2.2.2.2.2.2.2.2
  have hlm := hps.2.2.1
  refine lv_iload_n hx hb dX11_count_0 rfl (lv_at hl 1 rfl) ?_
  by_cases h1 : x = 0
  · subst h1
    refine lv_tableIn (tgt := 36) (off := 35) hx hb dX11_count_1 (by decide) (by decide) (by decide) (by decide) ?_
    refine lv_aload_n hx hb dX11_count_36 rfl (lv_at hl 0 rfl) ?_
    refine c_get (v := .int (F 0)) (C := RX11) (Tc := TX11) (N := 8) (ci := 8) hx hb hq pin_wsX110 hown hE hP hO 0 (sg_0 G h0 a _ _ _ _ _) rfl 1 (by decide) (hq _ pw_1334) (fun _ h9 => h9) rfl dX11_count_37 ?_
    have hO : OKP G h0 a F (updR R 0 (.ref pq)) Z B J K w := hO.to rfl
    exact W.iret (v := (F 0)) hx hb hr (fun t99 ht99 hW99 => ⟨⟨_, (w, (F 0)), rfl, ⟨rfl, hO⟩, by rw [ht99]; exact hP, hD⟩, hS.F ht99⟩) hS.2.2 dX11_count_40
  by_cases h2 : x = 1
  · subst h2
    refine lv_tableIn (tgt := 41) (off := 40) hx hb dX11_count_1 (by decide) (by decide) (by decide) (by decide) ?_
    refine lv_aload_n hx hb dX11_count_41 rfl (lv_at hl 0 rfl) ?_
    refine c_get (v := .ref (a 5)) (C := RX11) (Tc := TX11) (N := 8) (ci := 8) hx hb hq pin_wsX110 hown hE hP hO 0 (sg_0 G h0 a _ _ _ _ _) rfl 6 (by decide) (hq _ pw_1321) (fun _ h9 => h9) rfl dX11_count_42 ?_
    refine c_get (v := .int (F 17)) (C := RX5) (Tc := TX5) (N := 19) (ci := 4) hx hb hq pin_wsX50 hown hE hP hO 28 (sg_28 G h0 a _ _ _ _ _) rfl 5 (by decide) (hq _ pw_1400) (fun _ h9 => h9) rfl dX11_count_45 ?_
    have hO : OKP G h0 a F (updR R 0 (.ref pq)) Z B J K w := hO.to rfl
    exact W.iret (v := (F 17)) hx hb hr (fun t99 ht99 hW99 => ⟨⟨_, (w, (F 17)), rfl, ⟨rfl, hO⟩, by rw [ht99]; exact hP, hD⟩, hS.F ht99⟩) hS.2.2 dX11_count_48
  by_cases h3 : x = 2
  · subst h3
    refine lv_tableIn (tgt := 49) (off := 48) hx hb dX11_count_1 (by decide) (by decide) (by decide) (by decide) ?_
    refine lv_aload_n hx hb dX11_count_49 rfl (lv_at hl 0 rfl) ?_
    refine c_get (v := .ref pq) (C := RX11) (Tc := TX11) (N := 8) (ci := 8) hx hb hq pin_wsX110 hown hE hP hO 0 (sg_0 G h0 a _ _ _ _ _) rfl 7 (by decide) (hq _ pw_1342) (fun _ h9 => h9) rfl dX11_count_50 ?_
    refine lv_ifnonnull (tgt := 60) hx hb dX11_count_53 (by decide) ?_
    refine lv_aload_n hx hb dX11_count_60 rfl (lv_at hl 0 rfl) ?_
    refine c_get (v := .ref (a 1)) (C := RX11) (Tc := TX11) (N := 8) (ci := 8) hx hb hq pin_wsX110 hown hE hP hO 0 (sg_0 G h0 a _ _ _ _ _) rfl 2 (by decide) (hq _ pw_1309) (fun _ h9 => h9) rfl dX11_count_61 ?_
    refine c_get (v := .int (F 2)) (C := RX10) (Tc := TX10) (N := 15) (ci := 7) hx hb hq pin_wsX100 hown hE hP hO 2 (sg_2 G h0 a _ _ _ _ _) rfl 8 (by decide) (hq _ pw_1421) (fun _ h9 => h9) rfl dX11_count_64 ?_
    have hO : OKP G h0 a F (updR R 0 (.ref pq)) Z B J K w := hO.to rfl
    exact W.iret (v := (F 2)) hx hb hr (fun t99 ht99 hW99 => ⟨⟨_, (w, (F 2)), rfl, ⟨rfl, hO⟩, by rw [ht99]; exact hP, hD⟩, hS.F ht99⟩) hS.2.2 dX11_count_67
  by_cases h4 : x = 3
  · subst h4
    refine lv_tableIn (tgt := 68) (off := 67) hx hb dX11_count_1 (by decide) (by decide) (by decide) (by decide) ?_
    refine lv_aload_n hx hb dX11_count_68 rfl (lv_at hl 0 rfl) ?_
    refine c_get (v := .ref pq) (C := RX11) (Tc := TX11) (N := 8) (ci := 8) hx hb hq pin_wsX110 hown hE hP hO 0 (sg_0 G h0 a _ _ _ _ _) rfl 7 (by decide) (hq _ pw_1342) (fun _ h9 => h9) rfl dX11_count_69 ?_
    refine lv_ifnonnull (tgt := 79) hx hb dX11_count_72 (by decide) ?_
    refine lv_aload_n hx hb dX11_count_79 rfl (lv_at hl 0 rfl) ?_
    refine c_get (v := .ref pq) (C := RX11) (Tc := TX11) (N := 8) (ci := 8) hx hb hq pin_wsX110 hown hE hP hO 0 (sg_0 G h0 a _ _ _ _ _) rfl 7 (by decide) (hq _ pw_1342) (fun _ h9 => h9) rfl dX11_count_80 ?_
    refine p_get (v := .int (nI nd)) (C := RX9) (Tc := TX9) (N := 5) (ci := 6) hx hb hq pin_wsX90 hown hE hP hO (by rw [hp1]; decide) (rep_7 hp1) rfl 2 (by decide) (hq _ pw_1422) (fun _ h9 => h9) (congrArg (fun z => some (Value.int z)) hp8) dX11_count_83 ?_
    have hO : OKP G h0 a F (updR R 0 (.ref pq)) Z B J K w := hO.to rfl
    exact W.iret (v := (nI nd)) hx hb hr (fun t99 ht99 hW99 => ⟨⟨_, (w, (nI nd)), rfl, ⟨rfl, hO⟩, by rw [ht99]; exact hP, hD⟩, hS.F ht99⟩) hS.2.2 dX11_count_86
  by_cases h5 : x = 4
  · subst h5
    refine lv_tableIn (tgt := 87) (off := 86) hx hb dX11_count_1 (by decide) (by decide) (by decide) (by decide) ?_
    refine lv_aload_n hx hb dX11_count_87 rfl (lv_at hl 0 rfl) ?_
    refine c_get (v := .ref pq) (C := RX11) (Tc := TX11) (N := 8) (ci := 8) hx hb hq pin_wsX110 hown hE hP hO 0 (sg_0 G h0 a _ _ _ _ _) rfl 7 (by decide) (hq _ pw_1342) (fun _ h9 => h9) rfl dX11_count_88 ?_
    refine lv_ifnonnull (tgt := 98) hx hb dX11_count_91 (by decide) ?_
    refine lv_aload_n hx hb dX11_count_98 rfl (lv_at hl 0 rfl) ?_
    refine c_get (v := .ref pq) (C := RX11) (Tc := TX11) (N := 8) (ci := 8) hx hb hq pin_wsX110 hown hE hP hO 0 (sg_0 G h0 a _ _ _ _ _) rfl 7 (by decide) (hq _ pw_1342) (fun _ h9 => h9) rfl dX11_count_99 ?_
    refine p_get (v := .ref ml) (C := RX9) (Tc := TX9) (N := 5) (ci := 6) hx hb hq pin_wsX90 hown hE hP hO (by rw [hp1]; decide) (rep_7 hp1) rfl 3 (by decide) (hq _ pw_1423) (fun _ h9 => h9) (congrArg (fun z => some (va_rf z)) hp5) dX11_count_102 ?_
    have hO : OKP G h0 a F (updR R 0 (.ref pq)) Z B J K w := hO.to rfl
    obtain ⟨qr9, hqr10⟩ := p_recv hO (by rw [hp6]; decide) (rep_5 hp6)
    refine pc_V0 (G := G) (As := []) (rest := []) hx hb hml hown hq hE hX pX0_al hP hD hS hA hl.1 (L_size l G h0 a F (updR R 0 (.ref pq)) Z B J K w ml 3 nm it hlm.ls hO) (gV pw_1377 pw_87 pw_88 pw_32 pw_16) hV_Jx4a65c_size_8abf5 qr9 10 hqr10 rfl rfl rfl (Nat.le_of_ble_eq_true rfl) dX11_count_105 ⟨Nat.le_of_ble_eq_true rfl, Nat.le_of_ble_eq_true rfl⟩ ⟨Nat.le_of_ble_eq_true rfl, Nat.le_of_ble_eq_true rfl⟩ (fun v8 u6 H locs hw7 hP hD hS => ?_)
    obtain ⟨w, _⟩ := u6
    obtain ⟨hw7, hO⟩ := hw7
    obtain rfl : v8 = some (.int (nI nm)) := hw7
    have hO : OKP G h0 a F (updR R 0 (.ref pq)) Z B J K w := hO.to rfl
    refine W.widen (k := 0) (n := 0) (Nat.le_of_ble_eq_true rfl) (Nat.le_of_ble_eq_true rfl) ?_
    refine W.eq (g2 := F0 m 108 ls [.int (nI nm)]) rfl ?_
    have hO : OKP G h0 a F (updR R 0 (.ref pq)) Z B J K w := hO.to rfl
    exact W.iret (v := (nI nm)) hx hb hr (fun t99 ht99 hW99 => ⟨⟨_, (w, (nI nm)), rfl, ⟨rfl, hO⟩, by rw [ht99]; exact hP, hD⟩, hS.F ht99⟩) hS.2.2 dX11_count_108
  refine lv_tableOut (tgt := 109) hx hb dX11_count_1 (sw_m0_4 h1 h2 h3 h4 h5) (by decide) ?_
  refine lv_aload_n hx hb dX11_count_109 rfl (lv_at hl 0 rfl) ?_
  refine c_get (v := .ref (a 5)) (C := RX11) (Tc := TX11) (N := 8) (ci := 8) hx hb hq pin_wsX110 hown hE hP hO 0 (sg_0 G h0 a _ _ _ _ _) rfl 6 (by decide) (hq _ pw_1321) (fun _ h9 => h9) rfl dX11_count_110 ?_
  refine lv_iload_n hx hb dX11_count_113 rfl (lv_at hl 1 rfl) ?_
  have hO : OKW G h0 a F (updR R 0 (.ref pq)) Z B J K.1 (fun q99 x99 => x99 = rep G a K q99) w := hO.to rfl
  obtain ⟨_, qr14, hqr15⟩ := hO.2.1 28 _ (sg_28 G h0 a _ _ _ _ _)
  refine pc_V0 (G := G) (As := [.int x]) (rest := []) hx hb hml hown hq hE hX pX0_al hP hD hS hA hl.1 (M_told l G h0 a F (updR R 0 (.ref pq)) Z B J K.1 (fun q99 x99 => x99 = rep G a K q99) w x hO) (gV pw_1424 pw_1425 pw_1426 pw_539 pw_484) hV_X5_told qr14 4 hqr15 rfl rfl rfl (Nat.le_of_ble_eq_true rfl) dX11_count_114 ⟨Nat.le_of_ble_eq_true rfl, Nat.le_of_ble_eq_true rfl⟩ ⟨Nat.le_of_ble_eq_true rfl, Nat.le_of_ble_eq_true rfl⟩ (fun v13 u11 H locs hw12 hP hD hS => ?_)
  obtain ⟨w, r16⟩ := u11
  obtain ⟨hw12, hO⟩ := hw12
  obtain rfl : v13 = some (.int r16) := hw12
  have hO : OKP G h0 a F (updR R 0 (.ref pq)) Z B J K w := hO.to rfl
  refine W.widen (k := 0) (n := 0) (Nat.le_of_ble_eq_true rfl) (Nat.le_of_ble_eq_true rfl) ?_
  refine W.eq (g2 := F0 m 117 ls [.int r16]) rfl ?_
  have hO : OKP G h0 a F (updR R 0 (.ref pq)) Z B J K w := hO.to rfl
  exact W.iret (v := r16) hx hb hr (fun t99 ht99 hW99 => ⟨⟨_, (w, r16), rfl, ⟨rfl, hO⟩, by rw [ht99]; exact hP, hD⟩, hS.F ht99⟩) hS.2.2 dX11_count_117
theorem dX11_thrown_0 : decode cX11_thrown 0 = .ok (.aload_n 0, 1) := by decide +kernel
theorem dX11_thrown_1 : decode cX11_thrown 1 = .ok (.getfield 50, 3) := by decide +kernel
theorem dX11_thrown_4 : decode cX11_thrown 4 = .ok (.iload_n 1, 1) := by decide +kernel
theorem dX11_thrown_5 : decode cX11_thrown 5 = .ok (.invokevirtual 189, 3) := by decide +kernel
theorem dX11_thrown_8 : decode cX11_thrown 8 = .ok (.ireturn, 1) := by decide +kernel
theorem hV_X5_uncaught : yX5_uncaught.cls = RX5 ∧ yX5_uncaught.cls ≠ "java/lang/invoke/MethodHandle" ∧ yX5_uncaught.cls ≠ "java/lang/invoke/VarHandle" ∧ (parseMethodDescriptor yX5_uncaught.desc).map (fun d => d.parameters.length) = some 1 := by decide +kernel
set_option maxHeartbeats 2000000 in
set_option maxRecDepth 100000 in
theorem J_thrownN (l : Launch) (G : pT) (h0 : Nat) (a : Nat → Nat) (F : Nat → Int32) (R : Nat → Value) (Z : Int64) (B : Nat → Nat → Int32) (J : Nat → Nat → Int64) (T : Nat → Nat) (Pi : Nat → va_E → Prop) (w : va_W) (x : Int32) (hO : OKW G h0 a F (updR R 5 (.null)) Z B J T Pi w) : PM l G pX0 yX11_thrown cX11_thrown 2 (some .int) ({ frames := 3, cells := 0, slots := 0, locals := 84 }) [.ref h0, .int x] w (fun (v : Option Value) (u : va_W × (Int32)) => v = some (.int u.2) ∧ (OKW G h0 a F (updR R 5 (.null)) Z B J T Pi u.1)) (fun u => u.1) := by
  intro sz
  refine Met.ofW (cc := cX11_thrown) (maxL := 2) (ret := (some .int)) (by decide) rfl ?_
  intro p e s m args below meth c s₁ B9 hml hv
  obtain ⟨rfl, hsz, hP, hD0, hE, hX⟩ := hv
  have hx := B9.exec
  have hb := B9.bytes
  have hr := B9.returns
  have hts := atoms_spec (ws := Cond.code yX11_thrown cX11_thrown 2 (some .int) :: pw) B9.pre
  have hq : ∀ w ∈ pw, w.before _ s = true := fun w h => hts w (List.mem_cons_of_mem _ h)
  have hown : s.vm.findClass RX11 = some m.cls := findClass_of_methodNamed B9.named
  have hlocks := B9.notSynchronized
  subst hsz
  have hD := hD0.self (sz := s.heap.size)
  have hA : ∀ q : Nat, s.heap.size ≤ q → va_A w s.heap.size q := fun q h => Or.inr h
  generalize va_A w s.heap.size = A at hD hE hA ⊢
  have hS : va_S A s.heap s.heap [] := va_S.rf
  have hl := lv_entry ([.ref h0, .int x]) (n := 2) (Nat.le_of_ble_eq_true rfl)
  rw [lg_entry_eq]
  generalize (lg_sl ([.ref h0, .int x]) ++ List.replicate (2 - (lg_sl ([.ref h0, .int x])).length) Slot.unset).toArray = ls at hl ⊢
  have hl : lv_has ls 2 [(0, .ref h0), (1, .int x)] := hl
  refine lv_aload_n hx hb dX11_thrown_0 rfl (lv_at hl 0 rfl) ?_
  refine c_get (v := .ref (a 5)) (C := RX11) (Tc := TX11) (N := 8) (ci := 8) hx hb hq pin_wsX110 hown hE hP hO 0 (sg_0 G h0 a _ _ _ _ _) rfl 6 (by decide) (hq _ pw_1321) (fun _ h9 => h9) rfl dX11_thrown_1 ?_
  refine lv_iload_n hx hb dX11_thrown_4 rfl (lv_at hl 1 rfl) ?_
  have hO : OKW G h0 a F (updR (updR R 5 (.null)) 5 (.null)) Z B J T Pi w := hO.to rfl
  obtain ⟨_, qr4, hqr5⟩ := hO.2.1 28 _ (sg_28 G h0 a _ _ _ _ _)
  refine pc_V0 (G := G) (As := [.int x]) (rest := []) hx hb hml hown hq hE hX pX0_al hP hD hS hA hl.1 (M_uncaughtN l G h0 a F (updR R 5 (.null)) Z B J T Pi w x hO) (gV pw_1416 pw_1417 pw_1418 pw_539 pw_498) hV_X5_uncaught qr4 4 hqr5 rfl rfl rfl (Nat.le_of_ble_eq_true rfl) dX11_thrown_5 ⟨Nat.le_of_ble_eq_true rfl, Nat.le_of_ble_eq_true rfl⟩ ⟨Nat.le_of_ble_eq_true rfl, Nat.le_of_ble_eq_true rfl⟩ (fun v3 u1 H locs hw2 hP hD hS => ?_)
  obtain ⟨w, r6⟩ := u1
  obtain ⟨hw2, hO⟩ := hw2
  obtain rfl : v3 = some (.int r6) := hw2
  have hO : OKW G h0 a F (updR R 5 (.null)) Z B J T Pi w := hO.to rfl
  refine W.widen (k := 0) (n := 0) (Nat.le_of_ble_eq_true rfl) (Nat.le_of_ble_eq_true rfl) ?_
  refine W.eq (g2 := F0 m 8 ls [.int r6]) rfl ?_
  have hO : OKW G h0 a F (updR R 5 (.null)) Z B J T Pi w := hO.to rfl
  exact W.iret (v := r6) hx hb hr (fun t99 ht99 hW99 => ⟨⟨_, (w, r6), rfl, ⟨rfl, hO⟩, by rw [ht99]; exact hP, hD⟩, hS.F ht99⟩) hS.2.2 dX11_thrown_8
set_option maxHeartbeats 8000000 in
set_option maxRecDepth 100000 in
theorem J_thrown (l : Launch) (G : pT) (h0 : Nat) (a : Nat → Nat) (F : Nat → Int32) (R : Nat → Value) (Z : Int64) (B : Nat → Nat → Int32) (J : Nat → Nat → Int64) (K : PK) (w : va_W) (x : Int32) (sp : Nat) (op : Nat) (ht : Nat) (pq : Nat) (dr : Nat) (ml : Nat) (nd : Nat) (nm : Nat) (cp : Nat) (it : Nat → Nat) (s9 : Nat) (g : Nat → Nat → Nat) (rk : Nat → Nat) (hsp : (sp = 34 ∧ op = 35) ∨ (sp = 35 ∧ op = 34)) (hht : 8 ≤ ht ∧ ht ≤ 3008) (hwp : WPr G K g) (hps : PgT G K g (a 1) pq dr ml nd nm cp it s9) (hrk : RkO K rk) (hO : OKP G h0 a (upd F 26 (nI ht)) (updR (updR (updR R 5 (.ref pq)) 7 (.ref (a sp))) 8 (.ref (a op))) Z B J K w) : PM l G pX0 yX11_thrown cX11_thrown 2 (some .int) ({ frames := 7, cells := 0, slots := 0, locals := 177 }) [.ref h0, .int x] w (fun (v : Option Value) (u : va_W × (Int32)) => v = some (.int u.2) ∧ (OKP G h0 a (upd F 26 (nI ht)) (updR (updR (updR R 5 (.ref pq)) 7 (.ref (a sp))) 8 (.ref (a op))) Z B J K u.1)) (fun u => u.1) := by
  intro sz
  refine Met.ofW (cc := cX11_thrown) (maxL := 2) (ret := (some .int)) (by decide) rfl ?_
  intro p e s m args below meth c s₁ B9 hml hv
  obtain ⟨rfl, hsz, hP, hD0, hE, hX⟩ := hv
  have hx := B9.exec
  have hb := B9.bytes
  have hr := B9.returns
  have hts := atoms_spec (ws := Cond.code yX11_thrown cX11_thrown 2 (some .int) :: pw) B9.pre
  have hq : ∀ w ∈ pw, w.before _ s = true := fun w h => hts w (List.mem_cons_of_mem _ h)
  have hown : s.vm.findClass RX11 = some m.cls := findClass_of_methodNamed B9.named
  have hlocks := B9.notSynchronized
  subst hsz
  have hD := hD0.self (sz := s.heap.size)
  have hA : ∀ q : Nat, s.heap.size ≤ q → va_A w s.heap.size q := fun q h => Or.inr h
  generalize va_A w s.heap.size = A at hD hE hA ⊢
  have hS : va_S A s.heap s.heap [] := va_S.rf
  have hl := lv_entry ([.ref h0, .int x]) (n := 2) (Nat.le_of_ble_eq_true rfl)
  rw [lg_entry_eq]
  generalize (lg_sl ([.ref h0, .int x]) ++ List.replicate (2 - (lg_sl ([.ref h0, .int x])).length) Slot.unset).toArray = ls at hl ⊢
  have hl : lv_has ls 2 [(0, .ref h0), (1, .int x)] := hl
  have hpg := hps.1
  have hp1 := hpg.1
  have hp2 := hpg.2.1
  have hp3 := hpg.2.2.1
  have hp4 := hpg.2.2.2.1
  have hp5 := hpg.2.2.2.2.1
  have hp6 := hpg.2.2.2.2.2.1
  have hp8 := hpg.2.2.2.2.2.2.2.1
  have hp9 := hpg.2.2.2.2.2.2.2.2
  refine lv_aload_n hx hb dX11_thrown_0 rfl (lv_at hl 0 rfl) ?_
  refine c_get (v := .ref (a 5)) (C := RX11) (Tc := TX11) (N := 8) (ci := 8) hx hb hq pin_wsX110 hown hE hP hO 0 (sg_0 G h0 a _ _ _ _ _) rfl 6 (by decide) (hq _ pw_1321) (fun _ h9 => h9) rfl dX11_thrown_1 ?_
  refine lv_iload_n hx hb dX11_thrown_4 rfl (lv_at hl 1 rfl) ?_
  have hO : OKP G h0 a (upd (upd F 26 (nI ht)) 26 (nI ht)) (updR (updR (updR (updR (updR (updR R 5 (.ref pq)) 7 (.ref (a sp))) 8 (.ref (a op))) 5 (.ref pq)) 7 (.ref (a sp))) 8 (.ref (a op))) Z B J K w := hO.to rfl
  obtain ⟨_, qr4, hqr5⟩ := hO.2.1 28 _ (sg_28 G h0 a _ _ _ _ _)
  refine pc_V0 (G := G) (As := [.int x]) (rest := []) hx hb hml hown hq hE hX pX0_al hP hD hS hA hl.1 (M_uncaught l G h0 a (upd F 26 (nI ht)) (updR (updR (updR R 5 (.ref pq)) 7 (.ref (a sp))) 8 (.ref (a op))) Z B J K w x sp op ht pq dr ml nd nm cp it s9 g rk hsp (by omega) hwp hps hrk hO) (gV pw_1416 pw_1417 pw_1418 pw_539 pw_498) hV_X5_uncaught qr4 4 hqr5 rfl rfl rfl (Nat.le_of_ble_eq_true rfl) dX11_thrown_5 ⟨Nat.le_of_ble_eq_true rfl, Nat.le_of_ble_eq_true rfl⟩ ⟨Nat.le_of_ble_eq_true rfl, Nat.le_of_ble_eq_true rfl⟩ (fun v3 u1 H locs hw2 hP hD hS => ?_)
  obtain ⟨w, r6⟩ := u1
  obtain ⟨hw2, hO⟩ := hw2
  obtain rfl : v3 = some (.int r6) := hw2
  have hO : OKP G h0 a (upd F 26 (nI ht)) (updR (updR (updR R 5 (.ref pq)) 7 (.ref (a sp))) 8 (.ref (a op))) Z B J K w := hO.to rfl
  refine W.widen (k := 0) (n := 0) (Nat.le_of_ble_eq_true rfl) (Nat.le_of_ble_eq_true rfl) ?_
  refine W.eq (g2 := F0 m 8 ls [.int r6]) rfl ?_
  have hO : OKP G h0 a (upd F 26 (nI ht)) (updR (updR (updR R 5 (.ref pq)) 7 (.ref (a sp))) 8 (.ref (a op))) Z B J K w := hO.to rfl
  exact W.iret (v := r6) hx hb hr (fun t99 ht99 hW99 => ⟨⟨_, (w, r6), rfl, ⟨rfl, hO⟩, by rw [ht99]; exact hP, hD⟩, hS.F ht99⟩) hS.2.2 dX11_thrown_8

set_option maxHeartbeats 2000000 in
set_option maxRecDepth 100000 in
theorem M_uncaughtZ (l : Launch) (G : pT) (h0 : Nat) (a : Nat → Nat) (F : Nat → Int32) (R : Nat → Value) (Z : Int64) (B : Nat → Nat → Int32) (J : Nat → Nat → Int64) (T : Nat → Nat) (Pi : Nat → va_E → Prop) (w : va_W) (x : Int32) (hz0 : Z = 0) (hO : OKW G h0 a F R Z B J T Pi w) : PM l G pX0 yX5_uncaught cX5_uncaught 5 (some .int) ({ frames := 2, cells := 0, slots := 0, locals := 60 }) [.ref (a 5), .int x] w (fun (v : Option Value) (u : va_W × (Int32)) => v = some (.int u.2) ∧ (OKW G h0 a F R Z B J T Pi u.1)) (fun u => u.1) := by
  intro sz
  refine Met.ofW (cc := cX5_uncaught) (maxL := 5) (ret := (some .int)) (by decide) rfl ?_
  intro p e s m args below meth c s₁ B9 hml hv
  obtain ⟨rfl, hsz, hP, hD0, hE, hX⟩ := hv
  have hx := B9.exec
  have hb := B9.bytes
  have hr := B9.returns
  have hts := atoms_spec (ws := Cond.code yX5_uncaught cX5_uncaught 5 (some .int) :: pw) B9.pre
  have hq : ∀ w ∈ pw, w.before _ s = true := fun w h => hts w (List.mem_cons_of_mem _ h)
  have hown : s.vm.findClass RX5 = some m.cls := findClass_of_methodNamed B9.named
  have hlocks := B9.notSynchronized
  subst hsz
  have hD := hD0.self (sz := s.heap.size)
  have hA : ∀ q : Nat, s.heap.size ≤ q → va_A w s.heap.size q := fun q h => Or.inr h
  generalize va_A w s.heap.size = A at hD hE hA ⊢
  have hS : va_S A s.heap s.heap [] := va_S.rf
  have hl := lv_entry ([.ref (a 5), .int x]) (n := 5) (Nat.le_of_ble_eq_true rfl)
  rw [lg_entry_eq]
  generalize (lg_sl ([.ref (a 5), .int x]) ++ List.replicate (5 - (lg_sl ([.ref (a 5), .int x])).length) Slot.unset).toArray = ls at hl ⊢
  have hl : lv_has ls 5 [(0, .ref (a 5)), (1, .int x)] := hl
  rcases hz0 with rfl
  · skip
    refine lv_aload_n hx hb dX5_uncaught_0 rfl (lv_at hl 0 rfl) ?_
    refine c_get (v := .long 0) (C := RX5) (Tc := TX5) (N := 19) (ci := 4) hx hb hq pin_wsX50 hown hE hP hO 28 (sg_28 G h0 a _ _ _ _ _) rfl 14 (by decide) (hq _ pw_485) (fun _ h9 => h9) rfl dX5_uncaught_1 ?_
    refine lv_lconst (v := 0) hx hb dX5_uncaught_4 (by decide) ?_
    refine W.lcmp hx hb dX5_uncaught_5 ?_
    refine lv_topi (fun x1 e2 => ?_)
    obtain rfl : x1 = 0 := e2.trans (by decide)
    refine lv_if_eq (tgt := 16) hx hb dX5_uncaught_6 (by decide) (fun c3 => ?_) (fun c3 => absurd c3 (by decide))
    refine lv_null hx hb dX5_uncaught_16 ?_
    refine lv_goto (tgt := 38) hx hb dX5_uncaught_17 (by decide) ?_
    refine lv_astore_nN (lv' := [(2, .null), (0, .ref (a 5)), (1, .int x)]) hx hb dX5_uncaught_38 rfl hl (by decide) rfl (fun ls hl => ?_)
    refine lv_aload_nN hx hb dX5_uncaught_39 rfl (lv_at hl 0 rfl) ?_
    refine lv_ifnullN (tgt := 60) hx hb dX5_uncaught_40 (by decide) ?_
    refine lv_iconst (v := (-1)) hx hb dX5_uncaught_60 (by decide) ?_
    have hO : OKW G h0 a F R 0 B J T Pi w := hO.to rfl
    exact W.iret (v := (-1)) hx hb hr (fun t99 ht99 hW99 => ⟨⟨_, (w, ((-1) : Int32)), rfl, ⟨rfl, hO⟩, by rw [ht99]; exact hP, hD⟩, hS.F ht99⟩) hS.2.2 dX5_uncaught_61
set_option maxHeartbeats 2000000 in
set_option maxRecDepth 100000 in
theorem J_thrownZ (l : Launch) (G : pT) (h0 : Nat) (a : Nat → Nat) (F : Nat → Int32) (R : Nat → Value) (Z : Int64) (B : Nat → Nat → Int32) (J : Nat → Nat → Int64) (T : Nat → Nat) (Pi : Nat → va_E → Prop) (w : va_W) (x : Int32) (hz0 : Z = 0) (hO : OKW G h0 a F R Z B J T Pi w) : PM l G pX0 yX11_thrown cX11_thrown 2 (some .int) ({ frames := 3, cells := 0, slots := 0, locals := 84 }) [.ref h0, .int x] w (fun (v : Option Value) (u : va_W × (Int32)) => v = some (.int u.2) ∧ (OKW G h0 a F R Z B J T Pi u.1)) (fun u => u.1) := by
  intro sz
  refine Met.ofW (cc := cX11_thrown) (maxL := 2) (ret := (some .int)) (by decide) rfl ?_
  intro p e s m args below meth c s₁ B9 hml hv
  obtain ⟨rfl, hsz, hP, hD0, hE, hX⟩ := hv
  have hx := B9.exec
  have hb := B9.bytes
  have hr := B9.returns
  have hts := atoms_spec (ws := Cond.code yX11_thrown cX11_thrown 2 (some .int) :: pw) B9.pre
  have hq : ∀ w ∈ pw, w.before _ s = true := fun w h => hts w (List.mem_cons_of_mem _ h)
  have hown : s.vm.findClass RX11 = some m.cls := findClass_of_methodNamed B9.named
  have hlocks := B9.notSynchronized
  subst hsz
  have hD := hD0.self (sz := s.heap.size)
  have hA : ∀ q : Nat, s.heap.size ≤ q → va_A w s.heap.size q := fun q h => Or.inr h
  generalize va_A w s.heap.size = A at hD hE hA ⊢
  have hS : va_S A s.heap s.heap [] := va_S.rf
  have hl := lv_entry ([.ref h0, .int x]) (n := 2) (Nat.le_of_ble_eq_true rfl)
  rw [lg_entry_eq]
  generalize (lg_sl ([.ref h0, .int x]) ++ List.replicate (2 - (lg_sl ([.ref h0, .int x])).length) Slot.unset).toArray = ls at hl ⊢
  have hl : lv_has ls 2 [(0, .ref h0), (1, .int x)] := hl
  refine lv_aload_n hx hb dX11_thrown_0 rfl (lv_at hl 0 rfl) ?_
  refine c_get (v := .ref (a 5)) (C := RX11) (Tc := TX11) (N := 8) (ci := 8) hx hb hq pin_wsX110 hown hE hP hO 0 (sg_0 G h0 a _ _ _ _ _) rfl 6 (by decide) (hq _ pw_1321) (fun _ h9 => h9) rfl dX11_thrown_1 ?_
  refine lv_iload_n hx hb dX11_thrown_4 rfl (lv_at hl 1 rfl) ?_
  have hO : OKW G h0 a F R Z B J T Pi w := hO.to rfl
  obtain ⟨_, qr4, hqr5⟩ := hO.2.1 28 _ (sg_28 G h0 a _ _ _ _ _)
  refine pc_V0 (G := G) (As := [.int x]) (rest := []) hx hb hml hown hq hE hX pX0_al hP hD hS hA hl.1 (M_uncaughtZ l G h0 a F R Z B J T Pi w x hz0 hO) (gV pw_1416 pw_1417 pw_1418 pw_539 pw_498) hV_X5_uncaught qr4 4 hqr5 rfl rfl rfl (Nat.le_of_ble_eq_true rfl) dX11_thrown_5 ⟨Nat.le_of_ble_eq_true rfl, Nat.le_of_ble_eq_true rfl⟩ ⟨Nat.le_of_ble_eq_true rfl, Nat.le_of_ble_eq_true rfl⟩ (fun v3 u1 H locs hw2 hP hD hS => ?_)
  obtain ⟨w, r6⟩ := u1
  obtain ⟨hw2, hO⟩ := hw2
  obtain rfl : v3 = some (.int r6) := hw2
  have hO : OKW G h0 a F R Z B J T Pi w := hO.to rfl
  refine W.widen (k := 0) (n := 0) (Nat.le_of_ble_eq_true rfl) (Nat.le_of_ble_eq_true rfl) ?_
  refine W.eq (g2 := F0 m 8 ls [.int r6]) rfl ?_
  have hO : OKW G h0 a F R Z B J T Pi w := hO.to rfl
  exact W.iret (v := r6) hx hb hr (fun t99 ht99 hW99 => ⟨⟨_, (w, r6), rfl, ⟨rfl, hO⟩, by rw [ht99]; exact hP, hD⟩, hS.F ht99⟩) hS.2.2 dX11_thrown_8

/-- a method that returns, or throws an IllegalStateException or an IllegalArgumentException -/
def pXY {S2 : Type} (G : pT) (A : Nat → Prop) (Qx : S2 → Prop) (w2 : S2 → va_W) : String → State → State → Prop := vx_X Qx (fun E u t => (E = eIS ∨ E = eIA) ∧ va_P G.1 pCl (w2 u) t.heap ∧ va_D A (w2 u)) A
def PY (l : Launch) (G : pT) (X : State → Prop) (y : MethodName) (cc : ByteArray) (n : Nat) (ret : Option FieldType) (rm : Room) (av : List Value) (w : va_W) {S S2 : Type} (Q : Option Value → S → Prop) (w1 : S → va_W) (Qx : S2 → Prop) (w2 : S2 → va_W) : Prop :=
  ∀ sz : Nat, vx_Met l y (Cond.code y cc n ret :: pw) rm (pPc G X av w sz) (pQ G (va_A w sz) Q w1) (pXY G (va_A w sz) Qx w2) rm.cells rm.slots (va_A w sz)
section PYS
variable {p : Program} {l : Launch} {e : Env} {R : Room} {s : State} {m : MethodId} {args : Array Value} {below : List Frame} {meth : Method} {c : Code} {H : Heap} {locs : List Loc} {cells slots : Nat} {Qg : State → Prop}
variable {cc bytes : ByteArray} {pc nL maxL mc ms idx n : Nat} {ls : Array Slot} {st0 rest As : List Value} {A0 : Nat → Prop} {ws : va_W} {G : pT} {X : State → Prop} {own C : String} {y : MethodName} {ret : Option FieldType} {rm : Room} {b : Nat}
theorem py_throw {S2 : Type} {E0 : String} (hE0 : E0 = eIS ∨ E0 = eIA) {text : String} {Qx : S2 → Prop} {w2 : S2 → va_W} {Qc : Array Value → State → Outcome → State → Prop} {ik is ic sa : Nat} (u : S2) (hu : Qx u) (hx : p.tables.exec = Jvm.exec) (hb : c.code = cc) (hl0 : l.stackTraces = false) (hown : s.vm.findClass own = some m.cls) (hq : ∀ w ∈ pw, w.before args s = true) (hE : pE G A0 s s.heap)
    (hf : Bundle.fit E0 = true ∧ ∀ n ∈ xNm, Bundle.fit n = true) (hk : Cond.classLink own ik E0 ∈ pw) (hini : Cond.initialized E0 ∈ pw) (hstr : vk_R own is text sa s) (hat : ∀ w ∈ (vx_atS own ic E0 xNm).filter goodWord, w ∈ pw) (hbad : ∀ w ∈ (vx_atS own ic E0 xNm).filter (fun w => !goodWord w), w ∈ xBd E0) (hca : pCa E0 E0 s)
    (hgood : ∀ w ∈ Cond.classLink own ik E0 :: Cond.initialized E0 :: vx_atS own ic E0 xNm, vx_ot w = true) (hnt : ∀ x ∈ c.exceptionTable.toList, False) (hlocks : meth.locks = false) (hml : c.maxLocals = nL) (hl : ls.size = nL)
    (hP : va_P G.1 pCl (w2 u) H) (hD : va_D A0 (w2 u)) (hS : va_S A0 s.heap H locs)
    (d0 : decode cc pc = .ok (.new ik, 3)) (d3 : decode cc (pc + 3) = .ok (.dup, 1)) (d4 : decode cc (pc + 4) = .ok (.ldc is, 2)) (d6 : decode cc (pc + 6) = .ok (.invokespecial ic, 3)) (d9 : decode cc (pc + 9) = .ok (.athrow, 1))
    (hRf : 6 ≤ R.frames) (hRl : (rest.map fun v => v.category).sum + 82 ≤ R.locals) (hRc : cells + 1 ≤ R.cells) (hRs : slots + 6 ≤ R.slots) (hc : cells + 1 ≤ mc) (hs : slots + 6 ≤ ms) :
    W p l e R s m args below meth c H locs cells slots (vx_MQ below Qc (pXY G A0 Qx w2) args s mc ms A0) (F0 m pc ls rest) := by
  refine vx_throwS (names := xNm) (text := text) (sa := sa) hx hb hl0 hown hf.1 hf.2 (hq _ hk) (hq _ hini) hstr (vx_hat (fun w hw => hq _ (hat w hw)) hbad (vx_c hca.use (vx_c (pDc_moved (Vm.Alike.refl _) hE.pc.2.2.2.2.1.1) (vx_c (pDc_moved (Vm.Alike.refl _) hE.pc.2.2.2.2.1.2.1) (vx_c (pDc_moved (Vm.Alike.refl _) hE.pc.2.2.2.2.1.2.2) vx_n))))) hgood hE.th.1 hE.th.2 hS (by rw [hml]; exact hl) d0 d3 d4 d6 d9 (fun x hx => (hnt x hx).elim) hRf hRl hRc hRs hlocks (fun t _ hz hk9 => ?_) hS.2.2 hc hs
  have hk1 : ∀ (k : Nat) (x : Nat × va_E), (w2 u)[k]? = some x → t.heap[x.1]? = H[x.1]? := fun k x hx => hk9 x.1 ((hP k x hx).lt)
  exact ⟨u, hu, ⟨hE0, hP.kept hk1, hD⟩, Nat.le_trans hS.1 hz, fun q h1 h2 => by rw [hk9 q (Nat.lt_of_lt_of_le h1 hS.1)]; exact hS.2.1 q h1 h2⟩
end PYS
theorem lt10_nn {x : Int32} (h : ¬ x < 10) : ¬ x < 0 := fun q => h (by
  rw [Int32.lt_iff_toInt_lt] at q ⊢
  have z1 : (0 : Int32).toInt = 0 := by decide
  have z2 : (10 : Int32).toInt = 10 := by decide
  omega)
theorem dX11_run_0 : decode cX11_run 0 = .ok (.iload_n 1, 1) := by decide +kernel
theorem dX11_run_1 : decode cX11_run 1 = .ok (.ifCond .lt 23, 3) := by decide +kernel
theorem dX11_run_24 : decode cX11_run 24 = .ok (.new 166, 3) := by decide +kernel
theorem dX11_run_27 : decode cX11_run 27 = .ok (.dup, 1) := by decide +kernel
theorem dX11_run_28 : decode cX11_run 28 = .ok (.ldc 168, 2) := by decide +kernel
theorem dX11_run_30 : decode cX11_run 30 = .ok (.invokespecial 170, 3) := by decide +kernel
theorem dX11_run_33 : decode cX11_run 33 = .ok (.athrow, 1) := by decide +kernel
theorem dX11_run_4 : decode cX11_run 4 = .ok (.iload_n 1, 1) := by decide +kernel
theorem dX11_run_5 : decode cX11_run 5 = .ok (.sipush 20000, 3) := by decide +kernel
theorem dX11_run_8 : decode cX11_run 8 = .ok (.if_icmp .gt 16, 3) := by decide +kernel
theorem dX11_run_11 : decode cX11_run 11 = .ok (.iload_n 2, 1) := by decide +kernel
theorem dX11_run_12 : decode cX11_run 12 = .ok (.bipush 10, 2) := by decide +kernel
theorem dX11_run_14 : decode cX11_run 14 = .ok (.if_icmp .lt 10, 3) := by decide +kernel
theorem dX11_run_17 : decode cX11_run 17 = .ok (.iload_n 2, 1) := by decide +kernel
theorem dX11_run_18 : decode cX11_run 18 = .ok (.sipush 3000, 3) := by decide +kernel
theorem dX11_run_21 : decode cX11_run 21 = .ok (.if_icmp .le 13, 3) := by decide +kernel
theorem dX11_run_34 : decode cX11_run 34 = .ok (.aload_n 0, 1) := by decide +kernel
theorem dX11_run_35 : decode cX11_run 35 = .ok (.getfield 69, 3) := by decide +kernel
theorem dX11_run_38 : decode cX11_run 38 = .ok (.ifnonnull 13, 3) := by decide +kernel
theorem dX11_run_41 : decode cX11_run 41 = .ok (.new 86, 3) := by decide +kernel
theorem dX11_run_44 : decode cX11_run 44 = .ok (.dup, 1) := by decide +kernel
theorem dX11_run_45 : decode cX11_run 45 = .ok (.ldc 173, 2) := by decide +kernel
theorem dX11_run_47 : decode cX11_run 47 = .ok (.invokespecial 175, 3) := by decide +kernel
theorem dX11_run_50 : decode cX11_run 50 = .ok (.athrow, 1) := by decide +kernel
set_option maxHeartbeats 2000000 in
set_option maxRecDepth 100000 in
theorem J_runN (l : Launch) (G : pT) (h0 : Nat) (a : Nat → Nat) (F : Nat → Int32) (R : Nat → Value) (Z : Int64) (B : Nat → Nat → Int32) (J : Nat → Nat → Int64) (T : Nat → Nat) (Pi : Nat → va_E → Prop) (w : va_W) (x : Int32) (y : Int32) (hO : OKW G h0 a F (updR R 0 (.null)) Z B J T Pi w) (hl0 : l.stackTraces = false) : PY l G pX0 yX11_run cX11_run 3 (some .int) ({ frames := 6, cells := 1, slots := 6, locals := 100 }) [.ref h0, .int x, .int y] w (fun (v : Option Value) (u : va_W × (Unit)) => False) (fun u => u.1) (fun (u : va_W) => u = w) (fun u => u) := by
  intro sz
  refine vx_ofW (cc := cX11_run) (maxL := 3) (ret := (some .int)) (by decide) rfl ?_
  intro p e s m args below meth c s₁ B9 hml hnt hv
  obtain ⟨rfl, hsz, hP, hD0, hE, hX⟩ := hv
  have hx := B9.exec
  have hb := B9.bytes
  have hr := B9.returns
  have hts := atoms_spec (ws := Cond.code yX11_run cX11_run 3 (some .int) :: pw) B9.pre
  have hq : ∀ w ∈ pw, w.before _ s = true := fun w h => hts w (List.mem_cons_of_mem _ h)
  have hown : s.vm.findClass RX11 = some m.cls := findClass_of_methodNamed B9.named
  have hlocks := B9.notSynchronized
  subst hsz
  have hD := hD0.self (sz := s.heap.size)
  have hA : ∀ q : Nat, s.heap.size ≤ q → va_A w s.heap.size q := fun q h => Or.inr h
  generalize va_A w s.heap.size = A at hD hE hA ⊢
  have hS : va_S A s.heap s.heap [] := va_S.rf
  have hl := lv_entry ([.ref h0, .int x, .int y]) (n := 3) (Nat.le_of_ble_eq_true rfl)
  rw [lg_entry_eq]
  generalize (lg_sl ([.ref h0, .int x, .int y]) ++ List.replicate (3 - (lg_sl ([.ref h0, .int x, .int y])).length) Slot.unset).toArray = ls at hl ⊢
  have hl : lv_has ls 3 [(0, .ref h0), (1, .int x), (2, .int y)] := hl
  refine lv_iload_n hx hb dX11_run_0 rfl (lv_at hl 1 rfl) ?_
  refine lv_if_lt (tgt := 24) hx hb dX11_run_1 (by decide) (fun c1 => ?_) (fun c1 => ?_)
  · exact py_throw (Or.inr rfl) w rfl hx hb hl0 hown hq hE xf_IA pw_1401 pw_1402 (hE.2.2.1 13 (by decide)) xw_2 xb_2 hE.pc.2.1 xg_2 hnt hlocks hml hl.1 hP hD hS dX11_run_24 dX11_run_27 dX11_run_28 dX11_run_30 dX11_run_33 (Nat.le_of_ble_eq_true rfl) (Nat.le_of_ble_eq_true rfl) (by show 0 + 1 ≤ 1; omega) (by show 0 + 6 ≤ 6; omega) (by show 0 + 1 ≤ 1; omega) (by show 0 + 6 ≤ 6; omega)
  · refine lv_iload_n hx hb dX11_run_4 rfl (lv_at hl 1 rfl) ?_
    refine lv_sipush (v := 20000) hx hb dX11_run_5 (by decide) ?_
    refine lv_icmp_gt (tgt := 24) hx hb dX11_run_8 (by decide) (fun c2 => ?_) (fun c2 => ?_)
    · exact py_throw (Or.inr rfl) w rfl hx hb hl0 hown hq hE xf_IA pw_1401 pw_1402 (hE.2.2.1 13 (by decide)) xw_2 xb_2 hE.pc.2.1 xg_2 hnt hlocks hml hl.1 hP hD hS dX11_run_24 dX11_run_27 dX11_run_28 dX11_run_30 dX11_run_33 (Nat.le_of_ble_eq_true rfl) (Nat.le_of_ble_eq_true rfl) (by show 0 + 1 ≤ 1; omega) (by show 0 + 6 ≤ 6; omega) (by show 0 + 1 ≤ 1; omega) (by show 0 + 6 ≤ 6; omega)
    · refine lv_iload_n hx hb dX11_run_11 rfl (lv_at hl 2 rfl) ?_
      refine lv_bipush (v := 10) hx hb dX11_run_12 (by decide) ?_
      refine lv_icmp_lt (tgt := 24) hx hb dX11_run_14 (by decide) (fun c3 => ?_) (fun c3 => ?_)
      · exact py_throw (Or.inr rfl) w rfl hx hb hl0 hown hq hE xf_IA pw_1401 pw_1402 (hE.2.2.1 13 (by decide)) xw_2 xb_2 hE.pc.2.1 xg_2 hnt hlocks hml hl.1 hP hD hS dX11_run_24 dX11_run_27 dX11_run_28 dX11_run_30 dX11_run_33 (Nat.le_of_ble_eq_true rfl) (Nat.le_of_ble_eq_true rfl) (by show 0 + 1 ≤ 1; omega) (by show 0 + 6 ≤ 6; omega) (by show 0 + 1 ≤ 1; omega) (by show 0 + 6 ≤ 6; omega)
      · refine lv_iload_n hx hb dX11_run_17 rfl (lv_at hl 2 rfl) ?_
        refine lv_sipush (v := 3000) hx hb dX11_run_18 (by decide) ?_
        refine lv_icmp_le (tgt := 34) hx hb dX11_run_21 (by decide) (fun c4 => ?_) (fun c4 => ?_)
        · refine lv_aload_n hx hb dX11_run_34 rfl (lv_at hl 0 rfl) ?_
          refine c_get (v := .null) (C := RX11) (Tc := TX11) (N := 8) (ci := 8) hx hb hq pin_wsX110 hown hE hP hO 0 (sg_0 G h0 a _ _ _ _ _) rfl 7 (by decide) (hq _ pw_1342) (fun _ h9 => h9) rfl dX11_run_35 ?_
          refine lv_ifnonnullN hx hb dX11_run_38 ?_
          exact py_throw (Or.inl rfl) w rfl hx hb hl0 hown hq hE xf_IS pw_1341 pw_45 (hE.2.2.1 14 (by decide)) xw_3 xb_3 hE.pc.1 xg_3 hnt hlocks hml hl.1 hP hD hS dX11_run_41 dX11_run_44 dX11_run_45 dX11_run_47 dX11_run_50 (Nat.le_of_ble_eq_true rfl) (Nat.le_of_ble_eq_true rfl) (by show 0 + 1 ≤ 1; omega) (by show 0 + 6 ≤ 6; omega) (by show 0 + 1 ≤ 1; omega) (by show 0 + 6 ≤ 6; omega)
        · exact py_throw (Or.inr rfl) w rfl hx hb hl0 hown hq hE xf_IA pw_1401 pw_1402 (hE.2.2.1 13 (by decide)) xw_2 xb_2 hE.pc.2.1 xg_2 hnt hlocks hml hl.1 hP hD hS dX11_run_24 dX11_run_27 dX11_run_28 dX11_run_30 dX11_run_33 (Nat.le_of_ble_eq_true rfl) (Nat.le_of_ble_eq_true rfl) (by show 0 + 1 ≤ 1; omega) (by show 0 + 6 ≤ 6; omega) (by show 0 + 1 ≤ 1; omega) (by show 0 + 6 ≤ 6; omega)
theorem dX11_run_51 : decode cX11_run 51 = .ok (.aload_n 0, 1) := by decide +kernel
theorem dX11_run_52 : decode cX11_run 52 = .ok (.getfield 50, 3) := by decide +kernel
theorem dX11_run_55 : decode cX11_run 55 = .ok (.aload_n 0, 1) := by decide +kernel
theorem dX11_run_56 : decode cX11_run 56 = .ok (.getfield 69, 3) := by decide +kernel
theorem dX11_run_59 : decode cX11_run 59 = .ok (.iload_n 1, 1) := by decide +kernel
theorem dX11_run_60 : decode cX11_run 60 = .ok (.iload_n 2, 1) := by decide +kernel
theorem dX11_run_61 : decode cX11_run 61 = .ok (.invokevirtual 176, 3) := by decide +kernel
theorem dX11_run_64 : decode cX11_run 64 = .ok (.aload_n 0, 1) := by decide +kernel
theorem dX11_run_65 : decode cX11_run 65 = .ok (.getfield 50, 3) := by decide +kernel
theorem dX11_run_68 : decode cX11_run 68 = .ok (.invokevirtual 180, 3) := by decide +kernel
theorem dX11_run_71 : decode cX11_run 71 = .ok (.ireturn, 1) := by decide +kernel
theorem hV_X5_start : yX5_start.cls = RX5 ∧ yX5_start.cls ≠ "java/lang/invoke/MethodHandle" ∧ yX5_start.cls ≠ "java/lang/invoke/VarHandle" ∧ (parseMethodDescriptor yX5_start.desc).map (fun d => d.parameters.length) = some 3 := by decide +kernel
theorem hV_X5_work : yX5_work.cls = RX5 ∧ yX5_work.cls ≠ "java/lang/invoke/MethodHandle" ∧ yX5_work.cls ≠ "java/lang/invoke/VarHandle" ∧ (parseMethodDescriptor yX5_work.desc).map (fun d => d.parameters.length) = some 0 := by decide +kernel
section IN
variable {G : pT} {h0 : Nat} {a : Nat → Nat} {F F1 : Nat → Int32} {R R1 : Nat → Value} {Z : Int64} {B B1 : Nat → Nat → Int32} {J : Nat → Nat → Int64} {T : Nat → Nat} {Pi : Nat → va_E → Prop} {w : va_W} {tl ni : Nat}
end IN
section MONO
variable {l : Launch} {G : pT} {X : State → Prop} {y : MethodName} {cc : ByteArray} {n : Nat} {ret : Option FieldType} {hh : List (Nat × Nat × Nat × Nat)} {rm rm1 : Room} {av : List Value} {w : va_W} {ws : List Cond} {Pc : Array Value → State → Prop} {Qc Qd : Array Value → State → Outcome → State → Prop} {XC XD : String → State → State → Prop} {mc ms : Nat} {free : Addr → Prop} {S S1 S2 S3 : Type}
end MONO
