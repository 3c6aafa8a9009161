def VrQ (vr : Nat) (r : Int32) : Prop := r = -1 ∨ ∃ t : Nat, r = nI t ∧ t < vr
def Bth (B B1 : Nat → Nat → Int32) : Prop := (∀ i : Nat, ¬ (i = 10 ∨ i = 11 ∨ (16 ≤ i ∧ i ≤ 27)) → B1 i = B i) ∧ (Nng (B 18) → Nng (B1 18))
theorem Bth.thx {F : Nat → Int32} {B B1 : Nat → Nat → Int32} (h : Bth B B1) : Thx F F B B1 := ⟨fun _ _ => rfl, h.1, h.2⟩
theorem Thx.bth {F F1 : Nat → Int32} {B B1 : Nat → Nat → Int32} (h : Thx F F1 B B1) : Bth B B1 := h.2
theorem Bth.trans {B B1 B2 : Nat → Nat → Int32} (h : Bth B B1) (h2 : Bth B1 B2) : Bth B B2 := ⟨fun i hi => (h2.1 i hi).trans (h.1 i hi), fun z => h2.2 (h.2 z)⟩
/-- what a statement leaves: slots of nodes, new Loops -/
def beI (f : Nat) : Prop := f = 5 ∨ 26 ≤ f
def BdE (K K1 : PK) : Prop := (∀ p : Nat, ¬ K.1 p = 0 → K1.1 p = K.1 p ∧ (∀ f : Nat, ¬ beI f → K1.2.1 f p = K.2.1 f p) ∧ (∀ f : Nat, K1.2.2.1 f p = K.2.2.1 f p) ∧ K1.2.2.2.1 p = K.2.2.2.1 p ∧ K1.2.2.2.2.1 p = K.2.2.2.2.1 p ∧ K1.2.2.2.2.2 p = K.2.2.2.2.2 p) ∧ ∀ p : Nat, K.1 p = 0 → K1.1 p = 0 ∨ K1.1 p = 9
section BE
variable {G : pT} {K K1 K2 : PK} {g : Nat → Nat → Nat} {p q f ax pq dr ml nd nm cp s : Nat} {it rk : Nat → Nat} {v : Int32}
theorem BdE.rfl : BdE K K := ⟨fun _ _ => ⟨Eq.refl _, fun _ _ => Eq.refl _, fun _ => Eq.refl _, Eq.refl _, Eq.refl _, Eq.refl _⟩, fun _ h => Or.inl h⟩
theorem BdE.trans (h : BdE K K1) (h2 : BdE K1 K2) : BdE K K2 := by
  refine ⟨fun p hp => ?_, fun p hp => ?_⟩
  · obtain ⟨a1, a2, a3, a4, a5, a6⟩ := h.1 p hp
    obtain ⟨b1, b2, b3, b4, b5, b6⟩ := h2.1 p (by rw [a1]; exact hp)
    exact ⟨b1.trans a1, fun f hf => (b2 f hf).trans (a2 f hf), fun f => (b3 f).trans (a3 f), b4.trans a4, b5.trans a5, b6.trans a6⟩
  · rcases h.2 p hp with z | z
    · exact h2.2 p z
    · exact Or.inr ((h2.1 p (by rw [z]; decide)).1.trans z)
theorem BdE.kI (hf : beI f) : BdE K (kI K f q v) := ⟨fun p _ => ⟨Eq.refl _, fun f9 h9 => kI_of (fun z => h9 (by rw [z]; exact hf)), fun _ => Eq.refl _, Eq.refl _, Eq.refl _, Eq.refl _⟩, fun _ h => Or.inl h⟩
theorem BdE.x (h : BdE K K1) : BdX K K1 := ⟨fun p hp => ⟨(h.1 p hp).1, fun f hf => (h.1 p hp).2.1 f (fun z => hf (by unfold beI at z; unfold bdI; omega)), (h.1 p hp).2.2⟩, h.2⟩
theorem BdE.mtb (h : BdE K K1) (hm : MtB K) : MtB K1 := fun q hq => by
  obtain ⟨z, zq⟩ := h.x.old hq (by decide) (by decide)
  rw [(h.1 q z).2.1 12 (fun w => by unfold beI at w; omega)]
  exact hm q zq
theorem BdE.wp (h : BdE K K1) (hw : WPr G K g) : WPr G K1 g := h.x.wp (h.mtb (MtB.of hw)) hw
theorem BdE.pt (h : BdE K K1) (hw : WPr G K g) (hp : PgT G K g ax pq dr ml nd nm cp it s) : PgT G K1 g ax pq dr ml nd nm cp it s := h.x.pt hw hp
theorem BdE.rko (h : BdE K K1) (hr : RkO K rk) : RkO K1 rk := h.x.rko hr
theorem BdE.T (h : BdE K K1) {t : Nat} (ht : K.1 p = t) (h0 : ¬ t = 0) : K1.1 p = t := h.x.T ht h0
theorem BdE.C (h : BdE K K1) (hp : ¬ K.1 p = 0) (f : Nat) : K1.2.2.1 f p = K.2.2.1 f p := (h.1 p hp).2.2.1 f
theorem BdE.I (h : BdE K K1) (hp : ¬ K.1 p = 0) (hf : f < 26) (h5 : ¬ f = 5) : K1.2.1 f p = K.2.1 f p := (h.1 p hp).2.1 f (fun z => by unfold beI at z; omega)
end BE
theorem dX0_variable_0 : decode cX0_variable 0 = .ok (.iconst 0, 1) := by decide +kernel
theorem dX0_variable_1 : decode cX0_variable 1 = .ok (.istore_n 2, 1) := by decide +kernel
theorem dX0_variable_2 : decode cX0_variable 2 = .ok (.iload_n 2, 1) := by decide +kernel
theorem dX0_variable_3 : decode cX0_variable 3 = .ok (.aload_n 0, 1) := by decide +kernel
theorem dX0_variable_4 : decode cX0_variable 4 = .ok (.getfield 91, 3) := by decide +kernel
theorem dX0_variable_7 : decode cX0_variable 7 = .ok (.if_icmp .ge 21, 3) := by decide +kernel
theorem dX0_variable_28 : decode cX0_variable 28 = .ok (.iconst (-1), 1) := by decide +kernel
theorem dX0_variable_29 : decode cX0_variable 29 = .ok (.ireturn, 1) := by decide +kernel
theorem dX0_variable_10 : decode cX0_variable 10 = .ok (.aload_n 0, 1) := by decide +kernel
theorem dX0_variable_11 : decode cX0_variable 11 = .ok (.getfield 19, 3) := by decide +kernel
theorem dX0_variable_14 : decode cX0_variable 14 = .ok (.iload_n 2, 1) := by decide +kernel
theorem dX0_variable_15 : decode cX0_variable 15 = .ok (.iaload, 1) := by decide +kernel
theorem dX0_variable_16 : decode cX0_variable 16 = .ok (.iload_n 1, 1) := by decide +kernel
theorem dX0_variable_17 : decode cX0_variable 17 = .ok (.if_icmp .ne 5, 3) := by decide +kernel
theorem dX0_variable_22 : decode cX0_variable 22 = .ok (.iinc 2 1, 3) := by decide +kernel
theorem dX0_variable_25 : decode cX0_variable 25 = .ok (.goto (-23), 3) := by decide +kernel
theorem dX0_variable_20 : decode cX0_variable 20 = .ok (.iload_n 2, 1) := by decide +kernel
theorem dX0_variable_21 : decode cX0_variable 21 = .ok (.ireturn, 1) := by decide +kernel
set_option maxHeartbeats 2000000 in
set_option maxRecDepth 100000 in
theorem B_variable (l : Launch) (G : pT) (h0 : Nat) (a : Nat → Nat) (F : Nat → Int32) (R : Nat → Value) (Z : Int64) (B : Nat → Nat → Int32) (J : Nat → Nat → Int64) (T : Nat → Nat) (Pi : Nat → va_E → Prop) (w : va_W) (x : Int32) (vr : Nat) (hvr : vr ≤ 30) (hO : OKW G h0 a (upd F 12 (nI vr)) R Z B J T Pi w) : PM l G pX0 yX0_variable cX0_variable 3 (some .int) ({ frames := 2, cells := 0, slots := 0, locals := 60 }) [.ref (a 4), .int x] w (fun (v : Option Value) (u : va_W × (Int32)) => v = some (.int u.2) ∧ (VrQ vr u.2) ∧ (OKW G h0 a (upd F 12 (nI vr)) R Z B J T Pi u.1)) (fun u => u.1) := by
  intro sz
  refine Met.ofW (cc := cX0_variable) (maxL := 3) (ret := (some .int)) (by decide) rfl ?_
  intro p e s m args below meth c s₁ B9 hml hv
  obtain ⟨rfl, hsz, hP, hD0, hE, hX⟩ := hv
  have hx := B9.exec
  have hb := B9.bytes
  have hr := B9.returns
  have hts := atoms_spec (ws := Cond.code yX0_variable cX0_variable 3 (some .int) :: pw) B9.pre
  have hq : ∀ w ∈ pw, w.before _ s = true := fun w h => hts w (List.mem_cons_of_mem _ h)
  have hown : s.vm.findClass RX0 = some m.cls := findClass_of_methodNamed B9.named
  have hlocks := B9.notSynchronized
  subst hsz
  have hD := hD0.self (sz := s.heap.size)
  have hA : ∀ q : Nat, s.heap.size ≤ q → va_A w s.heap.size q := fun q h => Or.inr h
  generalize va_A w s.heap.size = A at hD hE hA ⊢
  have hS : va_S A s.heap s.heap [] := va_S.rf
  have hl := lv_entry ([.ref (a 4), .int x]) (n := 3) (Nat.le_of_ble_eq_true rfl)
  rw [lg_entry_eq]
  generalize (lg_sl ([.ref (a 4), .int x]) ++ List.replicate (3 - (lg_sl ([.ref (a 4), .int x])).length) Slot.unset).toArray = ls at hl ⊢
  have hl : lv_has ls 3 [(0, .ref (a 4)), (1, .int x)] := hl
  refine lv_iconst (v := 0) hx hb dX0_variable_0 (by decide) ?_
  refine lv_istore_n (lv' := [(2, .int 0), (0, .ref (a 4)), (1, .int x)]) hx hb dX0_variable_1 rfl hl (by decide) rfl (fun ls hl => ?_)
  have loop_i : ∀ (n_i : Nat) (i2 : Nat) (H : Heap) (locs : List Loc) (ls : Array Slot) (w : va_W), i2 ≤ vr → vr + 1 ≤ i2 + n_i → va_P G.1 pCl w H → va_D A w → va_S A s.heap H locs → OKW G h0 a (upd F 12 (nI vr)) R Z B J T Pi w → lv_has ls 3 [(2, .int (nI i2)), (1, .int x), (0, .ref (a 4))] → W p l e (headSpec (Cond.code yX0_variable cX0_variable 3 (some .int) :: pw) ({ frames := 2, cells := 0, slots := 0, locals := 60 } : Room)).room s m ([.ref (a 4), .int x] : List Value).toArray below meth c H locs 0 0 (MQ below (pQ G A (fun (v : Option Value) (u : va_W × (Int32)) => v = some (.int u.2) ∧ (VrQ vr u.2) ∧ (OKW G h0 a (upd F 12 (nI vr)) R Z B J T Pi u.1)) (fun u => u.1)) ([.ref (a 4), .int x] : List Value).toArray s ({ frames := 2, cells := 0, slots := 0, locals := 60 } : Room).cells ({ frames := 2, cells := 0, slots := 0, locals := 60 } : Room).slots A) (F0 m 2 ls []) := by
    intro n_i
    induction n_i with
    | zero => intro i2 H locs ls w hk_i hn_i; omega
    | succ n_i ih_i =>
      intro i2 H locs ls w hk_i hn_i hP hD hS hO hl
      refine lv_iload_n hx hb dX0_variable_2 rfl (lv_at hl 0 rfl) ?_
      refine lv_aload_n hx hb dX0_variable_3 rfl (lv_at hl 2 rfl) ?_
      refine c_get (v := .int (nI vr)) (C := RX0) (Tc := TX0) (N := 13) (ci := 0) hx hb hq pin_wsX00 hown hE hP hO 24 (sg_24 G h0 a _ _ _ _ _) rfl 5 (by decide) (hq _ pw_42) (fun _ h9 => h9) rfl dX0_variable_4 ?_
      refine lv_icmp_ge (tgt := 28) hx hb dX0_variable_7 (by decide) (fun c1 => ?_) (fun c1 => ?_)
      · have n2 : vr ≤ i2 := (nI_leI (a := vr) (b := i2) (by omega) (by omega)).mp c1
        refine lv_iconst (v := (-1)) hx hb dX0_variable_28 (by decide) ?_
        have hz3 : VrQ vr ((-1) : Int32) := (Or.inl rfl)
        have hO : OKW G h0 a (upd F 12 (nI vr)) R Z B J T Pi w := hO.to rfl
        exact W.iret (v := (-1)) hx hb hr (fun t99 ht99 hW99 => ⟨⟨_, (w, ((-1) : Int32)), rfl, ⟨rfl, hz3, hO⟩, by rw [ht99]; exact hP, hD⟩, hS.F ht99⟩) hS.2.2 dX0_variable_29
      · have n4 : ¬ (vr ≤ i2) := fun h9 => c1 ((nI_leI (a := vr) (b := i2) (by omega) (by omega)).mpr h9)
        refine lv_aload_n hx hb dX0_variable_10 rfl (lv_at hl 2 rfl) ?_
        refine c_get (v := .ref (a 25)) (C := RX0) (Tc := TX0) (N := 13) (ci := 0) hx hb hq pin_wsX00 hown hE hP hO 24 (sg_24 G h0 a _ _ _ _ _) rfl 2 (by decide) (hq _ pw_7) (fun _ h9 => h9) rfl dX0_variable_11 ?_
        refine lv_iload_n hx hb dX0_variable_14 rfl (lv_at hl 0 rfl) ?_
        refine c_ldi (f := (B 25)) (n := 30) (t0 := 0) hx hb hE hP hO 25 (sg_25 G h0 a _ _ _ _ _) rfl (vp_in_nI (by omega) (by decide)) dX0_variable_15 ?_
        rw [(nI_clamp (show i2 < 2 ^ 31 by omega))]
        refine lv_iload_n hx hb dX0_variable_16 rfl (lv_at hl 1 rfl) ?_
        refine lv_icmp_ne (tgt := 22) hx hb dX0_variable_17 (by decide) (fun c5 => ?_) (fun c5 => ?_)
        · refine lv_iinc (v := (nI (i2 + 1))) (lv' := [(2, .int (nI (i2 + 1))), (1, .int x), (0, .ref (a 4))]) hx hb dX0_variable_22 hl (k := 0) rfl (nI_1 i2) (by decide) rfl (fun ls hl => ?_)
          refine lv_goto (tgt := 2) hx hb dX0_variable_25 (by decide) ?_
          have hO : OKW G h0 a (upd F 12 (nI vr)) R Z B J T Pi w := hO.to rfl
          exact ih_i (i2 + 1) _ _ _ _ (by omega) (by omega) hP hD hS hO (lv_sub hl [0, 1, 2] rfl)
        · refine lv_iload_n hx hb dX0_variable_20 rfl (lv_at hl 0 rfl) ?_
          have hz6 : VrQ vr (nI i2) := (Or.inr ⟨i2, rfl, (by omega)⟩)
          have hO : OKW G h0 a (upd F 12 (nI vr)) R Z B J T Pi w := hO.to rfl
          exact W.iret (v := (nI i2)) hx hb hr (fun t99 ht99 hW99 => ⟨⟨_, (w, (nI i2)), rfl, ⟨rfl, hz6, hO⟩, by rw [ht99]; exact hP, hD⟩, hS.F ht99⟩) hS.2.2 dX0_variable_21
  have hO : OKW G h0 a (upd F 12 (nI vr)) R Z B J T Pi w := hO.to rfl
  exact loop_i (vr + 1) 0 _ _ _ _ (by omega) (by omega) hP hD hS hO (lv_sub hl [0, 2, 1] rfl)
theorem dX0_declare_0 : decode cX0_declare 0 = .ok (.aload_n 0, 1) := by decide +kernel
theorem dX0_declare_1 : decode cX0_declare 1 = .ok (.getfield 9, 3) := by decide +kernel
theorem dX0_declare_4 : decode cX0_declare 4 = .ok (.iload_n 1, 1) := by decide +kernel
theorem dX0_declare_5 : decode cX0_declare 5 = .ok (.invokevirtual 152, 3) := by decide +kernel
theorem dX0_declare_8 : decode cX0_declare 8 = .ok (.istore_n 3, 1) := by decide +kernel
theorem dX0_declare_9 : decode cX0_declare 9 = .ok (.aload_n 0, 1) := by decide +kernel
theorem dX0_declare_10 : decode cX0_declare 10 = .ok (.getfield 91, 3) := by decide +kernel
theorem dX0_declare_13 : decode cX0_declare 13 = .ok (.bipush 30, 2) := by decide +kernel
theorem dX0_declare_15 : decode cX0_declare 15 = .ok (.if_icmp .ge 12, 3) := by decide +kernel
theorem dX0_declare_27 : decode cX0_declare 27 = .ok (.aload_n 0, 1) := by decide +kernel
theorem dX0_declare_28 : decode cX0_declare 28 = .ok (.getfield 9, 3) := by decide +kernel
theorem dX0_declare_31 : decode cX0_declare 31 = .ok (.bipush 14, 2) := by decide +kernel
theorem dX0_declare_33 : decode cX0_declare 33 = .ok (.iload_n 1, 1) := by decide +kernel
theorem dX0_declare_34 : decode cX0_declare 34 = .ok (.invokevirtual 136, 3) := by decide +kernel
theorem dX0_declare_18 : decode cX0_declare 18 = .ok (.aload_n 0, 1) := by decide +kernel
theorem dX0_declare_19 : decode cX0_declare 19 = .ok (.iload_n 3, 1) := by decide +kernel
theorem dX0_declare_20 : decode cX0_declare 20 = .ok (.invokevirtual 155, 3) := by decide +kernel
theorem dX0_declare_23 : decode cX0_declare 23 = .ok (.iconst (-1), 1) := by decide +kernel
theorem dX0_declare_24 : decode cX0_declare 24 = .ok (.if_icmp .eq 15, 3) := by decide +kernel
theorem dX0_declare_39 : decode cX0_declare 39 = .ok (.aload_n 0, 1) := by decide +kernel
theorem dX0_declare_40 : decode cX0_declare 40 = .ok (.getfield 19, 3) := by decide +kernel
theorem dX0_declare_43 : decode cX0_declare 43 = .ok (.aload_n 0, 1) := by decide +kernel
theorem dX0_declare_44 : decode cX0_declare 44 = .ok (.getfield 91, 3) := by decide +kernel
theorem dX0_declare_47 : decode cX0_declare 47 = .ok (.iload_n 3, 1) := by decide +kernel
theorem dX0_declare_48 : decode cX0_declare 48 = .ok (.iastore, 1) := by decide +kernel
theorem dX0_declare_49 : decode cX0_declare 49 = .ok (.aload_n 0, 1) := by decide +kernel
theorem dX0_declare_50 : decode cX0_declare 50 = .ok (.getfield 23, 3) := by decide +kernel
theorem dX0_declare_53 : decode cX0_declare 53 = .ok (.aload_n 0, 1) := by decide +kernel
theorem dX0_declare_54 : decode cX0_declare 54 = .ok (.getfield 91, 3) := by decide +kernel
theorem dX0_declare_57 : decode cX0_declare 57 = .ok (.iload_n 2, 1) := by decide +kernel
theorem dX0_declare_58 : decode cX0_declare 58 = .ok (.iastore, 1) := by decide +kernel
theorem dX0_declare_59 : decode cX0_declare 59 = .ok (.aload_n 0, 1) := by decide +kernel
theorem dX0_declare_60 : decode cX0_declare 60 = .ok (.getfield 26, 3) := by decide +kernel
theorem dX0_declare_63 : decode cX0_declare 63 = .ok (.aload_n 0, 1) := by decide +kernel
theorem dX0_declare_64 : decode cX0_declare 64 = .ok (.getfield 91, 3) := by decide +kernel
theorem dX0_declare_67 : decode cX0_declare 67 = .ok (.aload_n 0, 1) := by decide +kernel
theorem dX0_declare_68 : decode cX0_declare 68 = .ok (.getfield 15, 3) := by decide +kernel
theorem dX0_declare_71 : decode cX0_declare 71 = .ok (.getfield 158, 3) := by decide +kernel
theorem dX0_declare_74 : decode cX0_declare 74 = .ok (.iastore, 1) := by decide +kernel
theorem dX0_declare_75 : decode cX0_declare 75 = .ok (.aload_n 0, 1) := by decide +kernel
theorem dX0_declare_76 : decode cX0_declare 76 = .ok (.getfield 15, 3) := by decide +kernel
theorem dX0_declare_79 : decode cX0_declare 79 = .ok (.iconst 1, 1) := by decide +kernel
theorem dX0_declare_80 : decode cX0_declare 80 = .ok (.invokevirtual 161, 3) := by decide +kernel
theorem dX0_declare_83 : decode cX0_declare 83 = .ok (.aload_n 0, 1) := by decide +kernel
theorem dX0_declare_84 : decode cX0_declare 84 = .ok (.getfield 94, 3) := by decide +kernel
theorem dX0_declare_87 : decode cX0_declare 87 = .ok (.iconst (-1), 1) := by decide +kernel
theorem dX0_declare_88 : decode cX0_declare 88 = .ok (.if_icmp .eq 20, 3) := by decide +kernel
theorem dX0_declare_108 : decode cX0_declare 108 = .ok (.aload_n 0, 1) := by decide +kernel
theorem dX0_declare_109 : decode cX0_declare 109 = .ok (.dup, 1) := by decide +kernel
theorem dX0_declare_110 : decode cX0_declare 110 = .ok (.getfield 91, 3) := by decide +kernel
theorem dX0_declare_113 : decode cX0_declare 113 = .ok (.iconst 1, 1) := by decide +kernel
theorem dX0_declare_114 : decode cX0_declare 114 = .ok (.iadd, 1) := by decide +kernel
theorem dX0_declare_115 : decode cX0_declare 115 = .ok (.putfield 91, 3) := by decide +kernel
theorem dX0_declare_118 : decode cX0_declare 118 = .ok (.aload_n 0, 1) := by decide +kernel
theorem dX0_declare_119 : decode cX0_declare 119 = .ok (.getfield 91, 3) := by decide +kernel
theorem dX0_declare_122 : decode cX0_declare 122 = .ok (.iconst 1, 1) := by decide +kernel
theorem dX0_declare_123 : decode cX0_declare 123 = .ok (.isub, 1) := by decide +kernel
theorem dX0_declare_124 : decode cX0_declare 124 = .ok (.ireturn, 1) := by decide +kernel
theorem dX0_declare_91 : decode cX0_declare 91 = .ok (.aload_n 0, 1) := by decide +kernel
theorem dX0_declare_92 : decode cX0_declare 92 = .ok (.dup, 1) := by decide +kernel
theorem dX0_declare_93 : decode cX0_declare 93 = .ok (.getfield 94, 3) := by decide +kernel
theorem dX0_declare_96 : decode cX0_declare 96 = .ok (.iconst 1, 1) := by decide +kernel
theorem dX0_declare_97 : decode cX0_declare 97 = .ok (.aload_n 0, 1) := by decide +kernel
theorem dX0_declare_98 : decode cX0_declare 98 = .ok (.getfield 91, 3) := by decide +kernel
theorem dX0_declare_101 : decode cX0_declare 101 = .ok (.ishl, 1) := by decide +kernel
theorem dX0_declare_102 : decode cX0_declare 102 = .ok (.iconst (-1), 1) := by decide +kernel
theorem dX0_declare_103 : decode cX0_declare 103 = .ok (.ixor, 1) := by decide +kernel
theorem dX0_declare_104 : decode cX0_declare 104 = .ok (.iand, 1) := by decide +kernel
theorem dX0_declare_105 : decode cX0_declare 105 = .ok (.putfield 94, 3) := by decide +kernel
theorem hV_X0_variable : yX0_variable.cls = RX0 ∧ yX0_variable.cls ≠ "java/lang/invoke/MethodHandle" ∧ yX0_variable.cls ≠ "java/lang/invoke/VarHandle" ∧ (parseMethodDescriptor yX0_variable.desc).map (fun d => d.parameters.length) = some 1 := by decide +kernel
theorem hV_X1_hold : yX1_hold.cls = RX1 ∧ yX1_hold.cls ≠ "java/lang/invoke/MethodHandle" ∧ yX1_hold.cls ≠ "java/lang/invoke/VarHandle" ∧ (parseMethodDescriptor yX1_hold.desc).map (fun d => d.parameters.length) = some 1 := by decide +kernel
set_option maxHeartbeats 2000000 in
set_option maxRecDepth 100000 in
theorem B_declare (l : Launch) (G : pT) (h0 : Nat) (a : Nat → Nat) (F : Nat → Int32) (R : Nat → Value) (Z : Int64) (B : Nat → Nat → Int32) (J : Nat → Nat → Int64) (T : Nat → Nat) (Pi : Nat → va_E → Prop) (w : va_W) (x1 : Int32) (x2 : Int32) (vr : Nat) (hd : Nat) (dp : Nat) (sz : Nat) (hsz : sz ≤ 5000) (hvr : vr ≤ 30) (hhd : hd + 1 ≤ 1000) (hdp : dp ≤ 1000) (hO : OKW G h0 a (upd (upd (upd (upd F 2 (nI sz)) 7 (nI hd)) 8 (nI dp)) 12 (nI vr)) R Z B J T Pi w) (hl0 : l.stackTraces = false) : PBn l G pX0 yX0_declare cX0_declare 4 (some .int) ({ frames := 7, cells := 1, slots := 6, locals := 122 }) [.ref (a 4), .int x1, .int x2] w (fun (v : Option Value) (u : va_W × (Nat × Int32 × (Nat → Int32) × (Nat → Int32) × (Nat → Int32))) => v = some (.int (nI vr)) ∧ (vr + 1 ≤ 30) ∧ (u.2.1 ≤ 1000) ∧ (OKW G h0 a (upd (upd (upd (upd (upd F 2 (nI sz)) 7 (nI (hd + 1))) 8 (nI u.2.1)) 12 (nI (vr + 1))) 13 u.2.2.1) R Z (updA (updA (updA B 25 u.2.2.2.1) 26 u.2.2.2.2.1) 27 u.2.2.2.2.2) J T Pi u.1)) (fun u => u.1) (fun (u : va_W × (Nat × Int32 × (Nat → Int32) × (Nat → Int32) × (Nat → Int32))) => 0) (fun (u : va_W × (Nat × Int32 × (Nat → Int32) × (Nat → Int32) × (Nat → Int32))) => 0) (fun (u : va_W × (Nat → Int32) × (Nat → Value) × (Nat → Nat → Int32)) => ThQ G h0 a (upd (upd (upd (upd F 2 (nI sz)) 7 (nI hd)) 8 (nI dp)) 12 (nI vr)) R Z B J u) (fun u => u.1) := by
  intro sz
  refine vx_ofW (cc := cX0_declare) (maxL := 4) (ret := (some .int)) (by decide) rfl ?_
  intro p e s m args below meth c s₁ B9 hml hnt hv
  obtain ⟨rfl, hsz, hP, hD0, hE, hX⟩ := hv
  have hx := B9.exec
  have hb := B9.bytes
  have hr := B9.returns
  have hts := atoms_spec (ws := Cond.code yX0_declare cX0_declare 4 (some .int) :: pw) B9.pre
  have hq : ∀ w ∈ pw, w.before _ s = true := fun w h => hts w (List.mem_cons_of_mem _ h)
  have hown : s.vm.findClass RX0 = some m.cls := findClass_of_methodNamed B9.named
  have hlocks := B9.notSynchronized
  subst hsz
  have hD := hD0.self (sz := s.heap.size)
  have hA : ∀ q : Nat, s.heap.size ≤ q → va_A w s.heap.size q := fun q h => Or.inr h
  generalize va_A w s.heap.size = A at hD hE hA ⊢
  have hS : va_S A s.heap s.heap [] := va_S.rf
  have hl := lv_entry ([.ref (a 4), .int x1, .int x2]) (n := 4) (Nat.le_of_ble_eq_true rfl)
  rw [lg_entry_eq]
  generalize (lg_sl ([.ref (a 4), .int x1, .int x2]) ++ List.replicate (4 - (lg_sl ([.ref (a 4), .int x1, .int x2])).length) Slot.unset).toArray = ls at hl ⊢
  have hl : lv_has ls 4 [(0, .ref (a 4)), (1, .int x1), (2, .int x2)] := hl
  refine lv_aload_n hx hb dX0_declare_0 rfl (lv_at hl 0 rfl) ?_
  refine c_get (v := .ref (a 1)) (C := RX0) (Tc := TX0) (N := 13) (ci := 0) hx hb hq pin_wsX00 hown hE hP hO 24 (sg_24 G h0 a _ _ _ _ _) rfl 0 (by decide) (hq _ pw_4) (fun _ h9 => h9) rfl dX0_declare_1 ?_
  refine lv_iload_n hx hb dX0_declare_4 rfl (lv_at hl 1 rfl) ?_
  have hO : OKW G h0 a (upd (upd (upd (upd (upd F 2 (nI sz)) 7 (nI hd)) 8 (nI dp)) 12 (nI vr)) 2 (nI sz)) R Z B J T Pi w := hO.to rfl
  obtain ⟨_, qr4, hqr5⟩ := hO.2.1 2 _ (sg_2 G h0 a _ _ _ _ _)
  refine pc_V0 (G := G) (As := [.int x1]) (rest := []) hx hb hml hown hq hE hX pX0_al hP hD hS hA hl.1 (K_valueAt l G h0 a (upd (upd (upd (upd F 2 (nI sz)) 7 (nI hd)) 8 (nI dp)) 12 (nI vr)) R Z B J T Pi w x1 sz (by omega) hO) (gV pw_56 pw_57 pw_58 pw_59 pw_39) hV_X10_valueAt qr4 7 hqr5 rfl rfl rfl (Nat.le_of_ble_eq_true rfl) dX0_declare_5 ⟨(by show 0 + 0 ≤ 1; omega), (by show 0 + 0 ≤ 6; omega)⟩ ⟨Nat.le_of_ble_eq_true rfl, Nat.le_of_ble_eq_true rfl⟩ (fun v3 u1 H locs hw2 hP hD hS => ?_)
  obtain ⟨w, r6⟩ := u1
  obtain ⟨hw2, hO⟩ := hw2
  obtain rfl : v3 = some (.int r6) := hw2
  have hO : OKW G h0 a (upd (upd (upd (upd F 2 (nI sz)) 7 (nI hd)) 8 (nI dp)) 12 (nI vr)) R Z B J T Pi w := hO.to rfl
  refine W.widen (k := 0) (n := 0) (Nat.le_of_ble_eq_true rfl) (Nat.le_of_ble_eq_true rfl) ?_
  refine W.eq (g2 := F0 m 8 ls [.int r6]) rfl ?_
  refine lv_istore_n (lv' := [(3, .int r6), (0, .ref (a 4)), (1, .int x1), (2, .int x2)]) hx hb dX0_declare_8 rfl hl (by decide) rfl (fun ls hl => ?_)
  refine lv_aload_n hx hb dX0_declare_9 rfl (lv_at hl 1 rfl) ?_
  refine c_get (v := .int (nI vr)) (C := RX0) (Tc := TX0) (N := 13) (ci := 0) hx hb hq pin_wsX00 hown hE hP hO 24 (sg_24 G h0 a _ _ _ _ _) rfl 5 (by decide) (hq _ pw_42) (fun _ h9 => h9) rfl dX0_declare_10 ?_
  refine lv_bipush (v := 30) hx hb dX0_declare_13 (by decide) ?_
  refine lv_icmp_ge (tgt := 27) hx hb dX0_declare_15 (by decide) (fun c7 => ?_) (fun c7 => ?_)
  · have n8 : 30 ≤ vr := (nI_leI (a := 30) (b := vr) (by omega) (by omega)).mp c7
    refine lv_aload_n hx hb dX0_declare_27 rfl (lv_at hl 1 rfl) ?_
    refine c_get (v := .ref (a 1)) (C := RX0) (Tc := TX0) (N := 13) (ci := 0) hx hb hq pin_wsX00 hown hE hP hO 24 (sg_24 G h0 a _ _ _ _ _) rfl 0 (by decide) (hq _ pw_4) (fun _ h9 => h9) rfl dX0_declare_28 ?_
    refine lv_bipush (v := 14) hx hb dX0_declare_31 (by decide) ?_
    refine lv_iload_n hx hb dX0_declare_33 rfl (lv_at hl 2 rfl) ?_
    have hO : OKW G h0 a (upd (upd (upd (upd (upd F 2 (nI sz)) 7 (nI hd)) 8 (nI dp)) 12 (nI vr)) 2 (nI sz)) R Z B J T Pi w := hO.to rfl
    obtain ⟨_, qr12, hqr13⟩ := hO.2.1 2 _ (sg_2 G h0 a _ _ _ _ _)
    refine pn_V0 (G := G) (As := [.int 14, .int x1]) (rest := []) hx hb hml hown hq hE hX pX0_al hP hD hS hA hl.1 (K_fail l G h0 a (upd (upd (upd (upd F 2 (nI sz)) 7 (nI hd)) 8 (nI dp)) 12 (nI vr)) R Z B J T Pi w 14 x1 sz (by omega) hO hl0) (gV pw_64 pw_65 pw_66 pw_59 pw_43) hV_X10_fail qr12 7 hqr13 rfl rfl rfl (Nat.le_of_ble_eq_true rfl) dX0_declare_34 ⟨(by show 0 + 1 ≤ 1; omega), (by show 0 + 6 ≤ 6; omega)⟩ ⟨Nat.le_of_ble_eq_true rfl, Nat.le_of_ble_eq_true rfl⟩ (fun v11 u9 H locs hw10 hP hD hS => hw10.elim) (fun ux ce9 q9 H9 locs9 hux hP9 hD9 hS9 hce hcv hcl => pb_out ux (ThQ.up (Thx.same Thx.rfl rfl) RhX.rfl hux) hnt hlocks hce hcv hcl hP9 hD9 hS9 (by show 0 + 1 ≤ 1; omega) (by show 0 + 6 ≤ 6; omega))
  · have n14 : ¬ (30 ≤ vr) := fun h9 => c7 ((nI_leI (a := 30) (b := vr) (by omega) (by omega)).mpr h9)
    refine lv_aload_n hx hb dX0_declare_18 rfl (lv_at hl 1 rfl) ?_
    refine lv_iload_n hx hb dX0_declare_19 rfl (lv_at hl 0 rfl) ?_
    have hO : OKW G h0 a (upd (upd (upd (upd (upd F 2 (nI sz)) 7 (nI hd)) 8 (nI dp)) 12 (nI vr)) 12 (nI vr)) R Z B J T Pi w := hO.to rfl
    obtain ⟨_, qr18, hqr19⟩ := hO.2.1 24 _ (sg_24 G h0 a _ _ _ _ _)
    refine pc_V0 (G := G) (As := [.int r6]) (rest := []) hx hb hml hown hq hE hX pX0_al hP hD hS hA hl.1 (B_variable l G h0 a (upd (upd (upd (upd F 2 (nI sz)) 7 (nI hd)) 8 (nI dp)) 12 (nI vr)) R Z B J T Pi w r6 vr (by omega) hO) (gV pw_60 pw_61 pw_62 pw_63 pw_41) hV_X0_variable qr18 0 hqr19 rfl rfl rfl (Nat.le_of_ble_eq_true rfl) dX0_declare_20 ⟨(by show 0 + 0 ≤ 1; omega), (by show 0 + 0 ≤ 6; omega)⟩ ⟨Nat.le_of_ble_eq_true rfl, Nat.le_of_ble_eq_true rfl⟩ (fun v17 u15 H locs hw16 hP hD hS => ?_)
    obtain ⟨w, r20⟩ := u15
    obtain ⟨hw16, h21, hO⟩ := hw16
    have h21 : VrQ vr r20 := h21
    obtain rfl : v17 = some (.int r20) := hw16
    have hO : OKW G h0 a (upd (upd (upd (upd F 2 (nI sz)) 7 (nI hd)) 8 (nI dp)) 12 (nI vr)) R Z B J T Pi w := hO.to rfl
    refine W.widen (k := 0) (n := 0) (Nat.le_of_ble_eq_true rfl) (Nat.le_of_ble_eq_true rfl) ?_
    refine W.eq (g2 := F0 m 23 ls [.int r20]) rfl ?_
    refine lv_iconst (v := (-1)) hx hb dX0_declare_23 (by decide) ?_
    refine lv_icmp_eq (tgt := 39) hx hb dX0_declare_24 (by decide) (fun c22 => ?_) (fun c22 => ?_)
    · refine lv_aload_n hx hb dX0_declare_39 rfl (lv_at hl 1 rfl) ?_
      refine c_get (v := .ref (a 25)) (C := RX0) (Tc := TX0) (N := 13) (ci := 0) hx hb hq pin_wsX00 hown hE hP hO 24 (sg_24 G h0 a _ _ _ _ _) rfl 2 (by decide) (hq _ pw_7) (fun _ h9 => h9) rfl dX0_declare_40 ?_
      refine lv_aload_n hx hb dX0_declare_43 rfl (lv_at hl 1 rfl) ?_
      refine c_get (v := .int (nI vr)) (C := RX0) (Tc := TX0) (N := 13) (ci := 0) hx hb hq pin_wsX00 hown hE hP hO 24 (sg_24 G h0 a _ _ _ _ _) rfl 5 (by decide) (hq _ pw_42) (fun _ h9 => h9) rfl dX0_declare_44 ?_
      refine lv_iload_n hx hb dX0_declare_47 rfl (lv_at hl 0 rfl) ?_
      refine c_sti (f := (B 25)) (n := 30) (t0 := 0) hx hb hE hP hD hS hO 25 (sg_25 G h0 a _ _ _ _ _) rfl (vp_in_nI (by omega) (by decide)) (sb_25 G h0 a _ _ _ _ _ _) dX0_declare_48 (fun H locs w hP hD hS hO => ?_)
      rw [(nI_clamp (show vr < 2 ^ 31 by omega))] at hO
      refine lv_aload_n hx hb dX0_declare_49 rfl (lv_at hl 1 rfl) ?_
      refine c_get (v := .ref (a 26)) (C := RX0) (Tc := TX0) (N := 13) (ci := 0) hx hb hq pin_wsX00 hown hE hP hO 24 (sg_24 G h0 a _ _ _ _ _) rfl 3 (by decide) (hq _ pw_8) (fun _ h9 => h9) rfl dX0_declare_50 ?_
      refine lv_aload_n hx hb dX0_declare_53 rfl (lv_at hl 1 rfl) ?_
      refine c_get (v := .int (nI vr)) (C := RX0) (Tc := TX0) (N := 13) (ci := 0) hx hb hq pin_wsX00 hown hE hP hO 24 (sg_24 G h0 a _ _ _ _ _) rfl 5 (by decide) (hq _ pw_42) (fun _ h9 => h9) rfl dX0_declare_54 ?_
      refine lv_iload_n hx hb dX0_declare_57 rfl (lv_at hl 3 rfl) ?_
      refine c_sti (f := (B 26)) (n := 30) (t0 := 0) hx hb hE hP hD hS hO 26 (sg_26 G h0 a _ _ _ _ _) rfl (vp_in_nI (by omega) (by decide)) (sb_26 G h0 a _ _ _ _ _ _) dX0_declare_58 (fun H locs w hP hD hS hO => ?_)
      rw [(nI_clamp (show vr < 2 ^ 31 by omega))] at hO
      refine lv_aload_n hx hb dX0_declare_59 rfl (lv_at hl 1 rfl) ?_
      refine c_get (v := .ref (a 27)) (C := RX0) (Tc := TX0) (N := 13) (ci := 0) hx hb hq pin_wsX00 hown hE hP hO 24 (sg_24 G h0 a _ _ _ _ _) rfl 4 (by decide) (hq _ pw_9) (fun _ h9 => h9) rfl dX0_declare_60 ?_
      refine lv_aload_n hx hb dX0_declare_63 rfl (lv_at hl 1 rfl) ?_
      refine c_get (v := .int (nI vr)) (C := RX0) (Tc := TX0) (N := 13) (ci := 0) hx hb hq pin_wsX00 hown hE hP hO 24 (sg_24 G h0 a _ _ _ _ _) rfl 5 (by decide) (hq _ pw_42) (fun _ h9 => h9) rfl dX0_declare_64 ?_
      refine lv_aload_n hx hb dX0_declare_67 rfl (lv_at hl 1 rfl) ?_
      refine c_get (v := .ref (a 2)) (C := RX0) (Tc := TX0) (N := 13) (ci := 0) hx hb hq pin_wsX00 hown hE hP hO 24 (sg_24 G h0 a _ _ _ _ _) rfl 1 (by decide) (hq _ pw_5) (fun _ h9 => h9) rfl dX0_declare_68 ?_
      refine c_get (v := .int (nI hd)) (C := RX1) (Tc := TX1) (N := 13) (ci := 1) hx hb hq pin_wsX10 hown hE hP hO 13 (sg_13 G h0 a _ _ _ _ _) rfl 11 (by decide) (hq _ pw_54) (fun _ h9 => h9) rfl dX0_declare_71 ?_
      refine c_sti (f := (B 27)) (n := 30) (t0 := 0) hx hb hE hP hD hS hO 27 (sg_27 G h0 a _ _ _ _ _) rfl (vp_in_nI (by omega) (by decide)) (sb_27 G h0 a _ _ _ _ _ _) dX0_declare_74 (fun H locs w hP hD hS hO => ?_)
      rw [(nI_clamp (show vr < 2 ^ 31 by omega))] at hO
      refine lv_aload_n hx hb dX0_declare_75 rfl (lv_at hl 1 rfl) ?_
      refine c_get (v := .ref (a 2)) (C := RX0) (Tc := TX0) (N := 13) (ci := 0) hx hb hq pin_wsX00 hown hE hP hO 24 (sg_24 G h0 a _ _ _ _ _) rfl 1 (by decide) (hq _ pw_5) (fun _ h9 => h9) rfl dX0_declare_76 ?_
      refine lv_iconst (v := 1) hx hb dX0_declare_79 (by decide) ?_
      have hO : OKW G h0 a (upd (upd (upd (upd (upd (upd F 2 (nI sz)) 7 (nI hd)) 8 (nI dp)) 12 (nI vr)) 7 (nI hd)) 8 (nI dp)) R Z (updA (updA (updA B 25 (upd (B 25) vr r6)) 26 (upd (B 26) vr x2)) 27 (upd (B 27) vr (nI hd))) J T Pi w := hO.to rfl
      obtain ⟨_, qr26, hqr27⟩ := hO.2.1 13 _ (sg_13 G h0 a _ _ _ _ _)
      refine pc_V0 (G := G) (As := [.int (nI 1)]) (rest := []) hx hb hml hown hq hE hX pX0_al hP hD hS hA hl.1 (K_hold l G h0 a (upd (upd (upd (upd F 2 (nI sz)) 7 (nI hd)) 8 (nI dp)) 12 (nI vr)) R Z (updA (updA (updA B 25 (upd (B 25) vr r6)) 26 (upd (B 26) vr x2)) 27 (upd (B 27) vr (nI hd))) J T Pi w 1 hd dp (by omega) (by omega) hO) (gV pw_67 pw_68 pw_69 pw_70 pw_49) hV_X1_hold qr26 1 hqr27 rfl rfl rfl (Nat.le_of_ble_eq_true rfl) dX0_declare_80 ⟨(by show 0 + 0 ≤ 1; omega), (by show 0 + 0 ≤ 6; omega)⟩ ⟨Nat.le_of_ble_eq_true rfl, Nat.le_of_ble_eq_true rfl⟩ (fun v25 u23 H locs hw24 hP hD hS => ?_)
      obtain ⟨w, dp28⟩ := u23
      obtain ⟨hw24, h29, hO⟩ := hw24
      have h29 : dp28 ≤ 1000 := h29
      obtain rfl : v25 = none := hw24
      have hO : OKW G h0 a (upd (upd (upd (upd F 2 (nI sz)) 7 (nI (hd + 1))) 8 (nI dp28)) 12 (nI vr)) R Z (updA (updA (updA B 25 (upd (B 25) vr r6)) 26 (upd (B 26) vr x2)) 27 (upd (B 27) vr (nI hd))) J T Pi w := hO.to rfl
      refine W.widen (k := 0) (n := 0) (Nat.le_of_ble_eq_true rfl) (Nat.le_of_ble_eq_true rfl) ?_
      refine W.eq (g2 := F0 m 83 ls []) rfl ?_
      refine lv_aload_n hx hb dX0_declare_83 rfl (lv_at hl 1 rfl) ?_
      refine c_get (v := .int (F 13)) (C := RX0) (Tc := TX0) (N := 13) (ci := 0) hx hb hq pin_wsX00 hown hE hP hO 24 (sg_24 G h0 a _ _ _ _ _) rfl 8 (by decide) (hq _ pw_55) (fun _ h9 => h9) rfl dX0_declare_84 ?_
      refine lv_iconst (v := (-1)) hx hb dX0_declare_87 (by decide) ?_
      refine lv_icmp_eq (tgt := 108) hx hb dX0_declare_88 (by decide) (fun c30 => ?_) (fun c30 => ?_)
      · refine lv_aload_n hx hb dX0_declare_108 rfl (lv_at hl 1 rfl) ?_
        refine lv_dup hx hb dX0_declare_109 rfl ?_
        refine c_get (v := .int (nI vr)) (C := RX0) (Tc := TX0) (N := 13) (ci := 0) hx hb hq pin_wsX00 hown hE hP hO 24 (sg_24 G h0 a _ _ _ _ _) rfl 5 (by decide) (hq _ pw_42) (fun _ h9 => h9) rfl dX0_declare_110 ?_
        refine lv_iconst (v := 1) hx hb dX0_declare_113 (by decide) ?_
        refine lv_iadd hx hb dX0_declare_114 ?_
        refine lv_topi (fun x31 e32 => ?_)
        obtain rfl : x31 = nI (vr + 1) := e32.trans (nI_add (vr) (1))
        refine c_put (v := .int (nI (vr + 1))) (ty := .int) (C := RX0) (Tc := TX0) (N := 13) (ci := 0) hx hb hq pin_wsX00 tyX0 tyX0_ok nmX0 hown hE hP hD hS hO 24 (sg_24 G h0 a _ _ _ _ _) rfl 5 (by decide) (hq _ pw_42) (fun _ h9 => h9) rfl (by decide +kernel) rfl rfl (Nat.le_of_ble_eq_true rfl) (sf_12 G h0 a _ _ _ _ _ (nI (vr + 1))) dX0_declare_115 (fun H locs w hP hD hS hO => ?_)
        refine lv_aload_n hx hb dX0_declare_118 rfl (lv_at hl 1 rfl) ?_
        refine c_get (v := .int (nI (vr + 1))) (C := RX0) (Tc := TX0) (N := 13) (ci := 0) hx hb hq pin_wsX00 hown hE hP hO 24 (sg_24 G h0 a _ _ _ _ _) rfl 5 (by decide) (hq _ pw_42) (fun _ h9 => h9) rfl dX0_declare_119 ?_
        refine lv_iconst (v := 1) hx hb dX0_declare_122 (by decide) ?_
        refine lv_isub hx hb dX0_declare_123 ?_
        refine lv_topi (fun x33 e34 => ?_)
        obtain rfl : x33 = nI ((vr + 1) - 1) := e34.trans (nI_subN (a := 1) (b := (vr + 1)) (by omega))
        refine W_size (fun hz1 hz2 => ?_)
        refine vx_ret ?_
        have hz35 : vr + 1 ≤ 30 := (by omega)
        have hz36 : dp28 ≤ 1000 := (by omega)
        have hO : OKW G h0 a (upd (upd (upd (upd (upd F 2 (nI sz)) 7 (nI (hd + 1))) 8 (nI dp28)) 12 (nI (vr + 1))) 13 (F 13)) R Z (updA (updA (updA B 25 (upd (B 25) vr r6)) 26 (upd (B 26) vr x2)) 27 (upd (B 27) vr (nI hd))) J T Pi w := hO.to rfl
        refine W.widen (k := 1) (n := 6) (by omega) (by omega) ?_
        have hzz1 : H.size ≤ s.heap.size + (0) := (by have z : 0 ≤ 0 := (by omega); omega)
        have hzz2 : hSl H ≤ hSl s.heap + (0) := (by have z : 0 ≤ 0 := (by omega); omega)
        exact W.iret (v := (nI ((vr + 1) - 1))) hx hb hr (fun t99 ht99 hW99 => ⟨⟨_, (w, (dp28, (F 13), (upd (B 25) vr r6), (upd (B 26) vr x2), (upd (B 27) vr (nI hd)))), rfl, ⟨(congrArg (fun z => some (Value.int z)) (congrArg nI (by omega))), hz35, hz36, hO⟩, by rw [ht99]; exact hP, hD, by rw [ht99]; exact hzz1, by rw [ht99]; exact hzz2⟩, hS.F ht99⟩) hS.2.2 dX0_declare_124
      · refine lv_aload_n hx hb dX0_declare_91 rfl (lv_at hl 1 rfl) ?_
        refine lv_dup hx hb dX0_declare_92 rfl ?_
        refine c_get (v := .int (F 13)) (C := RX0) (Tc := TX0) (N := 13) (ci := 0) hx hb hq pin_wsX00 hown hE hP hO 24 (sg_24 G h0 a _ _ _ _ _) rfl 8 (by decide) (hq _ pw_55) (fun _ h9 => h9) rfl dX0_declare_93 ?_
        refine lv_iconst (v := 1) hx hb dX0_declare_96 (by decide) ?_
        refine lv_aload_n hx hb dX0_declare_97 rfl (lv_at hl 1 rfl) ?_
        refine c_get (v := .int (nI vr)) (C := RX0) (Tc := TX0) (N := 13) (ci := 0) hx hb hq pin_wsX00 hown hE hP hO 24 (sg_24 G h0 a _ _ _ _ _) rfl 5 (by decide) (hq _ pw_42) (fun _ h9 => h9) rfl dX0_declare_98 ?_
        refine lv_ishl hx hb dX0_declare_101 ?_
        refine lv_topi (fun x37 e38 => ?_)
        refine lv_iconst (v := (-1)) hx hb dX0_declare_102 (by decide) ?_
        refine lv_ixor hx hb dX0_declare_103 ?_
        refine lv_topi (fun x39 e40 => ?_)
        refine lv_iand hx hb dX0_declare_104 ?_
        refine lv_topi (fun x41 e42 => ?_)
        refine c_put (v := .int x41) (ty := .int) (C := RX0) (Tc := TX0) (N := 13) (ci := 0) hx hb hq pin_wsX00 tyX0 tyX0_ok nmX0 hown hE hP hD hS hO 24 (sg_24 G h0 a _ _ _ _ _) rfl 8 (by decide) (hq _ pw_55) (fun _ h9 => h9) rfl (by decide +kernel) rfl rfl (Nat.le_of_ble_eq_true rfl) (sf_13 G h0 a _ _ _ _ _ x41) dX0_declare_105 (fun H locs w hP hD hS hO => ?_)
        refine lv_aload_n hx hb dX0_declare_108 rfl (lv_at hl 1 rfl) ?_
        refine lv_dup hx hb dX0_declare_109 rfl ?_
        refine c_get (v := .int (nI vr)) (C := RX0) (Tc := TX0) (N := 13) (ci := 0) hx hb hq pin_wsX00 hown hE hP hO 24 (sg_24 G h0 a _ _ _ _ _) rfl 5 (by decide) (hq _ pw_42) (fun _ h9 => h9) rfl dX0_declare_110 ?_
        refine lv_iconst (v := 1) hx hb dX0_declare_113 (by decide) ?_
        refine lv_iadd hx hb dX0_declare_114 ?_
        refine lv_topi (fun x43 e44 => ?_)
        obtain rfl : x43 = nI (vr + 1) := e44.trans (nI_add (vr) (1))
        refine c_put (v := .int (nI (vr + 1))) (ty := .int) (C := RX0) (Tc := TX0) (N := 13) (ci := 0) hx hb hq pin_wsX00 tyX0 tyX0_ok nmX0 hown hE hP hD hS hO 24 (sg_24 G h0 a _ _ _ _ _) rfl 5 (by decide) (hq _ pw_42) (fun _ h9 => h9) rfl (by decide +kernel) rfl rfl (Nat.le_of_ble_eq_true rfl) (sf_12 G h0 a _ _ _ _ _ (nI (vr + 1))) dX0_declare_115 (fun H locs w hP hD hS hO => ?_)
        refine lv_aload_n hx hb dX0_declare_118 rfl (lv_at hl 1 rfl) ?_
        refine c_get (v := .int (nI (vr + 1))) (C := RX0) (Tc := TX0) (N := 13) (ci := 0) hx hb hq pin_wsX00 hown hE hP hO 24 (sg_24 G h0 a _ _ _ _ _) rfl 5 (by decide) (hq _ pw_42) (fun _ h9 => h9) rfl dX0_declare_119 ?_
        refine lv_iconst (v := 1) hx hb dX0_declare_122 (by decide) ?_
        refine lv_isub hx hb dX0_declare_123 ?_
        refine lv_topi (fun x45 e46 => ?_)
        obtain rfl : x45 = nI ((vr + 1) - 1) := e46.trans (nI_subN (a := 1) (b := (vr + 1)) (by omega))
        refine W_size (fun hz1 hz2 => ?_)
        refine vx_ret ?_
        have hz47 : vr + 1 ≤ 30 := (by omega)
        have hz48 : dp28 ≤ 1000 := (by omega)
        have hO : OKW G h0 a (upd (upd (upd (upd (upd F 2 (nI sz)) 7 (nI (hd + 1))) 8 (nI dp28)) 12 (nI (vr + 1))) 13 x41) R Z (updA (updA (updA B 25 (upd (B 25) vr r6)) 26 (upd (B 26) vr x2)) 27 (upd (B 27) vr (nI hd))) J T Pi w := hO.to rfl
        refine W.widen (k := 1) (n := 6) (by omega) (by omega) ?_
        have hzz1 : H.size ≤ s.heap.size + (0) := (by have z : 0 ≤ 0 := (by omega); omega)
        have hzz2 : hSl H ≤ hSl s.heap + (0) := (by have z : 0 ≤ 0 := (by omega); omega)
        exact W.iret (v := (nI ((vr + 1) - 1))) hx hb hr (fun t99 ht99 hW99 => ⟨⟨_, (w, (dp28, x41, (upd (B 25) vr r6), (upd (B 26) vr x2), (upd (B 27) vr (nI hd)))), rfl, ⟨(congrArg (fun z => some (Value.int z)) (congrArg nI (by omega))), hz47, hz48, hO⟩, by rw [ht99]; exact hP, hD, by rw [ht99]; exact hzz1, by rw [ht99]; exact hzz2⟩, hS.F ht99⟩) hS.2.2 dX0_declare_124
    · refine lv_aload_n hx hb dX0_declare_27 rfl (lv_at hl 1 rfl) ?_
      refine c_get (v := .ref (a 1)) (C := RX0) (Tc := TX0) (N := 13) (ci := 0) hx hb hq pin_wsX00 hown hE hP hO 24 (sg_24 G h0 a _ _ _ _ _) rfl 0 (by decide) (hq _ pw_4) (fun _ h9 => h9) rfl dX0_declare_28 ?_
      refine lv_bipush (v := 14) hx hb dX0_declare_31 (by decide) ?_
      refine lv_iload_n hx hb dX0_declare_33 rfl (lv_at hl 2 rfl) ?_
      have hO : OKW G h0 a (upd (upd (upd (upd (upd F 2 (nI sz)) 7 (nI hd)) 8 (nI dp)) 12 (nI vr)) 2 (nI sz)) R Z B J T Pi w := hO.to rfl
      obtain ⟨_, qr52, hqr53⟩ := hO.2.1 2 _ (sg_2 G h0 a _ _ _ _ _)
      refine pn_V0 (G := G) (As := [.int 14, .int x1]) (rest := []) hx hb hml hown hq hE hX pX0_al hP hD hS hA hl.1 (K_fail l G h0 a (upd (upd (upd (upd F 2 (nI sz)) 7 (nI hd)) 8 (nI dp)) 12 (nI vr)) R Z B J T Pi w 14 x1 sz (by omega) hO hl0) (gV pw_64 pw_65 pw_66 pw_59 pw_43) hV_X10_fail qr52 7 hqr53 rfl rfl rfl (Nat.le_of_ble_eq_true rfl) dX0_declare_34 ⟨(by show 0 + 1 ≤ 1; omega), (by show 0 + 6 ≤ 6; omega)⟩ ⟨Nat.le_of_ble_eq_true rfl, Nat.le_of_ble_eq_true rfl⟩ (fun v51 u49 H locs hw50 hP hD hS => hw50.elim) (fun ux ce9 q9 H9 locs9 hux hP9 hD9 hS9 hce hcv hcl => pb_out ux (ThQ.up (Thx.same Thx.rfl rfl) RhX.rfl hux) hnt hlocks hce hcv hcl hP9 hD9 hS9 (by show 0 + 1 ≤ 1; omega) (by show 0 + 6 ≤ 6; omega))
theorem dX0_endScope_0 : decode cX0_endScope 0 = .ok (.aload_n 0, 1) := by decide +kernel
theorem dX0_endScope_1 : decode cX0_endScope 1 = .ok (.iload_n 1, 1) := by decide +kernel
theorem dX0_endScope_2 : decode cX0_endScope 2 = .ok (.putfield 91, 3) := by decide +kernel
theorem dX0_endScope_5 : decode cX0_endScope 5 = .ok (.aload_n 0, 1) := by decide +kernel
theorem dX0_endScope_6 : decode cX0_endScope 6 = .ok (.getfield 15, 3) := by decide +kernel
theorem dX0_endScope_9 : decode cX0_endScope 9 = .ok (.iload_n 2, 1) := by decide +kernel
theorem dX0_endScope_10 : decode cX0_endScope 10 = .ok (.putfield 158, 3) := by decide +kernel
theorem dX0_endScope_13 : decode cX0_endScope 13 = .ok (.return_, 1) := by decide +kernel
set_option maxHeartbeats 2000000 in
set_option maxRecDepth 100000 in
theorem B_endScope (l : Launch) (G : pT) (h0 : Nat) (a : Nat → Nat) (F : Nat → Int32) (R : Nat → Value) (Z : Int64) (B : Nat → Nat → Int32) (J : Nat → Nat → Int64) (T : Nat → Nat) (Pi : Nat → va_E → Prop) (w : va_W) (x1 : Int32) (x2 : Int32) (hO : OKW G h0 a F R Z B J T Pi w) : PM l G pX0 yX0_endScope cX0_endScope 3 none ({ frames := 2, cells := 0, slots := 0, locals := 60 }) [.ref (a 4), .int x1, .int x2] w (fun (v : Option Value) (u : va_W × (Unit)) => v = none ∧ (OKW G h0 a (upd (upd F 7 x2) 12 x1) R Z B J T Pi u.1)) (fun u => u.1) := by
  intro sz
  refine Met.ofW (cc := cX0_endScope) (maxL := 3) (ret := none) (by decide) rfl ?_
  intro p e s m args below meth c s₁ B9 hml hv
  obtain ⟨rfl, hsz, hP, hD0, hE, hX⟩ := hv
  have hx := B9.exec
  have hb := B9.bytes
  have hr := B9.returns
  have hts := atoms_spec (ws := Cond.code yX0_endScope cX0_endScope 3 none :: pw) B9.pre
  have hq : ∀ w ∈ pw, w.before _ s = true := fun w h => hts w (List.mem_cons_of_mem _ h)
  have hown : s.vm.findClass RX0 = some m.cls := findClass_of_methodNamed B9.named
  have hlocks := B9.notSynchronized
  subst hsz
  have hD := hD0.self (sz := s.heap.size)
  have hA : ∀ q : Nat, s.heap.size ≤ q → va_A w s.heap.size q := fun q h => Or.inr h
  generalize va_A w s.heap.size = A at hD hE hA ⊢
  have hS : va_S A s.heap s.heap [] := va_S.rf
  have hl := lv_entry ([.ref (a 4), .int x1, .int x2]) (n := 3) (Nat.le_of_ble_eq_true rfl)
  rw [lg_entry_eq]
  generalize (lg_sl ([.ref (a 4), .int x1, .int x2]) ++ List.replicate (3 - (lg_sl ([.ref (a 4), .int x1, .int x2])).length) Slot.unset).toArray = ls at hl ⊢
  have hl : lv_has ls 3 [(0, .ref (a 4)), (1, .int x1), (2, .int x2)] := hl
  refine lv_aload_n hx hb dX0_endScope_0 rfl (lv_at hl 0 rfl) ?_
  refine lv_iload_n hx hb dX0_endScope_1 rfl (lv_at hl 1 rfl) ?_
  refine c_put (v := .int x1) (ty := .int) (C := RX0) (Tc := TX0) (N := 13) (ci := 0) hx hb hq pin_wsX00 tyX0 tyX0_ok nmX0 hown hE hP hD hS hO 24 (sg_24 G h0 a _ _ _ _ _) rfl 5 (by decide) (hq _ pw_42) (fun _ h9 => h9) rfl (by decide +kernel) rfl rfl (Nat.le_of_ble_eq_true rfl) (sf_12 G h0 a _ _ _ _ _ x1) dX0_endScope_2 (fun H locs w hP hD hS hO => ?_)
  refine lv_aload_n hx hb dX0_endScope_5 rfl (lv_at hl 0 rfl) ?_
  refine c_get (v := .ref (a 2)) (C := RX0) (Tc := TX0) (N := 13) (ci := 0) hx hb hq pin_wsX00 hown hE hP hO 24 (sg_24 G h0 a _ _ _ _ _) rfl 1 (by decide) (hq _ pw_5) (fun _ h9 => h9) rfl dX0_endScope_6 ?_
  refine lv_iload_n hx hb dX0_endScope_9 rfl (lv_at hl 2 rfl) ?_
  refine c_put (v := .int x2) (ty := .int) (C := RX1) (Tc := TX1) (N := 13) (ci := 1) hx hb hq pin_wsX10 tyX1 tyX1_ok nmX1 hown hE hP hD hS hO 13 (sg_13 G h0 a _ _ _ _ _) rfl 11 (by decide) (hq _ pw_54) (fun _ h9 => h9) rfl (by decide +kernel) rfl rfl (Nat.le_of_ble_eq_true rfl) (sf_7 G h0 a _ _ _ _ _ x2) dX0_endScope_10 (fun H locs w hP hD hS hO => ?_)
  have hO : OKW G h0 a (upd (upd F 7 x2) 12 x1) R Z B J T Pi w := hO.to rfl
  exact W.vret hx hb hr (fun t99 ht99 hW99 => ⟨⟨_, (w, ()), rfl, ⟨rfl, hO⟩, by rw [ht99]; exact hP, hD⟩, hS.F ht99⟩) hS.2.2 dX0_endScope_13
theorem dX0_give_0 : decode cX0_give 0 = .ok (.aload_n 0, 1) := by decide +kernel
theorem dX0_give_1 : decode cX0_give 1 = .ok (.getfield 15, 3) := by decide +kernel
theorem dX0_give_4 : decode cX0_give 4 = .ok (.iload_n 1, 1) := by decide +kernel
theorem dX0_give_5 : decode cX0_give 5 = .ok (.iload_n 2, 1) := by decide +kernel
theorem dX0_give_6 : decode cX0_give 6 = .ok (.iconst 0, 1) := by decide +kernel
theorem dX0_give_7 : decode cX0_give 7 = .ok (.invokevirtual 140, 3) := by decide +kernel
theorem dX0_give_10 : decode cX0_give 10 = .ok (.iload_n 3, 1) := by decide +kernel
theorem dX0_give_11 : decode cX0_give 11 = .ok (.ireturn, 1) := by decide +kernel
set_option maxHeartbeats 2000000 in
set_option maxRecDepth 100000 in
theorem B_give (l : Launch) (G : pT) (h0 : Nat) (a : Nat → Nat) (F : Nat → Int32) (R : Nat → Value) (Z : Int64) (B : Nat → Nat → Int32) (J : Nat → Nat → Int64) (T : Nat → Nat) (Pi : Nat → va_E → Prop) (w : va_W) (x1 : Int32) (x2 : Int32) (x3 : Int32) (cs : Nat) (hcs : cs ≤ 10000) (hng : Nng (B 18)) (hO : OKW G h0 a (upd F 5 (nI cs)) R Z B J T Pi w) : PM l G pX0 yX0_give cX0_give 4 (some .int) ({ frames := 3, cells := 0, slots := 0, locals := 83 }) [.ref (a 4), .int x1, .int x2, .int x3] w (fun (v : Option Value) (u : va_W × (Nat × (Nat → Int32) × (Nat → Int32) × (Nat → Int32) × (Nat → Int32))) => v = some (.int x3) ∧ (cs ≤ u.2.1 ∧ u.2.1 ≤ cs + 1 ∧ u.2.1 ≤ 10000) ∧ (Nng u.2.2.2.2.1) ∧ (OKW G h0 a (upd F 5 (nI u.2.1)) R Z (updA (updA (updA (updA B 16 u.2.2.1) 17 u.2.2.2.1) 18 u.2.2.2.2.1) 19 u.2.2.2.2.2) J T Pi u.1)) (fun u => u.1) := by
  intro sz
  refine Met.ofW (cc := cX0_give) (maxL := 4) (ret := (some .int)) (by decide) rfl ?_
  intro p e s m args below meth c s₁ B9 hml hv
  obtain ⟨rfl, hsz, hP, hD0, hE, hX⟩ := hv
  have hx := B9.exec
  have hb := B9.bytes
  have hr := B9.returns
  have hts := atoms_spec (ws := Cond.code yX0_give cX0_give 4 (some .int) :: pw) B9.pre
  have hq : ∀ w ∈ pw, w.before _ s = true := fun w h => hts w (List.mem_cons_of_mem _ h)
  have hown : s.vm.findClass RX0 = some m.cls := findClass_of_methodNamed B9.named
  have hlocks := B9.notSynchronized
  subst hsz
  have hD := hD0.self (sz := s.heap.size)
  have hA : ∀ q : Nat, s.heap.size ≤ q → va_A w s.heap.size q := fun q h => Or.inr h
  generalize va_A w s.heap.size = A at hD hE hA ⊢
  have hS : va_S A s.heap s.heap [] := va_S.rf
  have hl := lv_entry ([.ref (a 4), .int x1, .int x2, .int x3]) (n := 4) (Nat.le_of_ble_eq_true rfl)
  rw [lg_entry_eq]
  generalize (lg_sl ([.ref (a 4), .int x1, .int x2, .int x3]) ++ List.replicate (4 - (lg_sl ([.ref (a 4), .int x1, .int x2, .int x3])).length) Slot.unset).toArray = ls at hl ⊢
  have hl : lv_has ls 4 [(0, .ref (a 4)), (1, .int x1), (2, .int x2), (3, .int x3)] := hl
  refine lv_aload_n hx hb dX0_give_0 rfl (lv_at hl 0 rfl) ?_
  refine c_get (v := .ref (a 2)) (C := RX0) (Tc := TX0) (N := 13) (ci := 0) hx hb hq pin_wsX00 hown hE hP hO 24 (sg_24 G h0 a _ _ _ _ _) rfl 1 (by decide) (hq _ pw_5) (fun _ h9 => h9) rfl dX0_give_1 ?_
  refine lv_iload_n hx hb dX0_give_4 rfl (lv_at hl 1 rfl) ?_
  refine lv_iload_n hx hb dX0_give_5 rfl (lv_at hl 2 rfl) ?_
  refine lv_iconst (v := 0) hx hb dX0_give_6 (by decide) ?_
  have hO : OKW G h0 a (upd (upd F 5 (nI cs)) 5 (nI cs)) R Z B J T Pi w := hO.to rfl
  obtain ⟨_, qr4, hqr5⟩ := hO.2.1 13 _ (sg_13 G h0 a _ _ _ _ _)
  refine pc_V0 (G := G) (As := [.int x1, .int x2, .int (nI 0)]) (rest := []) hx hb hml hown hq hE hX pX0_al hP hD hS hA hl.1 (K_emit l G h0 a (upd F 5 (nI cs)) R Z B J T Pi w x1 x2 0 cs (by omega) (by omega) hng hO) (gV pw_129 pw_130 pw_131 pw_70 pw_115) hV_X1_emit qr4 1 hqr5 rfl rfl rfl (Nat.le_of_ble_eq_true rfl) dX0_give_7 ⟨Nat.le_of_ble_eq_true rfl, Nat.le_of_ble_eq_true rfl⟩ ⟨Nat.le_of_ble_eq_true rfl, Nat.le_of_ble_eq_true rfl⟩ (fun v3 u1 H locs hw2 hP hD hS => ?_)
  obtain ⟨w, cs6, f7, f8, f9, f10⟩ := u1
  obtain ⟨hw2, h11, h12, hO⟩ := hw2
  have h11 : cs ≤ cs6 ∧ cs6 ≤ cs + 1 ∧ cs6 ≤ 10000 := h11
  have h12 : Nng f9 := h12
  obtain rfl : v3 = none := hw2
  have hO : OKW G h0 a (upd F 5 (nI cs6)) R Z (updA (updA (updA (updA B 16 f7) 17 f8) 18 f9) 19 f10) J T Pi w := hO.to rfl
  refine W.widen (k := 0) (n := 0) (Nat.le_of_ble_eq_true rfl) (Nat.le_of_ble_eq_true rfl) ?_
  refine W.eq (g2 := F0 m 10 ls []) rfl ?_
  refine lv_iload_n hx hb dX0_give_10 rfl (lv_at hl 3 rfl) ?_
  have hz13 : cs ≤ cs6 ∧ cs6 ≤ cs + 1 ∧ cs6 ≤ 10000 := (by omega)
  have hz14 : Nng f9 := h12
  have hO : OKW G h0 a (upd F 5 (nI cs6)) R Z (updA (updA (updA (updA B 16 f7) 17 f8) 18 f9) 19 f10) J T Pi w := hO.to rfl
  exact W.iret (v := x3) hx hb hr (fun t99 ht99 hW99 => ⟨⟨_, (w, (cs6, f7, f8, f9, f10)), rfl, ⟨rfl, hz13, hz14, hO⟩, by rw [ht99]; exact hP, hD⟩, hS.F ht99⟩) hS.2.2 dX0_give_11
theorem dX0_fit_0 : decode cX0_fit 0 = .ok (.aload_n 0, 1) := by decide +kernel
theorem dX0_fit_1 : decode cX0_fit 1 = .ok (.getfield 29, 3) := by decide +kernel
theorem dX0_fit_4 : decode cX0_fit 4 = .ok (.iload_n 2, 1) := by decide +kernel
theorem dX0_fit_5 : decode cX0_fit 5 = .ok (.iload_n 3, 1) := by decide +kernel
theorem dX0_fit_6 : decode cX0_fit 6 = .ok (.invokevirtual 295, 3) := by decide +kernel
theorem dX0_fit_9 : decode cX0_fit 9 = .ok (.ifCond .ne 16, 3) := by decide +kernel
theorem dX0_fit_25 : decode cX0_fit 25 = .ok (.return_, 1) := by decide +kernel
theorem dX0_fit_12 : decode cX0_fit 12 = .ok (.aload_n 0, 1) := by decide +kernel
theorem dX0_fit_13 : decode cX0_fit 13 = .ok (.getfield 9, 3) := by decide +kernel
theorem dX0_fit_16 : decode cX0_fit 16 = .ok (.bipush 11, 2) := by decide +kernel
theorem dX0_fit_18 : decode cX0_fit 18 = .ok (.aload_n 1, 1) := by decide +kernel
theorem dX0_fit_19 : decode cX0_fit 19 = .ok (.getfield 117, 3) := by decide +kernel
theorem dX0_fit_22 : decode cX0_fit 22 = .ok (.invokevirtual 136, 3) := by decide +kernel
set_option maxHeartbeats 6000000 in
set_option maxRecDepth 100000 in
theorem B_fit (l : Launch) (G : pT) (h0 : Nat) (a : Nat → Nat) (F : Nat → Int32) (R : Nat → Value) (Z : Int64) (B : Nat → Nat → Int32) (J : Nat → Nat → Int64) (K : PK) (w : va_W) (pq : Nat) (dr : Nat) (ml : Nat) (nd : Nat) (q : Nat) (sz : Nat) (x1 : Int32) (x2 : Int32) (g : Nat → Nat → Nat) (hsz : sz ≤ 5000) (hpb : PgB K g (a 1) pq dr ml nd) (hdc : DcR K g dr nd) (hqT : K.1 q = 1) (hO : OKP G h0 a (upd F 2 (nI sz)) (updR R 2 (.ref pq)) Z B J K w) (hl0 : l.stackTraces = false) : PBn l G pX0 yX0_fit cX0_fit 4 none ({ frames := 7, cells := 1, slots := 6, locals := 122 }) [.ref (a 4), .ref q, .int x1, .int x2] w (fun (v : Option Value) (u : va_W × (Unit)) => v = none ∧ (OKP G h0 a (upd F 2 (nI sz)) (updR R 2 (.ref pq)) Z B J K u.1)) (fun u => u.1) (fun (u : va_W × (Unit)) => 0) (fun (u : va_W × (Unit)) => 0) (fun (u : va_W × (Nat → Int32) × (Nat → Value) × (Nat → Nat → Int32)) => ThQ G h0 a (upd F 2 (nI sz)) (updR R 2 (.ref pq)) Z B J u) (fun u => u.1) := by
  intro sz
  refine vx_ofW (cc := cX0_fit) (maxL := 4) (ret := none) (by decide) rfl ?_
  intro p e s m args below meth c s₁ B9 hml hnt hv
  obtain ⟨rfl, hsz, hP, hD0, hE, hX⟩ := hv
  have hx := B9.exec
  have hb := B9.bytes
  have hr := B9.returns
  have hts := atoms_spec (ws := Cond.code yX0_fit cX0_fit 4 none :: pw) B9.pre
  have hq : ∀ w ∈ pw, w.before _ s = true := fun w h => hts w (List.mem_cons_of_mem _ h)
  have hown : s.vm.findClass RX0 = some m.cls := findClass_of_methodNamed B9.named
  have hlocks := B9.notSynchronized
  subst hsz
  have hD := hD0.self (sz := s.heap.size)
  have hA : ∀ q : Nat, s.heap.size ≤ q → va_A w s.heap.size q := fun q h => Or.inr h
  generalize va_A w s.heap.size = A at hD hE hA ⊢
  have hS : va_S A s.heap s.heap [] := va_S.rf
  have hl := lv_entry ([.ref (a 4), .ref q, .int x1, .int x2]) (n := 4) (Nat.le_of_ble_eq_true rfl)
  rw [lg_entry_eq]
  generalize (lg_sl ([.ref (a 4), .ref q, .int x1, .int x2]) ++ List.replicate (4 - (lg_sl ([.ref (a 4), .ref q, .int x1, .int x2])).length) Slot.unset).toArray = ls at hl ⊢
  have hl : lv_has ls 4 [(0, .ref (a 4)), (1, .ref q), (2, .int x1), (3, .int x2)] := hl
  have hp1 := hpb.1
  have hp2 := hpb.2.1
  have hp3 := hpb.2.2.1
  have hp4 := hpb.2.2.2.1
  have hp5 := hpb.2.2.2.2.1
  have hp6 := hpb.2.2.2.2.2.1
  have hp8 := hpb.2.2.2.2.2.2.2.1
  have hp9 := hpb.2.2.2.2.2.2.2.2
  refine lv_aload_n hx hb dX0_fit_0 rfl (lv_at hl 0 rfl) ?_
  refine c_get (v := .ref pq) (C := RX0) (Tc := TX0) (N := 13) (ci := 0) hx hb hq pin_wsX00 hown hE hP hO 24 (sg_24 G h0 a _ _ _ _ _) rfl 6 (by decide) (hq _ pw_110) (fun _ h9 => h9) rfl dX0_fit_1 ?_
  refine lv_iload_n hx hb dX0_fit_4 rfl (lv_at hl 2 rfl) ?_
  refine lv_iload_n hx hb dX0_fit_5 rfl (lv_at hl 3 rfl) ?_
  have hO : OKP G h0 a (upd F 2 (nI sz)) (updR R 2 (.ref pq)) Z B J K w := hO.to rfl
  obtain ⟨qr4, hqr5⟩ := p_recv hO (by rw [hp1]; decide) (rep_7 hp1)
  refine pc_V0 (G := G) (As := [.int x1, .int x2]) (rest := []) hx hb hml hown hq hE hX pX0_al hP hD hS hA hl.1 (G_fits l G h0 a (upd F 2 (nI sz)) (updR R 2 (.ref pq)) Z B J K w pq dr ml nd x1 x2 g hpb hdc hO) (gV pw_111 pw_112 pw_113 pw_106 pw_103) hV_X9_fits qr4 6 hqr5 rfl rfl rfl (Nat.le_of_ble_eq_true rfl) dX0_fit_6 ⟨(by show 0 + 0 ≤ 1; omega), (by show 0 + 0 ≤ 6; omega)⟩ ⟨Nat.le_of_ble_eq_true rfl, Nat.le_of_ble_eq_true rfl⟩ (fun v3 u1 H locs hw2 hP hD hS => ?_)
  obtain ⟨w, r6⟩ := u1
  obtain ⟨hw2, h7, hO⟩ := hw2
  have h7 : r6 ≤ 1 := h7
  obtain rfl : v3 = some (.int (nI r6)) := hw2
  have hO : OKP G h0 a (upd F 2 (nI sz)) (updR R 2 (.ref pq)) Z B J K w := hO.to rfl
  refine W.widen (k := 0) (n := 0) (Nat.le_of_ble_eq_true rfl) (Nat.le_of_ble_eq_true rfl) ?_
  refine W.eq (g2 := F0 m 9 ls [.int (nI r6)]) rfl ?_
  refine lv_if_ne (tgt := 25) hx hb dX0_fit_9 (by decide) (fun c8 => ?_) (fun c8 => ?_)
  · have n9 : ¬ (r6 = 0) := fun h9 => c8 ((nI_eq (a := r6) (b := 0) (by omega) (by omega)).mpr h9)
    refine W_size (fun hz1 hz2 => ?_)
    refine vx_ret ?_
    have hO : OKP G h0 a (upd F 2 (nI sz)) (updR R 2 (.ref pq)) Z B J K w := hO.to rfl
    refine W.widen (k := 1) (n := 6) (by omega) (by omega) ?_
    have hzz1 : H.size ≤ s.heap.size + (0) := (by have z : 0 ≤ 0 := (by omega); omega)
    have hzz2 : hSl H ≤ hSl s.heap + (0) := (by have z : 0 ≤ 0 := (by omega); omega)
    exact W.vret hx hb hr (fun t99 ht99 hW99 => ⟨⟨_, (w, ()), rfl, ⟨rfl, hO⟩, by rw [ht99]; exact hP, hD, by rw [ht99]; exact hzz1, by rw [ht99]; exact hzz2⟩, hS.F ht99⟩) hS.2.2 dX0_fit_25
  · have n10 : r6 = 0 := (nI_eq (a := r6) (b := 0) (by omega) (by omega)).mp c8
    refine lv_aload_n hx hb dX0_fit_12 rfl (lv_at hl 0 rfl) ?_
    refine c_get (v := .ref (a 1)) (C := RX0) (Tc := TX0) (N := 13) (ci := 0) hx hb hq pin_wsX00 hown hE hP hO 24 (sg_24 G h0 a _ _ _ _ _) rfl 0 (by decide) (hq _ pw_4) (fun _ h9 => h9) rfl dX0_fit_13 ?_
    refine lv_bipush (v := 11) hx hb dX0_fit_16 (by decide) ?_
    refine lv_aload_n hx hb dX0_fit_18 rfl (lv_at hl 1 rfl) ?_
    refine p_get (v := .int (K.2.1 2 q)) (C := RX7) (Tc := TX7) (N := 11) (ci := 13) hx hb hq pin_wsX70 hown hE hP hO (by rw [hqT]; decide) (rep_1 hqT) rfl 2 (by decide) (hq _ pw_82) (fun _ h9 => h9) rfl dX0_fit_19 ?_
    have hO : OKW G h0 a (upd (upd F 2 (nI sz)) 2 (nI sz)) (updR R 2 (.ref pq)) Z B J K.1 (fun q99 x99 => x99 = rep G a K q99) w := hO.to rfl
    obtain ⟨_, qr14, hqr15⟩ := hO.2.1 2 _ (sg_2 G h0 a _ _ _ _ _)
    refine pn_V0 (G := G) (As := [.int 11, .int (K.2.1 2 q)]) (rest := []) hx hb hml hown hq hE hX pX0_al hP hD hS hA hl.1 (K_fail l G h0 a (upd F 2 (nI sz)) (updR R 2 (.ref pq)) Z B J K.1 (fun q99 x99 => x99 = rep G a K q99) w 11 (K.2.1 2 q) sz (by omega) hO hl0) (gV pw_64 pw_65 pw_66 pw_59 pw_43) hV_X10_fail qr14 7 hqr15 rfl rfl rfl (Nat.le_of_ble_eq_true rfl) dX0_fit_22 ⟨(by show 0 + 1 ≤ 1; omega), (by show 0 + 6 ≤ 6; omega)⟩ ⟨Nat.le_of_ble_eq_true rfl, Nat.le_of_ble_eq_true rfl⟩ (fun v13 u11 H locs hw12 hP hD hS => hw12.elim) (fun ux ce9 q9 H9 locs9 hux hP9 hD9 hS9 hce hcv hcl => pb_out ux (ThQ.up (Thx.same Thx.rfl rfl) RhX.rfl hux) hnt hlocks hce hcv hcl hP9 hD9 hS9 (by show 0 + 1 ≤ 1; omega) (by show 0 + 6 ≤ 6; omega))
theorem dX0_elementType_0 : decode cX0_elementType 0 = .ok (.iload_n 2, 1) := by decide +kernel
theorem dX0_elementType_1 : decode cX0_elementType 1 = .ok (.bipush 64, 2) := by decide +kernel
theorem dX0_elementType_3 : decode cX0_elementType 3 = .ok (.if_icmp .ge 16, 3) := by decide +kernel
theorem dX0_elementType_19 : decode cX0_elementType 19 = .ok (.iload_n 2, 1) := by decide +kernel
theorem dX0_elementType_20 : decode cX0_elementType 20 = .ok (.bipush 64, 2) := by decide +kernel
theorem dX0_elementType_22 : decode cX0_elementType 22 = .ok (.isub, 1) := by decide +kernel
theorem dX0_elementType_23 : decode cX0_elementType 23 = .ok (.ireturn, 1) := by decide +kernel
theorem dX0_elementType_6 : decode cX0_elementType 6 = .ok (.aload_n 0, 1) := by decide +kernel
theorem dX0_elementType_7 : decode cX0_elementType 7 = .ok (.getfield 9, 3) := by decide +kernel
theorem dX0_elementType_10 : decode cX0_elementType 10 = .ok (.bipush 11, 2) := by decide +kernel
theorem dX0_elementType_12 : decode cX0_elementType 12 = .ok (.aload_n 1, 1) := by decide +kernel
theorem dX0_elementType_13 : decode cX0_elementType 13 = .ok (.getfield 117, 3) := by decide +kernel
theorem dX0_elementType_16 : decode cX0_elementType 16 = .ok (.invokevirtual 136, 3) := by decide +kernel
set_option maxHeartbeats 6000000 in
set_option maxRecDepth 100000 in
theorem B_elementType (l : Launch) (G : pT) (h0 : Nat) (a : Nat → Nat) (F : Nat → Int32) (R : Nat → Value) (Z : Int64) (B : Nat → Nat → Int32) (J : Nat → Nat → Int64) (K : PK) (w : va_W) (q : Nat) (sz : Nat) (x : Int32) (hsz : sz ≤ 5000) (hqT : K.1 q = 1) (hO : OKP G h0 a (upd F 2 (nI sz)) R Z B J K w) (hl0 : l.stackTraces = false) : PBn l G pX0 yX0_elementType cX0_elementType 3 (some .int) ({ frames := 7, cells := 1, slots := 6, locals := 122 }) [.ref (a 4), .ref q, .int x] w (fun (v : Option Value) (u : va_W × (Int32)) => v = some (.int u.2) ∧ (OKP G h0 a (upd F 2 (nI sz)) R Z B J K u.1)) (fun u => u.1) (fun (u : va_W × (Int32)) => 0) (fun (u : va_W × (Int32)) => 0) (fun (u : va_W × (Nat → Int32) × (Nat → Value) × (Nat → Nat → Int32)) => ThQ G h0 a (upd F 2 (nI sz)) R Z B J u) (fun u => u.1) := by
  intro sz
  refine vx_ofW (cc := cX0_elementType) (maxL := 3) (ret := (some .int)) (by decide) rfl ?_
  intro p e s m args below meth c s₁ B9 hml hnt hv
  obtain ⟨rfl, hsz, hP, hD0, hE, hX⟩ := hv
  have hx := B9.exec
  have hb := B9.bytes
  have hr := B9.returns
  have hts := atoms_spec (ws := Cond.code yX0_elementType cX0_elementType 3 (some .int) :: pw) B9.pre
  have hq : ∀ w ∈ pw, w.before _ s = true := fun w h => hts w (List.mem_cons_of_mem _ h)
  have hown : s.vm.findClass RX0 = some m.cls := findClass_of_methodNamed B9.named
  have hlocks := B9.notSynchronized
  subst hsz
  have hD := hD0.self (sz := s.heap.size)
  have hA : ∀ q : Nat, s.heap.size ≤ q → va_A w s.heap.size q := fun q h => Or.inr h
  generalize va_A w s.heap.size = A at hD hE hA ⊢
  have hS : va_S A s.heap s.heap [] := va_S.rf
  have hl := lv_entry ([.ref (a 4), .ref q, .int x]) (n := 3) (Nat.le_of_ble_eq_true rfl)
  rw [lg_entry_eq]
  generalize (lg_sl ([.ref (a 4), .ref q, .int x]) ++ List.replicate (3 - (lg_sl ([.ref (a 4), .ref q, .int x])).length) Slot.unset).toArray = ls at hl ⊢
  have hl : lv_has ls 3 [(0, .ref (a 4)), (1, .ref q), (2, .int x)] := hl
  refine lv_iload_n hx hb dX0_elementType_0 rfl (lv_at hl 2 rfl) ?_
  refine lv_bipush (v := 64) hx hb dX0_elementType_1 (by decide) ?_
  refine lv_icmp_ge (tgt := 19) hx hb dX0_elementType_3 (by decide) (fun c1 => ?_) (fun c1 => ?_)
  · refine lv_iload_n hx hb dX0_elementType_19 rfl (lv_at hl 2 rfl) ?_
    refine lv_bipush (v := 64) hx hb dX0_elementType_20 (by decide) ?_
    refine lv_isub hx hb dX0_elementType_22 ?_
    refine lv_topi (fun x2 e3 => ?_)
    refine W_size (fun hz1 hz2 => ?_)
    refine vx_ret ?_
    have hO : OKP G h0 a (upd F 2 (nI sz)) R Z B J K w := hO.to rfl
    refine W.widen (k := 1) (n := 6) (by omega) (by omega) ?_
    have hzz1 : s.heap.size ≤ s.heap.size + (0) := (by have z : 0 ≤ 0 := (by omega); omega)
    have hzz2 : hSl s.heap ≤ hSl s.heap + (0) := (by have z : 0 ≤ 0 := (by omega); omega)
    exact W.iret (v := x2) hx hb hr (fun t99 ht99 hW99 => ⟨⟨_, (w, x2), rfl, ⟨rfl, hO⟩, by rw [ht99]; exact hP, hD, by rw [ht99]; exact hzz1, by rw [ht99]; exact hzz2⟩, hS.F ht99⟩) hS.2.2 dX0_elementType_23
  · refine lv_aload_n hx hb dX0_elementType_6 rfl (lv_at hl 0 rfl) ?_
    refine c_get (v := .ref (a 1)) (C := RX0) (Tc := TX0) (N := 13) (ci := 0) hx hb hq pin_wsX00 hown hE hP hO 24 (sg_24 G h0 a _ _ _ _ _) rfl 0 (by decide) (hq _ pw_4) (fun _ h9 => h9) rfl dX0_elementType_7 ?_
    refine lv_bipush (v := 11) hx hb dX0_elementType_10 (by decide) ?_
    refine lv_aload_n hx hb dX0_elementType_12 rfl (lv_at hl 1 rfl) ?_
    refine p_get (v := .int (K.2.1 2 q)) (C := RX7) (Tc := TX7) (N := 11) (ci := 13) hx hb hq pin_wsX70 hown hE hP hO (by rw [hqT]; decide) (rep_1 hqT) rfl 2 (by decide) (hq _ pw_82) (fun _ h9 => h9) rfl dX0_elementType_13 ?_
    have hO : OKW G h0 a (upd (upd F 2 (nI sz)) 2 (nI sz)) R Z B J K.1 (fun q99 x99 => x99 = rep G a K q99) w := hO.to rfl
    obtain ⟨_, qr7, hqr8⟩ := hO.2.1 2 _ (sg_2 G h0 a _ _ _ _ _)
    refine pn_V0 (G := G) (As := [.int 11, .int (K.2.1 2 q)]) (rest := []) hx hb hml hown hq hE hX pX0_al hP hD hS hA hl.1 (K_fail l G h0 a (upd F 2 (nI sz)) R Z B J K.1 (fun q99 x99 => x99 = rep G a K q99) w 11 (K.2.1 2 q) sz (by omega) hO hl0) (gV pw_64 pw_65 pw_66 pw_59 pw_43) hV_X10_fail qr7 7 hqr8 rfl rfl rfl (Nat.le_of_ble_eq_true rfl) dX0_elementType_16 ⟨(by show 0 + 1 ≤ 1; omega), (by show 0 + 6 ≤ 6; omega)⟩ ⟨Nat.le_of_ble_eq_true rfl, Nat.le_of_ble_eq_true rfl⟩ (fun v6 u4 H locs hw5 hP hD hS => hw5.elim) (fun ux ce9 q9 H9 locs9 hux hP9 hD9 hS9 hce hcv hcl => pb_out ux (ThQ.up (Thx.same Thx.rfl rfl) RhX.rfl hux) hnt hlocks hce hcv hcl hP9 hD9 hS9 (by show 0 + 1 ≤ 1; omega) (by show 0 + 6 ≤ 6; omega))
