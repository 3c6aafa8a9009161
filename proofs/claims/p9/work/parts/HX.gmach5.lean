def RcO (x : Int32) : Prop := x < 0 ∨ ∃ k : Nat, x = nI k ∧ k + 1 ≤ 32000
theorem RcO.nn {x : Int32} (h : RcO x) (hx : ¬ x < 0) : ∃ k : Nat, x = nI k ∧ k + 1 ≤ 32000 := h.resolve_left hx
theorem nI_inj9 {i j : Nat} (hi : i < 2147483648) (hj : j < 2147483648) (h : nI i = nI j) : i = j := (nI_clamp hi).symm.trans ((congrArg Int32.toNatClampNeg h).trans (nI_clamp hj))
theorem FrO.lo {K : PK} {nm on on2 : Nat} {it : Nat → Nat} {f : Nat → Int32} (h : FrO K nm it f on) (hl : on2 ≤ on) : FrO K nm it f on2 := fun j hj => h j (by omega)
theorem FrO.push {K : PK} {nm on ba : Nat} {it : Nat → Nat} {f : Nat → Int32} {p x : Int32} (h : FrO K nm it f on) (hb : ba ≤ 32000) (hx : ∀ i : Nat, i < nm → x = nI i → ∀ n : Nat, n ≤ 1000 → K.2.1 12 (it i) = nI n → ba + n ≤ 32000) : FrO K nm it (upd (upd (upd f (3 * on) p) (3 * on + 1) (nI ba)) (3 * on + 2) x) (on + 1) := fun j hj => by
  by_cases e : j = on
  · subst e
    refine ⟨ba, hb, ?_, fun i hi hix => hx i hi ?_⟩
    · unfold upd; rw [if_neg (by omega), if_pos rfl]
    · unfold upd at hix; rw [if_pos rfl] at hix; exact hix
  · obtain ⟨b, b1, b2, b3⟩ := h j (by omega)
    refine ⟨b, b1, ?_, fun i hi hix => b3 i hi ?_⟩
    · unfold upd; rw [if_neg (by omega), if_neg (by omega), if_neg (by omega)]; exact b2
    · unfold upd at hix; rw [if_neg (by omega), if_neg (by omega), if_neg (by omega)] at hix; exact hix
theorem MsO.num {K : PK} {nm ba m : Nat} {it : Nat → Nat} (h : NmO K nm it) (hm : MsO K (some m) ba) (hnm : nm ≤ 100000) : ∀ i : Nat, i < nm → K.2.1 9 m = nI i → ∀ n : Nat, n ≤ 1000 → K.2.1 12 (it i) = nI n → ba + n ≤ 32000 := fun i hi e n hn e2 => by
  obtain ⟨h3, hs⟩ := hm m rfl
  rcases h m h3 with z | ⟨j, hj, z1, z2⟩
  · have z3 := congrArg Int32.toInt (e.symm.trans z)
    rw [nI_toInt (by omega), show (-1 : Int32).toInt = -1 by decide] at z3
    omega
  · have ej := nI_inj9 (by omega) (by omega) (e.symm.trans z1)
    rw [ej, z2] at e2
    exact hs n hn e2
theorem m1_num {K : PK} {nm ba : Nat} {it : Nat → Nat} (hnm : nm ≤ 100000) : ∀ i : Nat, i < nm → (-1 : Int32) = nI i → ∀ n : Nat, n ≤ 1000 → K.2.1 12 (it i) = nI n → ba + n ≤ 32000 := fun i hi e _ _ _ => by
  have z3 := congrArg Int32.toInt e
  rw [nI_toInt (by omega), show (-1 : Int32).toInt = -1 by decide] at z3
  omega
theorem MsO.of {K : PK} {m ba n : Nat} (h3 : K.1 m = 3) (hn : K.2.1 12 m = nI n) (hb : n ≤ 1000 ∧ ba + n ≤ 32000) : MsO K (some m) ba := fun z hz => by
  cases hz
  exact ⟨h3, fun k hk e => by
    have ek := nI_inj9 (by omega) (by omega) (e.symm.trans hn)
    omega⟩
theorem MsO.le {K : PK} {m ba n : Nat} (h : MsO K (some m) ba) (hn : K.2.1 12 m = nI n) (hb : n ≤ 1000) : ba + n ≤ 32000 := (h m rfl).2 n hb hn
theorem dX5_begin_0 : decode cX5_begin 0 = .ok (.aload_n 0, 1) := by decide +kernel
theorem dX5_begin_1 : decode cX5_begin 1 = .ok (.getfield 93, 3) := by decide +kernel
theorem dX5_begin_4 : decode cX5_begin 4 = .ok (.bipush 100, 2) := by decide +kernel
theorem dX5_begin_6 : decode cX5_begin 6 = .ok (.if_icmp .lt 9, 3) := by decide +kernel
theorem dX5_begin_15 : decode cX5_begin 15 = .ok (.aload_n 1, 1) := by decide +kernel
theorem dX5_begin_16 : decode cX5_begin 16 = .ok (.ifnull 21, 3) := by decide +kernel
theorem dX5_begin_37 : decode cX5_begin 37 = .ok (.aload_n 0, 1) := by decide +kernel
theorem dX5_begin_38 : decode cX5_begin 38 = .ok (.invokevirtual 160, 3) := by decide +kernel
theorem dX5_begin_41 : decode cX5_begin 41 = .ok (.return_, 1) := by decide +kernel
theorem dX5_begin_9 : decode cX5_begin 9 = .ok (.aload_n 0, 1) := by decide +kernel
theorem dX5_begin_10 : decode cX5_begin 10 = .ok (.iconst 4, 1) := by decide +kernel
theorem dX5_begin_11 : decode cX5_begin 11 = .ok (.putfield 116, 3) := by decide +kernel
theorem dX5_begin_14 : decode cX5_begin 14 = .ok (.return_, 1) := by decide +kernel
set_option maxHeartbeats 8000000 in
set_option maxRecDepth 100000 in
theorem M_beginN (l : Launch) (G : pT) (h0 : Nat) (a : Nat → Nat) (F : Nat → Int32) (R : Nat → Value) (Z : Int64) (B : Nat → Nat → Int32) (J : Nat → Nat → Int64) (T : Nat → Nat) (Pi : Nat → va_E → Prop) (w : va_W) (x : Int32) (hO : OKW G h0 a F R Z B J T Pi w) : PM l G pX0 yX5_begin cX5_begin 3 none ({ frames := 3, cells := 0, slots := 0, locals := 80 }) [.ref (a 5), .null, .int x] w (fun (v : Option Value) (u : va_W × (Int32 × Int32)) => v = none ∧ (OKW G h0 a (upd (upd F 23 u.2.1) 25 u.2.2) R Z B J T Pi u.1)) (fun u => u.1) := by
  intro sz
  refine Met.ofW (cc := cX5_begin) (maxL := 3) (ret := none) (by decide) rfl ?_
  intro p e s m args below meth c s₁ B9 hml hv
  obtain ⟨rfl, hsz, hP, hD0, hE, hX⟩ := hv
  have hx := B9.exec
  have hb := B9.bytes
  have hr := B9.returns
  have hts := atoms_spec (ws := Cond.code yX5_begin cX5_begin 3 none :: pw) B9.pre
  have hq : ∀ w ∈ pw, w.before _ s = true := fun w h => hts w (List.mem_cons_of_mem _ h)
  have hown : s.vm.findClass RX5 = some m.cls := findClass_of_methodNamed B9.named
  have hlocks := B9.notSynchronized
  subst hsz
  have hD := hD0.self (sz := s.heap.size)
  have hA : ∀ q : Nat, s.heap.size ≤ q → va_A w s.heap.size q := fun q h => Or.inr h
  generalize va_A w s.heap.size = A at hD hE hA ⊢
  have hS : va_S A s.heap s.heap [] := va_S.rf
  have hl := lv_entry ([.ref (a 5), .null, .int x]) (n := 3) (Nat.le_of_ble_eq_true rfl)
  rw [lg_entry_eq]
  generalize (lg_sl ([.ref (a 5), .null, .int x]) ++ List.replicate (3 - (lg_sl ([.ref (a 5), .null, .int x])).length) Slot.unset).toArray = ls at hl ⊢
  have hl : lv_has ls 3 [(0, .ref (a 5)), (1, .null), (2, .int x)] := hl
  refine lv_aload_n hx hb dX5_begin_0 rfl (lv_at hl 0 rfl) ?_
  refine c_get (v := .int (F 22)) (C := RX5) (Tc := TX5) (N := 19) (ci := 4) hx hb hq pin_wsX50 hown hE hP hO 28 (sg_28 G h0 a _ _ _ _ _) rfl 15 (by decide) (hq _ pw_502) (fun _ h9 => h9) rfl dX5_begin_1 ?_
  refine lv_bipush (v := 100) hx hb dX5_begin_4 (by decide) ?_
  refine lv_icmp_lt (tgt := 15) hx hb dX5_begin_6 (by decide) (fun c1 => ?_) (fun c1 => ?_)
  · refine lv_aload_nN hx hb dX5_begin_15 rfl (lv_at hl 1 rfl) ?_
    refine lv_ifnullN (tgt := 37) hx hb dX5_begin_16 (by decide) ?_
    refine lv_aload_n hx hb dX5_begin_37 rfl (lv_at hl 0 rfl) ?_
    have hO : OKW G h0 a F R Z B J T Pi w := hO.to rfl
    obtain ⟨_, qr5, hqr6⟩ := hO.2.1 28 _ (sg_28 G h0 a _ _ _ _ _)
    refine pc_V0 (G := G) (As := []) (rest := []) hx hb hml hown hq hE hX pX0_al hP hD hS hA hl.1 (M_refuse l G h0 a F R Z B J T Pi w hO) (gV pw_536 pw_537 pw_538 pw_539 pw_511) hV_X5_refuse qr5 4 hqr6 rfl rfl rfl (Nat.le_of_ble_eq_true rfl) dX5_begin_38 ⟨Nat.le_of_ble_eq_true rfl, Nat.le_of_ble_eq_true rfl⟩ ⟨Nat.le_of_ble_eq_true rfl, Nat.le_of_ble_eq_true rfl⟩ (fun v4 u2 H locs hw3 hP hD hS => ?_)
    obtain ⟨w, en7, rf8⟩ := u2
    obtain ⟨hw3, hO⟩ := hw3
    obtain rfl : v4 = none := hw3
    have hO : OKW G h0 a (upd (upd F 23 en7) 25 rf8) R Z B J T Pi w := hO.to rfl
    refine W.widen (k := 0) (n := 0) (Nat.le_of_ble_eq_true rfl) (Nat.le_of_ble_eq_true rfl) ?_
    refine W.eq (g2 := F0 m 41 ls []) rfl ?_
    have hO : OKW G h0 a (upd (upd F 23 en7) 25 rf8) R Z B J T Pi w := hO.to rfl
    exact W.vret hx hb hr (fun t99 ht99 hW99 => ⟨⟨_, (w, (en7, rf8)), rfl, ⟨rfl, hO⟩, by rw [ht99]; exact hP, hD⟩, hS.F ht99⟩) hS.2.2 dX5_begin_41
  · refine lv_aload_n hx hb dX5_begin_9 rfl (lv_at hl 0 rfl) ?_
    refine lv_iconst (v := 4) hx hb dX5_begin_10 (by decide) ?_
    refine c_put (v := .int 4) (ty := .int) (C := RX5) (Tc := TX5) (N := 19) (ci := 4) hx hb hq pin_wsX50 tyX5 tyX5_ok nmX5 hown hE hP hD hS hO 28 (sg_28 G h0 a _ _ _ _ _) rfl 16 (by decide) (hq _ pw_513) (fun _ h9 => h9) rfl (by decide +kernel) rfl rfl (Nat.le_of_ble_eq_true rfl) (sf_23 G h0 a _ _ _ _ _ 4) dX5_begin_11 (fun H locs w hP hD hS hO => ?_)
    have hO : OKW G h0 a (upd (upd F 23 (4 : Int32)) 25 (F 25)) R Z B J T Pi w := hO.to rfl
    exact W.vret hx hb hr (fun t99 ht99 hW99 => ⟨⟨_, (w, ((4 : Int32), (F 25))), rfl, ⟨rfl, hO⟩, by rw [ht99]; exact hP, hD⟩, hS.F ht99⟩) hS.2.2 dX5_begin_14
theorem dX5_begin_19 : decode cX5_begin 19 = .ok (.iload_n 2, 1) := by decide +kernel
theorem dX5_begin_20 : decode cX5_begin 20 = .ok (.ifCond .lt 17, 3) := by decide +kernel
theorem dX5_begin_23 : decode cX5_begin 23 = .ok (.iload_n 2, 1) := by decide +kernel
theorem dX5_begin_24 : decode cX5_begin 24 = .ok (.aload_n 1, 1) := by decide +kernel
theorem dX5_begin_25 : decode cX5_begin 25 = .ok (.getfield 295, 3) := by decide +kernel
theorem dX5_begin_28 : decode cX5_begin 28 = .ok (.iadd, 1) := by decide +kernel
theorem dX5_begin_29 : decode cX5_begin 29 = .ok (.aload_n 0, 1) := by decide +kernel
theorem dX5_begin_30 : decode cX5_begin 30 = .ok (.getfield 22, 3) := by decide +kernel
theorem dX5_begin_33 : decode cX5_begin 33 = .ok (.arraylength, 1) := by decide +kernel
theorem dX5_begin_34 : decode cX5_begin 34 = .ok (.if_icmp .le 8, 3) := by decide +kernel
theorem dX5_begin_42 : decode cX5_begin 42 = .ok (.aload_n 0, 1) := by decide +kernel
theorem dX5_begin_43 : decode cX5_begin 43 = .ok (.getfield 26, 3) := by decide +kernel
theorem dX5_begin_46 : decode cX5_begin 46 = .ok (.iconst 3, 1) := by decide +kernel
theorem dX5_begin_47 : decode cX5_begin 47 = .ok (.aload_n 0, 1) := by decide +kernel
theorem dX5_begin_48 : decode cX5_begin 48 = .ok (.getfield 93, 3) := by decide +kernel
theorem dX5_begin_51 : decode cX5_begin 51 = .ok (.imul, 1) := by decide +kernel
theorem dX5_begin_52 : decode cX5_begin 52 = .ok (.aload_n 0, 1) := by decide +kernel
theorem dX5_begin_53 : decode cX5_begin 53 = .ok (.getfield 106, 3) := by decide +kernel
theorem dX5_begin_56 : decode cX5_begin 56 = .ok (.iastore, 1) := by decide +kernel
theorem dX5_begin_57 : decode cX5_begin 57 = .ok (.aload_n 0, 1) := by decide +kernel
theorem dX5_begin_58 : decode cX5_begin 58 = .ok (.getfield 26, 3) := by decide +kernel
theorem dX5_begin_61 : decode cX5_begin 61 = .ok (.iconst 3, 1) := by decide +kernel
theorem dX5_begin_62 : decode cX5_begin 62 = .ok (.aload_n 0, 1) := by decide +kernel
theorem dX5_begin_63 : decode cX5_begin 63 = .ok (.getfield 93, 3) := by decide +kernel
theorem dX5_begin_66 : decode cX5_begin 66 = .ok (.imul, 1) := by decide +kernel
theorem dX5_begin_67 : decode cX5_begin 67 = .ok (.iconst 1, 1) := by decide +kernel
theorem dX5_begin_68 : decode cX5_begin 68 = .ok (.iadd, 1) := by decide +kernel
theorem dX5_begin_69 : decode cX5_begin 69 = .ok (.aload_n 0, 1) := by decide +kernel
theorem dX5_begin_70 : decode cX5_begin 70 = .ok (.getfield 100, 3) := by decide +kernel
theorem dX5_begin_73 : decode cX5_begin 73 = .ok (.iastore, 1) := by decide +kernel
theorem dX5_begin_74 : decode cX5_begin 74 = .ok (.aload_n 0, 1) := by decide +kernel
theorem dX5_begin_75 : decode cX5_begin 75 = .ok (.getfield 26, 3) := by decide +kernel
theorem dX5_begin_78 : decode cX5_begin 78 = .ok (.iconst 3, 1) := by decide +kernel
theorem dX5_begin_79 : decode cX5_begin 79 = .ok (.aload_n 0, 1) := by decide +kernel
theorem dX5_begin_80 : decode cX5_begin 80 = .ok (.getfield 93, 3) := by decide +kernel
theorem dX5_begin_83 : decode cX5_begin 83 = .ok (.imul, 1) := by decide +kernel
theorem dX5_begin_84 : decode cX5_begin 84 = .ok (.iconst 2, 1) := by decide +kernel
theorem dX5_begin_85 : decode cX5_begin 85 = .ok (.iadd, 1) := by decide +kernel
theorem dX5_begin_86 : decode cX5_begin 86 = .ok (.aload_n 0, 1) := by decide +kernel
theorem dX5_begin_87 : decode cX5_begin 87 = .ok (.getfield 96, 3) := by decide +kernel
theorem dX5_begin_90 : decode cX5_begin 90 = .ok (.ifnonnull 7, 3) := by decide +kernel
theorem dX5_begin_93 : decode cX5_begin 93 = .ok (.iconst (-1), 1) := by decide +kernel
theorem dX5_begin_94 : decode cX5_begin 94 = .ok (.goto 10, 3) := by decide +kernel
theorem dX5_begin_104 : decode cX5_begin 104 = .ok (.iastore, 1) := by decide +kernel
theorem dX5_begin_105 : decode cX5_begin 105 = .ok (.aload_n 0, 1) := by decide +kernel
theorem dX5_begin_106 : decode cX5_begin 106 = .ok (.dup, 1) := by decide +kernel
theorem dX5_begin_107 : decode cX5_begin 107 = .ok (.getfield 93, 3) := by decide +kernel
theorem dX5_begin_110 : decode cX5_begin 110 = .ok (.iconst 1, 1) := by decide +kernel
theorem dX5_begin_111 : decode cX5_begin 111 = .ok (.iadd, 1) := by decide +kernel
theorem dX5_begin_112 : decode cX5_begin 112 = .ok (.putfield 93, 3) := by decide +kernel
theorem dX5_begin_115 : decode cX5_begin 115 = .ok (.aload_n 0, 1) := by decide +kernel
theorem dX5_begin_116 : decode cX5_begin 116 = .ok (.getfield 36, 3) := by decide +kernel
theorem dX5_begin_119 : decode cX5_begin 119 = .ok (.bipush 10, 2) := by decide +kernel
theorem dX5_begin_121 : decode cX5_begin 121 = .ok (.dup2, 1) := by decide +kernel
theorem dX5_begin_122 : decode cX5_begin 122 = .ok (.iaload, 1) := by decide +kernel
theorem dX5_begin_123 : decode cX5_begin 123 = .ok (.iconst 1, 1) := by decide +kernel
theorem dX5_begin_124 : decode cX5_begin 124 = .ok (.iadd, 1) := by decide +kernel
theorem dX5_begin_125 : decode cX5_begin 125 = .ok (.iastore, 1) := by decide +kernel
theorem dX5_begin_126 : decode cX5_begin 126 = .ok (.aload_n 0, 1) := by decide +kernel
theorem dX5_begin_127 : decode cX5_begin 127 = .ok (.getfield 36, 3) := by decide +kernel
theorem dX5_begin_130 : decode cX5_begin 130 = .ok (.bipush 11, 2) := by decide +kernel
theorem dX5_begin_132 : decode cX5_begin 132 = .ok (.aload_n 0, 1) := by decide +kernel
theorem dX5_begin_133 : decode cX5_begin 133 = .ok (.getfield 36, 3) := by decide +kernel
theorem dX5_begin_136 : decode cX5_begin 136 = .ok (.bipush 11, 2) := by decide +kernel
theorem dX5_begin_138 : decode cX5_begin 138 = .ok (.iaload, 1) := by decide +kernel
theorem dX5_begin_139 : decode cX5_begin 139 = .ok (.aload_n 0, 1) := by decide +kernel
theorem dX5_begin_140 : decode cX5_begin 140 = .ok (.getfield 93, 3) := by decide +kernel
theorem dX5_begin_143 : decode cX5_begin 143 = .ok (.invokestatic 300, 3) := by decide +kernel
theorem dX5_begin_146 : decode cX5_begin 146 = .ok (.iastore, 1) := by decide +kernel
theorem dX5_begin_147 : decode cX5_begin 147 = .ok (.aload_n 0, 1) := by decide +kernel
theorem dX5_begin_148 : decode cX5_begin 148 = .ok (.aload_n 1, 1) := by decide +kernel
theorem dX5_begin_149 : decode cX5_begin 149 = .ok (.putfield 96, 3) := by decide +kernel
theorem dX5_begin_152 : decode cX5_begin 152 = .ok (.aload_n 0, 1) := by decide +kernel
theorem dX5_begin_153 : decode cX5_begin 153 = .ok (.iload_n 2, 1) := by decide +kernel
theorem dX5_begin_154 : decode cX5_begin 154 = .ok (.putfield 100, 3) := by decide +kernel
theorem dX5_begin_157 : decode cX5_begin 157 = .ok (.aload_n 0, 1) := by decide +kernel
theorem dX5_begin_158 : decode cX5_begin 158 = .ok (.aload_n 0, 1) := by decide +kernel
theorem dX5_begin_159 : decode cX5_begin 159 = .ok (.getfield 100, 3) := by decide +kernel
theorem dX5_begin_162 : decode cX5_begin 162 = .ok (.aload_n 1, 1) := by decide +kernel
theorem dX5_begin_163 : decode cX5_begin 163 = .ok (.getfield 295, 3) := by decide +kernel
theorem dX5_begin_166 : decode cX5_begin 166 = .ok (.iadd, 1) := by decide +kernel
theorem dX5_begin_167 : decode cX5_begin 167 = .ok (.putfield 103, 3) := by decide +kernel
theorem dX5_begin_170 : decode cX5_begin 170 = .ok (.aload_n 0, 1) := by decide +kernel
theorem dX5_begin_171 : decode cX5_begin 171 = .ok (.aload_n 1, 1) := by decide +kernel
theorem dX5_begin_172 : decode cX5_begin 172 = .ok (.getfield 324, 3) := by decide +kernel
theorem dX5_begin_175 : decode cX5_begin 175 = .ok (.putfield 132, 3) := by decide +kernel
theorem dX5_begin_178 : decode cX5_begin 178 = .ok (.return_, 1) := by decide +kernel
theorem dX5_begin_97 : decode cX5_begin 97 = .ok (.aload_n 0, 1) := by decide +kernel
theorem dX5_begin_98 : decode cX5_begin 98 = .ok (.getfield 96, 3) := by decide +kernel
theorem dX5_begin_101 : decode cX5_begin 101 = .ok (.getfield 323, 3) := by decide +kernel
set_option maxHeartbeats 30000000 in
set_option maxRecDepth 100000 in
theorem M_begin (l : Launch) (G : pT) (h0 : Nat) (a : Nat → Nat) (F : Nat → Int32) (R : Nat → Value) (Z : Int64) (B : Nat → Nat → Int32) (J : Nat → Nat → Int64) (K : PK) (w : va_W) (m2 : Nat) (x : Int32) (tp : Nat) (pq : Nat) (dr : Nat) (ml : Nat) (nd : Nat) (nm : Nat) (cp : Nat) (it : Nat → Nat) (s9 : Nat) (g : Nat → Nat → Nat) (rk : Nat → Nat) (ba : Nat) (on : Nat) (mo : Option Nat) (htp : tp ≤ 32000) (hwp : WPr G K g) (hps : PgT G K g (a 1) pq dr ml nd nm cp it s9) (hrk : RkO K rk) (hba : ba ≤ 32000) (hon : on ≤ 100) (hms : MsO K mo ba) (hfr : FrO K nm it (B 30) on) (hm2 : K.1 m2 = 3) (hrc : RcO x) (hO : OKP G h0 a (upd (upd (upd F 18 (nI ba)) 19 (nI tp)) 22 (nI on)) (updR (updR R 5 (.ref pq)) 6 (va_rf mo)) Z B J K w) : PM l G pX0 yX5_begin cX5_begin 3 none ({ frames := 3, cells := 0, slots := 0, locals := 80 }) [.ref (a 5), .ref m2, .int x] w (fun (v : Option Value) (u : va_W × (Nat × Int32 × Int32 × Int32 × (Nat → Int32) × Nat × Nat × Option Nat × (Nat → Int32))) => v = none ∧ (u.2.1 ≤ 32000) ∧ (u.2.2.2.2.2.2.1 ≤ 32000 ∧ u.2.2.2.2.2.2.2.1 ≤ 100) ∧ (MsO K u.2.2.2.2.2.2.2.2.1 u.2.2.2.2.2.2.1) ∧ (FrO K nm it u.2.2.2.2.2.2.2.2.2 u.2.2.2.2.2.2.2.1) ∧ (OKP G h0 a (upd (upd (upd (upd (upd (upd F 18 (nI u.2.2.2.2.2.2.1)) 19 (nI u.2.1)) 21 u.2.2.2.2.1) 22 (nI u.2.2.2.2.2.2.2.1)) 23 u.2.2.1) 25 u.2.2.2.1) (updR (updR R 5 (.ref pq)) 6 (va_rf u.2.2.2.2.2.2.2.2.1)) Z (updA (updA B 30 u.2.2.2.2.2.2.2.2.2) 33 u.2.2.2.2.2.1) J K u.1)) (fun u => u.1) := by
  intro sz
  refine Met.ofW (cc := cX5_begin) (maxL := 3) (ret := none) (by decide) rfl ?_
  intro p e s m args below meth c s₁ B9 hml hv
  obtain ⟨rfl, hsz, hP, hD0, hE, hX⟩ := hv
  have hx := B9.exec
  have hb := B9.bytes
  have hr := B9.returns
  have hts := atoms_spec (ws := Cond.code yX5_begin cX5_begin 3 none :: pw) B9.pre
  have hq : ∀ w ∈ pw, w.before _ s = true := fun w h => hts w (List.mem_cons_of_mem _ h)
  have hown : s.vm.findClass RX5 = some m.cls := findClass_of_methodNamed B9.named
  have hlocks := B9.notSynchronized
  subst hsz
  have hD := hD0.self (sz := s.heap.size)
  have hA : ∀ q : Nat, s.heap.size ≤ q → va_A w s.heap.size q := fun q h => Or.inr h
  generalize va_A w s.heap.size = A at hD hE hA ⊢
  have hS : va_S A s.heap s.heap [] := va_S.rf
  have hl := lv_entry ([.ref (a 5), .ref m2, .int x]) (n := 3) (Nat.le_of_ble_eq_true rfl)
  rw [lg_entry_eq]
  generalize (lg_sl ([.ref (a 5), .ref m2, .int x]) ++ List.replicate (3 - (lg_sl ([.ref (a 5), .ref m2, .int x])).length) Slot.unset).toArray = ls at hl ⊢
  have hl : lv_has ls 3 [(0, .ref (a 5)), (1, .ref m2), (2, .int x)] := hl
  have hpg := hps.1
  have hp1 := hpg.1
  have hp2 := hpg.2.1
  have hp3 := hpg.2.2.1
  have hp4 := hpg.2.2.2.1
  have hp5 := hpg.2.2.2.2.1
  have hp6 := hpg.2.2.2.2.2.1
  have hp8 := hpg.2.2.2.2.2.2.2.1
  have hp9 := hpg.2.2.2.2.2.2.2.2
  obtain ⟨sl2, hn2b, hn2⟩ := (hwp.2.2.2 m2 hm2).2.2.2
  have hnm9 := hps.2.2.1.2.2.1
  rcases mo with _ | mq
  · have hl : lv_has ls 3 [(0, .ref (a 5)), (1, .ref m2), (2, .int x)] := hl
    refine W.eq (g2 := F0 m 0 ls []) rfl ?_
    have hO : OKP G h0 a (upd (upd (upd F 18 (nI ba)) 19 (nI tp)) 22 (nI on)) (updR (updR R 5 (.ref pq)) 6 (.null)) Z B J K w := hO.to rfl
    refine lv_aload_n hx hb dX5_begin_0 rfl (lv_at hl 0 rfl) ?_
    refine c_get (v := .int (nI on)) (C := RX5) (Tc := TX5) (N := 19) (ci := 4) hx hb hq pin_wsX50 hown hE hP hO 28 (sg_28 G h0 a _ _ _ _ _) rfl 15 (by decide) (hq _ pw_502) (fun _ h9 => h9) rfl dX5_begin_1 ?_
    refine lv_bipush (v := 100) hx hb dX5_begin_4 (by decide) ?_
    refine lv_icmp_lt (tgt := 15) hx hb dX5_begin_6 (by decide) (fun c1 => ?_) (fun c1 => ?_)
    · have n2 : on < 100 := (nI_ltI (a := on) (b := 100) (by omega) (by omega)).mp c1
      refine lv_aload_n hx hb dX5_begin_15 rfl (lv_at hl 1 rfl) ?_
      refine lv_ifnull hx hb dX5_begin_16 ?_
      refine lv_iload_n hx hb dX5_begin_19 rfl (lv_at hl 2 rfl) ?_
      refine lv_if_lt (tgt := 37) hx hb dX5_begin_20 (by decide) (fun c3 => ?_) (fun c3 => ?_)
      · refine lv_aload_n hx hb dX5_begin_37 rfl (lv_at hl 0 rfl) ?_
        have hO : OKW G h0 a (upd (upd (upd F 18 (nI ba)) 19 (nI tp)) 22 (nI on)) (updR (updR R 5 (.ref pq)) 6 (.null)) Z B J K.1 (fun q99 x99 => x99 = rep G a K q99) w := hO.to rfl
        obtain ⟨_, qr7, hqr8⟩ := hO.2.1 28 _ (sg_28 G h0 a _ _ _ _ _)
        refine pc_V0 (G := G) (As := []) (rest := []) hx hb hml hown hq hE hX pX0_al hP hD hS hA hl.1 (M_refuse l G h0 a (upd (upd (upd F 18 (nI ba)) 19 (nI tp)) 22 (nI on)) (updR (updR R 5 (.ref pq)) 6 (.null)) Z B J K.1 (fun q99 x99 => x99 = rep G a K q99) w hO) (gV pw_536 pw_537 pw_538 pw_539 pw_511) hV_X5_refuse qr7 4 hqr8 rfl rfl rfl (Nat.le_of_ble_eq_true rfl) dX5_begin_38 ⟨Nat.le_of_ble_eq_true rfl, Nat.le_of_ble_eq_true rfl⟩ ⟨Nat.le_of_ble_eq_true rfl, Nat.le_of_ble_eq_true rfl⟩ (fun v6 u4 H locs hw5 hP hD hS => ?_)
        obtain ⟨w, en9, rf10⟩ := u4
        obtain ⟨hw5, hO⟩ := hw5
        obtain rfl : v6 = none := hw5
        have hO : OKP G h0 a (upd (upd (upd (upd (upd F 18 (nI ba)) 19 (nI tp)) 22 (nI on)) 23 en9) 25 rf10) (updR (updR R 5 (.ref pq)) 6 (.null)) Z B J K w := hO.to rfl
        refine W.widen (k := 0) (n := 0) (Nat.le_of_ble_eq_true rfl) (Nat.le_of_ble_eq_true rfl) ?_
        refine W.eq (g2 := F0 m 41 ls []) rfl ?_
        have hz11 : tp ≤ 32000 := (by omega)
        have hz12 : ba ≤ 32000 ∧ on ≤ 100 := (by omega)
        have hz13 : MsO K none ba := hms
        have hz14 : FrO K nm it (B 30) on := hfr
        have hO : OKP G h0 a (upd (upd (upd (upd (upd (upd F 18 (nI ba)) 19 (nI tp)) 21 (F 21)) 22 (nI on)) 23 en9) 25 rf10) (updR (updR R 5 (.ref pq)) 6 (va_rf none)) Z (updA (updA B 30 (B 30)) 33 (B 33)) J K w := hO.to rfl
        exact W.vret hx hb hr (fun t99 ht99 hW99 => ⟨⟨_, (w, (tp, en9, rf10, (F 21), (B 33), ba, on, none, (B 30))), rfl, ⟨rfl, hz11, hz12, hz13, hz14, hO⟩, by rw [ht99]; exact hP, hD⟩, hS.F ht99⟩) hS.2.2 dX5_begin_41
      · obtain ⟨rc, hrc1, hrc2⟩ := RcO.nn hrc c3
        rw [hrc1] at hl
        refine lv_iload_n hx hb dX5_begin_23 rfl (lv_at hl 2 rfl) ?_
        refine lv_aload_n hx hb dX5_begin_24 rfl (lv_at hl 1 rfl) ?_
        refine p_get (v := .int (nI sl2)) (C := RX6) (Tc := TX6) (N := 12) (ci := 12) hx hb hq pin_wsX60 hown hE hP hO (by rw [hm2]; decide) (rep_3 hm2) rfl 9 (by decide) (hq _ pw_519) (fun _ h9 => h9) (congrArg (fun z => some (Value.int z)) hn2) dX5_begin_25 ?_
        refine lv_iadd hx hb dX5_begin_28 ?_
        refine lv_topi (fun x15 e16 => ?_)
        obtain rfl : x15 = nI (rc + sl2) := e16.trans (nI_add (rc) (sl2))
        refine lv_aload_n hx hb dX5_begin_29 rfl (lv_at hl 0 rfl) ?_
        refine c_get (v := .ref (a 29)) (C := RX5) (Tc := TX5) (N := 19) (ci := 4) hx hb hq pin_wsX50 hown hE hP hO 28 (sg_28 G h0 a _ _ _ _ _) rfl 2 (by decide) (hq _ pw_474) (fun _ h9 => h9) rfl dX5_begin_30 ?_
        refine c_len (n := 0) (t0 := 2) (v := 32000) hx hb hE hP hO 32 (sg_32 G h0 a _ _ _ _ _) rfl rfl dX5_begin_33 ?_
        refine lv_icmp_le (tgt := 42) hx hb dX5_begin_34 (by decide) (fun c17 => ?_) (fun c17 => ?_)
        · have n18 : (rc + sl2) ≤ 32000 := (nI_leI (a := (rc + sl2)) (b := 32000) (by omega) (by omega)).mp c17
          refine lv_aload_n hx hb dX5_begin_42 rfl (lv_at hl 0 rfl) ?_
          refine c_get (v := .ref (a 30)) (C := RX5) (Tc := TX5) (N := 19) (ci := 4) hx hb hq pin_wsX50 hown hE hP hO 28 (sg_28 G h0 a _ _ _ _ _) rfl 3 (by decide) (hq _ pw_475) (fun _ h9 => h9) rfl dX5_begin_43 ?_
          refine lv_iconst (v := 3) hx hb dX5_begin_46 (by decide) ?_
          refine lv_aload_n hx hb dX5_begin_47 rfl (lv_at hl 0 rfl) ?_
          refine c_get (v := .int (nI on)) (C := RX5) (Tc := TX5) (N := 19) (ci := 4) hx hb hq pin_wsX50 hown hE hP hO 28 (sg_28 G h0 a _ _ _ _ _) rfl 15 (by decide) (hq _ pw_502) (fun _ h9 => h9) rfl dX5_begin_48 ?_
          refine lv_imul hx hb dX5_begin_51 ?_
          refine lv_topi (fun x19 e20 => ?_)
          obtain rfl : x19 = nI (3 * on) := e20.trans (nI_mulN (3) (on))
          refine lv_aload_n hx hb dX5_begin_52 rfl (lv_at hl 0 rfl) ?_
          refine c_get (v := .int (F 20)) (C := RX5) (Tc := TX5) (N := 19) (ci := 4) hx hb hq pin_wsX50 hown hE hP hO 28 (sg_28 G h0 a _ _ _ _ _) rfl 12 (by decide) (hq _ pw_506) (fun _ h9 => h9) rfl dX5_begin_53 ?_
          refine c_sti (f := (B 30)) (n := 300) (t0 := 0) hx hb hE hP hD hS hO 33 (sg_33 G h0 a _ _ _ _ _) rfl (vp_in_nI (by omega) (by decide)) (sb_30 G h0 a _ _ _ _ _ _) dX5_begin_56 (fun H locs w hP hD hS hO => ?_)
          rw [(nI_clamp (show (3 * on) < 2 ^ 31 by omega))] at hO
          refine lv_aload_n hx hb dX5_begin_57 rfl (lv_at hl 0 rfl) ?_
          refine c_get (v := .ref (a 30)) (C := RX5) (Tc := TX5) (N := 19) (ci := 4) hx hb hq pin_wsX50 hown hE hP hO 28 (sg_28 G h0 a _ _ _ _ _) rfl 3 (by decide) (hq _ pw_475) (fun _ h9 => h9) rfl dX5_begin_58 ?_
          refine lv_iconst (v := 3) hx hb dX5_begin_61 (by decide) ?_
          refine lv_aload_n hx hb dX5_begin_62 rfl (lv_at hl 0 rfl) ?_
          refine c_get (v := .int (nI on)) (C := RX5) (Tc := TX5) (N := 19) (ci := 4) hx hb hq pin_wsX50 hown hE hP hO 28 (sg_28 G h0 a _ _ _ _ _) rfl 15 (by decide) (hq _ pw_502) (fun _ h9 => h9) rfl dX5_begin_63 ?_
          refine lv_imul hx hb dX5_begin_66 ?_
          refine lv_topi (fun x21 e22 => ?_)
          obtain rfl : x21 = nI (3 * on) := e22.trans (nI_mulN (3) (on))
          refine lv_iconst (v := 1) hx hb dX5_begin_67 (by decide) ?_
          refine lv_iadd hx hb dX5_begin_68 ?_
          refine lv_topi (fun x23 e24 => ?_)
          obtain rfl : x23 = nI ((3 * on) + 1) := e24.trans (nI_add ((3 * on)) (1))
          refine lv_aload_n hx hb dX5_begin_69 rfl (lv_at hl 0 rfl) ?_
          refine c_get (v := .int (nI ba)) (C := RX5) (Tc := TX5) (N := 19) (ci := 4) hx hb hq pin_wsX50 hown hE hP hO 28 (sg_28 G h0 a _ _ _ _ _) rfl 10 (by decide) (hq _ pw_504) (fun _ h9 => h9) rfl dX5_begin_70 ?_
          refine c_sti (f := (upd (B 30) (3 * on) (F 20))) (n := 300) (t0 := 0) hx hb hE hP hD hS hO 33 (sg_33 G h0 a _ _ _ _ _) rfl (vp_in_nI (by omega) (by decide)) (sb_30 G h0 a _ _ _ _ _ _) dX5_begin_73 (fun H locs w hP hD hS hO => ?_)
          rw [(nI_clamp (show ((3 * on) + 1) < 2 ^ 31 by omega))] at hO
          refine lv_aload_n hx hb dX5_begin_74 rfl (lv_at hl 0 rfl) ?_
          refine c_get (v := .ref (a 30)) (C := RX5) (Tc := TX5) (N := 19) (ci := 4) hx hb hq pin_wsX50 hown hE hP hO 28 (sg_28 G h0 a _ _ _ _ _) rfl 3 (by decide) (hq _ pw_475) (fun _ h9 => h9) rfl dX5_begin_75 ?_
          refine lv_iconst (v := 3) hx hb dX5_begin_78 (by decide) ?_
          refine lv_aload_n hx hb dX5_begin_79 rfl (lv_at hl 0 rfl) ?_
          refine c_get (v := .int (nI on)) (C := RX5) (Tc := TX5) (N := 19) (ci := 4) hx hb hq pin_wsX50 hown hE hP hO 28 (sg_28 G h0 a _ _ _ _ _) rfl 15 (by decide) (hq _ pw_502) (fun _ h9 => h9) rfl dX5_begin_80 ?_
          refine lv_imul hx hb dX5_begin_83 ?_
          refine lv_topi (fun x25 e26 => ?_)
          obtain rfl : x25 = nI (3 * on) := e26.trans (nI_mulN (3) (on))
          refine lv_iconst (v := 2) hx hb dX5_begin_84 (by decide) ?_
          refine lv_iadd hx hb dX5_begin_85 ?_
          refine lv_topi (fun x27 e28 => ?_)
          obtain rfl : x27 = nI ((3 * on) + 2) := e28.trans (nI_add ((3 * on)) (2))
          refine lv_aload_n hx hb dX5_begin_86 rfl (lv_at hl 0 rfl) ?_
          refine c_get (v := .null) (C := RX5) (Tc := TX5) (N := 19) (ci := 4) hx hb hq pin_wsX50 hown hE hP hO 28 (sg_28 G h0 a _ _ _ _ _) rfl 9 (by decide) (hq _ pw_503) (fun _ h9 => h9) rfl dX5_begin_87 ?_
          refine lv_ifnonnullN hx hb dX5_begin_90 ?_
          refine lv_iconst (v := (-1)) hx hb dX5_begin_93 (by decide) ?_
          refine lv_goto (tgt := 104) hx hb dX5_begin_94 (by decide) ?_
          refine c_sti (f := (upd (upd (B 30) (3 * on) (F 20)) ((3 * on) + 1) (nI ba))) (n := 300) (t0 := 0) hx hb hE hP hD hS hO 33 (sg_33 G h0 a _ _ _ _ _) rfl (vp_in_nI (by omega) (by decide)) (sb_30 G h0 a _ _ _ _ _ _) dX5_begin_104 (fun H locs w hP hD hS hO => ?_)
          rw [(nI_clamp (show ((3 * on) + 2) < 2 ^ 31 by omega))] at hO
          refine lv_aload_n hx hb dX5_begin_105 rfl (lv_at hl 0 rfl) ?_
          refine lv_dup hx hb dX5_begin_106 rfl ?_
          refine c_get (v := .int (nI on)) (C := RX5) (Tc := TX5) (N := 19) (ci := 4) hx hb hq pin_wsX50 hown hE hP hO 28 (sg_28 G h0 a _ _ _ _ _) rfl 15 (by decide) (hq _ pw_502) (fun _ h9 => h9) rfl dX5_begin_107 ?_
          refine lv_iconst (v := 1) hx hb dX5_begin_110 (by decide) ?_
          refine lv_iadd hx hb dX5_begin_111 ?_
          refine lv_topi (fun x29 e30 => ?_)
          obtain rfl : x29 = nI (on + 1) := e30.trans (nI_add (on) (1))
          refine c_put (v := .int (nI (on + 1))) (ty := .int) (C := RX5) (Tc := TX5) (N := 19) (ci := 4) hx hb hq pin_wsX50 tyX5 tyX5_ok nmX5 hown hE hP hD hS hO 28 (sg_28 G h0 a _ _ _ _ _) rfl 15 (by decide) (hq _ pw_502) (fun _ h9 => h9) rfl (by decide +kernel) rfl rfl (Nat.le_of_ble_eq_true rfl) (sf_22 G h0 a _ _ _ _ _ (nI (on + 1))) dX5_begin_112 (fun H locs w hP hD hS hO => ?_)
          refine lv_aload_n hx hb dX5_begin_115 rfl (lv_at hl 0 rfl) ?_
          refine c_get (v := .ref (a 33)) (C := RX5) (Tc := TX5) (N := 19) (ci := 4) hx hb hq pin_wsX50 hown hE hP hO 28 (sg_28 G h0 a _ _ _ _ _) rfl 7 (by decide) (hq _ pw_478) (fun _ h9 => h9) rfl dX5_begin_116 ?_
          refine lv_bipush (v := 10) hx hb dX5_begin_119 (by decide) ?_
          refine lv_dup2_11 hx hb dX5_begin_121 rfl rfl ?_
          refine c_ldi (f := (B 33)) (n := 12) (t0 := 0) hx hb hE hP hO 36 (sg_36 G h0 a _ _ _ _ _) rfl (by unfold vp_in; decide) dX5_begin_122 ?_
          refine W.eq (g2 := F0 m 123 ls [.int ((B 33) 10), .int 10, .ref (a 33)]) rfl ?_
          refine lv_topi (fun x31 e32 => ?_)
          refine lv_iconst (v := 1) hx hb dX5_begin_123 (by decide) ?_
          refine lv_iadd hx hb dX5_begin_124 ?_
          refine lv_topi (fun x33 e34 => ?_)
          refine c_sti (f := (B 33)) (n := 12) (t0 := 0) hx hb hE hP hD hS hO 36 (sg_36 G h0 a _ _ _ _ _) rfl (by unfold vp_in; decide) (sb_33 G h0 a _ _ _ _ _ _) dX5_begin_125 (fun H locs w hP hD hS hO => ?_)
          refine lv_aload_n hx hb dX5_begin_126 rfl (lv_at hl 0 rfl) ?_
          refine c_get (v := .ref (a 33)) (C := RX5) (Tc := TX5) (N := 19) (ci := 4) hx hb hq pin_wsX50 hown hE hP hO 28 (sg_28 G h0 a _ _ _ _ _) rfl 7 (by decide) (hq _ pw_478) (fun _ h9 => h9) rfl dX5_begin_127 ?_
          refine lv_bipush (v := 11) hx hb dX5_begin_130 (by decide) ?_
          refine lv_aload_n hx hb dX5_begin_132 rfl (lv_at hl 0 rfl) ?_
          refine c_get (v := .ref (a 33)) (C := RX5) (Tc := TX5) (N := 19) (ci := 4) hx hb hq pin_wsX50 hown hE hP hO 28 (sg_28 G h0 a _ _ _ _ _) rfl 7 (by decide) (hq _ pw_478) (fun _ h9 => h9) rfl dX5_begin_133 ?_
          refine lv_bipush (v := 11) hx hb dX5_begin_136 (by decide) ?_
          refine c_ldi (f := (upd (B 33) 10 x33)) (n := 12) (t0 := 0) hx hb hE hP hO 36 (sg_36 G h0 a _ _ _ _ _) rfl (by unfold vp_in; decide) dX5_begin_138 ?_
          refine W.eq (g2 := F0 m 139 ls [.int ((upd (B 33) 10 x33) 11), .int 11, .ref (a 33)]) rfl ?_
          refine lv_topi (fun x35 e36 => ?_)
          refine lv_aload_n hx hb dX5_begin_139 rfl (lv_at hl 0 rfl) ?_
          refine c_get (v := .int (nI (on + 1))) (C := RX5) (Tc := TX5) (N := 19) (ci := 4) hx hb hq pin_wsX50 hown hE hP hO 28 (sg_28 G h0 a _ _ _ _ _) rfl 15 (by decide) (hq _ pw_502) (fun _ h9 => h9) rfl dX5_begin_140 ?_
          refine va_mmax (own := RX5) hx hb (by rw [hml]; exact hl.1.symm) hown (hq _ pw_520) (hq _ pw_51) (hq _ pw_52) (hq _ pw_53) (Nat.le_of_ble_eq_true rfl) (Nat.le_of_ble_eq_true rfl) (Nat.le_of_ble_eq_true rfl) (Nat.le_of_ble_eq_true rfl) dX5_begin_143 ?_
          refine lv_topi (fun x37 e38 => ?_)
          refine c_sti (f := (upd (B 33) 10 x33)) (n := 12) (t0 := 0) hx hb hE hP hD hS hO 36 (sg_36 G h0 a _ _ _ _ _) rfl (by unfold vp_in; decide) (sb_33 G h0 a _ _ _ _ _ _) dX5_begin_146 (fun H locs w hP hD hS hO => ?_)
          refine lv_aload_n hx hb dX5_begin_147 rfl (lv_at hl 0 rfl) ?_
          refine lv_aload_n hx hb dX5_begin_148 rfl (lv_at hl 1 rfl) ?_
          refine c_put (v := .ref m2) (ty := (.object "JinjaTongue$Method")) (C := RX5) (Tc := TX5) (N := 19) (ci := 4) hx hb hq pin_wsX50 tyX5 tyX5_ok nmX5 hown hE hP hD hS hO 28 (sg_28 G h0 a _ _ _ _ _) rfl 9 (by decide) (hq _ pw_503) (fun _ h9 => h9) rfl (by decide +kernel) rfl rfl (Nat.le_of_ble_eq_true rfl) (sr_6 G h0 a _ _ _ _ _ (.ref m2)) dX5_begin_149 (fun H locs w hP hD hS hO => ?_)
          refine lv_aload_n hx hb dX5_begin_152 rfl (lv_at hl 0 rfl) ?_
          refine lv_iload_n hx hb dX5_begin_153 rfl (lv_at hl 2 rfl) ?_
          refine c_put (v := .int (nI rc)) (ty := .int) (C := RX5) (Tc := TX5) (N := 19) (ci := 4) hx hb hq pin_wsX50 tyX5 tyX5_ok nmX5 hown hE hP hD hS hO 28 (sg_28 G h0 a _ _ _ _ _) rfl 10 (by decide) (hq _ pw_504) (fun _ h9 => h9) rfl (by decide +kernel) rfl rfl (Nat.le_of_ble_eq_true rfl) (sf_18 G h0 a _ _ _ _ _ (nI rc)) dX5_begin_154 (fun H locs w hP hD hS hO => ?_)
          refine lv_aload_n hx hb dX5_begin_157 rfl (lv_at hl 0 rfl) ?_
          refine lv_aload_n hx hb dX5_begin_158 rfl (lv_at hl 0 rfl) ?_
          refine c_get (v := .int (nI rc)) (C := RX5) (Tc := TX5) (N := 19) (ci := 4) hx hb hq pin_wsX50 hown hE hP hO 28 (sg_28 G h0 a _ _ _ _ _) rfl 10 (by decide) (hq _ pw_504) (fun _ h9 => h9) rfl dX5_begin_159 ?_
          refine lv_aload_n hx hb dX5_begin_162 rfl (lv_at hl 1 rfl) ?_
          refine p_get (v := .int (nI sl2)) (C := RX6) (Tc := TX6) (N := 12) (ci := 12) hx hb hq pin_wsX60 hown hE hP hO (by rw [hm2]; decide) (rep_3 hm2) rfl 9 (by decide) (hq _ pw_519) (fun _ h9 => h9) (congrArg (fun z => some (Value.int z)) hn2) dX5_begin_163 ?_
          refine lv_iadd hx hb dX5_begin_166 ?_
          refine lv_topi (fun x39 e40 => ?_)
          obtain rfl : x39 = nI (rc + sl2) := e40.trans (nI_add (rc) (sl2))
          refine c_put (v := .int (nI (rc + sl2))) (ty := .int) (C := RX5) (Tc := TX5) (N := 19) (ci := 4) hx hb hq pin_wsX50 tyX5 tyX5_ok nmX5 hown hE hP hD hS hO 28 (sg_28 G h0 a _ _ _ _ _) rfl 11 (by decide) (hq _ pw_505) (fun _ h9 => h9) rfl (by decide +kernel) rfl rfl (Nat.le_of_ble_eq_true rfl) (sf_19 G h0 a _ _ _ _ _ (nI (rc + sl2))) dX5_begin_167 (fun H locs w hP hD hS hO => ?_)
          refine lv_aload_n hx hb dX5_begin_170 rfl (lv_at hl 0 rfl) ?_
          refine lv_aload_n hx hb dX5_begin_171 rfl (lv_at hl 1 rfl) ?_
          refine p_get (v := .int (K.2.1 11 m2)) (C := RX6) (Tc := TX6) (N := 12) (ci := 12) hx hb hq pin_wsX60 hown hE hP hO (by rw [hm2]; decide) (rep_3 hm2) rfl 8 (by decide) (hq _ pw_565) (fun _ h9 => h9) rfl dX5_begin_172 ?_
          refine c_put (v := .int (K.2.1 11 m2)) (ty := .int) (C := RX5) (Tc := TX5) (N := 19) (ci := 4) hx hb hq pin_wsX50 tyX5 tyX5_ok nmX5 hown hE hP hD hS hO 28 (sg_28 G h0 a _ _ _ _ _) rfl 13 (by decide) (hq _ pw_566) (fun _ h9 => h9) rfl (by decide +kernel) rfl rfl (Nat.le_of_ble_eq_true rfl) (sf_21 G h0 a _ _ _ _ _ (K.2.1 11 m2)) dX5_begin_175 (fun H locs w hP hD hS hO => ?_)
          have hz41 : (rc + sl2) ≤ 32000 := (by omega)
          have hz42 : rc ≤ 32000 ∧ (on + 1) ≤ 100 := (by omega)
          have hz43 : MsO K (some m2) rc := (MsO.of hm2 hn2 (by omega))
          have hz44 : FrO K nm it (upd (upd (upd (B 30) (3 * on) (F 20)) ((3 * on) + 1) (nI ba)) ((3 * on) + 2) (-1)) (on + 1) := (FrO.push hfr (by omega) (m1_num hnm9))
          have hO : OKP G h0 a (upd (upd (upd (upd (upd (upd F 18 (nI rc)) 19 (nI (rc + sl2))) 21 (K.2.1 11 m2)) 22 (nI (on + 1))) 23 (F 23)) 25 (F 25)) (updR (updR R 5 (.ref pq)) 6 (va_rf (some m2))) Z (updA (updA B 30 (upd (upd (upd (B 30) (3 * on) (F 20)) ((3 * on) + 1) (nI ba)) ((3 * on) + 2) (-1))) 33 (upd (upd (B 33) 10 x33) 11 x37)) J K w := hO.to rfl
          exact W.vret hx hb hr (fun t99 ht99 hW99 => ⟨⟨_, (w, ((rc + sl2), (F 23), (F 25), (K.2.1 11 m2), (upd (upd (B 33) 10 x33) 11 x37), rc, (on + 1), (some m2), (upd (upd (upd (B 30) (3 * on) (F 20)) ((3 * on) + 1) (nI ba)) ((3 * on) + 2) (-1)))), rfl, ⟨rfl, hz41, hz42, hz43, hz44, hO⟩, by rw [ht99]; exact hP, hD⟩, hS.F ht99⟩) hS.2.2 dX5_begin_178
        · have n45 : ¬ ((rc + sl2) ≤ 32000) := fun h9 => c17 ((nI_leI (a := (rc + sl2)) (b := 32000) (by omega) (by omega)).mpr h9)
          refine lv_aload_n hx hb dX5_begin_37 rfl (lv_at hl 0 rfl) ?_
          have hO : OKW G h0 a (upd (upd (upd F 18 (nI ba)) 19 (nI tp)) 22 (nI on)) (updR (updR R 5 (.ref pq)) 6 (.null)) Z B J K.1 (fun q99 x99 => x99 = rep G a K q99) w := hO.to rfl
          obtain ⟨_, qr49, hqr50⟩ := hO.2.1 28 _ (sg_28 G h0 a _ _ _ _ _)
          refine pc_V0 (G := G) (As := []) (rest := []) hx hb hml hown hq hE hX pX0_al hP hD hS hA hl.1 (M_refuse l G h0 a (upd (upd (upd F 18 (nI ba)) 19 (nI tp)) 22 (nI on)) (updR (updR R 5 (.ref pq)) 6 (.null)) Z B J K.1 (fun q99 x99 => x99 = rep G a K q99) w hO) (gV pw_536 pw_537 pw_538 pw_539 pw_511) hV_X5_refuse qr49 4 hqr50 rfl rfl rfl (Nat.le_of_ble_eq_true rfl) dX5_begin_38 ⟨Nat.le_of_ble_eq_true rfl, Nat.le_of_ble_eq_true rfl⟩ ⟨Nat.le_of_ble_eq_true rfl, Nat.le_of_ble_eq_true rfl⟩ (fun v48 u46 H locs hw47 hP hD hS => ?_)
          obtain ⟨w, en51, rf52⟩ := u46
          obtain ⟨hw47, hO⟩ := hw47
          obtain rfl : v48 = none := hw47
          have hO : OKP G h0 a (upd (upd (upd (upd (upd F 18 (nI ba)) 19 (nI tp)) 22 (nI on)) 23 en51) 25 rf52) (updR (updR R 5 (.ref pq)) 6 (.null)) Z B J K w := hO.to rfl
          refine W.widen (k := 0) (n := 0) (Nat.le_of_ble_eq_true rfl) (Nat.le_of_ble_eq_true rfl) ?_
          refine W.eq (g2 := F0 m 41 ls []) rfl ?_
          have hz53 : tp ≤ 32000 := (by omega)
          have hz54 : ba ≤ 32000 ∧ on ≤ 100 := (by omega)
          have hz55 : MsO K none ba := hms
          have hz56 : FrO K nm it (B 30) on := hfr
          have hO : OKP G h0 a (upd (upd (upd (upd (upd (upd F 18 (nI ba)) 19 (nI tp)) 21 (F 21)) 22 (nI on)) 23 en51) 25 rf52) (updR (updR R 5 (.ref pq)) 6 (va_rf none)) Z (updA (updA B 30 (B 30)) 33 (B 33)) J K w := hO.to rfl
          exact W.vret hx hb hr (fun t99 ht99 hW99 => ⟨⟨_, (w, (tp, en51, rf52, (F 21), (B 33), ba, on, none, (B 30))), rfl, ⟨rfl, hz53, hz54, hz55, hz56, hO⟩, by rw [ht99]; exact hP, hD⟩, hS.F ht99⟩) hS.2.2 dX5_begin_41
    · have n57 : ¬ (on < 100) := fun h9 => c1 ((nI_ltI (a := on) (b := 100) (by omega) (by omega)).mpr h9)
      refine lv_aload_n hx hb dX5_begin_9 rfl (lv_at hl 0 rfl) ?_
      refine lv_iconst (v := 4) hx hb dX5_begin_10 (by decide) ?_
      refine c_put (v := .int 4) (ty := .int) (C := RX5) (Tc := TX5) (N := 19) (ci := 4) hx hb hq pin_wsX50 tyX5 tyX5_ok nmX5 hown hE hP hD hS hO 28 (sg_28 G h0 a _ _ _ _ _) rfl 16 (by decide) (hq _ pw_513) (fun _ h9 => h9) rfl (by decide +kernel) rfl rfl (Nat.le_of_ble_eq_true rfl) (sf_23 G h0 a _ _ _ _ _ 4) dX5_begin_11 (fun H locs w hP hD hS hO => ?_)
      have hz58 : tp ≤ 32000 := (by omega)
      have hz59 : ba ≤ 32000 ∧ on ≤ 100 := (by omega)
      have hz60 : MsO K none ba := hms
      have hz61 : FrO K nm it (B 30) on := hfr
      have hO : OKP G h0 a (upd (upd (upd (upd (upd (upd F 18 (nI ba)) 19 (nI tp)) 21 (F 21)) 22 (nI on)) 23 (4 : Int32)) 25 (F 25)) (updR (updR R 5 (.ref pq)) 6 (va_rf none)) Z (updA (updA B 30 (B 30)) 33 (B 33)) J K w := hO.to rfl
      exact W.vret hx hb hr (fun t99 ht99 hW99 => ⟨⟨_, (w, (tp, (4 : Int32), (F 25), (F 21), (B 33), ba, on, none, (B 30))), rfl, ⟨rfl, hz58, hz59, hz60, hz61, hO⟩, by rw [ht99]; exact hP, hD⟩, hS.F ht99⟩) hS.2.2 dX5_begin_14
  · have hl : lv_has ls 3 [(0, .ref (a 5)), (1, .ref m2), (2, .int x)] := hl
    refine W.eq (g2 := F0 m 0 ls []) rfl ?_
    have hO : OKP G h0 a (upd (upd (upd F 18 (nI ba)) 19 (nI tp)) 22 (nI on)) (updR (updR R 5 (.ref pq)) 6 (.ref mq)) Z B J K w := hO.to rfl
    have hmT := (hms mq rfl).1
    refine lv_aload_n hx hb dX5_begin_0 rfl (lv_at hl 0 rfl) ?_
    refine c_get (v := .int (nI on)) (C := RX5) (Tc := TX5) (N := 19) (ci := 4) hx hb hq pin_wsX50 hown hE hP hO 28 (sg_28 G h0 a _ _ _ _ _) rfl 15 (by decide) (hq _ pw_502) (fun _ h9 => h9) rfl dX5_begin_1 ?_
    refine lv_bipush (v := 100) hx hb dX5_begin_4 (by decide) ?_
    refine lv_icmp_lt (tgt := 15) hx hb dX5_begin_6 (by decide) (fun c62 => ?_) (fun c62 => ?_)
    · have n63 : on < 100 := (nI_ltI (a := on) (b := 100) (by omega) (by omega)).mp c62
      refine lv_aload_n hx hb dX5_begin_15 rfl (lv_at hl 1 rfl) ?_
      refine lv_ifnull hx hb dX5_begin_16 ?_
      refine lv_iload_n hx hb dX5_begin_19 rfl (lv_at hl 2 rfl) ?_
      refine lv_if_lt (tgt := 37) hx hb dX5_begin_20 (by decide) (fun c64 => ?_) (fun c64 => ?_)
      · refine lv_aload_n hx hb dX5_begin_37 rfl (lv_at hl 0 rfl) ?_
        have hO : OKW G h0 a (upd (upd (upd F 18 (nI ba)) 19 (nI tp)) 22 (nI on)) (updR (updR R 5 (.ref pq)) 6 (.ref mq)) Z B J K.1 (fun q99 x99 => x99 = rep G a K q99) w := hO.to rfl
        obtain ⟨_, qr68, hqr69⟩ := hO.2.1 28 _ (sg_28 G h0 a _ _ _ _ _)
        refine pc_V0 (G := G) (As := []) (rest := []) hx hb hml hown hq hE hX pX0_al hP hD hS hA hl.1 (M_refuse l G h0 a (upd (upd (upd F 18 (nI ba)) 19 (nI tp)) 22 (nI on)) (updR (updR R 5 (.ref pq)) 6 (.ref mq)) Z B J K.1 (fun q99 x99 => x99 = rep G a K q99) w hO) (gV pw_536 pw_537 pw_538 pw_539 pw_511) hV_X5_refuse qr68 4 hqr69 rfl rfl rfl (Nat.le_of_ble_eq_true rfl) dX5_begin_38 ⟨Nat.le_of_ble_eq_true rfl, Nat.le_of_ble_eq_true rfl⟩ ⟨Nat.le_of_ble_eq_true rfl, Nat.le_of_ble_eq_true rfl⟩ (fun v67 u65 H locs hw66 hP hD hS => ?_)
        obtain ⟨w, en70, rf71⟩ := u65
        obtain ⟨hw66, hO⟩ := hw66
        obtain rfl : v67 = none := hw66
        have hO : OKP G h0 a (upd (upd (upd (upd (upd F 18 (nI ba)) 19 (nI tp)) 22 (nI on)) 23 en70) 25 rf71) (updR (updR R 5 (.ref pq)) 6 (.ref mq)) Z B J K w := hO.to rfl
        refine W.widen (k := 0) (n := 0) (Nat.le_of_ble_eq_true rfl) (Nat.le_of_ble_eq_true rfl) ?_
        refine W.eq (g2 := F0 m 41 ls []) rfl ?_
        have hz72 : tp ≤ 32000 := (by omega)
        have hz73 : ba ≤ 32000 ∧ on ≤ 100 := (by omega)
        have hz74 : MsO K (some mq) ba := hms
        have hz75 : FrO K nm it (B 30) on := hfr
        have hO : OKP G h0 a (upd (upd (upd (upd (upd (upd F 18 (nI ba)) 19 (nI tp)) 21 (F 21)) 22 (nI on)) 23 en70) 25 rf71) (updR (updR R 5 (.ref pq)) 6 (va_rf (some mq))) Z (updA (updA B 30 (B 30)) 33 (B 33)) J K w := hO.to rfl
        exact W.vret hx hb hr (fun t99 ht99 hW99 => ⟨⟨_, (w, (tp, en70, rf71, (F 21), (B 33), ba, on, (some mq), (B 30))), rfl, ⟨rfl, hz72, hz73, hz74, hz75, hO⟩, by rw [ht99]; exact hP, hD⟩, hS.F ht99⟩) hS.2.2 dX5_begin_41
      · obtain ⟨rc, hrc1, hrc2⟩ := RcO.nn hrc c64
        rw [hrc1] at hl
        refine lv_iload_n hx hb dX5_begin_23 rfl (lv_at hl 2 rfl) ?_
        refine lv_aload_n hx hb dX5_begin_24 rfl (lv_at hl 1 rfl) ?_
        refine p_get (v := .int (nI sl2)) (C := RX6) (Tc := TX6) (N := 12) (ci := 12) hx hb hq pin_wsX60 hown hE hP hO (by rw [hm2]; decide) (rep_3 hm2) rfl 9 (by decide) (hq _ pw_519) (fun _ h9 => h9) (congrArg (fun z => some (Value.int z)) hn2) dX5_begin_25 ?_
        refine lv_iadd hx hb dX5_begin_28 ?_
        refine lv_topi (fun x76 e77 => ?_)
        obtain rfl : x76 = nI (rc + sl2) := e77.trans (nI_add (rc) (sl2))
        refine lv_aload_n hx hb dX5_begin_29 rfl (lv_at hl 0 rfl) ?_
        refine c_get (v := .ref (a 29)) (C := RX5) (Tc := TX5) (N := 19) (ci := 4) hx hb hq pin_wsX50 hown hE hP hO 28 (sg_28 G h0 a _ _ _ _ _) rfl 2 (by decide) (hq _ pw_474) (fun _ h9 => h9) rfl dX5_begin_30 ?_
        refine c_len (n := 0) (t0 := 2) (v := 32000) hx hb hE hP hO 32 (sg_32 G h0 a _ _ _ _ _) rfl rfl dX5_begin_33 ?_
        refine lv_icmp_le (tgt := 42) hx hb dX5_begin_34 (by decide) (fun c78 => ?_) (fun c78 => ?_)
        · have n79 : (rc + sl2) ≤ 32000 := (nI_leI (a := (rc + sl2)) (b := 32000) (by omega) (by omega)).mp c78
          refine lv_aload_n hx hb dX5_begin_42 rfl (lv_at hl 0 rfl) ?_
          refine c_get (v := .ref (a 30)) (C := RX5) (Tc := TX5) (N := 19) (ci := 4) hx hb hq pin_wsX50 hown hE hP hO 28 (sg_28 G h0 a _ _ _ _ _) rfl 3 (by decide) (hq _ pw_475) (fun _ h9 => h9) rfl dX5_begin_43 ?_
          refine lv_iconst (v := 3) hx hb dX5_begin_46 (by decide) ?_
          refine lv_aload_n hx hb dX5_begin_47 rfl (lv_at hl 0 rfl) ?_
          refine c_get (v := .int (nI on)) (C := RX5) (Tc := TX5) (N := 19) (ci := 4) hx hb hq pin_wsX50 hown hE hP hO 28 (sg_28 G h0 a _ _ _ _ _) rfl 15 (by decide) (hq _ pw_502) (fun _ h9 => h9) rfl dX5_begin_48 ?_
          refine lv_imul hx hb dX5_begin_51 ?_
          refine lv_topi (fun x80 e81 => ?_)
          obtain rfl : x80 = nI (3 * on) := e81.trans (nI_mulN (3) (on))
          refine lv_aload_n hx hb dX5_begin_52 rfl (lv_at hl 0 rfl) ?_
          refine c_get (v := .int (F 20)) (C := RX5) (Tc := TX5) (N := 19) (ci := 4) hx hb hq pin_wsX50 hown hE hP hO 28 (sg_28 G h0 a _ _ _ _ _) rfl 12 (by decide) (hq _ pw_506) (fun _ h9 => h9) rfl dX5_begin_53 ?_
          refine c_sti (f := (B 30)) (n := 300) (t0 := 0) hx hb hE hP hD hS hO 33 (sg_33 G h0 a _ _ _ _ _) rfl (vp_in_nI (by omega) (by decide)) (sb_30 G h0 a _ _ _ _ _ _) dX5_begin_56 (fun H locs w hP hD hS hO => ?_)
          rw [(nI_clamp (show (3 * on) < 2 ^ 31 by omega))] at hO
          refine lv_aload_n hx hb dX5_begin_57 rfl (lv_at hl 0 rfl) ?_
          refine c_get (v := .ref (a 30)) (C := RX5) (Tc := TX5) (N := 19) (ci := 4) hx hb hq pin_wsX50 hown hE hP hO 28 (sg_28 G h0 a _ _ _ _ _) rfl 3 (by decide) (hq _ pw_475) (fun _ h9 => h9) rfl dX5_begin_58 ?_
          refine lv_iconst (v := 3) hx hb dX5_begin_61 (by decide) ?_
          refine lv_aload_n hx hb dX5_begin_62 rfl (lv_at hl 0 rfl) ?_
          refine c_get (v := .int (nI on)) (C := RX5) (Tc := TX5) (N := 19) (ci := 4) hx hb hq pin_wsX50 hown hE hP hO 28 (sg_28 G h0 a _ _ _ _ _) rfl 15 (by decide) (hq _ pw_502) (fun _ h9 => h9) rfl dX5_begin_63 ?_
          refine lv_imul hx hb dX5_begin_66 ?_
          refine lv_topi (fun x82 e83 => ?_)
          obtain rfl : x82 = nI (3 * on) := e83.trans (nI_mulN (3) (on))
          refine lv_iconst (v := 1) hx hb dX5_begin_67 (by decide) ?_
          refine lv_iadd hx hb dX5_begin_68 ?_
          refine lv_topi (fun x84 e85 => ?_)
          obtain rfl : x84 = nI ((3 * on) + 1) := e85.trans (nI_add ((3 * on)) (1))
          refine lv_aload_n hx hb dX5_begin_69 rfl (lv_at hl 0 rfl) ?_
          refine c_get (v := .int (nI ba)) (C := RX5) (Tc := TX5) (N := 19) (ci := 4) hx hb hq pin_wsX50 hown hE hP hO 28 (sg_28 G h0 a _ _ _ _ _) rfl 10 (by decide) (hq _ pw_504) (fun _ h9 => h9) rfl dX5_begin_70 ?_
          refine c_sti (f := (upd (B 30) (3 * on) (F 20))) (n := 300) (t0 := 0) hx hb hE hP hD hS hO 33 (sg_33 G h0 a _ _ _ _ _) rfl (vp_in_nI (by omega) (by decide)) (sb_30 G h0 a _ _ _ _ _ _) dX5_begin_73 (fun H locs w hP hD hS hO => ?_)
          rw [(nI_clamp (show ((3 * on) + 1) < 2 ^ 31 by omega))] at hO
          refine lv_aload_n hx hb dX5_begin_74 rfl (lv_at hl 0 rfl) ?_
          refine c_get (v := .ref (a 30)) (C := RX5) (Tc := TX5) (N := 19) (ci := 4) hx hb hq pin_wsX50 hown hE hP hO 28 (sg_28 G h0 a _ _ _ _ _) rfl 3 (by decide) (hq _ pw_475) (fun _ h9 => h9) rfl dX5_begin_75 ?_
          refine lv_iconst (v := 3) hx hb dX5_begin_78 (by decide) ?_
          refine lv_aload_n hx hb dX5_begin_79 rfl (lv_at hl 0 rfl) ?_
          refine c_get (v := .int (nI on)) (C := RX5) (Tc := TX5) (N := 19) (ci := 4) hx hb hq pin_wsX50 hown hE hP hO 28 (sg_28 G h0 a _ _ _ _ _) rfl 15 (by decide) (hq _ pw_502) (fun _ h9 => h9) rfl dX5_begin_80 ?_
          refine lv_imul hx hb dX5_begin_83 ?_
          refine lv_topi (fun x86 e87 => ?_)
          obtain rfl : x86 = nI (3 * on) := e87.trans (nI_mulN (3) (on))
          refine lv_iconst (v := 2) hx hb dX5_begin_84 (by decide) ?_
          refine lv_iadd hx hb dX5_begin_85 ?_
          refine lv_topi (fun x88 e89 => ?_)
          obtain rfl : x88 = nI ((3 * on) + 2) := e89.trans (nI_add ((3 * on)) (2))
          refine lv_aload_n hx hb dX5_begin_86 rfl (lv_at hl 0 rfl) ?_
          refine c_get (v := .ref mq) (C := RX5) (Tc := TX5) (N := 19) (ci := 4) hx hb hq pin_wsX50 hown hE hP hO 28 (sg_28 G h0 a _ _ _ _ _) rfl 9 (by decide) (hq _ pw_503) (fun _ h9 => h9) rfl dX5_begin_87 ?_
          refine lv_ifnonnull (tgt := 97) hx hb dX5_begin_90 (by decide) ?_
          refine lv_aload_n hx hb dX5_begin_97 rfl (lv_at hl 0 rfl) ?_
          refine c_get (v := .ref mq) (C := RX5) (Tc := TX5) (N := 19) (ci := 4) hx hb hq pin_wsX50 hown hE hP hO 28 (sg_28 G h0 a _ _ _ _ _) rfl 9 (by decide) (hq _ pw_503) (fun _ h9 => h9) rfl dX5_begin_98 ?_
          refine p_get (v := .int (K.2.1 9 mq)) (C := RX6) (Tc := TX6) (N := 12) (ci := 12) hx hb hq pin_wsX60 hown hE hP hO (by rw [hmT]; decide) (rep_3 hmT) rfl 6 (by decide) (hq _ pw_564) (fun _ h9 => h9) rfl dX5_begin_101 ?_
          refine c_sti (f := (upd (upd (B 30) (3 * on) (F 20)) ((3 * on) + 1) (nI ba))) (n := 300) (t0 := 0) hx hb hE hP hD hS hO 33 (sg_33 G h0 a _ _ _ _ _) rfl (vp_in_nI (by omega) (by decide)) (sb_30 G h0 a _ _ _ _ _ _) dX5_begin_104 (fun H locs w hP hD hS hO => ?_)
          rw [(nI_clamp (show ((3 * on) + 2) < 2 ^ 31 by omega))] at hO
          refine lv_aload_n hx hb dX5_begin_105 rfl (lv_at hl 0 rfl) ?_
          refine lv_dup hx hb dX5_begin_106 rfl ?_
          refine c_get (v := .int (nI on)) (C := RX5) (Tc := TX5) (N := 19) (ci := 4) hx hb hq pin_wsX50 hown hE hP hO 28 (sg_28 G h0 a _ _ _ _ _) rfl 15 (by decide) (hq _ pw_502) (fun _ h9 => h9) rfl dX5_begin_107 ?_
          refine lv_iconst (v := 1) hx hb dX5_begin_110 (by decide) ?_
          refine lv_iadd hx hb dX5_begin_111 ?_
          refine lv_topi (fun x90 e91 => ?_)
          obtain rfl : x90 = nI (on + 1) := e91.trans (nI_add (on) (1))
          refine c_put (v := .int (nI (on + 1))) (ty := .int) (C := RX5) (Tc := TX5) (N := 19) (ci := 4) hx hb hq pin_wsX50 tyX5 tyX5_ok nmX5 hown hE hP hD hS hO 28 (sg_28 G h0 a _ _ _ _ _) rfl 15 (by decide) (hq _ pw_502) (fun _ h9 => h9) rfl (by decide +kernel) rfl rfl (Nat.le_of_ble_eq_true rfl) (sf_22 G h0 a _ _ _ _ _ (nI (on + 1))) dX5_begin_112 (fun H locs w hP hD hS hO => ?_)
          refine lv_aload_n hx hb dX5_begin_115 rfl (lv_at hl 0 rfl) ?_
          refine c_get (v := .ref (a 33)) (C := RX5) (Tc := TX5) (N := 19) (ci := 4) hx hb hq pin_wsX50 hown hE hP hO 28 (sg_28 G h0 a _ _ _ _ _) rfl 7 (by decide) (hq _ pw_478) (fun _ h9 => h9) rfl dX5_begin_116 ?_
          refine lv_bipush (v := 10) hx hb dX5_begin_119 (by decide) ?_
          refine lv_dup2_11 hx hb dX5_begin_121 rfl rfl ?_
          refine c_ldi (f := (B 33)) (n := 12) (t0 := 0) hx hb hE hP hO 36 (sg_36 G h0 a _ _ _ _ _) rfl (by unfold vp_in; decide) dX5_begin_122 ?_
          refine W.eq (g2 := F0 m 123 ls [.int ((B 33) 10), .int 10, .ref (a 33)]) rfl ?_
          refine lv_topi (fun x92 e93 => ?_)
          refine lv_iconst (v := 1) hx hb dX5_begin_123 (by decide) ?_
          refine lv_iadd hx hb dX5_begin_124 ?_
          refine lv_topi (fun x94 e95 => ?_)
          refine c_sti (f := (B 33)) (n := 12) (t0 := 0) hx hb hE hP hD hS hO 36 (sg_36 G h0 a _ _ _ _ _) rfl (by unfold vp_in; decide) (sb_33 G h0 a _ _ _ _ _ _) dX5_begin_125 (fun H locs w hP hD hS hO => ?_)
          refine lv_aload_n hx hb dX5_begin_126 rfl (lv_at hl 0 rfl) ?_
          refine c_get (v := .ref (a 33)) (C := RX5) (Tc := TX5) (N := 19) (ci := 4) hx hb hq pin_wsX50 hown hE hP hO 28 (sg_28 G h0 a _ _ _ _ _) rfl 7 (by decide) (hq _ pw_478) (fun _ h9 => h9) rfl dX5_begin_127 ?_
          refine lv_bipush (v := 11) hx hb dX5_begin_130 (by decide) ?_
          refine lv_aload_n hx hb dX5_begin_132 rfl (lv_at hl 0 rfl) ?_
          refine c_get (v := .ref (a 33)) (C := RX5) (Tc := TX5) (N := 19) (ci := 4) hx hb hq pin_wsX50 hown hE hP hO 28 (sg_28 G h0 a _ _ _ _ _) rfl 7 (by decide) (hq _ pw_478) (fun _ h9 => h9) rfl dX5_begin_133 ?_
          refine lv_bipush (v := 11) hx hb dX5_begin_136 (by decide) ?_
          refine c_ldi (f := (upd (B 33) 10 x94)) (n := 12) (t0 := 0) hx hb hE hP hO 36 (sg_36 G h0 a _ _ _ _ _) rfl (by unfold vp_in; decide) dX5_begin_138 ?_
          refine W.eq (g2 := F0 m 139 ls [.int ((upd (B 33) 10 x94) 11), .int 11, .ref (a 33)]) rfl ?_
          refine lv_topi (fun x96 e97 => ?_)
          refine lv_aload_n hx hb dX5_begin_139 rfl (lv_at hl 0 rfl) ?_
          refine c_get (v := .int (nI (on + 1))) (C := RX5) (Tc := TX5) (N := 19) (ci := 4) hx hb hq pin_wsX50 hown hE hP hO 28 (sg_28 G h0 a _ _ _ _ _) rfl 15 (by decide) (hq _ pw_502) (fun _ h9 => h9) rfl dX5_begin_140 ?_
          refine va_mmax (own := RX5) hx hb (by rw [hml]; exact hl.1.symm) hown (hq _ pw_520) (hq _ pw_51) (hq _ pw_52) (hq _ pw_53) (Nat.le_of_ble_eq_true rfl) (Nat.le_of_ble_eq_true rfl) (Nat.le_of_ble_eq_true rfl) (Nat.le_of_ble_eq_true rfl) dX5_begin_143 ?_
          refine lv_topi (fun x98 e99 => ?_)
          refine c_sti (f := (upd (B 33) 10 x94)) (n := 12) (t0 := 0) hx hb hE hP hD hS hO 36 (sg_36 G h0 a _ _ _ _ _) rfl (by unfold vp_in; decide) (sb_33 G h0 a _ _ _ _ _ _) dX5_begin_146 (fun H locs w hP hD hS hO => ?_)
          refine lv_aload_n hx hb dX5_begin_147 rfl (lv_at hl 0 rfl) ?_
          refine lv_aload_n hx hb dX5_begin_148 rfl (lv_at hl 1 rfl) ?_
          refine c_put (v := .ref m2) (ty := (.object "JinjaTongue$Method")) (C := RX5) (Tc := TX5) (N := 19) (ci := 4) hx hb hq pin_wsX50 tyX5 tyX5_ok nmX5 hown hE hP hD hS hO 28 (sg_28 G h0 a _ _ _ _ _) rfl 9 (by decide) (hq _ pw_503) (fun _ h9 => h9) rfl (by decide +kernel) rfl rfl (Nat.le_of_ble_eq_true rfl) (sr_6 G h0 a _ _ _ _ _ (.ref m2)) dX5_begin_149 (fun H locs w hP hD hS hO => ?_)
          refine lv_aload_n hx hb dX5_begin_152 rfl (lv_at hl 0 rfl) ?_
          refine lv_iload_n hx hb dX5_begin_153 rfl (lv_at hl 2 rfl) ?_
          refine c_put (v := .int (nI rc)) (ty := .int) (C := RX5) (Tc := TX5) (N := 19) (ci := 4) hx hb hq pin_wsX50 tyX5 tyX5_ok nmX5 hown hE hP hD hS hO 28 (sg_28 G h0 a _ _ _ _ _) rfl 10 (by decide) (hq _ pw_504) (fun _ h9 => h9) rfl (by decide +kernel) rfl rfl (Nat.le_of_ble_eq_true rfl) (sf_18 G h0 a _ _ _ _ _ (nI rc)) dX5_begin_154 (fun H locs w hP hD hS hO => ?_)
          refine lv_aload_n hx hb dX5_begin_157 rfl (lv_at hl 0 rfl) ?_
          refine lv_aload_n hx hb dX5_begin_158 rfl (lv_at hl 0 rfl) ?_
          refine c_get (v := .int (nI rc)) (C := RX5) (Tc := TX5) (N := 19) (ci := 4) hx hb hq pin_wsX50 hown hE hP hO 28 (sg_28 G h0 a _ _ _ _ _) rfl 10 (by decide) (hq _ pw_504) (fun _ h9 => h9) rfl dX5_begin_159 ?_
          refine lv_aload_n hx hb dX5_begin_162 rfl (lv_at hl 1 rfl) ?_
          refine p_get (v := .int (nI sl2)) (C := RX6) (Tc := TX6) (N := 12) (ci := 12) hx hb hq pin_wsX60 hown hE hP hO (by rw [hm2]; decide) (rep_3 hm2) rfl 9 (by decide) (hq _ pw_519) (fun _ h9 => h9) (congrArg (fun z => some (Value.int z)) hn2) dX5_begin_163 ?_
          refine lv_iadd hx hb dX5_begin_166 ?_
          refine lv_topi (fun x100 e101 => ?_)
          obtain rfl : x100 = nI (rc + sl2) := e101.trans (nI_add (rc) (sl2))
          refine c_put (v := .int (nI (rc + sl2))) (ty := .int) (C := RX5) (Tc := TX5) (N := 19) (ci := 4) hx hb hq pin_wsX50 tyX5 tyX5_ok nmX5 hown hE hP hD hS hO 28 (sg_28 G h0 a _ _ _ _ _) rfl 11 (by decide) (hq _ pw_505) (fun _ h9 => h9) rfl (by decide +kernel) rfl rfl (Nat.le_of_ble_eq_true rfl) (sf_19 G h0 a _ _ _ _ _ (nI (rc + sl2))) dX5_begin_167 (fun H locs w hP hD hS hO => ?_)
          refine lv_aload_n hx hb dX5_begin_170 rfl (lv_at hl 0 rfl) ?_
          refine lv_aload_n hx hb dX5_begin_171 rfl (lv_at hl 1 rfl) ?_
          refine p_get (v := .int (K.2.1 11 m2)) (C := RX6) (Tc := TX6) (N := 12) (ci := 12) hx hb hq pin_wsX60 hown hE hP hO (by rw [hm2]; decide) (rep_3 hm2) rfl 8 (by decide) (hq _ pw_565) (fun _ h9 => h9) rfl dX5_begin_172 ?_
          refine c_put (v := .int (K.2.1 11 m2)) (ty := .int) (C := RX5) (Tc := TX5) (N := 19) (ci := 4) hx hb hq pin_wsX50 tyX5 tyX5_ok nmX5 hown hE hP hD hS hO 28 (sg_28 G h0 a _ _ _ _ _) rfl 13 (by decide) (hq _ pw_566) (fun _ h9 => h9) rfl (by decide +kernel) rfl rfl (Nat.le_of_ble_eq_true rfl) (sf_21 G h0 a _ _ _ _ _ (K.2.1 11 m2)) dX5_begin_175 (fun H locs w hP hD hS hO => ?_)
          have hz102 : (rc + sl2) ≤ 32000 := (by omega)
          have hz103 : rc ≤ 32000 ∧ (on + 1) ≤ 100 := (by omega)
          have hz104 : MsO K (some m2) rc := (MsO.of hm2 hn2 (by omega))
          have hz105 : FrO K nm it (upd (upd (upd (B 30) (3 * on) (F 20)) ((3 * on) + 1) (nI ba)) ((3 * on) + 2) (K.2.1 9 mq)) (on + 1) := (FrO.push hfr (by omega) (MsO.num hps.2.2.2.1 hms hnm9))
          have hO : OKP G h0 a (upd (upd (upd (upd (upd (upd F 18 (nI rc)) 19 (nI (rc + sl2))) 21 (K.2.1 11 m2)) 22 (nI (on + 1))) 23 (F 23)) 25 (F 25)) (updR (updR R 5 (.ref pq)) 6 (va_rf (some m2))) Z (updA (updA B 30 (upd (upd (upd (B 30) (3 * on) (F 20)) ((3 * on) + 1) (nI ba)) ((3 * on) + 2) (K.2.1 9 mq))) 33 (upd (upd (B 33) 10 x94) 11 x98)) J K w := hO.to rfl
          exact W.vret hx hb hr (fun t99 ht99 hW99 => ⟨⟨_, (w, ((rc + sl2), (F 23), (F 25), (K.2.1 11 m2), (upd (upd (B 33) 10 x94) 11 x98), rc, (on + 1), (some m2), (upd (upd (upd (B 30) (3 * on) (F 20)) ((3 * on) + 1) (nI ba)) ((3 * on) + 2) (K.2.1 9 mq)))), rfl, ⟨rfl, hz102, hz103, hz104, hz105, hO⟩, by rw [ht99]; exact hP, hD⟩, hS.F ht99⟩) hS.2.2 dX5_begin_178
        · have n106 : ¬ ((rc + sl2) ≤ 32000) := fun h9 => c78 ((nI_leI (a := (rc + sl2)) (b := 32000) (by omega) (by omega)).mpr h9)
          refine lv_aload_n hx hb dX5_begin_37 rfl (lv_at hl 0 rfl) ?_
          have hO : OKW G h0 a (upd (upd (upd F 18 (nI ba)) 19 (nI tp)) 22 (nI on)) (updR (updR R 5 (.ref pq)) 6 (.ref mq)) Z B J K.1 (fun q99 x99 => x99 = rep G a K q99) w := hO.to rfl
          obtain ⟨_, qr110, hqr111⟩ := hO.2.1 28 _ (sg_28 G h0 a _ _ _ _ _)
          refine pc_V0 (G := G) (As := []) (rest := []) hx hb hml hown hq hE hX pX0_al hP hD hS hA hl.1 (M_refuse l G h0 a (upd (upd (upd F 18 (nI ba)) 19 (nI tp)) 22 (nI on)) (updR (updR R 5 (.ref pq)) 6 (.ref mq)) Z B J K.1 (fun q99 x99 => x99 = rep G a K q99) w hO) (gV pw_536 pw_537 pw_538 pw_539 pw_511) hV_X5_refuse qr110 4 hqr111 rfl rfl rfl (Nat.le_of_ble_eq_true rfl) dX5_begin_38 ⟨Nat.le_of_ble_eq_true rfl, Nat.le_of_ble_eq_true rfl⟩ ⟨Nat.le_of_ble_eq_true rfl, Nat.le_of_ble_eq_true rfl⟩ (fun v109 u107 H locs hw108 hP hD hS => ?_)
          obtain ⟨w, en112, rf113⟩ := u107
          obtain ⟨hw108, hO⟩ := hw108
          obtain rfl : v109 = none := hw108
          have hO : OKP G h0 a (upd (upd (upd (upd (upd F 18 (nI ba)) 19 (nI tp)) 22 (nI on)) 23 en112) 25 rf113) (updR (updR R 5 (.ref pq)) 6 (.ref mq)) Z B J K w := hO.to rfl
          refine W.widen (k := 0) (n := 0) (Nat.le_of_ble_eq_true rfl) (Nat.le_of_ble_eq_true rfl) ?_
          refine W.eq (g2 := F0 m 41 ls []) rfl ?_
          have hz114 : tp ≤ 32000 := (by omega)
          have hz115 : ba ≤ 32000 ∧ on ≤ 100 := (by omega)
          have hz116 : MsO K (some mq) ba := hms
          have hz117 : FrO K nm it (B 30) on := hfr
          have hO : OKP G h0 a (upd (upd (upd (upd (upd (upd F 18 (nI ba)) 19 (nI tp)) 21 (F 21)) 22 (nI on)) 23 en112) 25 rf113) (updR (updR R 5 (.ref pq)) 6 (va_rf (some mq))) Z (updA (updA B 30 (B 30)) 33 (B 33)) J K w := hO.to rfl
          exact W.vret hx hb hr (fun t99 ht99 hW99 => ⟨⟨_, (w, (tp, en112, rf113, (F 21), (B 33), ba, on, (some mq), (B 30))), rfl, ⟨rfl, hz114, hz115, hz116, hz117, hO⟩, by rw [ht99]; exact hP, hD⟩, hS.F ht99⟩) hS.2.2 dX5_begin_41
    · have n118 : ¬ (on < 100) := fun h9 => c62 ((nI_ltI (a := on) (b := 100) (by omega) (by omega)).mpr h9)
      refine lv_aload_n hx hb dX5_begin_9 rfl (lv_at hl 0 rfl) ?_
      refine lv_iconst (v := 4) hx hb dX5_begin_10 (by decide) ?_
      refine c_put (v := .int 4) (ty := .int) (C := RX5) (Tc := TX5) (N := 19) (ci := 4) hx hb hq pin_wsX50 tyX5 tyX5_ok nmX5 hown hE hP hD hS hO 28 (sg_28 G h0 a _ _ _ _ _) rfl 16 (by decide) (hq _ pw_513) (fun _ h9 => h9) rfl (by decide +kernel) rfl rfl (Nat.le_of_ble_eq_true rfl) (sf_23 G h0 a _ _ _ _ _ 4) dX5_begin_11 (fun H locs w hP hD hS hO => ?_)
      have hz119 : tp ≤ 32000 := (by omega)
      have hz120 : ba ≤ 32000 ∧ on ≤ 100 := (by omega)
      have hz121 : MsO K (some mq) ba := hms
      have hz122 : FrO K nm it (B 30) on := hfr
      have hO : OKP G h0 a (upd (upd (upd (upd (upd (upd F 18 (nI ba)) 19 (nI tp)) 21 (F 21)) 22 (nI on)) 23 (4 : Int32)) 25 (F 25)) (updR (updR R 5 (.ref pq)) 6 (va_rf (some mq))) Z (updA (updA B 30 (B 30)) 33 (B 33)) J K w := hO.to rfl
      exact W.vret hx hb hr (fun t99 ht99 hW99 => ⟨⟨_, (w, (tp, (4 : Int32), (F 25), (F 21), (B 33), ba, on, (some mq), (B 30))), rfl, ⟨rfl, hz119, hz120, hz121, hz122, hO⟩, by rw [ht99]; exact hP, hD⟩, hS.F ht99⟩) hS.2.2 dX5_begin_14
theorem dX5_close_0 : decode cX5_close 0 = .ok (.aload_n 0, 1) := by decide +kernel
theorem dX5_close_1 : decode cX5_close 1 = .ok (.dup, 1) := by decide +kernel
theorem dX5_close_2 : decode cX5_close 2 = .ok (.getfield 93, 3) := by decide +kernel
theorem dX5_close_5 : decode cX5_close 5 = .ok (.iconst 1, 1) := by decide +kernel
theorem dX5_close_6 : decode cX5_close 6 = .ok (.isub, 1) := by decide +kernel
theorem dX5_close_7 : decode cX5_close 7 = .ok (.putfield 93, 3) := by decide +kernel
theorem dX5_close_10 : decode cX5_close 10 = .ok (.aload_n 0, 1) := by decide +kernel
theorem dX5_close_11 : decode cX5_close 11 = .ok (.aload_n 0, 1) := by decide +kernel
theorem dX5_close_12 : decode cX5_close 12 = .ok (.getfield 100, 3) := by decide +kernel
theorem dX5_close_15 : decode cX5_close 15 = .ok (.putfield 103, 3) := by decide +kernel
theorem dX5_close_18 : decode cX5_close 18 = .ok (.aload_n 0, 1) := by decide +kernel
theorem dX5_close_19 : decode cX5_close 19 = .ok (.getfield 93, 3) := by decide +kernel
theorem dX5_close_22 : decode cX5_close 22 = .ok (.ifCond .lt 68, 3) := by decide +kernel
theorem dX5_close_90 : decode cX5_close 90 = .ok (.return_, 1) := by decide +kernel
theorem dX5_close_25 : decode cX5_close 25 = .ok (.aload_n 0, 1) := by decide +kernel
theorem dX5_close_26 : decode cX5_close 26 = .ok (.getfield 93, 3) := by decide +kernel
theorem dX5_close_29 : decode cX5_close 29 = .ok (.bipush 100, 2) := by decide +kernel
theorem dX5_close_31 : decode cX5_close 31 = .ok (.if_icmp .ge 59, 3) := by decide +kernel
theorem dX5_close_34 : decode cX5_close 34 = .ok (.aload_n 0, 1) := by decide +kernel
theorem dX5_close_35 : decode cX5_close 35 = .ok (.aload_n 0, 1) := by decide +kernel
theorem dX5_close_36 : decode cX5_close 36 = .ok (.getfield 26, 3) := by decide +kernel
theorem dX5_close_39 : decode cX5_close 39 = .ok (.iconst 3, 1) := by decide +kernel
theorem dX5_close_40 : decode cX5_close 40 = .ok (.aload_n 0, 1) := by decide +kernel
theorem dX5_close_41 : decode cX5_close 41 = .ok (.getfield 93, 3) := by decide +kernel
theorem dX5_close_44 : decode cX5_close 44 = .ok (.imul, 1) := by decide +kernel
theorem dX5_close_45 : decode cX5_close 45 = .ok (.iaload, 1) := by decide +kernel
theorem dX5_close_46 : decode cX5_close 46 = .ok (.putfield 106, 3) := by decide +kernel
theorem dX5_close_49 : decode cX5_close 49 = .ok (.aload_n 0, 1) := by decide +kernel
theorem dX5_close_50 : decode cX5_close 50 = .ok (.aload_n 0, 1) := by decide +kernel
theorem dX5_close_51 : decode cX5_close 51 = .ok (.getfield 26, 3) := by decide +kernel
theorem dX5_close_54 : decode cX5_close 54 = .ok (.iconst 3, 1) := by decide +kernel
theorem dX5_close_55 : decode cX5_close 55 = .ok (.aload_n 0, 1) := by decide +kernel
theorem dX5_close_56 : decode cX5_close 56 = .ok (.getfield 93, 3) := by decide +kernel
theorem dX5_close_59 : decode cX5_close 59 = .ok (.imul, 1) := by decide +kernel
theorem dX5_close_60 : decode cX5_close 60 = .ok (.iconst 1, 1) := by decide +kernel
theorem dX5_close_61 : decode cX5_close 61 = .ok (.iadd, 1) := by decide +kernel
theorem dX5_close_62 : decode cX5_close 62 = .ok (.iaload, 1) := by decide +kernel
theorem dX5_close_63 : decode cX5_close 63 = .ok (.putfield 100, 3) := by decide +kernel
theorem dX5_close_66 : decode cX5_close 66 = .ok (.aload_n 0, 1) := by decide +kernel
theorem dX5_close_67 : decode cX5_close 67 = .ok (.aload_n 0, 1) := by decide +kernel
theorem dX5_close_68 : decode cX5_close 68 = .ok (.getfield 47, 3) := by decide +kernel
theorem dX5_close_71 : decode cX5_close 71 = .ok (.aload_n 0, 1) := by decide +kernel
theorem dX5_close_72 : decode cX5_close 72 = .ok (.getfield 26, 3) := by decide +kernel
theorem dX5_close_75 : decode cX5_close 75 = .ok (.iconst 3, 1) := by decide +kernel
theorem dX5_close_76 : decode cX5_close 76 = .ok (.aload_n 0, 1) := by decide +kernel
theorem dX5_close_77 : decode cX5_close 77 = .ok (.getfield 93, 3) := by decide +kernel
theorem dX5_close_80 : decode cX5_close 80 = .ok (.imul, 1) := by decide +kernel
theorem dX5_close_81 : decode cX5_close 81 = .ok (.iconst 2, 1) := by decide +kernel
theorem dX5_close_82 : decode cX5_close 82 = .ok (.iadd, 1) := by decide +kernel
theorem dX5_close_83 : decode cX5_close 83 = .ok (.iaload, 1) := by decide +kernel
theorem dX5_close_84 : decode cX5_close 84 = .ok (.invokevirtual 310, 3) := by decide +kernel
theorem dX5_close_87 : decode cX5_close 87 = .ok (.putfield 96, 3) := by decide +kernel
set_option maxHeartbeats 20000000 in
set_option maxRecDepth 100000 in
theorem M_close (l : Launch) (G : pT) (h0 : Nat) (a : Nat → Nat) (F : Nat → Int32) (R : Nat → Value) (Z : Int64) (B : Nat → Nat → Int32) (J : Nat → Nat → Int64) (K : PK) (w : va_W) (tp : Nat) (pq : Nat) (dr : Nat) (ml : Nat) (nd : Nat) (nm : Nat) (cp : Nat) (it : Nat → Nat) (s9 : Nat) (g : Nat → Nat → Nat) (rk : Nat → Nat) (ba : Nat) (on : Nat) (mo : Option Nat) (htp : tp ≤ 32000) (hwp : WPr G K g) (hps : PgT G K g (a 1) pq dr ml nd nm cp it s9) (hrk : RkO K rk) (hba : ba ≤ 32000) (hon : on ≤ 100) (hms : MsO K mo ba) (hfr : FrO K nm it (B 30) on) (h1on : 1 ≤ on) (hO : OKP G h0 a (upd (upd (upd F 18 (nI ba)) 19 (nI tp)) 22 (nI on)) (updR (updR R 5 (.ref pq)) 6 (va_rf mo)) Z B J K w) : PM l G pX0 yX5_close cX5_close 1 none ({ frames := 6, cells := 0, slots := 0, locals := 145 }) [.ref (a 5)] w (fun (v : Option Value) (u : va_W × (Nat × Int32 × Nat × Nat × Option Nat × (Nat → Int32))) => v = none ∧ (u.2.1 ≤ 32000) ∧ (u.2.2.2.1 ≤ 32000 ∧ u.2.2.2.2.1 ≤ 100) ∧ (MsO K u.2.2.2.2.2.1 u.2.2.2.1) ∧ (FrO K nm it u.2.2.2.2.2.2 u.2.2.2.2.1) ∧ (OKP G h0 a (upd (upd (upd (upd F 18 (nI u.2.2.2.1)) 19 (nI u.2.1)) 20 u.2.2.1) 22 (nI u.2.2.2.2.1)) (updR (updR R 5 (.ref pq)) 6 (va_rf u.2.2.2.2.2.1)) Z (updA B 30 u.2.2.2.2.2.2) J K u.1)) (fun u => u.1) := by
  intro sz
  refine Met.ofW (cc := cX5_close) (maxL := 1) (ret := none) (by decide) rfl ?_
  intro p e s m args below meth c s₁ B9 hml hv
  obtain ⟨rfl, hsz, hP, hD0, hE, hX⟩ := hv
  have hx := B9.exec
  have hb := B9.bytes
  have hr := B9.returns
  have hts := atoms_spec (ws := Cond.code yX5_close cX5_close 1 none :: pw) B9.pre
  have hq : ∀ w ∈ pw, w.before _ s = true := fun w h => hts w (List.mem_cons_of_mem _ h)
  have hown : s.vm.findClass RX5 = some m.cls := findClass_of_methodNamed B9.named
  have hlocks := B9.notSynchronized
  subst hsz
  have hD := hD0.self (sz := s.heap.size)
  have hA : ∀ q : Nat, s.heap.size ≤ q → va_A w s.heap.size q := fun q h => Or.inr h
  generalize va_A w s.heap.size = A at hD hE hA ⊢
  have hS : va_S A s.heap s.heap [] := va_S.rf
  have hl := lv_entry ([.ref (a 5)]) (n := 1) (Nat.le_of_ble_eq_true rfl)
  rw [lg_entry_eq]
  generalize (lg_sl ([.ref (a 5)]) ++ List.replicate (1 - (lg_sl ([.ref (a 5)])).length) Slot.unset).toArray = ls at hl ⊢
  have hl : lv_has ls 1 [(0, .ref (a 5))] := hl
  have hpg := hps.1
  have hp1 := hpg.1
  have hp2 := hpg.2.1
  have hp3 := hpg.2.2.1
  have hp4 := hpg.2.2.2.1
  have hp5 := hpg.2.2.2.2.1
  have hp6 := hpg.2.2.2.2.2.1
  have hp8 := hpg.2.2.2.2.2.2.2.1
  have hp9 := hpg.2.2.2.2.2.2.2.2
  obtain ⟨bj, hbj, hfj, hfk⟩ := hfr (on - 1) (by omega)
  refine lv_aload_n hx hb dX5_close_0 rfl (lv_at hl 0 rfl) ?_
  refine lv_dup hx hb dX5_close_1 rfl ?_
  refine c_get (v := .int (nI on)) (C := RX5) (Tc := TX5) (N := 19) (ci := 4) hx hb hq pin_wsX50 hown hE hP hO 28 (sg_28 G h0 a _ _ _ _ _) rfl 15 (by decide) (hq _ pw_502) (fun _ h9 => h9) rfl dX5_close_2 ?_
  refine lv_iconst (v := 1) hx hb dX5_close_5 (by decide) ?_
  refine lv_isub hx hb dX5_close_6 ?_
  refine lv_topi (fun x1 e2 => ?_)
  obtain rfl : x1 = nI (on - 1) := e2.trans (nI_subN (a := 1) (b := on) (by omega))
  refine c_put (v := .int (nI (on - 1))) (ty := .int) (C := RX5) (Tc := TX5) (N := 19) (ci := 4) hx hb hq pin_wsX50 tyX5 tyX5_ok nmX5 hown hE hP hD hS hO 28 (sg_28 G h0 a _ _ _ _ _) rfl 15 (by decide) (hq _ pw_502) (fun _ h9 => h9) rfl (by decide +kernel) rfl rfl (Nat.le_of_ble_eq_true rfl) (sf_22 G h0 a _ _ _ _ _ (nI (on - 1))) dX5_close_7 (fun H locs w hP hD hS hO => ?_)
  refine lv_aload_n hx hb dX5_close_10 rfl (lv_at hl 0 rfl) ?_
  refine lv_aload_n hx hb dX5_close_11 rfl (lv_at hl 0 rfl) ?_
  refine c_get (v := .int (nI ba)) (C := RX5) (Tc := TX5) (N := 19) (ci := 4) hx hb hq pin_wsX50 hown hE hP hO 28 (sg_28 G h0 a _ _ _ _ _) rfl 10 (by decide) (hq _ pw_504) (fun _ h9 => h9) rfl dX5_close_12 ?_
  refine c_put (v := .int (nI ba)) (ty := .int) (C := RX5) (Tc := TX5) (N := 19) (ci := 4) hx hb hq pin_wsX50 tyX5 tyX5_ok nmX5 hown hE hP hD hS hO 28 (sg_28 G h0 a _ _ _ _ _) rfl 11 (by decide) (hq _ pw_505) (fun _ h9 => h9) rfl (by decide +kernel) rfl rfl (Nat.le_of_ble_eq_true rfl) (sf_19 G h0 a _ _ _ _ _ (nI ba)) dX5_close_15 (fun H locs w hP hD hS hO => ?_)
  refine lv_aload_n hx hb dX5_close_18 rfl (lv_at hl 0 rfl) ?_
  refine c_get (v := .int (nI (on - 1))) (C := RX5) (Tc := TX5) (N := 19) (ci := 4) hx hb hq pin_wsX50 hown hE hP hO 28 (sg_28 G h0 a _ _ _ _ _) rfl 15 (by decide) (hq _ pw_502) (fun _ h9 => h9) rfl dX5_close_19 ?_
  refine lv_if_lt (tgt := 90) hx hb dX5_close_22 (by decide) (fun c3 => ?_) (fun c3 => ?_)
  · have n4 : (on - 1) < 0 := (nI_ltI (a := (on - 1)) (b := 0) (by omega) (by omega)).mp c3
    have hz5 : ba ≤ 32000 := (by omega)
    have hz6 : ba ≤ 32000 ∧ (on - 1) ≤ 100 := (by omega)
    have hz7 : MsO K mo ba := hms
    have hz8 : FrO K nm it (B 30) (on - 1) := (FrO.lo hfr (by omega))
    have hO : OKP G h0 a (upd (upd (upd (upd F 18 (nI ba)) 19 (nI ba)) 20 (F 20)) 22 (nI (on - 1))) (updR (updR R 5 (.ref pq)) 6 (va_rf mo)) Z (updA B 30 (B 30)) J K w := hO.to rfl
    exact W.vret hx hb hr (fun t99 ht99 hW99 => ⟨⟨_, (w, (ba, (F 20), ba, (on - 1), mo, (B 30))), rfl, ⟨rfl, hz5, hz6, hz7, hz8, hO⟩, by rw [ht99]; exact hP, hD⟩, hS.F ht99⟩) hS.2.2 dX5_close_90
  · have n9 : ¬ ((on - 1) < 0) := fun h9 => c3 ((nI_ltI (a := (on - 1)) (b := 0) (by omega) (by omega)).mpr h9)
    refine lv_aload_n hx hb dX5_close_25 rfl (lv_at hl 0 rfl) ?_
    refine c_get (v := .int (nI (on - 1))) (C := RX5) (Tc := TX5) (N := 19) (ci := 4) hx hb hq pin_wsX50 hown hE hP hO 28 (sg_28 G h0 a _ _ _ _ _) rfl 15 (by decide) (hq _ pw_502) (fun _ h9 => h9) rfl dX5_close_26 ?_
    refine lv_bipush (v := 100) hx hb dX5_close_29 (by decide) ?_
    refine lv_icmp_ge (tgt := 90) hx hb dX5_close_31 (by decide) (fun c10 => ?_) (fun c10 => ?_)
    · have n11 : 100 ≤ (on - 1) := (nI_leI (a := 100) (b := (on - 1)) (by omega) (by omega)).mp c10
      have hz12 : ba ≤ 32000 := (by omega)
      have hz13 : ba ≤ 32000 ∧ (on - 1) ≤ 100 := (by omega)
      have hz14 : MsO K mo ba := hms
      have hz15 : FrO K nm it (B 30) (on - 1) := (FrO.lo hfr (by omega))
      have hO : OKP G h0 a (upd (upd (upd (upd F 18 (nI ba)) 19 (nI ba)) 20 (F 20)) 22 (nI (on - 1))) (updR (updR R 5 (.ref pq)) 6 (va_rf mo)) Z (updA B 30 (B 30)) J K w := hO.to rfl
      exact W.vret hx hb hr (fun t99 ht99 hW99 => ⟨⟨_, (w, (ba, (F 20), ba, (on - 1), mo, (B 30))), rfl, ⟨rfl, hz12, hz13, hz14, hz15, hO⟩, by rw [ht99]; exact hP, hD⟩, hS.F ht99⟩) hS.2.2 dX5_close_90
    · have n16 : ¬ (100 ≤ (on - 1)) := fun h9 => c10 ((nI_leI (a := 100) (b := (on - 1)) (by omega) (by omega)).mpr h9)
      refine lv_aload_n hx hb dX5_close_34 rfl (lv_at hl 0 rfl) ?_
      refine lv_aload_n hx hb dX5_close_35 rfl (lv_at hl 0 rfl) ?_
      refine c_get (v := .ref (a 30)) (C := RX5) (Tc := TX5) (N := 19) (ci := 4) hx hb hq pin_wsX50 hown hE hP hO 28 (sg_28 G h0 a _ _ _ _ _) rfl 3 (by decide) (hq _ pw_475) (fun _ h9 => h9) rfl dX5_close_36 ?_
      refine lv_iconst (v := 3) hx hb dX5_close_39 (by decide) ?_
      refine lv_aload_n hx hb dX5_close_40 rfl (lv_at hl 0 rfl) ?_
      refine c_get (v := .int (nI (on - 1))) (C := RX5) (Tc := TX5) (N := 19) (ci := 4) hx hb hq pin_wsX50 hown hE hP hO 28 (sg_28 G h0 a _ _ _ _ _) rfl 15 (by decide) (hq _ pw_502) (fun _ h9 => h9) rfl dX5_close_41 ?_
      refine lv_imul hx hb dX5_close_44 ?_
      refine lv_topi (fun x17 e18 => ?_)
      obtain rfl : x17 = nI (3 * (on - 1)) := e18.trans (nI_mulN (3) ((on - 1)))
      refine c_ldi (f := (B 30)) (n := 300) (t0 := 0) hx hb hE hP hO 33 (sg_33 G h0 a _ _ _ _ _) rfl (vp_in_nI (by omega) (by decide)) dX5_close_45 ?_
      rw [(nI_clamp (show (3 * (on - 1)) < 2 ^ 31 by omega))]
      refine c_put (v := .int ((B 30) (3 * (on - 1)))) (ty := .int) (C := RX5) (Tc := TX5) (N := 19) (ci := 4) hx hb hq pin_wsX50 tyX5 tyX5_ok nmX5 hown hE hP hD hS hO 28 (sg_28 G h0 a _ _ _ _ _) rfl 12 (by decide) (hq _ pw_506) (fun _ h9 => h9) rfl (by decide +kernel) rfl rfl (Nat.le_of_ble_eq_true rfl) (sf_20 G h0 a _ _ _ _ _ ((B 30) (3 * (on - 1)))) dX5_close_46 (fun H locs w hP hD hS hO => ?_)
      refine lv_aload_n hx hb dX5_close_49 rfl (lv_at hl 0 rfl) ?_
      refine lv_aload_n hx hb dX5_close_50 rfl (lv_at hl 0 rfl) ?_
      refine c_get (v := .ref (a 30)) (C := RX5) (Tc := TX5) (N := 19) (ci := 4) hx hb hq pin_wsX50 hown hE hP hO 28 (sg_28 G h0 a _ _ _ _ _) rfl 3 (by decide) (hq _ pw_475) (fun _ h9 => h9) rfl dX5_close_51 ?_
      refine lv_iconst (v := 3) hx hb dX5_close_54 (by decide) ?_
      refine lv_aload_n hx hb dX5_close_55 rfl (lv_at hl 0 rfl) ?_
      refine c_get (v := .int (nI (on - 1))) (C := RX5) (Tc := TX5) (N := 19) (ci := 4) hx hb hq pin_wsX50 hown hE hP hO 28 (sg_28 G h0 a _ _ _ _ _) rfl 15 (by decide) (hq _ pw_502) (fun _ h9 => h9) rfl dX5_close_56 ?_
      refine lv_imul hx hb dX5_close_59 ?_
      refine lv_topi (fun x19 e20 => ?_)
      obtain rfl : x19 = nI (3 * (on - 1)) := e20.trans (nI_mulN (3) ((on - 1)))
      refine lv_iconst (v := 1) hx hb dX5_close_60 (by decide) ?_
      refine lv_iadd hx hb dX5_close_61 ?_
      refine lv_topi (fun x21 e22 => ?_)
      obtain rfl : x21 = nI ((3 * (on - 1)) + 1) := e22.trans (nI_add ((3 * (on - 1))) (1))
      refine c_ldi (f := (B 30)) (n := 300) (t0 := 0) hx hb hE hP hO 33 (sg_33 G h0 a _ _ _ _ _) rfl (vp_in_nI (by omega) (by decide)) dX5_close_62 ?_
      rw [(nI_clamp (show ((3 * (on - 1)) + 1) < 2 ^ 31 by omega))]
      refine lv_topi (fun x23 e24 => ?_)
      obtain rfl : x23 = nI bj := e24.trans (by show B 30 _ = _; exact hfj)
      refine c_put (v := .int (nI bj)) (ty := .int) (C := RX5) (Tc := TX5) (N := 19) (ci := 4) hx hb hq pin_wsX50 tyX5 tyX5_ok nmX5 hown hE hP hD hS hO 28 (sg_28 G h0 a _ _ _ _ _) rfl 10 (by decide) (hq _ pw_504) (fun _ h9 => h9) rfl (by decide +kernel) rfl rfl (Nat.le_of_ble_eq_true rfl) (sf_18 G h0 a _ _ _ _ _ (nI bj)) dX5_close_63 (fun H locs w hP hD hS hO => ?_)
      refine lv_aload_n hx hb dX5_close_66 rfl (lv_at hl 0 rfl) ?_
      refine lv_aload_n hx hb dX5_close_67 rfl (lv_at hl 0 rfl) ?_
      refine c_get (v := .ref pq) (C := RX5) (Tc := TX5) (N := 19) (ci := 4) hx hb hq pin_wsX50 hown hE hP hO 28 (sg_28 G h0 a _ _ _ _ _) rfl 8 (by decide) (hq _ pw_486) (fun _ h9 => h9) rfl dX5_close_68 ?_
      refine lv_aload_n hx hb dX5_close_71 rfl (lv_at hl 0 rfl) ?_
      refine c_get (v := .ref (a 30)) (C := RX5) (Tc := TX5) (N := 19) (ci := 4) hx hb hq pin_wsX50 hown hE hP hO 28 (sg_28 G h0 a _ _ _ _ _) rfl 3 (by decide) (hq _ pw_475) (fun _ h9 => h9) rfl dX5_close_72 ?_
      refine lv_iconst (v := 3) hx hb dX5_close_75 (by decide) ?_
      refine lv_aload_n hx hb dX5_close_76 rfl (lv_at hl 0 rfl) ?_
      refine c_get (v := .int (nI (on - 1))) (C := RX5) (Tc := TX5) (N := 19) (ci := 4) hx hb hq pin_wsX50 hown hE hP hO 28 (sg_28 G h0 a _ _ _ _ _) rfl 15 (by decide) (hq _ pw_502) (fun _ h9 => h9) rfl dX5_close_77 ?_
      refine lv_imul hx hb dX5_close_80 ?_
      refine lv_topi (fun x25 e26 => ?_)
      obtain rfl : x25 = nI (3 * (on - 1)) := e26.trans (nI_mulN (3) ((on - 1)))
      refine lv_iconst (v := 2) hx hb dX5_close_81 (by decide) ?_
      refine lv_iadd hx hb dX5_close_82 ?_
      refine lv_topi (fun x27 e28 => ?_)
      obtain rfl : x27 = nI ((3 * (on - 1)) + 2) := e28.trans (nI_add ((3 * (on - 1))) (2))
      refine c_ldi (f := (B 30)) (n := 300) (t0 := 0) hx hb hE hP hO 33 (sg_33 G h0 a _ _ _ _ _) rfl (vp_in_nI (by omega) (by decide)) dX5_close_83 ?_
      rw [(nI_clamp (show ((3 * (on - 1)) + 2) < 2 ^ 31 by omega))]
      have hO : OKP G h0 a (upd (upd (upd (upd F 18 (nI bj)) 19 (nI ba)) 20 ((B 30) (3 * (on - 1)))) 22 (nI (on - 1))) (updR (updR R 5 (.ref pq)) 6 (va_rf mo)) Z B J K w := hO.to rfl
      obtain ⟨qr32, hqr33⟩ := p_recv hO (by rw [hp1]; decide) (rep_7 hp1)
      refine pc_V0 (G := G) (As := [.int ((B 30) ((3 * (on - 1)) + 2))]) (rest := [.ref (a 5)]) hx hb hml hown hq hE hX pX0_al hP hD hS hA hl.1 (G_methodX l G h0 a (upd (upd (upd (upd F 18 (nI bj)) 19 (nI ba)) 20 ((B 30) (3 * (on - 1)))) 22 (nI (on - 1))) (updR (updR R 5 (.ref pq)) 6 (va_rf mo)) Z B J K w pq dr ml nd ((B 30) ((3 * (on - 1)) + 2)) nm cp it g hps.1 hps.2.2.1 hO) (gV pw_528 pw_529 pw_530 pw_106 pw_518) hV_X9_method qr32 6 hqr33 rfl rfl rfl (Nat.le_of_ble_eq_true rfl) dX5_close_84 ⟨Nat.le_of_ble_eq_true rfl, Nat.le_of_ble_eq_true rfl⟩ ⟨Nat.le_of_ble_eq_true rfl, Nat.le_of_ble_eq_true rfl⟩ (fun v31 u29 H locs hw30 hP hD hS => ?_)
      obtain ⟨w, o34⟩ := u29
      obtain ⟨hw30, h35, hO⟩ := hw30
      have h35 : MoX K nm it ((B 30) ((3 * (on - 1)) + 2)) o34 := h35
      obtain rfl : v31 = some ((va_rf o34)) := hw30
      have hO : OKP G h0 a (upd (upd (upd (upd F 18 (nI bj)) 19 (nI ba)) 20 ((B 30) (3 * (on - 1)))) 22 (nI (on - 1))) (updR (updR R 5 (.ref pq)) 6 (va_rf mo)) Z B J K w := hO.to rfl
      refine W.widen (k := 0) (n := 0) (Nat.le_of_ble_eq_true rfl) (Nat.le_of_ble_eq_true rfl) ?_
      refine W.eq (g2 := F0 m 87 ls [(va_rf o34), .ref (a 5)]) rfl ?_
      rcases o34 with _ | d36
      · have hl : lv_has ls 1 [(0, .ref (a 5))] := hl
        refine W.eq (g2 := F0 m 87 ls [.null, .ref (a 5)]) rfl ?_
        refine c_put (v := .null) (ty := (.object "JinjaTongue$Method")) (C := RX5) (Tc := TX5) (N := 19) (ci := 4) hx hb hq pin_wsX50 tyX5 tyX5_ok nmX5 hown hE hP hD hS hO 28 (sg_28 G h0 a _ _ _ _ _) rfl 9 (by decide) (hq _ pw_503) (fun _ h9 => h9) rfl (by decide +kernel) rfl rfl (Nat.le_of_ble_eq_true rfl) (sr_6 G h0 a _ _ _ _ _ (.null)) dX5_close_87 (fun H locs w hP hD hS hO => ?_)
        have hz37 : ba ≤ 32000 := (by omega)
        have hz38 : bj ≤ 32000 ∧ (on - 1) ≤ 100 := (by omega)
        have hz39 : MsO K none bj := (fun z h => by cases h)
        have hz40 : FrO K nm it (B 30) (on - 1) := (FrO.lo hfr (by omega))
        have hO : OKP G h0 a (upd (upd (upd (upd F 18 (nI bj)) 19 (nI ba)) 20 ((B 30) (3 * (on - 1)))) 22 (nI (on - 1))) (updR (updR R 5 (.ref pq)) 6 (va_rf none)) Z (updA B 30 (B 30)) J K w := hO.to rfl
        exact W.vret hx hb hr (fun t99 ht99 hW99 => ⟨⟨_, (w, (ba, ((B 30) (3 * (on - 1))), bj, (on - 1), none, (B 30))), rfl, ⟨rfl, hz37, hz38, hz39, hz40, hO⟩, by rw [ht99]; exact hP, hD⟩, hS.F ht99⟩) hS.2.2 dX5_close_90
      · have hl : lv_has ls 1 [(0, .ref (a 5))] := hl
        refine W.eq (g2 := F0 m 87 ls [.ref d36, .ref (a 5)]) rfl ?_
        obtain ⟨hdT, jj, hjj, hxj, hij⟩ := h35 d36 rfl
        refine c_put (v := .ref d36) (ty := (.object "JinjaTongue$Method")) (C := RX5) (Tc := TX5) (N := 19) (ci := 4) hx hb hq pin_wsX50 tyX5 tyX5_ok nmX5 hown hE hP hD hS hO 28 (sg_28 G h0 a _ _ _ _ _) rfl 9 (by decide) (hq _ pw_503) (fun _ h9 => h9) rfl (by decide +kernel) rfl rfl (Nat.le_of_ble_eq_true rfl) (sr_6 G h0 a _ _ _ _ _ (.ref d36)) dX5_close_87 (fun H locs w hP hD hS hO => ?_)
        have hz41 : ba ≤ 32000 := (by omega)
        have hz42 : bj ≤ 32000 ∧ (on - 1) ≤ 100 := (by omega)
        have hz43 : MsO K (some d36) bj := (fun z h => by cases h; exact ⟨hdT, fun n9 hn9 e9 => hfk jj hjj hxj n9 hn9 (by rw [hij]; exact e9)⟩)
        have hz44 : FrO K nm it (B 30) (on - 1) := (FrO.lo hfr (by omega))
        have hO : OKP G h0 a (upd (upd (upd (upd F 18 (nI bj)) 19 (nI ba)) 20 ((B 30) (3 * (on - 1)))) 22 (nI (on - 1))) (updR (updR R 5 (.ref pq)) 6 (va_rf (some d36))) Z (updA B 30 (B 30)) J K w := hO.to rfl
        exact W.vret hx hb hr (fun t99 ht99 hW99 => ⟨⟨_, (w, (ba, ((B 30) (3 * (on - 1))), bj, (on - 1), (some d36), (B 30))), rfl, ⟨rfl, hz41, hz42, hz43, hz44, hO⟩, by rw [ht99]; exact hP, hD⟩, hS.F ht99⟩) hS.2.2 dX5_close_90
