def MoX (K : PK) (nm : Nat) (it : Nat → Nat) (x : Int32) (o : Option Nat) : Prop := ∀ q : Nat, o = some q → K.1 q = 3 ∧ ∃ j : Nat, j < nm ∧ x = nI j ∧ it j = q
/-- the open frames: where they begin, and that their methods' slots have room there -/
def FrO (K : PK) (nm : Nat) (it : Nat → Nat) (f : Nat → Int32) (on : Nat) : Prop := ∀ j : Nat, j < on → ∃ b : Nat, b ≤ 32000 ∧ f (3 * j + 1) = nI b ∧ ∀ i : Nat, i < nm → f (3 * j + 2) = nI i → ∀ n : Nat, n ≤ 1000 → K.2.1 12 (it i) = nI n → b + n ≤ 32000
/-- the method that runs -/
def MsO (K : PK) (o : Option Nat) (ba : Nat) : Prop := ∀ m : Nat, o = some m → K.1 m = 3 ∧ ∀ n : Nat, n ≤ 1000 → K.2.1 12 m = nI n → ba + n ≤ 32000
theorem pred_nn {x : Int32} {n : Nat} (h : x = nI n - 1) (hn : n ≤ 1000) (hx : ¬ x < 0) : 1 ≤ n ∧ x = nI (n - 1) := by
  have h1 : 1 ≤ n := by
    refine Classical.byContradiction fun z => hx ?_
    have e : n = 0 := by omega
    rw [h, e]; decide
  exact ⟨h1, h.trans (nI_subN (a := 1) (b := n) h1)⟩
theorem add_m1 {x : Int32} : x + (-1) = x - 1 := (Int32.sub_eq_add_neg x 1).symm
set_option maxHeartbeats 6000000 in
set_option maxRecDepth 100000 in
theorem G_methodX (l : Launch) (G : pT) (h0 : Nat) (a : Nat → Nat) (F : Nat → Int32) (R : Nat → Value) (Z : Int64) (B : Nat → Nat → Int32) (J : Nat → Nat → Int64) (K : PK) (w : va_W) (pq : Nat) (dr : Nat) (ml : Nat) (nd : Nat) (x : Int32) (nm : Nat) (cp : Nat) (it : Nat → Nat) (g : Nat → Nat → Nat) (hpb : PgB K g (a 1) pq dr ml nd) (hlm : LsC G K ml 3 nm it cp) (hO : OKP G h0 a F R Z B J K w) : PM l G pX0 yX9_method cX9_method 2 (some (.object "JinjaTongue$Method")) ({ frames := 5, cells := 0, slots := 0, locals := 124 }) [.ref pq, .int x] w (fun (v : Option Value) (u : va_W × (Option Nat)) => v = some ((va_rf u.2)) ∧ (MoX K nm it x u.2) ∧ (OKP G h0 a F R Z B J K u.1)) (fun u => u.1) := by
  intro sz
  refine Met.ofW (cc := cX9_method) (maxL := 2) (ret := (some (.object "JinjaTongue$Method"))) (by decide) rfl ?_
  intro p e s m args below meth c s₁ B9 hml hv
  obtain ⟨rfl, hsz, hP, hD0, hE, hX⟩ := hv
  have hx := B9.exec
  have hb := B9.bytes
  have hr := B9.returns
  have hts := atoms_spec (ws := Cond.code yX9_method cX9_method 2 (some (.object "JinjaTongue$Method")) :: pw) B9.pre
  have hq : ∀ w ∈ pw, w.before _ s = true := fun w h => hts w (List.mem_cons_of_mem _ h)
  have hown : s.vm.findClass RX9 = some m.cls := findClass_of_methodNamed B9.named
  have hlocks := B9.notSynchronized
  subst hsz
  have hD := hD0.self (sz := s.heap.size)
  have hA : ∀ q : Nat, s.heap.size ≤ q → va_A w s.heap.size q := fun q h => Or.inr h
  generalize va_A w s.heap.size = A at hD hE hA ⊢
  have hS : va_S A s.heap s.heap [] := va_S.rf
  have hl := lv_entry ([.ref pq, .int x]) (n := 2) (Nat.le_of_ble_eq_true rfl)
  rw [lg_entry_eq]
  generalize (lg_sl ([.ref pq, .int x]) ++ List.replicate (2 - (lg_sl ([.ref pq, .int x])).length) Slot.unset).toArray = ls at hl ⊢
  have hl : lv_has ls 2 [(0, .ref pq), (1, .int x)] := hl
  have hp1 := hpb.1
  have hp2 := hpb.2.1
  have hp3 := hpb.2.2.1
  have hp4 := hpb.2.2.2.1
  have hp5 := hpb.2.2.2.2.1
  have hp6 := hpb.2.2.2.2.2.1
  have hp8 := hpb.2.2.2.2.2.2.2.1
  have hp9 := hpb.2.2.2.2.2.2.2.2
  have hnm9 := hlm.2.2.1
  refine lv_iload_n hx hb dX9_method_0 rfl (lv_at hl 1 rfl) ?_
  refine lv_if_lt (tgt := 29) hx hb dX9_method_1 (by decide) (fun c1 => ?_) (fun c1 => ?_)
  · refine lv_null hx hb dX9_method_29 ?_
    have hz2 : MoX K nm it x none := (fun d h => by cases h)
    have hO : OKP G h0 a F R Z B J K w := hO.to rfl
    exact W.aret (v := .null) hx hb hr (Or.inl ⟨_, rfl⟩) (Or.inl rfl) (fun t99 ht99 hW99 => ⟨⟨_, (w, none), rfl, ⟨rfl, hz2, hO⟩, by rw [ht99]; exact hP, hD⟩, hS.F ht99⟩) hS.2.2 dX9_method_30
  · obtain ⟨k9, ht_k9, hb_k9⟩ := nI_nn2 c1
    rw [ht_k9] at hl
    refine lv_iload_n hx hb dX9_method_4 rfl (lv_at hl 1 rfl) ?_
    refine lv_aload_n hx hb dX9_method_5 rfl (lv_at hl 0 rfl) ?_
    refine p_get (v := .ref ml) (C := RX9) (Tc := TX9) (N := 5) (ci := 6) hx hb hq pin_wsX90 hown hE hP hO (by rw [hp1]; decide) (rep_7 hp1) rfl 3 (by decide) (hq _ pw_514) (fun _ h9 => h9) (congrArg (fun z => some (va_rf z)) hp5) dX9_method_6 ?_
    have hO : OKP G h0 a F R Z B J K w := hO.to rfl
    obtain ⟨qr6, hqr7⟩ := p_recv hO (by rw [hp6]; decide) (rep_5 hp6)
    refine pc_V0 (G := G) (As := []) (rest := [.int (nI k9)]) hx hb hml hown hq hE hX pX0_al hP hD hS hA hl.1 (L_size l G h0 a F R Z B J K w ml 3 nm it hlm.ls hO) (gV pw_516 pw_87 pw_88 pw_32 pw_16) hV_Jx4a65c_size_8abf5 qr6 10 hqr7 rfl rfl rfl (Nat.le_of_ble_eq_true rfl) dX9_method_9 ⟨Nat.le_of_ble_eq_true rfl, Nat.le_of_ble_eq_true rfl⟩ ⟨Nat.le_of_ble_eq_true rfl, Nat.le_of_ble_eq_true rfl⟩ (fun v5 u3 H locs hw4 hP hD hS => ?_)
    obtain ⟨w, _⟩ := u3
    obtain ⟨hw4, hO⟩ := hw4
    obtain rfl : v5 = some (.int (nI nm)) := hw4
    have hO : OKP G h0 a F R Z B J K w := hO.to rfl
    refine W.widen (k := 0) (n := 0) (Nat.le_of_ble_eq_true rfl) (Nat.le_of_ble_eq_true rfl) ?_
    refine W.eq (g2 := F0 m 12 ls [.int (nI nm), .int (nI k9)]) rfl ?_
    refine lv_icmp_ge (tgt := 29) hx hb dX9_method_12 (by decide) (fun c8 => ?_) (fun c8 => ?_)
    · have n9 : nm ≤ k9 := (nI_leI (a := nm) (b := k9) (by omega) (by omega)).mp c8
      refine lv_null hx hb dX9_method_29 ?_
      have hz10 : MoX K nm it x none := (fun d h => by cases h)
      have hO : OKP G h0 a F R Z B J K w := hO.to rfl
      exact W.aret (v := .null) hx hb hr (Or.inl ⟨_, rfl⟩) (Or.inl rfl) (fun t99 ht99 hW99 => ⟨⟨_, (w, none), rfl, ⟨rfl, hz10, hO⟩, by rw [ht99]; exact hP, hD⟩, hS.F ht99⟩) hS.2.2 dX9_method_30
    · have n11 : ¬ (nm ≤ k9) := fun h9 => c8 ((nI_leI (a := nm) (b := k9) (by omega) (by omega)).mpr h9)
      refine lv_aload_n hx hb dX9_method_15 rfl (lv_at hl 0 rfl) ?_
      refine p_get (v := .ref ml) (C := RX9) (Tc := TX9) (N := 5) (ci := 6) hx hb hq pin_wsX90 hown hE hP hO (by rw [hp1]; decide) (rep_7 hp1) rfl 3 (by decide) (hq _ pw_514) (fun _ h9 => h9) (congrArg (fun z => some (va_rf z)) hp5) dX9_method_16 ?_
      refine lv_iload_n hx hb dX9_method_19 rfl (lv_at hl 1 rfl) ?_
      have hO : OKP G h0 a F R Z B J K w := hO.to rfl
      obtain ⟨qr15, hqr16⟩ := p_recv hO (by rw [hp6]; decide) (rep_5 hp6)
      refine pc_V0 (G := G) (As := [.int (nI k9)]) (rest := []) hx hb hml hown hq hE hX pX0_al hP hD hS hA hl.1 (L_get l G h0 a F R Z B J K w ml 3 nm it k9 hlm.ls (by omega) hO) (gV pw_517 pw_90 pw_91 pw_32 pw_25) hV_Jx4a65c_get_915e3 qr15 10 hqr16 rfl rfl rfl (Nat.le_of_ble_eq_true rfl) dX9_method_20 ⟨Nat.le_of_ble_eq_true rfl, Nat.le_of_ble_eq_true rfl⟩ ⟨Nat.le_of_ble_eq_true rfl, Nat.le_of_ble_eq_true rfl⟩ (fun v14 u12 H locs hw13 hP hD hS => ?_)
      obtain ⟨w, _⟩ := u12
      obtain ⟨hw13, hO⟩ := hw13
      obtain rfl : v14 = some (.ref (it k9)) := hw13
      have hO : OKP G h0 a F R Z B J K w := hO.to rfl
      refine W.widen (k := 0) (n := 0) (Nat.le_of_ble_eq_true rfl) (Nat.le_of_ble_eq_true rfl) ?_
      refine W.eq (g2 := F0 m 23 ls [.ref (it k9)]) rfl ?_
      have hf17 : K.1 (it k9) = 3 := hlm.T (by omega)
      refine p_cast (C := RX6) (Tc := TX6) (N := 12) (ci := 12) hx hb hown (hq _ pw_515) hE hP hO (by rw [hf17]; decide) (rep_3 hf17) rfl dX9_method_23 ?_
      refine lv_goto (tgt := 30) hx hb dX9_method_26 (by decide) ?_
      have hz18 : MoX K nm it x (some (it k9)) := (fun d h => by cases h; exact ⟨hf17, k9, by omega, ht_k9, rfl⟩)
      have hO : OKP G h0 a F R Z B J K w := hO.to rfl
      exact W.aret (v := .ref (it k9)) hx hb hr (Or.inl ⟨_, rfl⟩) (Or.inr ⟨_, rfl⟩) (fun t99 ht99 hW99 => ⟨⟨_, (w, (some (it k9))), rfl, ⟨rfl, hz18, hO⟩, by rw [ht99]; exact hP, hD⟩, hS.F ht99⟩) hS.2.2 dX9_method_30
theorem dX5_collect_0 : decode cX5_collect 0 = .ok (.aload_n 0, 1) := by decide +kernel
theorem dX5_collect_1 : decode cX5_collect 1 = .ok (.getfield 18, 3) := by decide +kernel
theorem dX5_collect_4 : decode cX5_collect 4 = .ok (.invokevirtual 289, 3) := by decide +kernel
theorem dX5_collect_7 : decode cX5_collect 7 = .ok (.aload_n 0, 1) := by decide +kernel
theorem dX5_collect_8 : decode cX5_collect 8 = .ok (.getfield 100, 3) := by decide +kernel
theorem dX5_collect_11 : decode cX5_collect 11 = .ok (.istore_n 1, 1) := by decide +kernel
theorem dX5_collect_12 : decode cX5_collect 12 = .ok (.aload_n 0, 1) := by decide +kernel
theorem dX5_collect_13 : decode cX5_collect 13 = .ok (.getfield 103, 3) := by decide +kernel
theorem dX5_collect_16 : decode cX5_collect 16 = .ok (.istore_n 2, 1) := by decide +kernel
theorem dX5_collect_17 : decode cX5_collect 17 = .ok (.aload_n 0, 1) := by decide +kernel
theorem dX5_collect_18 : decode cX5_collect 18 = .ok (.getfield 106, 3) := by decide +kernel
theorem dX5_collect_21 : decode cX5_collect 21 = .ok (.istore_n 3, 1) := by decide +kernel
theorem dX5_collect_22 : decode cX5_collect 22 = .ok (.aload_n 0, 1) := by decide +kernel
theorem dX5_collect_23 : decode cX5_collect 23 = .ok (.getfield 96, 3) := by decide +kernel
theorem dX5_collect_26 : decode cX5_collect 26 = .ok (.astore 4, 2) := by decide +kernel
theorem dX5_collect_28 : decode cX5_collect 28 = .ok (.aload_n 0, 1) := by decide +kernel
theorem dX5_collect_29 : decode cX5_collect 29 = .ok (.getfield 93, 3) := by decide +kernel
theorem dX5_collect_32 : decode cX5_collect 32 = .ok (.iconst 1, 1) := by decide +kernel
theorem dX5_collect_33 : decode cX5_collect 33 = .ok (.isub, 1) := by decide +kernel
theorem dX5_collect_34 : decode cX5_collect 34 = .ok (.istore 5, 2) := by decide +kernel
theorem dX5_collect_36 : decode cX5_collect 36 = .ok (.iload 5, 2) := by decide +kernel
theorem dX5_collect_38 : decode cX5_collect 38 = .ok (.ifCond .lt 147, 3) := by decide +kernel
theorem dX5_collect_185 : decode cX5_collect 185 = .ok (.aload_n 0, 1) := by decide +kernel
theorem dX5_collect_186 : decode cX5_collect 186 = .ok (.getfield 18, 3) := by decide +kernel
theorem dX5_collect_189 : decode cX5_collect 189 = .ok (.invokevirtual 313, 3) := by decide +kernel
theorem dX5_collect_192 : decode cX5_collect 192 = .ok (.return_, 1) := by decide +kernel
theorem dX5_collect_41 : decode cX5_collect 41 = .ok (.aload 4, 2) := by decide +kernel
theorem dX5_collect_43 : decode cX5_collect 43 = .ok (.ifnull 142, 3) := by decide +kernel
theorem dX5_collect_46 : decode cX5_collect 46 = .ok (.iload_n 1, 1) := by decide +kernel
theorem dX5_collect_47 : decode cX5_collect 47 = .ok (.aload_n 0, 1) := by decide +kernel
theorem dX5_collect_48 : decode cX5_collect 48 = .ok (.getfield 11, 3) := by decide +kernel
theorem dX5_collect_51 : decode cX5_collect 51 = .ok (.iload_n 3, 1) := by decide +kernel
theorem dX5_collect_52 : decode cX5_collect 52 = .ok (.invokevirtual 292, 3) := by decide +kernel
theorem dX5_collect_55 : decode cX5_collect 55 = .ok (.iadd, 1) := by decide +kernel
theorem dX5_collect_56 : decode cX5_collect 56 = .ok (.istore 6, 2) := by decide +kernel
theorem dX5_collect_58 : decode cX5_collect 58 = .ok (.iload_n 1, 1) := by decide +kernel
theorem dX5_collect_59 : decode cX5_collect 59 = .ok (.aload 4, 2) := by decide +kernel
theorem dX5_collect_61 : decode cX5_collect 61 = .ok (.getfield 295, 3) := by decide +kernel
theorem dX5_collect_64 : decode cX5_collect 64 = .ok (.iadd, 1) := by decide +kernel
theorem dX5_collect_65 : decode cX5_collect 65 = .ok (.istore 7, 2) := by decide +kernel
theorem dX5_collect_67 : decode cX5_collect 67 = .ok (.iload_n 1, 1) := by decide +kernel
theorem dX5_collect_68 : decode cX5_collect 68 = .ok (.iconst 0, 1) := by decide +kernel
theorem dX5_collect_69 : decode cX5_collect 69 = .ok (.invokestatic 300, 3) := by decide +kernel
theorem dX5_collect_72 : decode cX5_collect 72 = .ok (.istore 8, 2) := by decide +kernel
theorem dX5_collect_74 : decode cX5_collect 74 = .ok (.iload 8, 2) := by decide +kernel
theorem dX5_collect_76 : decode cX5_collect 76 = .ok (.iload_n 2, 1) := by decide +kernel
theorem dX5_collect_77 : decode cX5_collect 77 = .ok (.if_icmp .ge 58, 3) := by decide +kernel
theorem dX5_collect_135 : decode cX5_collect 135 = .ok (.iload_n 1, 1) := by decide +kernel
theorem dX5_collect_136 : decode cX5_collect 136 = .ok (.istore_n 2, 1) := by decide +kernel
theorem dX5_collect_137 : decode cX5_collect 137 = .ok (.aload_n 0, 1) := by decide +kernel
theorem dX5_collect_138 : decode cX5_collect 138 = .ok (.getfield 26, 3) := by decide +kernel
theorem dX5_collect_141 : decode cX5_collect 141 = .ok (.iconst 3, 1) := by decide +kernel
theorem dX5_collect_142 : decode cX5_collect 142 = .ok (.iload 5, 2) := by decide +kernel
theorem dX5_collect_144 : decode cX5_collect 144 = .ok (.imul, 1) := by decide +kernel
theorem dX5_collect_145 : decode cX5_collect 145 = .ok (.iaload, 1) := by decide +kernel
theorem dX5_collect_146 : decode cX5_collect 146 = .ok (.istore_n 3, 1) := by decide +kernel
theorem dX5_collect_147 : decode cX5_collect 147 = .ok (.aload_n 0, 1) := by decide +kernel
theorem dX5_collect_148 : decode cX5_collect 148 = .ok (.getfield 26, 3) := by decide +kernel
theorem dX5_collect_151 : decode cX5_collect 151 = .ok (.iconst 3, 1) := by decide +kernel
theorem dX5_collect_152 : decode cX5_collect 152 = .ok (.iload 5, 2) := by decide +kernel
theorem dX5_collect_154 : decode cX5_collect 154 = .ok (.imul, 1) := by decide +kernel
theorem dX5_collect_155 : decode cX5_collect 155 = .ok (.iconst 1, 1) := by decide +kernel
theorem dX5_collect_156 : decode cX5_collect 156 = .ok (.iadd, 1) := by decide +kernel
theorem dX5_collect_157 : decode cX5_collect 157 = .ok (.iaload, 1) := by decide +kernel
theorem dX5_collect_158 : decode cX5_collect 158 = .ok (.istore_n 1, 1) := by decide +kernel
theorem dX5_collect_159 : decode cX5_collect 159 = .ok (.aload_n 0, 1) := by decide +kernel
theorem dX5_collect_160 : decode cX5_collect 160 = .ok (.getfield 47, 3) := by decide +kernel
theorem dX5_collect_163 : decode cX5_collect 163 = .ok (.aload_n 0, 1) := by decide +kernel
theorem dX5_collect_164 : decode cX5_collect 164 = .ok (.getfield 26, 3) := by decide +kernel
theorem dX5_collect_167 : decode cX5_collect 167 = .ok (.iconst 3, 1) := by decide +kernel
theorem dX5_collect_168 : decode cX5_collect 168 = .ok (.iload 5, 2) := by decide +kernel
theorem dX5_collect_170 : decode cX5_collect 170 = .ok (.imul, 1) := by decide +kernel
theorem dX5_collect_171 : decode cX5_collect 171 = .ok (.iconst 2, 1) := by decide +kernel
theorem dX5_collect_172 : decode cX5_collect 172 = .ok (.iadd, 1) := by decide +kernel
theorem dX5_collect_173 : decode cX5_collect 173 = .ok (.iaload, 1) := by decide +kernel
theorem dX5_collect_174 : decode cX5_collect 174 = .ok (.invokevirtual 310, 3) := by decide +kernel
theorem dX5_collect_177 : decode cX5_collect 177 = .ok (.astore 4, 2) := by decide +kernel
theorem dX5_collect_179 : decode cX5_collect 179 = .ok (.iinc 5 (-1), 3) := by decide +kernel
theorem dX5_collect_182 : decode cX5_collect 182 = .ok (.goto (-146), 3) := by decide +kernel
theorem dX5_collect_80 : decode cX5_collect 80 = .ok (.iload 8, 2) := by decide +kernel
theorem dX5_collect_82 : decode cX5_collect 82 = .ok (.aload_n 0, 1) := by decide +kernel
theorem dX5_collect_83 : decode cX5_collect 83 = .ok (.getfield 22, 3) := by decide +kernel
theorem dX5_collect_86 : decode cX5_collect 86 = .ok (.arraylength, 1) := by decide +kernel
theorem dX5_collect_87 : decode cX5_collect 87 = .ok (.if_icmp .ge 48, 3) := by decide +kernel
theorem dX5_collect_90 : decode cX5_collect 90 = .ok (.aload_n 0, 1) := by decide +kernel
theorem dX5_collect_91 : decode cX5_collect 91 = .ok (.getfield 22, 3) := by decide +kernel
theorem dX5_collect_94 : decode cX5_collect 94 = .ok (.iload 8, 2) := by decide +kernel
theorem dX5_collect_96 : decode cX5_collect 96 = .ok (.iload 8, 2) := by decide +kernel
theorem dX5_collect_98 : decode cX5_collect 98 = .ok (.iload 6, 2) := by decide +kernel
theorem dX5_collect_100 : decode cX5_collect 100 = .ok (.if_icmp .lt 10, 3) := by decide +kernel
theorem dX5_collect_110 : decode cX5_collect 110 = .ok (.aload_n 0, 1) := by decide +kernel
theorem dX5_collect_111 : decode cX5_collect 111 = .ok (.getfield 18, 3) := by decide +kernel
theorem dX5_collect_114 : decode cX5_collect 114 = .ok (.aload_n 0, 1) := by decide +kernel
theorem dX5_collect_115 : decode cX5_collect 115 = .ok (.getfield 22, 3) := by decide +kernel
theorem dX5_collect_118 : decode cX5_collect 118 = .ok (.iload 8, 2) := by decide +kernel
theorem dX5_collect_120 : decode cX5_collect 120 = .ok (.laload, 1) := by decide +kernel
theorem dX5_collect_121 : decode cX5_collect 121 = .ok (.invokevirtual 306, 3) := by decide +kernel
theorem dX5_collect_124 : decode cX5_collect 124 = .ok (.goto 4, 3) := by decide +kernel
theorem dX5_collect_128 : decode cX5_collect 128 = .ok (.lastore, 1) := by decide +kernel
theorem dX5_collect_129 : decode cX5_collect 129 = .ok (.iinc 8 1, 3) := by decide +kernel
theorem dX5_collect_132 : decode cX5_collect 132 = .ok (.goto (-58), 3) := by decide +kernel
theorem dX5_collect_103 : decode cX5_collect 103 = .ok (.iload 8, 2) := by decide +kernel
theorem dX5_collect_105 : decode cX5_collect 105 = .ok (.iload 7, 2) := by decide +kernel
theorem dX5_collect_107 : decode cX5_collect 107 = .ok (.if_icmp .lt 20, 3) := by decide +kernel
theorem dX5_collect_127 : decode cX5_collect 127 = .ok (.lconst 0, 1) := by decide +kernel
theorem hV_X3_beginCollecting : yX3_beginCollecting.cls = RX3 ∧ yX3_beginCollecting.cls ≠ "java/lang/invoke/MethodHandle" ∧ yX3_beginCollecting.cls ≠ "java/lang/invoke/VarHandle" ∧ (parseMethodDescriptor yX3_beginCollecting.desc).map (fun d => d.parameters.length) = some 0 := by decide +kernel
theorem hV_X3_endCollecting : yX3_endCollecting.cls = RX3 ∧ yX3_endCollecting.cls ≠ "java/lang/invoke/MethodHandle" ∧ yX3_endCollecting.cls ≠ "java/lang/invoke/VarHandle" ∧ (parseMethodDescriptor yX3_endCollecting.desc).map (fun d => d.parameters.length) = some 0 := by decide +kernel
theorem hV_X1_heldAt : yX1_heldAt.cls = RX1 ∧ yX1_heldAt.cls ≠ "java/lang/invoke/MethodHandle" ∧ yX1_heldAt.cls ≠ "java/lang/invoke/VarHandle" ∧ (parseMethodDescriptor yX1_heldAt.desc).map (fun d => d.parameters.length) = some 1 := by decide +kernel
theorem hV_X9_method : yX9_method.cls = RX9 ∧ yX9_method.cls ≠ "java/lang/invoke/MethodHandle" ∧ yX9_method.cls ≠ "java/lang/invoke/VarHandle" ∧ (parseMethodDescriptor yX9_method.desc).map (fun d => d.parameters.length) = some 1 := by decide +kernel
set_option maxHeartbeats 40000000 in
set_option maxRecDepth 100000 in
theorem M_collect (l : Launch) (G : pT) (h0 : Nat) (a : Nat → Nat) (F : Nat → Int32) (R : Nat → Value) (Z : Int64) (B : Nat → Nat → Int32) (J : Nat → Nat → Int64) (K : PK) (w : va_W) (sp : Nat) (op : Nat) (ht : Nat) (pq : Nat) (dr : Nat) (ml : Nat) (nd : Nat) (nm : Nat) (cp : Nat) (it : Nat → Nat) (s9 : Nat) (g : Nat → Nat → Nat) (rk : Nat → Nat) (ba : Nat) (on : Nat) (mo : Option Nat) (tp : Nat) (cs : Nat) (hsp : (sp = 34 ∧ op = 35) ∨ (sp = 35 ∧ op = 34)) (hht : 8 ≤ ht ∧ ht ≤ 3008) (hwp : WPr G K g) (hps : PgT G K g (a 1) pq dr ml nd nm cp it s9) (hrk : RkO K rk) (hba : ba ≤ 32000) (hon : on ≤ 100) (hms : MsO K mo ba) (hfr : FrO K nm it (B 30) on) (htp : tp ≤ 32000) (hcs : cs ≤ 10000) (hO : OKP G h0 a (upd (upd (upd (upd (upd F 5 (nI cs)) 18 (nI ba)) 19 (nI tp)) 22 (nI on)) 26 (nI ht)) (updR (updR (updR (updR R 5 (.ref pq)) 6 (va_rf mo)) 7 (.ref (a sp))) 8 (.ref (a op))) Z B J K w) : PM l G pX0 yX5_collect cX5_collect 9 none ({ frames := 6, cells := 0, slots := 0, locals := 145 }) [.ref (a 5)] w (fun (v : Option Value) (u : va_W × ((Nat → Nat → Int64) × Nat × Nat × Nat × Int32)) => v = none ∧ (8 ≤ u.2.2.2.2.1 ∧ u.2.2.2.2.1 ≤ 3008) ∧ ((u.2.2.1 = 34 ∧ u.2.2.2.1 = 35) ∨ (u.2.2.1 = 35 ∧ u.2.2.2.1 = 34)) ∧ (OKP G h0 a (upd (upd (upd (upd (upd (upd F 5 (nI cs)) 18 (nI ba)) 19 (nI tp)) 22 (nI on)) 26 (nI u.2.2.2.2.1)) 27 u.2.2.2.2.2) (updR (updR (updR (updR R 5 (.ref pq)) 6 (va_rf mo)) 7 (.ref (a u.2.2.1))) 8 (.ref (a u.2.2.2.1))) Z B u.2.1 K u.1)) (fun u => u.1) := by
  intro sz
  refine Met.ofW (cc := cX5_collect) (maxL := 9) (ret := none) (by decide) rfl ?_
  intro p e s m args below meth c s₁ B9 hml hv
  obtain ⟨rfl, hsz, hP, hD0, hE, hX⟩ := hv
  have hx := B9.exec
  have hb := B9.bytes
  have hr := B9.returns
  have hts := atoms_spec (ws := Cond.code yX5_collect cX5_collect 9 none :: pw) B9.pre
  have hq : ∀ w ∈ pw, w.before _ s = true := fun w h => hts w (List.mem_cons_of_mem _ h)
  have hown : s.vm.findClass RX5 = some m.cls := findClass_of_methodNamed B9.named
  have hlocks := B9.notSynchronized
  subst hsz
  have hD := hD0.self (sz := s.heap.size)
  have hA : ∀ q : Nat, s.heap.size ≤ q → va_A w s.heap.size q := fun q h => Or.inr h
  generalize va_A w s.heap.size = A at hD hE hA ⊢
  have hS : va_S A s.heap s.heap [] := va_S.rf
  have hl := lv_entry ([.ref (a 5)]) (n := 9) (Nat.le_of_ble_eq_true rfl)
  rw [lg_entry_eq]
  generalize (lg_sl ([.ref (a 5)]) ++ List.replicate (9 - (lg_sl ([.ref (a 5)])).length) Slot.unset).toArray = ls at hl ⊢
  have hl : lv_has ls 9 [(0, .ref (a 5))] := hl
  have hpg := hps.1
  have hp1 := hpg.1
  have hp2 := hpg.2.1
  have hp3 := hpg.2.2.1
  have hp4 := hpg.2.2.2.1
  have hp5 := hpg.2.2.2.2.1
  have hp6 := hpg.2.2.2.2.2.1
  have hp8 := hpg.2.2.2.2.2.2.2.1
  have hp9 := hpg.2.2.2.2.2.2.2.2
  rcases mo with _ | mq
  · have hl : lv_has ls 9 [(0, .ref (a 5))] := hl
    refine W.eq (g2 := F0 m 0 ls []) rfl ?_
    have hO : OKP G h0 a (upd (upd (upd (upd (upd F 5 (nI cs)) 18 (nI ba)) 19 (nI tp)) 22 (nI on)) 26 (nI ht)) (updR (updR (updR (updR R 5 (.ref pq)) 6 (.null)) 7 (.ref (a sp))) 8 (.ref (a op))) Z B J K w := hO.to rfl
    refine lv_aload_n hx hb dX5_collect_0 rfl (lv_at hl 0 rfl) ?_
    refine c_get (v := .ref (a 28)) (C := RX5) (Tc := TX5) (N := 19) (ci := 4) hx hb hq pin_wsX50 hown hE hP hO 28 (sg_28 G h0 a _ _ _ _ _) rfl 1 (by decide) (hq _ pw_473) (fun _ h9 => h9) rfl dX5_collect_1 ?_
    have hO : OKW G h0 a (upd (upd (upd (upd (upd F 5 (nI cs)) 18 (nI ba)) 19 (nI tp)) 22 (nI on)) 26 (nI ht)) (updR (updR (updR (updR R 5 (.ref pq)) 6 (.null)) 7 (.ref (a sp))) 8 (.ref (a op))) Z B J K.1 (fun q99 x99 => x99 = rep G a K q99) w := hO.to rfl
    obtain ⟨_, qr4, hqr5⟩ := hO.2.1 29 _ (sg_29 G h0 a _ _ _ _ _)
    refine pc_V0 (G := G) (As := []) (rest := []) hx hb hml hown hq hE hX pX0_al hP hD hS hA hl.1 (K_beginCollecting l G h0 a (upd (upd (upd (upd (upd F 5 (nI cs)) 18 (nI ba)) 19 (nI tp)) 22 (nI on)) 26 (nI ht)) (updR (updR (updR (updR R 5 (.ref pq)) 6 (.null)) 7 (.ref (a sp))) 8 (.ref (a op))) Z B J K.1 (fun q99 x99 => x99 = rep G a K q99) w hO) (gV pw_521 pw_522 pw_523 pw_440 pw_457) hV_X3_beginCollecting qr4 3 hqr5 rfl rfl rfl (Nat.le_of_ble_eq_true rfl) dX5_collect_4 ⟨Nat.le_of_ble_eq_true rfl, Nat.le_of_ble_eq_true rfl⟩ ⟨Nat.le_of_ble_eq_true rfl, Nat.le_of_ble_eq_true rfl⟩ (fun v3 u1 H locs hw2 hP hD hS => ?_)
    obtain ⟨w, _⟩ := u1
    obtain ⟨hw2, hO⟩ := hw2
    obtain rfl : v3 = none := hw2
    have hO : OKP G h0 a (upd (upd (upd (upd (upd (upd F 5 (nI cs)) 18 (nI ba)) 19 (nI tp)) 22 (nI on)) 26 (nI ht)) 27 8) (updR (updR (updR (updR R 5 (.ref pq)) 6 (.null)) 7 (.ref (a sp))) 8 (.ref (a op))) Z B J K w := hO.to rfl
    refine W.widen (k := 0) (n := 0) (Nat.le_of_ble_eq_true rfl) (Nat.le_of_ble_eq_true rfl) ?_
    refine W.eq (g2 := F0 m 7 ls []) rfl ?_
    refine lv_aload_n hx hb dX5_collect_7 rfl (lv_at hl 0 rfl) ?_
    refine c_get (v := .int (nI ba)) (C := RX5) (Tc := TX5) (N := 19) (ci := 4) hx hb hq pin_wsX50 hown hE hP hO 28 (sg_28 G h0 a _ _ _ _ _) rfl 10 (by decide) (hq _ pw_504) (fun _ h9 => h9) rfl dX5_collect_8 ?_
    refine lv_istore_n (lv' := [(1, .int (nI ba)), (0, .ref (a 5))]) hx hb dX5_collect_11 rfl hl (by decide) rfl (fun ls hl => ?_)
    refine lv_aload_n hx hb dX5_collect_12 rfl (lv_at hl 1 rfl) ?_
    refine c_get (v := .int (nI tp)) (C := RX5) (Tc := TX5) (N := 19) (ci := 4) hx hb hq pin_wsX50 hown hE hP hO 28 (sg_28 G h0 a _ _ _ _ _) rfl 11 (by decide) (hq _ pw_505) (fun _ h9 => h9) rfl dX5_collect_13 ?_
    refine lv_istore_n (lv' := [(2, .int (nI tp)), (1, .int (nI ba)), (0, .ref (a 5))]) hx hb dX5_collect_16 rfl hl (by decide) rfl (fun ls hl => ?_)
    refine lv_aload_n hx hb dX5_collect_17 rfl (lv_at hl 2 rfl) ?_
    refine c_get (v := .int (F 20)) (C := RX5) (Tc := TX5) (N := 19) (ci := 4) hx hb hq pin_wsX50 hown hE hP hO 28 (sg_28 G h0 a _ _ _ _ _) rfl 12 (by decide) (hq _ pw_506) (fun _ h9 => h9) rfl dX5_collect_18 ?_
    refine lv_istore_n (lv' := [(3, .int (F 20)), (2, .int (nI tp)), (1, .int (nI ba)), (0, .ref (a 5))]) hx hb dX5_collect_21 rfl hl (by decide) rfl (fun ls hl => ?_)
    refine lv_aload_n hx hb dX5_collect_22 rfl (lv_at hl 3 rfl) ?_
    refine c_get (v := .null) (C := RX5) (Tc := TX5) (N := 19) (ci := 4) hx hb hq pin_wsX50 hown hE hP hO 28 (sg_28 G h0 a _ _ _ _ _) rfl 9 (by decide) (hq _ pw_503) (fun _ h9 => h9) rfl dX5_collect_23 ?_
    refine lv_astoreN (lv' := [(4, .null), (3, .int (F 20)), (2, .int (nI tp)), (1, .int (nI ba)), (0, .ref (a 5))]) hx hb dX5_collect_26 hl (by decide) rfl (fun ls hl => ?_)
    refine lv_aload_n hx hb dX5_collect_28 rfl (lv_at hl 4 rfl) ?_
    refine c_get (v := .int (nI on)) (C := RX5) (Tc := TX5) (N := 19) (ci := 4) hx hb hq pin_wsX50 hown hE hP hO 28 (sg_28 G h0 a _ _ _ _ _) rfl 15 (by decide) (hq _ pw_502) (fun _ h9 => h9) rfl dX5_collect_29 ?_
    refine lv_iconst (v := 1) hx hb dX5_collect_32 (by decide) ?_
    refine lv_isub hx hb dX5_collect_33 ?_
    refine lv_topi (fun x6 e7 => ?_)
    refine lv_istore (lv' := [(5, .int x6), (4, .null), (3, .int (F 20)), (2, .int (nI tp)), (1, .int (nI ba)), (0, .ref (a 5))]) hx hb dX5_collect_34 hl (by decide) rfl (fun ls hl => ?_)
    have loop_c : ∀ (n_c : Nat) (k2 : Nat) (fi2 : Nat) (fe2 : Int32) (at2 : Int32) (cl : Int32) (c2 : Nat) (ot2 : Nat) (o2 : Option Nat) (J2 : Nat → Nat → Int64) (H : Heap) (locs : List Loc) (ls : Array Slot) (w : va_W), k2 ≤ on → on + 1 ≤ k2 + n_c → (fi2 ≤ 32000) → (cl = nI c2 - 1) → (c2 + k2 = on) → (8 ≤ ot2 ∧ ot2 ≤ 3008) → (MoN K o2) → va_P G.1 pCl w H → va_D A w → va_S A s.heap H locs → OKP G h0 a (upd (upd (upd (upd (upd (upd F 5 (nI cs)) 18 (nI ba)) 19 (nI tp)) 22 (nI on)) 26 (nI ht)) 27 (nI ot2)) (updR (updR (updR (updR R 5 (.ref pq)) 6 (va_rf none)) 7 (.ref (a sp))) 8 (.ref (a op))) Z B J2 K w → lv_has ls 9 [(5, .int cl), (4, va_rf o2), (3, .int at2), (2, .int fe2), (1, .int (nI fi2)), (0, .ref (a 5))] → W p l e (headSpec (Cond.code yX5_collect cX5_collect 9 none :: pw) ({ frames := 6, cells := 0, slots := 0, locals := 145 } : Room)).room s m ([.ref (a 5)] : List Value).toArray below meth c H locs 0 0 (MQ below (pQ G A (fun (v : Option Value) (u : va_W × ((Nat → Nat → Int64) × Nat × Nat × Nat × Int32)) => v = none ∧ (8 ≤ u.2.2.2.2.1 ∧ u.2.2.2.2.1 ≤ 3008) ∧ ((u.2.2.1 = 34 ∧ u.2.2.2.1 = 35) ∨ (u.2.2.1 = 35 ∧ u.2.2.2.1 = 34)) ∧ (OKP G h0 a (upd (upd (upd (upd (upd (upd F 5 (nI cs)) 18 (nI ba)) 19 (nI tp)) 22 (nI on)) 26 (nI u.2.2.2.2.1)) 27 u.2.2.2.2.2) (updR (updR (updR (updR R 5 (.ref pq)) 6 (va_rf none)) 7 (.ref (a u.2.2.1))) 8 (.ref (a u.2.2.2.1))) Z B u.2.1 K u.1)) (fun u => u.1)) ([.ref (a 5)] : List Value).toArray s ({ frames := 6, cells := 0, slots := 0, locals := 145 } : Room).cells ({ frames := 6, cells := 0, slots := 0, locals := 145 } : Room).slots A) (F0 m 36 ls []) := by
      intro n_c
      induction n_c with
      | zero => intro k2 fi2 fe2 at2 cl c2 ot2 o2 J2 H locs ls w hk_c hn_c; omega
      | succ n_c ih_c =>
        intro k2 fi2 fe2 at2 cl c2 ot2 o2 J2 H locs ls w hk_c hn_c hfi2 hcl hck hot2 ho2 hP hD hS hO hl
        rcases o2 with _ | x9
        · have hl : lv_has ls 9 [(5, .int cl), (4, .null), (3, .int at2), (2, .int fe2), (1, .int (nI fi2)), (0, .ref (a 5))] := hl
          refine W.eq (g2 := F0 m 36 ls []) rfl ?_
          refine lv_iload hx hb dX5_collect_36 (lv_at hl 0 rfl) ?_
          refine lv_if_lt (tgt := 185) hx hb dX5_collect_38 (by decide) (fun c8 => ?_) (fun c8 => ?_)
          · refine lv_aload_n hx hb dX5_collect_185 rfl (lv_at hl 5 rfl) ?_
            refine c_get (v := .ref (a 28)) (C := RX5) (Tc := TX5) (N := 19) (ci := 4) hx hb hq pin_wsX50 hown hE hP hO 28 (sg_28 G h0 a _ _ _ _ _) rfl 1 (by decide) (hq _ pw_473) (fun _ h9 => h9) rfl dX5_collect_186 ?_
            have hO : OKW G h0 a (upd (upd (upd (upd (upd (upd (upd (upd F 5 (nI cs)) 18 (nI ba)) 19 (nI tp)) 22 (nI on)) 26 (nI ht)) 27 (nI ot2)) 26 (nI ht)) 27 (nI ot2)) (updR (updR (updR (updR (updR (updR R 5 (.ref pq)) 6 (va_rf none)) 7 (.ref (a sp))) 8 (.ref (a op))) 7 (.ref (a sp))) 8 (.ref (a op))) Z B J2 K.1 (fun q99 x99 => x99 = rep G a K q99) w := hO.to rfl
            obtain ⟨_, qr12, hqr13⟩ := hO.2.1 29 _ (sg_29 G h0 a _ _ _ _ _)
            refine pc_V0 (G := G) (As := []) (rest := []) hx hb hml hown hq hE hX pX0_al hP hD hS hA hl.1 (K_endCollecting l G h0 a (upd (upd (upd (upd (upd (upd F 5 (nI cs)) 18 (nI ba)) 19 (nI tp)) 22 (nI on)) 26 (nI ht)) 27 (nI ot2)) (updR (updR (updR (updR R 5 (.ref pq)) 6 (va_rf none)) 7 (.ref (a sp))) 8 (.ref (a op))) Z B J2 K.1 (fun q99 x99 => x99 = rep G a K q99) w sp op ht ot2 hsp (by omega) (by omega) hO) (gV pw_531 pw_532 pw_533 pw_440 pw_464) hV_X3_endCollecting qr12 3 hqr13 rfl rfl rfl (Nat.le_of_ble_eq_true rfl) dX5_collect_189 ⟨Nat.le_of_ble_eq_true rfl, Nat.le_of_ble_eq_true rfl⟩ ⟨Nat.le_of_ble_eq_true rfl, Nat.le_of_ble_eq_true rfl⟩ (fun v11 u9 H locs hw10 hP hD hS => ?_)
            obtain ⟨w, sp14, op15, ht16, ot17, J18⟩ := u9
            obtain ⟨hw10, h19, h20, h21, hO⟩ := hw10
            have h19 : 8 ≤ ht16 ∧ ht16 ≤ 3008 := h19
            have h20 : 8 ≤ ot17 ∧ ot17 ≤ 3008 := h20
            have h21 : (sp14 = 34 ∧ op15 = 35) ∨ (sp14 = 35 ∧ op15 = 34) := h21
            obtain rfl : v11 = none := hw10
            have hO : OKP G h0 a (upd (upd (upd (upd (upd (upd F 5 (nI cs)) 18 (nI ba)) 19 (nI tp)) 22 (nI on)) 26 (nI ht16)) 27 (nI ot17)) (updR (updR (updR (updR R 5 (.ref pq)) 6 (va_rf none)) 7 (.ref (a sp14))) 8 (.ref (a op15))) Z B J18 K w := hO.to rfl
            refine W.widen (k := 0) (n := 0) (Nat.le_of_ble_eq_true rfl) (Nat.le_of_ble_eq_true rfl) ?_
            refine W.eq (g2 := F0 m 192 ls []) rfl ?_
            have hz22 : 8 ≤ ht16 ∧ ht16 ≤ 3008 := (by omega)
            have hz23 : (sp14 = 34 ∧ op15 = 35) ∨ (sp14 = 35 ∧ op15 = 34) := (by omega)
            have hO : OKP G h0 a (upd (upd (upd (upd (upd (upd F 5 (nI cs)) 18 (nI ba)) 19 (nI tp)) 22 (nI on)) 26 (nI ht16)) 27 (nI ot17)) (updR (updR (updR (updR R 5 (.ref pq)) 6 (va_rf none)) 7 (.ref (a sp14))) 8 (.ref (a op15))) Z B J18 K w := hO.to rfl
            exact W.vret hx hb hr (fun t99 ht99 hW99 => ⟨⟨_, (w, (J18, sp14, op15, ht16, (nI ot17))), rfl, ⟨rfl, hz22, hz23, hO⟩, by rw [ht99]; exact hP, hD⟩, hS.F ht99⟩) hS.2.2 dX5_collect_192
          · obtain ⟨hc1, hc9⟩ := pred_nn hcl (by omega) c8
            obtain ⟨bj, hbj, hfj, hfk⟩ := hfr (c2 - 1) (by omega)
            rw [hc9] at hl
            refine lv_aloadN hx hb dX5_collect_41 (lv_at hl 1 rfl) ?_
            refine lv_ifnullN (tgt := 185) hx hb dX5_collect_43 (by decide) ?_
            refine lv_aload_n hx hb dX5_collect_185 rfl (lv_at hl 5 rfl) ?_
            refine c_get (v := .ref (a 28)) (C := RX5) (Tc := TX5) (N := 19) (ci := 4) hx hb hq pin_wsX50 hown hE hP hO 28 (sg_28 G h0 a _ _ _ _ _) rfl 1 (by decide) (hq _ pw_473) (fun _ h9 => h9) rfl dX5_collect_186 ?_
            have hO : OKW G h0 a (upd (upd (upd (upd (upd (upd (upd (upd F 5 (nI cs)) 18 (nI ba)) 19 (nI tp)) 22 (nI on)) 26 (nI ht)) 27 (nI ot2)) 26 (nI ht)) 27 (nI ot2)) (updR (updR (updR (updR (updR (updR R 5 (.ref pq)) 6 (va_rf none)) 7 (.ref (a sp))) 8 (.ref (a op))) 7 (.ref (a sp))) 8 (.ref (a op))) Z B J2 K.1 (fun q99 x99 => x99 = rep G a K q99) w := hO.to rfl
            obtain ⟨_, qr27, hqr28⟩ := hO.2.1 29 _ (sg_29 G h0 a _ _ _ _ _)
            refine pc_V0 (G := G) (As := []) (rest := []) hx hb hml hown hq hE hX pX0_al hP hD hS hA hl.1 (K_endCollecting l G h0 a (upd (upd (upd (upd (upd (upd F 5 (nI cs)) 18 (nI ba)) 19 (nI tp)) 22 (nI on)) 26 (nI ht)) 27 (nI ot2)) (updR (updR (updR (updR R 5 (.ref pq)) 6 (va_rf none)) 7 (.ref (a sp))) 8 (.ref (a op))) Z B J2 K.1 (fun q99 x99 => x99 = rep G a K q99) w sp op ht ot2 hsp (by omega) (by omega) hO) (gV pw_531 pw_532 pw_533 pw_440 pw_464) hV_X3_endCollecting qr27 3 hqr28 rfl rfl rfl (Nat.le_of_ble_eq_true rfl) dX5_collect_189 ⟨Nat.le_of_ble_eq_true rfl, Nat.le_of_ble_eq_true rfl⟩ ⟨Nat.le_of_ble_eq_true rfl, Nat.le_of_ble_eq_true rfl⟩ (fun v26 u24 H locs hw25 hP hD hS => ?_)
            obtain ⟨w, sp29, op30, ht31, ot32, J33⟩ := u24
            obtain ⟨hw25, h34, h35, h36, hO⟩ := hw25
            have h34 : 8 ≤ ht31 ∧ ht31 ≤ 3008 := h34
            have h35 : 8 ≤ ot32 ∧ ot32 ≤ 3008 := h35
            have h36 : (sp29 = 34 ∧ op30 = 35) ∨ (sp29 = 35 ∧ op30 = 34) := h36
            obtain rfl : v26 = none := hw25
            have hO : OKP G h0 a (upd (upd (upd (upd (upd (upd F 5 (nI cs)) 18 (nI ba)) 19 (nI tp)) 22 (nI on)) 26 (nI ht31)) 27 (nI ot32)) (updR (updR (updR (updR R 5 (.ref pq)) 6 (va_rf none)) 7 (.ref (a sp29))) 8 (.ref (a op30))) Z B J33 K w := hO.to rfl
            refine W.widen (k := 0) (n := 0) (Nat.le_of_ble_eq_true rfl) (Nat.le_of_ble_eq_true rfl) ?_
            refine W.eq (g2 := F0 m 192 ls []) rfl ?_
            have hz37 : 8 ≤ ht31 ∧ ht31 ≤ 3008 := (by omega)
            have hz38 : (sp29 = 34 ∧ op30 = 35) ∨ (sp29 = 35 ∧ op30 = 34) := (by omega)
            have hO : OKP G h0 a (upd (upd (upd (upd (upd (upd F 5 (nI cs)) 18 (nI ba)) 19 (nI tp)) 22 (nI on)) 26 (nI ht31)) 27 (nI ot32)) (updR (updR (updR (updR R 5 (.ref pq)) 6 (va_rf none)) 7 (.ref (a sp29))) 8 (.ref (a op30))) Z B J33 K w := hO.to rfl
            exact W.vret hx hb hr (fun t99 ht99 hW99 => ⟨⟨_, (w, (J33, sp29, op30, ht31, (nI ot32))), rfl, ⟨rfl, hz37, hz38, hO⟩, by rw [ht99]; exact hP, hD⟩, hS.F ht99⟩) hS.2.2 dX5_collect_192
        · have hl : lv_has ls 9 [(5, .int cl), (4, .ref x9), (3, .int at2), (2, .int fe2), (1, .int (nI fi2)), (0, .ref (a 5))] := hl
          refine W.eq (g2 := F0 m 36 ls []) rfl ?_
          have hxT := ho2 x9 rfl
          refine lv_iload hx hb dX5_collect_36 (lv_at hl 0 rfl) ?_
          refine lv_if_lt (tgt := 185) hx hb dX5_collect_38 (by decide) (fun c39 => ?_) (fun c39 => ?_)
          · refine lv_aload_n hx hb dX5_collect_185 rfl (lv_at hl 5 rfl) ?_
            refine c_get (v := .ref (a 28)) (C := RX5) (Tc := TX5) (N := 19) (ci := 4) hx hb hq pin_wsX50 hown hE hP hO 28 (sg_28 G h0 a _ _ _ _ _) rfl 1 (by decide) (hq _ pw_473) (fun _ h9 => h9) rfl dX5_collect_186 ?_
            have hO : OKW G h0 a (upd (upd (upd (upd (upd (upd (upd (upd F 5 (nI cs)) 18 (nI ba)) 19 (nI tp)) 22 (nI on)) 26 (nI ht)) 27 (nI ot2)) 26 (nI ht)) 27 (nI ot2)) (updR (updR (updR (updR (updR (updR R 5 (.ref pq)) 6 (va_rf none)) 7 (.ref (a sp))) 8 (.ref (a op))) 7 (.ref (a sp))) 8 (.ref (a op))) Z B J2 K.1 (fun q99 x99 => x99 = rep G a K q99) w := hO.to rfl
            obtain ⟨_, qr43, hqr44⟩ := hO.2.1 29 _ (sg_29 G h0 a _ _ _ _ _)
            refine pc_V0 (G := G) (As := []) (rest := []) hx hb hml hown hq hE hX pX0_al hP hD hS hA hl.1 (K_endCollecting l G h0 a (upd (upd (upd (upd (upd (upd F 5 (nI cs)) 18 (nI ba)) 19 (nI tp)) 22 (nI on)) 26 (nI ht)) 27 (nI ot2)) (updR (updR (updR (updR R 5 (.ref pq)) 6 (va_rf none)) 7 (.ref (a sp))) 8 (.ref (a op))) Z B J2 K.1 (fun q99 x99 => x99 = rep G a K q99) w sp op ht ot2 hsp (by omega) (by omega) hO) (gV pw_531 pw_532 pw_533 pw_440 pw_464) hV_X3_endCollecting qr43 3 hqr44 rfl rfl rfl (Nat.le_of_ble_eq_true rfl) dX5_collect_189 ⟨Nat.le_of_ble_eq_true rfl, Nat.le_of_ble_eq_true rfl⟩ ⟨Nat.le_of_ble_eq_true rfl, Nat.le_of_ble_eq_true rfl⟩ (fun v42 u40 H locs hw41 hP hD hS => ?_)
            obtain ⟨w, sp45, op46, ht47, ot48, J49⟩ := u40
            obtain ⟨hw41, h50, h51, h52, hO⟩ := hw41
            have h50 : 8 ≤ ht47 ∧ ht47 ≤ 3008 := h50
            have h51 : 8 ≤ ot48 ∧ ot48 ≤ 3008 := h51
            have h52 : (sp45 = 34 ∧ op46 = 35) ∨ (sp45 = 35 ∧ op46 = 34) := h52
            obtain rfl : v42 = none := hw41
            have hO : OKP G h0 a (upd (upd (upd (upd (upd (upd F 5 (nI cs)) 18 (nI ba)) 19 (nI tp)) 22 (nI on)) 26 (nI ht47)) 27 (nI ot48)) (updR (updR (updR (updR R 5 (.ref pq)) 6 (va_rf none)) 7 (.ref (a sp45))) 8 (.ref (a op46))) Z B J49 K w := hO.to rfl
            refine W.widen (k := 0) (n := 0) (Nat.le_of_ble_eq_true rfl) (Nat.le_of_ble_eq_true rfl) ?_
            refine W.eq (g2 := F0 m 192 ls []) rfl ?_
            have hz53 : 8 ≤ ht47 ∧ ht47 ≤ 3008 := (by omega)
            have hz54 : (sp45 = 34 ∧ op46 = 35) ∨ (sp45 = 35 ∧ op46 = 34) := (by omega)
            have hO : OKP G h0 a (upd (upd (upd (upd (upd (upd F 5 (nI cs)) 18 (nI ba)) 19 (nI tp)) 22 (nI on)) 26 (nI ht47)) 27 (nI ot48)) (updR (updR (updR (updR R 5 (.ref pq)) 6 (va_rf none)) 7 (.ref (a sp45))) 8 (.ref (a op46))) Z B J49 K w := hO.to rfl
            exact W.vret hx hb hr (fun t99 ht99 hW99 => ⟨⟨_, (w, (J49, sp45, op46, ht47, (nI ot48))), rfl, ⟨rfl, hz53, hz54, hO⟩, by rw [ht99]; exact hP, hD⟩, hS.F ht99⟩) hS.2.2 dX5_collect_192
          · obtain ⟨hc1, hc9⟩ := pred_nn hcl (by omega) c39
            obtain ⟨bj, hbj, hfj, hfk⟩ := hfr (c2 - 1) (by omega)
            rw [hc9] at hl
            refine lv_aload hx hb dX5_collect_41 (lv_at hl 1 rfl) ?_
            refine lv_ifnull hx hb dX5_collect_43 ?_
            refine lv_iload_n hx hb dX5_collect_46 rfl (lv_at hl 4 rfl) ?_
            refine lv_aload_n hx hb dX5_collect_47 rfl (lv_at hl 5 rfl) ?_
            refine c_get (v := .ref (a 2)) (C := RX5) (Tc := TX5) (N := 19) (ci := 4) hx hb hq pin_wsX50 hown hE hP hO 28 (sg_28 G h0 a _ _ _ _ _) rfl 0 (by decide) (hq _ pw_470) (fun _ h9 => h9) rfl dX5_collect_48 ?_
            refine lv_iload_n hx hb dX5_collect_51 rfl (lv_at hl 2 rfl) ?_
            have hO : OKW G h0 a (upd (upd (upd (upd (upd (upd (upd F 5 (nI cs)) 18 (nI ba)) 19 (nI tp)) 22 (nI on)) 26 (nI ht)) 27 (nI ot2)) 5 (nI cs)) (updR (updR (updR (updR R 5 (.ref pq)) 6 (va_rf none)) 7 (.ref (a sp))) 8 (.ref (a op))) Z B J2 K.1 (fun q99 x99 => x99 = rep G a K q99) w := hO.to rfl
            obtain ⟨_, qr58, hqr59⟩ := hO.2.1 13 _ (sg_13 G h0 a _ _ _ _ _)
            refine pc_V0 (G := G) (As := [.int at2]) (rest := [.int (nI fi2)]) hx hb hml hown hq hE hX pX0_al hP hD hS hA hl.1 (K_heldAt l G h0 a (upd (upd (upd (upd (upd (upd F 5 (nI cs)) 18 (nI ba)) 19 (nI tp)) 22 (nI on)) 26 (nI ht)) 27 (nI ot2)) (updR (updR (updR (updR R 5 (.ref pq)) 6 (va_rf none)) 7 (.ref (a sp))) 8 (.ref (a op))) Z B J2 K.1 (fun q99 x99 => x99 = rep G a K q99) w at2 cs (by omega) hO) (gV pw_524 pw_525 pw_526 pw_70 pw_382) hV_X1_heldAt qr58 1 hqr59 rfl rfl rfl (Nat.le_of_ble_eq_true rfl) dX5_collect_52 ⟨Nat.le_of_ble_eq_true rfl, Nat.le_of_ble_eq_true rfl⟩ ⟨Nat.le_of_ble_eq_true rfl, Nat.le_of_ble_eq_true rfl⟩ (fun v57 u55 H locs hw56 hP hD hS => ?_)
            obtain ⟨w, r60⟩ := u55
            obtain ⟨hw56, hO⟩ := hw56
            obtain rfl : v57 = some (.int r60) := hw56
            have hO : OKP G h0 a (upd (upd (upd (upd (upd (upd F 5 (nI cs)) 18 (nI ba)) 19 (nI tp)) 22 (nI on)) 26 (nI ht)) 27 (nI ot2)) (updR (updR (updR (updR R 5 (.ref pq)) 6 (va_rf none)) 7 (.ref (a sp))) 8 (.ref (a op))) Z B J2 K w := hO.to rfl
            refine W.widen (k := 0) (n := 0) (Nat.le_of_ble_eq_true rfl) (Nat.le_of_ble_eq_true rfl) ?_
            refine W.eq (g2 := F0 m 55 ls [.int r60, .int (nI fi2)]) rfl ?_
            refine lv_iadd hx hb dX5_collect_55 ?_
            refine lv_topi (fun x61 e62 => ?_)
            refine lv_istore (lv' := [(6, .int x61), (5, .int (nI (c2 - 1))), (4, .ref x9), (3, .int at2), (2, .int fe2), (1, .int (nI fi2)), (0, .ref (a 5))]) hx hb dX5_collect_56 hl (by decide) rfl (fun ls hl => ?_)
            refine lv_iload_n hx hb dX5_collect_58 rfl (lv_at hl 5 rfl) ?_
            refine lv_aload hx hb dX5_collect_59 (lv_at hl 2 rfl) ?_
            refine p_get (v := .int (K.2.1 12 x9)) (C := RX6) (Tc := TX6) (N := 12) (ci := 12) hx hb hq pin_wsX60 hown hE hP hO (by rw [hxT]; decide) (rep_3 hxT) rfl 9 (by decide) (hq _ pw_519) (fun _ h9 => h9) rfl dX5_collect_61 ?_
            refine lv_iadd hx hb dX5_collect_64 ?_
            refine lv_topi (fun x63 e64 => ?_)
            refine lv_istore (lv' := [(7, .int x63), (6, .int x61), (5, .int (nI (c2 - 1))), (4, .ref x9), (3, .int at2), (2, .int fe2), (1, .int (nI fi2)), (0, .ref (a 5))]) hx hb dX5_collect_65 hl (by decide) rfl (fun ls hl => ?_)
            refine lv_iload_n hx hb dX5_collect_67 rfl (lv_at hl 6 rfl) ?_
            refine lv_iconst (v := 0) hx hb dX5_collect_68 (by decide) ?_
            refine va_mmax (own := RX5) hx hb (by rw [hml]; exact hl.1.symm) hown (hq _ pw_520) (hq _ pw_51) (hq _ pw_52) (hq _ pw_53) (Nat.le_of_ble_eq_true rfl) (Nat.le_of_ble_eq_true rfl) (Nat.le_of_ble_eq_true rfl) (Nat.le_of_ble_eq_true rfl) dX5_collect_69 ?_
            refine lv_topi (fun x65 e66 => ?_)
            obtain ⟨k9, hk9, hl9⟩ := mx_n (x := fi2) (y := 0) (n := 32000) (by omega) (by omega)
            obtain rfl : x65 = nI k9 := e66.trans hk9
            refine lv_istore (lv' := [(8, .int (nI k9)), (7, .int x63), (6, .int x61), (5, .int (nI (c2 - 1))), (4, .ref x9), (3, .int at2), (2, .int fe2), (1, .int (nI fi2)), (0, .ref (a 5))]) hx hb dX5_collect_72 hl (by decide) rfl (fun ls hl => ?_)
            have loop_j : ∀ (n_j : Nat) (i3 : Nat) (ot3 : Nat) (b6 : Int32) (b7 : Int32) (J3 : Nat → Nat → Int64) (H : Heap) (locs : List Loc) (ls : Array Slot) (w : va_W), i3 ≤ 32000 → 32000 + 1 ≤ i3 + n_j → (8 ≤ ot3 ∧ ot3 ≤ 3008) → va_P G.1 pCl w H → va_D A w → va_S A s.heap H locs → OKP G h0 a (upd (upd (upd (upd (upd (upd F 5 (nI cs)) 18 (nI ba)) 19 (nI tp)) 22 (nI on)) 26 (nI ht)) 27 (nI ot3)) (updR (updR (updR (updR R 5 (.ref pq)) 6 (va_rf none)) 7 (.ref (a sp))) 8 (.ref (a op))) Z B J3 K w → lv_has ls 9 [(8, .int (nI i3)), (7, .int b7), (6, .int b6), (5, .int (nI (c2 - 1))), (4, .ref x9), (3, .int at2), (2, .int fe2), (1, .int (nI fi2)), (0, .ref (a 5))] → W p l e (headSpec (Cond.code yX5_collect cX5_collect 9 none :: pw) ({ frames := 6, cells := 0, slots := 0, locals := 145 } : Room)).room s m ([.ref (a 5)] : List Value).toArray below meth c H locs 0 0 (MQ below (pQ G A (fun (v : Option Value) (u : va_W × ((Nat → Nat → Int64) × Nat × Nat × Nat × Int32)) => v = none ∧ (8 ≤ u.2.2.2.2.1 ∧ u.2.2.2.2.1 ≤ 3008) ∧ ((u.2.2.1 = 34 ∧ u.2.2.2.1 = 35) ∨ (u.2.2.1 = 35 ∧ u.2.2.2.1 = 34)) ∧ (OKP G h0 a (upd (upd (upd (upd (upd (upd F 5 (nI cs)) 18 (nI ba)) 19 (nI tp)) 22 (nI on)) 26 (nI u.2.2.2.2.1)) 27 u.2.2.2.2.2) (updR (updR (updR (updR R 5 (.ref pq)) 6 (va_rf none)) 7 (.ref (a u.2.2.1))) 8 (.ref (a u.2.2.2.1))) Z B u.2.1 K u.1)) (fun u => u.1)) ([.ref (a 5)] : List Value).toArray s ({ frames := 6, cells := 0, slots := 0, locals := 145 } : Room).cells ({ frames := 6, cells := 0, slots := 0, locals := 145 } : Room).slots A) (F0 m 74 ls []) := by
              intro n_j
              induction n_j with
              | zero => intro i3 ot3 b6 b7 J3 H locs ls w hk_j hn_j; omega
              | succ n_j ih_j =>
                intro i3 ot3 b6 b7 J3 H locs ls w hk_j hn_j hot3 hP hD hS hO hl
                refine lv_iload hx hb dX5_collect_74 (lv_at hl 0 rfl) ?_
                refine lv_iload_n hx hb dX5_collect_76 rfl (lv_at hl 6 rfl) ?_
                refine lv_icmp_ge (tgt := 135) hx hb dX5_collect_77 (by decide) (fun c67 => ?_) (fun c67 => ?_)
                · refine lv_iload_n hx hb dX5_collect_135 rfl (lv_at hl 7 rfl) ?_
                  refine lv_istore_n (lv' := [(2, .int (nI fi2)), (8, .int (nI i3)), (7, .int b7), (6, .int b6), (5, .int (nI (c2 - 1))), (4, .ref x9), (3, .int at2), (1, .int (nI fi2)), (0, .ref (a 5))]) hx hb dX5_collect_136 rfl hl (by decide) rfl (fun ls hl => ?_)
                  refine lv_aload_n hx hb dX5_collect_137 rfl (lv_at hl 8 rfl) ?_
                  refine c_get (v := .ref (a 30)) (C := RX5) (Tc := TX5) (N := 19) (ci := 4) hx hb hq pin_wsX50 hown hE hP hO 28 (sg_28 G h0 a _ _ _ _ _) rfl 3 (by decide) (hq _ pw_475) (fun _ h9 => h9) rfl dX5_collect_138 ?_
                  refine lv_iconst (v := 3) hx hb dX5_collect_141 (by decide) ?_
                  refine lv_iload hx hb dX5_collect_142 (lv_at hl 4 rfl) ?_
                  refine lv_imul hx hb dX5_collect_144 ?_
                  refine lv_topi (fun x68 e69 => ?_)
                  obtain rfl : x68 = nI (3 * (c2 - 1)) := e69.trans (nI_mulN (3) ((c2 - 1)))
                  refine c_ldi (f := (B 30)) (n := 300) (t0 := 0) hx hb hE hP hO 33 (sg_33 G h0 a _ _ _ _ _) rfl (vp_in_nI (by omega) (by decide)) dX5_collect_145 ?_
                  rw [(nI_clamp (show (3 * (c2 - 1)) < 2 ^ 31 by omega))]
                  refine lv_istore_n (lv' := [(3, .int ((B 30) (3 * (c2 - 1)))), (2, .int (nI fi2)), (8, .int (nI i3)), (7, .int b7), (6, .int b6), (5, .int (nI (c2 - 1))), (4, .ref x9), (1, .int (nI fi2)), (0, .ref (a 5))]) hx hb dX5_collect_146 rfl hl (by decide) rfl (fun ls hl => ?_)
                  refine lv_aload_n hx hb dX5_collect_147 rfl (lv_at hl 8 rfl) ?_
                  refine c_get (v := .ref (a 30)) (C := RX5) (Tc := TX5) (N := 19) (ci := 4) hx hb hq pin_wsX50 hown hE hP hO 28 (sg_28 G h0 a _ _ _ _ _) rfl 3 (by decide) (hq _ pw_475) (fun _ h9 => h9) rfl dX5_collect_148 ?_
                  refine lv_iconst (v := 3) hx hb dX5_collect_151 (by decide) ?_
                  refine lv_iload hx hb dX5_collect_152 (lv_at hl 5 rfl) ?_
                  refine lv_imul hx hb dX5_collect_154 ?_
                  refine lv_topi (fun x70 e71 => ?_)
                  obtain rfl : x70 = nI (3 * (c2 - 1)) := e71.trans (nI_mulN (3) ((c2 - 1)))
                  refine lv_iconst (v := 1) hx hb dX5_collect_155 (by decide) ?_
                  refine lv_iadd hx hb dX5_collect_156 ?_
                  refine lv_topi (fun x72 e73 => ?_)
                  obtain rfl : x72 = nI ((3 * (c2 - 1)) + 1) := e73.trans (nI_add ((3 * (c2 - 1))) (1))
                  refine c_ldi (f := (B 30)) (n := 300) (t0 := 0) hx hb hE hP hO 33 (sg_33 G h0 a _ _ _ _ _) rfl (vp_in_nI (by omega) (by decide)) dX5_collect_157 ?_
                  rw [(nI_clamp (show ((3 * (c2 - 1)) + 1) < 2 ^ 31 by omega))]
                  refine lv_topi (fun x74 e75 => ?_)
                  obtain rfl : x74 = nI bj := e75.trans (by show B 30 _ = _; exact hfj)
                  refine lv_istore_n (lv' := [(1, .int (nI bj)), (3, .int ((B 30) (3 * (c2 - 1)))), (2, .int (nI fi2)), (8, .int (nI i3)), (7, .int b7), (6, .int b6), (5, .int (nI (c2 - 1))), (4, .ref x9), (0, .ref (a 5))]) hx hb dX5_collect_158 rfl hl (by decide) rfl (fun ls hl => ?_)
                  refine lv_aload_n hx hb dX5_collect_159 rfl (lv_at hl 8 rfl) ?_
                  refine c_get (v := .ref pq) (C := RX5) (Tc := TX5) (N := 19) (ci := 4) hx hb hq pin_wsX50 hown hE hP hO 28 (sg_28 G h0 a _ _ _ _ _) rfl 8 (by decide) (hq _ pw_486) (fun _ h9 => h9) rfl dX5_collect_160 ?_
                  refine lv_aload_n hx hb dX5_collect_163 rfl (lv_at hl 8 rfl) ?_
                  refine c_get (v := .ref (a 30)) (C := RX5) (Tc := TX5) (N := 19) (ci := 4) hx hb hq pin_wsX50 hown hE hP hO 28 (sg_28 G h0 a _ _ _ _ _) rfl 3 (by decide) (hq _ pw_475) (fun _ h9 => h9) rfl dX5_collect_164 ?_
                  refine lv_iconst (v := 3) hx hb dX5_collect_167 (by decide) ?_
                  refine lv_iload hx hb dX5_collect_168 (lv_at hl 6 rfl) ?_
                  refine lv_imul hx hb dX5_collect_170 ?_
                  refine lv_topi (fun x76 e77 => ?_)
                  obtain rfl : x76 = nI (3 * (c2 - 1)) := e77.trans (nI_mulN (3) ((c2 - 1)))
                  refine lv_iconst (v := 2) hx hb dX5_collect_171 (by decide) ?_
                  refine lv_iadd hx hb dX5_collect_172 ?_
                  refine lv_topi (fun x78 e79 => ?_)
                  obtain rfl : x78 = nI ((3 * (c2 - 1)) + 2) := e79.trans (nI_add ((3 * (c2 - 1))) (2))
                  refine c_ldi (f := (B 30)) (n := 300) (t0 := 0) hx hb hE hP hO 33 (sg_33 G h0 a _ _ _ _ _) rfl (vp_in_nI (by omega) (by decide)) dX5_collect_173 ?_
                  rw [(nI_clamp (show ((3 * (c2 - 1)) + 2) < 2 ^ 31 by omega))]
                  have hO : OKP G h0 a (upd (upd (upd (upd (upd (upd F 5 (nI cs)) 18 (nI ba)) 19 (nI tp)) 22 (nI on)) 26 (nI ht)) 27 (nI ot3)) (updR (updR (updR (updR R 5 (.ref pq)) 6 (va_rf none)) 7 (.ref (a sp))) 8 (.ref (a op))) Z B J3 K w := hO.to rfl
                  obtain ⟨qr83, hqr84⟩ := p_recv hO (by rw [hp1]; decide) (rep_7 hp1)
                  refine pc_V0 (G := G) (As := [.int ((B 30) ((3 * (c2 - 1)) + 2))]) (rest := []) hx hb hml hown hq hE hX pX0_al hP hD hS hA hl.1 (G_methodX l G h0 a (upd (upd (upd (upd (upd (upd F 5 (nI cs)) 18 (nI ba)) 19 (nI tp)) 22 (nI on)) 26 (nI ht)) 27 (nI ot3)) (updR (updR (updR (updR R 5 (.ref pq)) 6 (va_rf none)) 7 (.ref (a sp))) 8 (.ref (a op))) Z B J3 K w pq dr ml nd ((B 30) ((3 * (c2 - 1)) + 2)) nm cp it g hps.1 hps.2.2.1 hO) (gV pw_528 pw_529 pw_530 pw_106 pw_518) hV_X9_method qr83 6 hqr84 rfl rfl rfl (Nat.le_of_ble_eq_true rfl) dX5_collect_174 ⟨Nat.le_of_ble_eq_true rfl, Nat.le_of_ble_eq_true rfl⟩ ⟨Nat.le_of_ble_eq_true rfl, Nat.le_of_ble_eq_true rfl⟩ (fun v82 u80 H locs hw81 hP hD hS => ?_)
                  obtain ⟨w, o85⟩ := u80
                  obtain ⟨hw81, h86, hO⟩ := hw81
                  have h86 : MoX K nm it ((B 30) ((3 * (c2 - 1)) + 2)) o85 := h86
                  obtain rfl : v82 = some ((va_rf o85)) := hw81
                  have hO : OKP G h0 a (upd (upd (upd (upd (upd (upd F 5 (nI cs)) 18 (nI ba)) 19 (nI tp)) 22 (nI on)) 26 (nI ht)) 27 (nI ot3)) (updR (updR (updR (updR R 5 (.ref pq)) 6 (va_rf none)) 7 (.ref (a sp))) 8 (.ref (a op))) Z B J3 K w := hO.to rfl
                  refine W.widen (k := 0) (n := 0) (Nat.le_of_ble_eq_true rfl) (Nat.le_of_ble_eq_true rfl) ?_
                  refine W.eq (g2 := F0 m 177 ls [(va_rf o85)]) rfl ?_
                  rcases o85 with _ | d87
                  · have hl : lv_has ls 9 [(1, .int (nI bj)), (3, .int ((B 30) (3 * (c2 - 1)))), (2, .int (nI fi2)), (8, .int (nI i3)), (7, .int b7), (6, .int b6), (5, .int (nI (c2 - 1))), (4, .ref x9), (0, .ref (a 5))] := hl
                    refine W.eq (g2 := F0 m 177 ls [.null]) rfl ?_
                    refine lv_astoreN (lv' := [(4, .null), (1, .int (nI bj)), (3, .int ((B 30) (3 * (c2 - 1)))), (2, .int (nI fi2)), (8, .int (nI i3)), (7, .int b7), (6, .int b6), (5, .int (nI (c2 - 1))), (0, .ref (a 5))]) hx hb dX5_collect_177 hl (by decide) rfl (fun ls hl => ?_)
                    obtain ⟨x88, e89⟩ : ∃ y : Int32, y = (nI (c2 - 1)) + (-1) := ⟨_, rfl⟩
                    refine lv_iinc (v := x88) (lv' := [(5, .int x88), (4, .null), (1, .int (nI bj)), (3, .int ((B 30) (3 * (c2 - 1)))), (2, .int (nI fi2)), (8, .int (nI i3)), (7, .int b7), (6, .int b6), (0, .ref (a 5))]) hx hb dX5_collect_179 hl (k := 7) rfl (by rw [e89]; rfl) (by decide) rfl (fun ls hl => ?_)
                    refine lv_goto (tgt := 36) hx hb dX5_collect_182 (by decide) ?_
                    have hO : OKP G h0 a (upd (upd (upd (upd (upd (upd F 5 (nI cs)) 18 (nI ba)) 19 (nI tp)) 22 (nI on)) 26 (nI ht)) 27 (nI ot3)) (updR (updR (updR (updR R 5 (.ref pq)) 6 (va_rf none)) 7 (.ref (a sp))) 8 (.ref (a op))) Z B J3 K w := hO.to rfl
                    exact ih_c (k2 + 1) bj (nI fi2) ((B 30) (3 * (c2 - 1))) x88 (c2 - 1) ot3 none J3 _ _ _ _ (by omega) (by omega) (by omega) (e89.trans add_m1) (by omega) (by omega) (fun z h => by cases h) hP hD hS hO (lv_sub hl [0, 1, 3, 4, 2, 8] rfl)
                  · have hl : lv_has ls 9 [(1, .int (nI bj)), (3, .int ((B 30) (3 * (c2 - 1)))), (2, .int (nI fi2)), (8, .int (nI i3)), (7, .int b7), (6, .int b6), (5, .int (nI (c2 - 1))), (4, .ref x9), (0, .ref (a 5))] := hl
                    refine W.eq (g2 := F0 m 177 ls [.ref d87]) rfl ?_
                    refine lv_astore (lv' := [(4, .ref d87), (1, .int (nI bj)), (3, .int ((B 30) (3 * (c2 - 1)))), (2, .int (nI fi2)), (8, .int (nI i3)), (7, .int b7), (6, .int b6), (5, .int (nI (c2 - 1))), (0, .ref (a 5))]) hx hb dX5_collect_177 hl (by decide) rfl (fun ls hl => ?_)
                    obtain ⟨x90, e91⟩ : ∃ y : Int32, y = (nI (c2 - 1)) + (-1) := ⟨_, rfl⟩
                    refine lv_iinc (v := x90) (lv' := [(5, .int x90), (4, .ref d87), (1, .int (nI bj)), (3, .int ((B 30) (3 * (c2 - 1)))), (2, .int (nI fi2)), (8, .int (nI i3)), (7, .int b7), (6, .int b6), (0, .ref (a 5))]) hx hb dX5_collect_179 hl (k := 7) rfl (by rw [e91]; rfl) (by decide) rfl (fun ls hl => ?_)
                    refine lv_goto (tgt := 36) hx hb dX5_collect_182 (by decide) ?_
                    have hO : OKP G h0 a (upd (upd (upd (upd (upd (upd F 5 (nI cs)) 18 (nI ba)) 19 (nI tp)) 22 (nI on)) 26 (nI ht)) 27 (nI ot3)) (updR (updR (updR (updR R 5 (.ref pq)) 6 (va_rf none)) 7 (.ref (a sp))) 8 (.ref (a op))) Z B J3 K w := hO.to rfl
                    exact ih_c (k2 + 1) bj (nI fi2) ((B 30) (3 * (c2 - 1))) x90 (c2 - 1) ot3 (some d87) J3 _ _ _ _ (by omega) (by omega) (by omega) (e91.trans add_m1) (by omega) (by omega) (fun z h => by cases h; exact (h86 d87 rfl).1) hP hD hS hO (lv_sub hl [0, 1, 3, 4, 2, 8] rfl)
                · refine lv_iload hx hb dX5_collect_80 (lv_at hl 0 rfl) ?_
                  refine lv_aload_n hx hb dX5_collect_82 rfl (lv_at hl 8 rfl) ?_
                  refine c_get (v := .ref (a 29)) (C := RX5) (Tc := TX5) (N := 19) (ci := 4) hx hb hq pin_wsX50 hown hE hP hO 28 (sg_28 G h0 a _ _ _ _ _) rfl 2 (by decide) (hq _ pw_474) (fun _ h9 => h9) rfl dX5_collect_83 ?_
                  refine c_len (n := 0) (t0 := 2) (v := 32000) hx hb hE hP hO 32 (sg_32 G h0 a _ _ _ _ _) rfl rfl dX5_collect_86 ?_
                  refine lv_icmp_ge (tgt := 135) hx hb dX5_collect_87 (by decide) (fun c92 => ?_) (fun c92 => ?_)
                  · have n93 : 32000 ≤ i3 := (nI_leI (a := 32000) (b := i3) (by omega) (by omega)).mp c92
                    refine lv_iload_n hx hb dX5_collect_135 rfl (lv_at hl 7 rfl) ?_
                    refine lv_istore_n (lv' := [(2, .int (nI fi2)), (8, .int (nI i3)), (7, .int b7), (6, .int b6), (5, .int (nI (c2 - 1))), (4, .ref x9), (3, .int at2), (1, .int (nI fi2)), (0, .ref (a 5))]) hx hb dX5_collect_136 rfl hl (by decide) rfl (fun ls hl => ?_)
                    refine lv_aload_n hx hb dX5_collect_137 rfl (lv_at hl 8 rfl) ?_
                    refine c_get (v := .ref (a 30)) (C := RX5) (Tc := TX5) (N := 19) (ci := 4) hx hb hq pin_wsX50 hown hE hP hO 28 (sg_28 G h0 a _ _ _ _ _) rfl 3 (by decide) (hq _ pw_475) (fun _ h9 => h9) rfl dX5_collect_138 ?_
                    refine lv_iconst (v := 3) hx hb dX5_collect_141 (by decide) ?_
                    refine lv_iload hx hb dX5_collect_142 (lv_at hl 4 rfl) ?_
                    refine lv_imul hx hb dX5_collect_144 ?_
                    refine lv_topi (fun x94 e95 => ?_)
                    obtain rfl : x94 = nI (3 * (c2 - 1)) := e95.trans (nI_mulN (3) ((c2 - 1)))
                    refine c_ldi (f := (B 30)) (n := 300) (t0 := 0) hx hb hE hP hO 33 (sg_33 G h0 a _ _ _ _ _) rfl (vp_in_nI (by omega) (by decide)) dX5_collect_145 ?_
                    rw [(nI_clamp (show (3 * (c2 - 1)) < 2 ^ 31 by omega))]
                    refine lv_istore_n (lv' := [(3, .int ((B 30) (3 * (c2 - 1)))), (2, .int (nI fi2)), (8, .int (nI i3)), (7, .int b7), (6, .int b6), (5, .int (nI (c2 - 1))), (4, .ref x9), (1, .int (nI fi2)), (0, .ref (a 5))]) hx hb dX5_collect_146 rfl hl (by decide) rfl (fun ls hl => ?_)
                    refine lv_aload_n hx hb dX5_collect_147 rfl (lv_at hl 8 rfl) ?_
                    refine c_get (v := .ref (a 30)) (C := RX5) (Tc := TX5) (N := 19) (ci := 4) hx hb hq pin_wsX50 hown hE hP hO 28 (sg_28 G h0 a _ _ _ _ _) rfl 3 (by decide) (hq _ pw_475) (fun _ h9 => h9) rfl dX5_collect_148 ?_
                    refine lv_iconst (v := 3) hx hb dX5_collect_151 (by decide) ?_
                    refine lv_iload hx hb dX5_collect_152 (lv_at hl 5 rfl) ?_
                    refine lv_imul hx hb dX5_collect_154 ?_
                    refine lv_topi (fun x96 e97 => ?_)
                    obtain rfl : x96 = nI (3 * (c2 - 1)) := e97.trans (nI_mulN (3) ((c2 - 1)))
                    refine lv_iconst (v := 1) hx hb dX5_collect_155 (by decide) ?_
                    refine lv_iadd hx hb dX5_collect_156 ?_
                    refine lv_topi (fun x98 e99 => ?_)
                    obtain rfl : x98 = nI ((3 * (c2 - 1)) + 1) := e99.trans (nI_add ((3 * (c2 - 1))) (1))
                    refine c_ldi (f := (B 30)) (n := 300) (t0 := 0) hx hb hE hP hO 33 (sg_33 G h0 a _ _ _ _ _) rfl (vp_in_nI (by omega) (by decide)) dX5_collect_157 ?_
                    rw [(nI_clamp (show ((3 * (c2 - 1)) + 1) < 2 ^ 31 by omega))]
                    refine lv_topi (fun x100 e101 => ?_)
                    obtain rfl : x100 = nI bj := e101.trans (by show B 30 _ = _; exact hfj)
                    refine lv_istore_n (lv' := [(1, .int (nI bj)), (3, .int ((B 30) (3 * (c2 - 1)))), (2, .int (nI fi2)), (8, .int (nI i3)), (7, .int b7), (6, .int b6), (5, .int (nI (c2 - 1))), (4, .ref x9), (0, .ref (a 5))]) hx hb dX5_collect_158 rfl hl (by decide) rfl (fun ls hl => ?_)
                    refine lv_aload_n hx hb dX5_collect_159 rfl (lv_at hl 8 rfl) ?_
                    refine c_get (v := .ref pq) (C := RX5) (Tc := TX5) (N := 19) (ci := 4) hx hb hq pin_wsX50 hown hE hP hO 28 (sg_28 G h0 a _ _ _ _ _) rfl 8 (by decide) (hq _ pw_486) (fun _ h9 => h9) rfl dX5_collect_160 ?_
                    refine lv_aload_n hx hb dX5_collect_163 rfl (lv_at hl 8 rfl) ?_
                    refine c_get (v := .ref (a 30)) (C := RX5) (Tc := TX5) (N := 19) (ci := 4) hx hb hq pin_wsX50 hown hE hP hO 28 (sg_28 G h0 a _ _ _ _ _) rfl 3 (by decide) (hq _ pw_475) (fun _ h9 => h9) rfl dX5_collect_164 ?_
                    refine lv_iconst (v := 3) hx hb dX5_collect_167 (by decide) ?_
                    refine lv_iload hx hb dX5_collect_168 (lv_at hl 6 rfl) ?_
                    refine lv_imul hx hb dX5_collect_170 ?_
                    refine lv_topi (fun x102 e103 => ?_)
                    obtain rfl : x102 = nI (3 * (c2 - 1)) := e103.trans (nI_mulN (3) ((c2 - 1)))
                    refine lv_iconst (v := 2) hx hb dX5_collect_171 (by decide) ?_
                    refine lv_iadd hx hb dX5_collect_172 ?_
                    refine lv_topi (fun x104 e105 => ?_)
                    obtain rfl : x104 = nI ((3 * (c2 - 1)) + 2) := e105.trans (nI_add ((3 * (c2 - 1))) (2))
                    refine c_ldi (f := (B 30)) (n := 300) (t0 := 0) hx hb hE hP hO 33 (sg_33 G h0 a _ _ _ _ _) rfl (vp_in_nI (by omega) (by decide)) dX5_collect_173 ?_
                    rw [(nI_clamp (show ((3 * (c2 - 1)) + 2) < 2 ^ 31 by omega))]
                    have hO : OKP G h0 a (upd (upd (upd (upd (upd (upd F 5 (nI cs)) 18 (nI ba)) 19 (nI tp)) 22 (nI on)) 26 (nI ht)) 27 (nI ot3)) (updR (updR (updR (updR R 5 (.ref pq)) 6 (va_rf none)) 7 (.ref (a sp))) 8 (.ref (a op))) Z B J3 K w := hO.to rfl
                    obtain ⟨qr109, hqr110⟩ := p_recv hO (by rw [hp1]; decide) (rep_7 hp1)
                    refine pc_V0 (G := G) (As := [.int ((B 30) ((3 * (c2 - 1)) + 2))]) (rest := []) hx hb hml hown hq hE hX pX0_al hP hD hS hA hl.1 (G_methodX l G h0 a (upd (upd (upd (upd (upd (upd F 5 (nI cs)) 18 (nI ba)) 19 (nI tp)) 22 (nI on)) 26 (nI ht)) 27 (nI ot3)) (updR (updR (updR (updR R 5 (.ref pq)) 6 (va_rf none)) 7 (.ref (a sp))) 8 (.ref (a op))) Z B J3 K w pq dr ml nd ((B 30) ((3 * (c2 - 1)) + 2)) nm cp it g hps.1 hps.2.2.1 hO) (gV pw_528 pw_529 pw_530 pw_106 pw_518) hV_X9_method qr109 6 hqr110 rfl rfl rfl (Nat.le_of_ble_eq_true rfl) dX5_collect_174 ⟨Nat.le_of_ble_eq_true rfl, Nat.le_of_ble_eq_true rfl⟩ ⟨Nat.le_of_ble_eq_true rfl, Nat.le_of_ble_eq_true rfl⟩ (fun v108 u106 H locs hw107 hP hD hS => ?_)
                    obtain ⟨w, o111⟩ := u106
                    obtain ⟨hw107, h112, hO⟩ := hw107
                    have h112 : MoX K nm it ((B 30) ((3 * (c2 - 1)) + 2)) o111 := h112
                    obtain rfl : v108 = some ((va_rf o111)) := hw107
                    have hO : OKP G h0 a (upd (upd (upd (upd (upd (upd F 5 (nI cs)) 18 (nI ba)) 19 (nI tp)) 22 (nI on)) 26 (nI ht)) 27 (nI ot3)) (updR (updR (updR (updR R 5 (.ref pq)) 6 (va_rf none)) 7 (.ref (a sp))) 8 (.ref (a op))) Z B J3 K w := hO.to rfl
                    refine W.widen (k := 0) (n := 0) (Nat.le_of_ble_eq_true rfl) (Nat.le_of_ble_eq_true rfl) ?_
                    refine W.eq (g2 := F0 m 177 ls [(va_rf o111)]) rfl ?_
                    rcases o111 with _ | d113
                    · have hl : lv_has ls 9 [(1, .int (nI bj)), (3, .int ((B 30) (3 * (c2 - 1)))), (2, .int (nI fi2)), (8, .int (nI i3)), (7, .int b7), (6, .int b6), (5, .int (nI (c2 - 1))), (4, .ref x9), (0, .ref (a 5))] := hl
                      refine W.eq (g2 := F0 m 177 ls [.null]) rfl ?_
                      refine lv_astoreN (lv' := [(4, .null), (1, .int (nI bj)), (3, .int ((B 30) (3 * (c2 - 1)))), (2, .int (nI fi2)), (8, .int (nI i3)), (7, .int b7), (6, .int b6), (5, .int (nI (c2 - 1))), (0, .ref (a 5))]) hx hb dX5_collect_177 hl (by decide) rfl (fun ls hl => ?_)
                      obtain ⟨x114, e115⟩ : ∃ y : Int32, y = (nI (c2 - 1)) + (-1) := ⟨_, rfl⟩
                      refine lv_iinc (v := x114) (lv' := [(5, .int x114), (4, .null), (1, .int (nI bj)), (3, .int ((B 30) (3 * (c2 - 1)))), (2, .int (nI fi2)), (8, .int (nI i3)), (7, .int b7), (6, .int b6), (0, .ref (a 5))]) hx hb dX5_collect_179 hl (k := 7) rfl (by rw [e115]; rfl) (by decide) rfl (fun ls hl => ?_)
                      refine lv_goto (tgt := 36) hx hb dX5_collect_182 (by decide) ?_
                      have hO : OKP G h0 a (upd (upd (upd (upd (upd (upd F 5 (nI cs)) 18 (nI ba)) 19 (nI tp)) 22 (nI on)) 26 (nI ht)) 27 (nI ot3)) (updR (updR (updR (updR R 5 (.ref pq)) 6 (va_rf none)) 7 (.ref (a sp))) 8 (.ref (a op))) Z B J3 K w := hO.to rfl
                      exact ih_c (k2 + 1) bj (nI fi2) ((B 30) (3 * (c2 - 1))) x114 (c2 - 1) ot3 none J3 _ _ _ _ (by omega) (by omega) (by omega) (e115.trans add_m1) (by omega) (by omega) (fun z h => by cases h) hP hD hS hO (lv_sub hl [0, 1, 3, 4, 2, 8] rfl)
                    · have hl : lv_has ls 9 [(1, .int (nI bj)), (3, .int ((B 30) (3 * (c2 - 1)))), (2, .int (nI fi2)), (8, .int (nI i3)), (7, .int b7), (6, .int b6), (5, .int (nI (c2 - 1))), (4, .ref x9), (0, .ref (a 5))] := hl
                      refine W.eq (g2 := F0 m 177 ls [.ref d113]) rfl ?_
                      refine lv_astore (lv' := [(4, .ref d113), (1, .int (nI bj)), (3, .int ((B 30) (3 * (c2 - 1)))), (2, .int (nI fi2)), (8, .int (nI i3)), (7, .int b7), (6, .int b6), (5, .int (nI (c2 - 1))), (0, .ref (a 5))]) hx hb dX5_collect_177 hl (by decide) rfl (fun ls hl => ?_)
                      obtain ⟨x116, e117⟩ : ∃ y : Int32, y = (nI (c2 - 1)) + (-1) := ⟨_, rfl⟩
                      refine lv_iinc (v := x116) (lv' := [(5, .int x116), (4, .ref d113), (1, .int (nI bj)), (3, .int ((B 30) (3 * (c2 - 1)))), (2, .int (nI fi2)), (8, .int (nI i3)), (7, .int b7), (6, .int b6), (0, .ref (a 5))]) hx hb dX5_collect_179 hl (k := 7) rfl (by rw [e117]; rfl) (by decide) rfl (fun ls hl => ?_)
                      refine lv_goto (tgt := 36) hx hb dX5_collect_182 (by decide) ?_
                      have hO : OKP G h0 a (upd (upd (upd (upd (upd (upd F 5 (nI cs)) 18 (nI ba)) 19 (nI tp)) 22 (nI on)) 26 (nI ht)) 27 (nI ot3)) (updR (updR (updR (updR R 5 (.ref pq)) 6 (va_rf none)) 7 (.ref (a sp))) 8 (.ref (a op))) Z B J3 K w := hO.to rfl
                      exact ih_c (k2 + 1) bj (nI fi2) ((B 30) (3 * (c2 - 1))) x116 (c2 - 1) ot3 (some d113) J3 _ _ _ _ (by omega) (by omega) (by omega) (e117.trans add_m1) (by omega) (by omega) (fun z h => by cases h; exact (h112 d113 rfl).1) hP hD hS hO (lv_sub hl [0, 1, 3, 4, 2, 8] rfl)
                  · have n118 : ¬ (32000 ≤ i3) := fun h9 => c92 ((nI_leI (a := 32000) (b := i3) (by omega) (by omega)).mpr h9)
                    refine lv_aload_n hx hb dX5_collect_90 rfl (lv_at hl 8 rfl) ?_
                    refine c_get (v := .ref (a 29)) (C := RX5) (Tc := TX5) (N := 19) (ci := 4) hx hb hq pin_wsX50 hown hE hP hO 28 (sg_28 G h0 a _ _ _ _ _) rfl 2 (by decide) (hq _ pw_474) (fun _ h9 => h9) rfl dX5_collect_91 ?_
                    refine lv_iload hx hb dX5_collect_94 (lv_at hl 0 rfl) ?_
                    refine lv_iload hx hb dX5_collect_96 (lv_at hl 0 rfl) ?_
                    refine lv_iload hx hb dX5_collect_98 (lv_at hl 2 rfl) ?_
                    refine lv_icmp_lt (tgt := 110) hx hb dX5_collect_100 (by decide) (fun c119 => ?_) (fun c119 => ?_)
                    · refine lv_aload_n hx hb dX5_collect_110 rfl (lv_at hl 8 rfl) ?_
                      refine c_get (v := .ref (a 28)) (C := RX5) (Tc := TX5) (N := 19) (ci := 4) hx hb hq pin_wsX50 hown hE hP hO 28 (sg_28 G h0 a _ _ _ _ _) rfl 1 (by decide) (hq _ pw_473) (fun _ h9 => h9) rfl dX5_collect_111 ?_
                      refine lv_aload_n hx hb dX5_collect_114 rfl (lv_at hl 8 rfl) ?_
                      refine c_get (v := .ref (a 29)) (C := RX5) (Tc := TX5) (N := 19) (ci := 4) hx hb hq pin_wsX50 hown hE hP hO 28 (sg_28 G h0 a _ _ _ _ _) rfl 2 (by decide) (hq _ pw_474) (fun _ h9 => h9) rfl dX5_collect_115 ?_
                      refine lv_iload hx hb dX5_collect_118 (lv_at hl 0 rfl) ?_
                      refine c_ldl (f := (J3 29)) (n := 32000) (t0 := 2) hx hb hE hP hO 32 (sg_32 G h0 a _ _ _ _ _) rfl (vp_in_nI (by omega) (by decide)) dX5_collect_120 ?_
                      rw [(nI_clamp (show i3 < 2 ^ 31 by omega))]
                      refine lv_topl (fun x120 e121 => ?_)
                      have hO : OKW G h0 a (upd (upd (upd (upd (upd (upd (upd (upd F 5 (nI cs)) 18 (nI ba)) 19 (nI tp)) 22 (nI on)) 26 (nI ht)) 27 (nI ot3)) 26 (nI ht)) 27 (nI ot3)) (updR (updR (updR (updR (updR (updR R 5 (.ref pq)) 6 (va_rf none)) 7 (.ref (a sp))) 8 (.ref (a op))) 7 (.ref (a sp))) 8 (.ref (a op))) Z B J3 K.1 (fun q99 x99 => x99 = rep G a K q99) w := hO.to rfl
                      obtain ⟨_, qr125, hqr126⟩ := hO.2.1 29 _ (sg_29 G h0 a _ _ _ _ _)
                      refine pc_V0 (G := G) (As := [.long x120]) (rest := [.int (nI i3), .ref (a 29)]) hx hb hml hown hq hE hX pX0_al hP hD hS hA hl.1 (K_moved l G h0 a (upd (upd (upd (upd (upd (upd F 5 (nI cs)) 18 (nI ba)) 19 (nI tp)) 22 (nI on)) 26 (nI ht)) 27 (nI ot3)) (updR (updR (updR (updR R 5 (.ref pq)) 6 (va_rf none)) 7 (.ref (a sp))) 8 (.ref (a op))) Z B J3 K.1 (fun q99 x99 => x99 = rep G a K q99) w x120 sp op ht ot3 hsp (by omega) (by omega) hO) (gV pw_527 pw_466 pw_467 pw_440 pw_459) hV_X3_moved qr125 3 hqr126 rfl rfl rfl (Nat.le_of_ble_eq_true rfl) dX5_collect_121 ⟨Nat.le_of_ble_eq_true rfl, Nat.le_of_ble_eq_true rfl⟩ ⟨Nat.le_of_ble_eq_true rfl, Nat.le_of_ble_eq_true rfl⟩ (fun v124 u122 H locs hw123 hP hD hS => ?_)
                      obtain ⟨w, ot127, r128, J129⟩ := u122
                      obtain ⟨hw123, h130, hO⟩ := hw123
                      have h130 : 8 ≤ ot127 ∧ ot127 ≤ 3008 := h130
                      obtain rfl : v124 = some (.long r128) := hw123
                      have hO : OKP G h0 a (upd (upd (upd (upd (upd (upd F 5 (nI cs)) 18 (nI ba)) 19 (nI tp)) 22 (nI on)) 26 (nI ht)) 27 (nI ot127)) (updR (updR (updR (updR R 5 (.ref pq)) 6 (va_rf none)) 7 (.ref (a sp))) 8 (.ref (a op))) Z B J129 K w := hO.to rfl
                      refine W.widen (k := 0) (n := 0) (Nat.le_of_ble_eq_true rfl) (Nat.le_of_ble_eq_true rfl) ?_
                      refine W.eq (g2 := F0 m 124 ls [.long r128, .int (nI i3), .ref (a 29)]) rfl ?_
                      refine lv_goto (tgt := 128) hx hb dX5_collect_124 (by decide) ?_
                      refine c_stl (f := (J129 29)) (n := 32000) (t0 := 2) hx hb hE hP hD hS hO 32 (sg_32 G h0 a _ _ _ _ _) rfl (vp_in_nI (by omega) (by decide)) (sj_29 G h0 a _ _ _ _ _ _) dX5_collect_128 (fun H locs w hP hD hS hO => ?_)
                      rw [(nI_clamp (show i3 < 2 ^ 31 by omega))] at hO
                      refine lv_iinc (v := (nI (i3 + 1))) (lv' := [(8, .int (nI (i3 + 1))), (7, .int b7), (6, .int b6), (5, .int (nI (c2 - 1))), (4, .ref x9), (3, .int at2), (2, .int fe2), (1, .int (nI fi2)), (0, .ref (a 5))]) hx hb dX5_collect_129 hl (k := 0) rfl (nI_1 i3) (by decide) rfl (fun ls hl => ?_)
                      refine lv_goto (tgt := 74) hx hb dX5_collect_132 (by decide) ?_
                      have hO : OKP G h0 a (upd (upd (upd (upd (upd (upd F 5 (nI cs)) 18 (nI ba)) 19 (nI tp)) 22 (nI on)) 26 (nI ht)) 27 (nI ot127)) (updR (updR (updR (updR R 5 (.ref pq)) 6 (va_rf none)) 7 (.ref (a sp))) 8 (.ref (a op))) Z B (updJ J129 29 (vp_updL (J129 29) i3 r128)) K w := hO.to rfl
                      exact ih_j (i3 + 1) ot127 b6 b7 (updJ J129 29 (vp_updL (J129 29) i3 r128)) _ _ _ _ (by omega) (by omega) (by omega) hP hD hS hO (lv_sub hl [0, 1, 2, 3, 4, 5, 6, 7, 8] rfl)
                    · refine lv_iload hx hb dX5_collect_103 (lv_at hl 0 rfl) ?_
                      refine lv_iload hx hb dX5_collect_105 (lv_at hl 1 rfl) ?_
                      refine lv_icmp_lt (tgt := 127) hx hb dX5_collect_107 (by decide) (fun c131 => ?_) (fun c131 => ?_)
                      · refine lv_lconst (v := 0) hx hb dX5_collect_127 (by decide) ?_
                        refine c_stl (f := (J3 29)) (n := 32000) (t0 := 2) hx hb hE hP hD hS hO 32 (sg_32 G h0 a _ _ _ _ _) rfl (vp_in_nI (by omega) (by decide)) (sj_29 G h0 a _ _ _ _ _ _) dX5_collect_128 (fun H locs w hP hD hS hO => ?_)
                        rw [(nI_clamp (show i3 < 2 ^ 31 by omega))] at hO
                        refine lv_iinc (v := (nI (i3 + 1))) (lv' := [(8, .int (nI (i3 + 1))), (7, .int b7), (6, .int b6), (5, .int (nI (c2 - 1))), (4, .ref x9), (3, .int at2), (2, .int fe2), (1, .int (nI fi2)), (0, .ref (a 5))]) hx hb dX5_collect_129 hl (k := 0) rfl (nI_1 i3) (by decide) rfl (fun ls hl => ?_)
                        refine lv_goto (tgt := 74) hx hb dX5_collect_132 (by decide) ?_
                        have hO : OKP G h0 a (upd (upd (upd (upd (upd (upd F 5 (nI cs)) 18 (nI ba)) 19 (nI tp)) 22 (nI on)) 26 (nI ht)) 27 (nI ot3)) (updR (updR (updR (updR R 5 (.ref pq)) 6 (va_rf none)) 7 (.ref (a sp))) 8 (.ref (a op))) Z B (updJ J3 29 (vp_updL (J3 29) i3 0)) K w := hO.to rfl
                        exact ih_j (i3 + 1) ot3 b6 b7 (updJ J3 29 (vp_updL (J3 29) i3 0)) _ _ _ _ (by omega) (by omega) (by omega) hP hD hS hO (lv_sub hl [0, 1, 2, 3, 4, 5, 6, 7, 8] rfl)
                      · refine lv_aload_n hx hb dX5_collect_110 rfl (lv_at hl 8 rfl) ?_
                        refine c_get (v := .ref (a 28)) (C := RX5) (Tc := TX5) (N := 19) (ci := 4) hx hb hq pin_wsX50 hown hE hP hO 28 (sg_28 G h0 a _ _ _ _ _) rfl 1 (by decide) (hq _ pw_473) (fun _ h9 => h9) rfl dX5_collect_111 ?_
                        refine lv_aload_n hx hb dX5_collect_114 rfl (lv_at hl 8 rfl) ?_
                        refine c_get (v := .ref (a 29)) (C := RX5) (Tc := TX5) (N := 19) (ci := 4) hx hb hq pin_wsX50 hown hE hP hO 28 (sg_28 G h0 a _ _ _ _ _) rfl 2 (by decide) (hq _ pw_474) (fun _ h9 => h9) rfl dX5_collect_115 ?_
                        refine lv_iload hx hb dX5_collect_118 (lv_at hl 0 rfl) ?_
                        refine c_ldl (f := (J3 29)) (n := 32000) (t0 := 2) hx hb hE hP hO 32 (sg_32 G h0 a _ _ _ _ _) rfl (vp_in_nI (by omega) (by decide)) dX5_collect_120 ?_
                        rw [(nI_clamp (show i3 < 2 ^ 31 by omega))]
                        refine lv_topl (fun x132 e133 => ?_)
                        have hO : OKW G h0 a (upd (upd (upd (upd (upd (upd (upd (upd F 5 (nI cs)) 18 (nI ba)) 19 (nI tp)) 22 (nI on)) 26 (nI ht)) 27 (nI ot3)) 26 (nI ht)) 27 (nI ot3)) (updR (updR (updR (updR (updR (updR R 5 (.ref pq)) 6 (va_rf none)) 7 (.ref (a sp))) 8 (.ref (a op))) 7 (.ref (a sp))) 8 (.ref (a op))) Z B J3 K.1 (fun q99 x99 => x99 = rep G a K q99) w := hO.to rfl
                        obtain ⟨_, qr137, hqr138⟩ := hO.2.1 29 _ (sg_29 G h0 a _ _ _ _ _)
                        refine pc_V0 (G := G) (As := [.long x132]) (rest := [.int (nI i3), .ref (a 29)]) hx hb hml hown hq hE hX pX0_al hP hD hS hA hl.1 (K_moved l G h0 a (upd (upd (upd (upd (upd (upd F 5 (nI cs)) 18 (nI ba)) 19 (nI tp)) 22 (nI on)) 26 (nI ht)) 27 (nI ot3)) (updR (updR (updR (updR R 5 (.ref pq)) 6 (va_rf none)) 7 (.ref (a sp))) 8 (.ref (a op))) Z B J3 K.1 (fun q99 x99 => x99 = rep G a K q99) w x132 sp op ht ot3 hsp (by omega) (by omega) hO) (gV pw_527 pw_466 pw_467 pw_440 pw_459) hV_X3_moved qr137 3 hqr138 rfl rfl rfl (Nat.le_of_ble_eq_true rfl) dX5_collect_121 ⟨Nat.le_of_ble_eq_true rfl, Nat.le_of_ble_eq_true rfl⟩ ⟨Nat.le_of_ble_eq_true rfl, Nat.le_of_ble_eq_true rfl⟩ (fun v136 u134 H locs hw135 hP hD hS => ?_)
                        obtain ⟨w, ot139, r140, J141⟩ := u134
                        obtain ⟨hw135, h142, hO⟩ := hw135
                        have h142 : 8 ≤ ot139 ∧ ot139 ≤ 3008 := h142
                        obtain rfl : v136 = some (.long r140) := hw135
                        have hO : OKP G h0 a (upd (upd (upd (upd (upd (upd F 5 (nI cs)) 18 (nI ba)) 19 (nI tp)) 22 (nI on)) 26 (nI ht)) 27 (nI ot139)) (updR (updR (updR (updR R 5 (.ref pq)) 6 (va_rf none)) 7 (.ref (a sp))) 8 (.ref (a op))) Z B J141 K w := hO.to rfl
                        refine W.widen (k := 0) (n := 0) (Nat.le_of_ble_eq_true rfl) (Nat.le_of_ble_eq_true rfl) ?_
                        refine W.eq (g2 := F0 m 124 ls [.long r140, .int (nI i3), .ref (a 29)]) rfl ?_
                        refine lv_goto (tgt := 128) hx hb dX5_collect_124 (by decide) ?_
                        refine c_stl (f := (J141 29)) (n := 32000) (t0 := 2) hx hb hE hP hD hS hO 32 (sg_32 G h0 a _ _ _ _ _) rfl (vp_in_nI (by omega) (by decide)) (sj_29 G h0 a _ _ _ _ _ _) dX5_collect_128 (fun H locs w hP hD hS hO => ?_)
                        rw [(nI_clamp (show i3 < 2 ^ 31 by omega))] at hO
                        refine lv_iinc (v := (nI (i3 + 1))) (lv' := [(8, .int (nI (i3 + 1))), (7, .int b7), (6, .int b6), (5, .int (nI (c2 - 1))), (4, .ref x9), (3, .int at2), (2, .int fe2), (1, .int (nI fi2)), (0, .ref (a 5))]) hx hb dX5_collect_129 hl (k := 0) rfl (nI_1 i3) (by decide) rfl (fun ls hl => ?_)
                        refine lv_goto (tgt := 74) hx hb dX5_collect_132 (by decide) ?_
                        have hO : OKP G h0 a (upd (upd (upd (upd (upd (upd F 5 (nI cs)) 18 (nI ba)) 19 (nI tp)) 22 (nI on)) 26 (nI ht)) 27 (nI ot139)) (updR (updR (updR (updR R 5 (.ref pq)) 6 (va_rf none)) 7 (.ref (a sp))) 8 (.ref (a op))) Z B (updJ J141 29 (vp_updL (J141 29) i3 r140)) K w := hO.to rfl
                        exact ih_j (i3 + 1) ot139 b6 b7 (updJ J141 29 (vp_updL (J141 29) i3 r140)) _ _ _ _ (by omega) (by omega) (by omega) hP hD hS hO (lv_sub hl [0, 1, 2, 3, 4, 5, 6, 7, 8] rfl)
            have hO : OKP G h0 a (upd (upd (upd (upd (upd (upd F 5 (nI cs)) 18 (nI ba)) 19 (nI tp)) 22 (nI on)) 26 (nI ht)) 27 (nI ot2)) (updR (updR (updR (updR R 5 (.ref pq)) 6 (va_rf none)) 7 (.ref (a sp))) 8 (.ref (a op))) Z B J2 K w := hO.to rfl
            exact loop_j (32000 + 1) k9 ot2 x61 x63 J2 _ _ _ _ (by omega) (by omega) (by omega) hP hD hS hO (lv_sub hl [0, 1, 2, 3, 4, 5, 6, 7, 8] rfl)
    have hO : OKP G h0 a (upd (upd (upd (upd (upd (upd F 5 (nI cs)) 18 (nI ba)) 19 (nI tp)) 22 (nI on)) 26 (nI ht)) 27 (nI 8)) (updR (updR (updR (updR R 5 (.ref pq)) 6 (va_rf none)) 7 (.ref (a sp))) 8 (.ref (a op))) Z B J K w := hO.to rfl
    exact loop_c (on + 1) 0 ba (nI tp) (F 20) x6 on 8 none J _ _ _ _ (by omega) (by omega) (by omega) e7 (by omega) (by omega) (fun z h => by cases h) hP hD hS hO (lv_sub hl [0, 1, 2, 3, 4, 5] rfl)
  · have hl : lv_has ls 9 [(0, .ref (a 5))] := hl
    refine W.eq (g2 := F0 m 0 ls []) rfl ?_
    have hO : OKP G h0 a (upd (upd (upd (upd (upd F 5 (nI cs)) 18 (nI ba)) 19 (nI tp)) 22 (nI on)) 26 (nI ht)) (updR (updR (updR (updR R 5 (.ref pq)) 6 (.ref mq)) 7 (.ref (a sp))) 8 (.ref (a op))) Z B J K w := hO.to rfl
    have hmT := (hms mq rfl).1
    refine lv_aload_n hx hb dX5_collect_0 rfl (lv_at hl 0 rfl) ?_
    refine c_get (v := .ref (a 28)) (C := RX5) (Tc := TX5) (N := 19) (ci := 4) hx hb hq pin_wsX50 hown hE hP hO 28 (sg_28 G h0 a _ _ _ _ _) rfl 1 (by decide) (hq _ pw_473) (fun _ h9 => h9) rfl dX5_collect_1 ?_
    have hO : OKW G h0 a (upd (upd (upd (upd (upd F 5 (nI cs)) 18 (nI ba)) 19 (nI tp)) 22 (nI on)) 26 (nI ht)) (updR (updR (updR (updR R 5 (.ref pq)) 6 (.ref mq)) 7 (.ref (a sp))) 8 (.ref (a op))) Z B J K.1 (fun q99 x99 => x99 = rep G a K q99) w := hO.to rfl
    obtain ⟨_, qr146, hqr147⟩ := hO.2.1 29 _ (sg_29 G h0 a _ _ _ _ _)
    refine pc_V0 (G := G) (As := []) (rest := []) hx hb hml hown hq hE hX pX0_al hP hD hS hA hl.1 (K_beginCollecting l G h0 a (upd (upd (upd (upd (upd F 5 (nI cs)) 18 (nI ba)) 19 (nI tp)) 22 (nI on)) 26 (nI ht)) (updR (updR (updR (updR R 5 (.ref pq)) 6 (.ref mq)) 7 (.ref (a sp))) 8 (.ref (a op))) Z B J K.1 (fun q99 x99 => x99 = rep G a K q99) w hO) (gV pw_521 pw_522 pw_523 pw_440 pw_457) hV_X3_beginCollecting qr146 3 hqr147 rfl rfl rfl (Nat.le_of_ble_eq_true rfl) dX5_collect_4 ⟨Nat.le_of_ble_eq_true rfl, Nat.le_of_ble_eq_true rfl⟩ ⟨Nat.le_of_ble_eq_true rfl, Nat.le_of_ble_eq_true rfl⟩ (fun v145 u143 H locs hw144 hP hD hS => ?_)
    obtain ⟨w, _⟩ := u143
    obtain ⟨hw144, hO⟩ := hw144
    obtain rfl : v145 = none := hw144
    have hO : OKP G h0 a (upd (upd (upd (upd (upd (upd F 5 (nI cs)) 18 (nI ba)) 19 (nI tp)) 22 (nI on)) 26 (nI ht)) 27 8) (updR (updR (updR (updR R 5 (.ref pq)) 6 (.ref mq)) 7 (.ref (a sp))) 8 (.ref (a op))) Z B J K w := hO.to rfl
    refine W.widen (k := 0) (n := 0) (Nat.le_of_ble_eq_true rfl) (Nat.le_of_ble_eq_true rfl) ?_
    refine W.eq (g2 := F0 m 7 ls []) rfl ?_
    refine lv_aload_n hx hb dX5_collect_7 rfl (lv_at hl 0 rfl) ?_
    refine c_get (v := .int (nI ba)) (C := RX5) (Tc := TX5) (N := 19) (ci := 4) hx hb hq pin_wsX50 hown hE hP hO 28 (sg_28 G h0 a _ _ _ _ _) rfl 10 (by decide) (hq _ pw_504) (fun _ h9 => h9) rfl dX5_collect_8 ?_
    refine lv_istore_n (lv' := [(1, .int (nI ba)), (0, .ref (a 5))]) hx hb dX5_collect_11 rfl hl (by decide) rfl (fun ls hl => ?_)
    refine lv_aload_n hx hb dX5_collect_12 rfl (lv_at hl 1 rfl) ?_
    refine c_get (v := .int (nI tp)) (C := RX5) (Tc := TX5) (N := 19) (ci := 4) hx hb hq pin_wsX50 hown hE hP hO 28 (sg_28 G h0 a _ _ _ _ _) rfl 11 (by decide) (hq _ pw_505) (fun _ h9 => h9) rfl dX5_collect_13 ?_
    refine lv_istore_n (lv' := [(2, .int (nI tp)), (1, .int (nI ba)), (0, .ref (a 5))]) hx hb dX5_collect_16 rfl hl (by decide) rfl (fun ls hl => ?_)
    refine lv_aload_n hx hb dX5_collect_17 rfl (lv_at hl 2 rfl) ?_
    refine c_get (v := .int (F 20)) (C := RX5) (Tc := TX5) (N := 19) (ci := 4) hx hb hq pin_wsX50 hown hE hP hO 28 (sg_28 G h0 a _ _ _ _ _) rfl 12 (by decide) (hq _ pw_506) (fun _ h9 => h9) rfl dX5_collect_18 ?_
    refine lv_istore_n (lv' := [(3, .int (F 20)), (2, .int (nI tp)), (1, .int (nI ba)), (0, .ref (a 5))]) hx hb dX5_collect_21 rfl hl (by decide) rfl (fun ls hl => ?_)
    refine lv_aload_n hx hb dX5_collect_22 rfl (lv_at hl 3 rfl) ?_
    refine c_get (v := .ref mq) (C := RX5) (Tc := TX5) (N := 19) (ci := 4) hx hb hq pin_wsX50 hown hE hP hO 28 (sg_28 G h0 a _ _ _ _ _) rfl 9 (by decide) (hq _ pw_503) (fun _ h9 => h9) rfl dX5_collect_23 ?_
    refine lv_astore (lv' := [(4, .ref mq), (3, .int (F 20)), (2, .int (nI tp)), (1, .int (nI ba)), (0, .ref (a 5))]) hx hb dX5_collect_26 hl (by decide) rfl (fun ls hl => ?_)
    refine lv_aload_n hx hb dX5_collect_28 rfl (lv_at hl 4 rfl) ?_
    refine c_get (v := .int (nI on)) (C := RX5) (Tc := TX5) (N := 19) (ci := 4) hx hb hq pin_wsX50 hown hE hP hO 28 (sg_28 G h0 a _ _ _ _ _) rfl 15 (by decide) (hq _ pw_502) (fun _ h9 => h9) rfl dX5_collect_29 ?_
    refine lv_iconst (v := 1) hx hb dX5_collect_32 (by decide) ?_
    refine lv_isub hx hb dX5_collect_33 ?_
    refine lv_topi (fun x148 e149 => ?_)
    refine lv_istore (lv' := [(5, .int x148), (4, .ref mq), (3, .int (F 20)), (2, .int (nI tp)), (1, .int (nI ba)), (0, .ref (a 5))]) hx hb dX5_collect_34 hl (by decide) rfl (fun ls hl => ?_)
    have loop_c : ∀ (n_c : Nat) (k2 : Nat) (fi2 : Nat) (fe2 : Int32) (at2 : Int32) (cl : Int32) (c2 : Nat) (ot2 : Nat) (o2 : Option Nat) (J2 : Nat → Nat → Int64) (H : Heap) (locs : List Loc) (ls : Array Slot) (w : va_W), k2 ≤ on → on + 1 ≤ k2 + n_c → (fi2 ≤ 32000) → (cl = nI c2 - 1) → (c2 + k2 = on) → (8 ≤ ot2 ∧ ot2 ≤ 3008) → (MoN K o2) → va_P G.1 pCl w H → va_D A w → va_S A s.heap H locs → OKP G h0 a (upd (upd (upd (upd (upd (upd F 5 (nI cs)) 18 (nI ba)) 19 (nI tp)) 22 (nI on)) 26 (nI ht)) 27 (nI ot2)) (updR (updR (updR (updR R 5 (.ref pq)) 6 (va_rf (some mq))) 7 (.ref (a sp))) 8 (.ref (a op))) Z B J2 K w → lv_has ls 9 [(5, .int cl), (4, va_rf o2), (3, .int at2), (2, .int fe2), (1, .int (nI fi2)), (0, .ref (a 5))] → W p l e (headSpec (Cond.code yX5_collect cX5_collect 9 none :: pw) ({ frames := 6, cells := 0, slots := 0, locals := 145 } : Room)).room s m ([.ref (a 5)] : List Value).toArray below meth c H locs 0 0 (MQ below (pQ G A (fun (v : Option Value) (u : va_W × ((Nat → Nat → Int64) × Nat × Nat × Nat × Int32)) => v = none ∧ (8 ≤ u.2.2.2.2.1 ∧ u.2.2.2.2.1 ≤ 3008) ∧ ((u.2.2.1 = 34 ∧ u.2.2.2.1 = 35) ∨ (u.2.2.1 = 35 ∧ u.2.2.2.1 = 34)) ∧ (OKP G h0 a (upd (upd (upd (upd (upd (upd F 5 (nI cs)) 18 (nI ba)) 19 (nI tp)) 22 (nI on)) 26 (nI u.2.2.2.2.1)) 27 u.2.2.2.2.2) (updR (updR (updR (updR R 5 (.ref pq)) 6 (va_rf (some mq))) 7 (.ref (a u.2.2.1))) 8 (.ref (a u.2.2.2.1))) Z B u.2.1 K u.1)) (fun u => u.1)) ([.ref (a 5)] : List Value).toArray s ({ frames := 6, cells := 0, slots := 0, locals := 145 } : Room).cells ({ frames := 6, cells := 0, slots := 0, locals := 145 } : Room).slots A) (F0 m 36 ls []) := by
      intro n_c
      induction n_c with
      | zero => intro k2 fi2 fe2 at2 cl c2 ot2 o2 J2 H locs ls w hk_c hn_c; omega
      | succ n_c ih_c =>
        intro k2 fi2 fe2 at2 cl c2 ot2 o2 J2 H locs ls w hk_c hn_c hfi2 hcl hck hot2 ho2 hP hD hS hO hl
        rcases o2 with _ | x9
        · have hl : lv_has ls 9 [(5, .int cl), (4, .null), (3, .int at2), (2, .int fe2), (1, .int (nI fi2)), (0, .ref (a 5))] := hl
          refine W.eq (g2 := F0 m 36 ls []) rfl ?_
          refine lv_iload hx hb dX5_collect_36 (lv_at hl 0 rfl) ?_
          refine lv_if_lt (tgt := 185) hx hb dX5_collect_38 (by decide) (fun c150 => ?_) (fun c150 => ?_)
          · refine lv_aload_n hx hb dX5_collect_185 rfl (lv_at hl 5 rfl) ?_
            refine c_get (v := .ref (a 28)) (C := RX5) (Tc := TX5) (N := 19) (ci := 4) hx hb hq pin_wsX50 hown hE hP hO 28 (sg_28 G h0 a _ _ _ _ _) rfl 1 (by decide) (hq _ pw_473) (fun _ h9 => h9) rfl dX5_collect_186 ?_
            have hO : OKW G h0 a (upd (upd (upd (upd (upd (upd (upd (upd F 5 (nI cs)) 18 (nI ba)) 19 (nI tp)) 22 (nI on)) 26 (nI ht)) 27 (nI ot2)) 26 (nI ht)) 27 (nI ot2)) (updR (updR (updR (updR (updR (updR R 5 (.ref pq)) 6 (va_rf (some mq))) 7 (.ref (a sp))) 8 (.ref (a op))) 7 (.ref (a sp))) 8 (.ref (a op))) Z B J2 K.1 (fun q99 x99 => x99 = rep G a K q99) w := hO.to rfl
            obtain ⟨_, qr154, hqr155⟩ := hO.2.1 29 _ (sg_29 G h0 a _ _ _ _ _)
            refine pc_V0 (G := G) (As := []) (rest := []) hx hb hml hown hq hE hX pX0_al hP hD hS hA hl.1 (K_endCollecting l G h0 a (upd (upd (upd (upd (upd (upd F 5 (nI cs)) 18 (nI ba)) 19 (nI tp)) 22 (nI on)) 26 (nI ht)) 27 (nI ot2)) (updR (updR (updR (updR R 5 (.ref pq)) 6 (va_rf (some mq))) 7 (.ref (a sp))) 8 (.ref (a op))) Z B J2 K.1 (fun q99 x99 => x99 = rep G a K q99) w sp op ht ot2 hsp (by omega) (by omega) hO) (gV pw_531 pw_532 pw_533 pw_440 pw_464) hV_X3_endCollecting qr154 3 hqr155 rfl rfl rfl (Nat.le_of_ble_eq_true rfl) dX5_collect_189 ⟨Nat.le_of_ble_eq_true rfl, Nat.le_of_ble_eq_true rfl⟩ ⟨Nat.le_of_ble_eq_true rfl, Nat.le_of_ble_eq_true rfl⟩ (fun v153 u151 H locs hw152 hP hD hS => ?_)
            obtain ⟨w, sp156, op157, ht158, ot159, J160⟩ := u151
            obtain ⟨hw152, h161, h162, h163, hO⟩ := hw152
            have h161 : 8 ≤ ht158 ∧ ht158 ≤ 3008 := h161
            have h162 : 8 ≤ ot159 ∧ ot159 ≤ 3008 := h162
            have h163 : (sp156 = 34 ∧ op157 = 35) ∨ (sp156 = 35 ∧ op157 = 34) := h163
            obtain rfl : v153 = none := hw152
            have hO : OKP G h0 a (upd (upd (upd (upd (upd (upd F 5 (nI cs)) 18 (nI ba)) 19 (nI tp)) 22 (nI on)) 26 (nI ht158)) 27 (nI ot159)) (updR (updR (updR (updR R 5 (.ref pq)) 6 (va_rf (some mq))) 7 (.ref (a sp156))) 8 (.ref (a op157))) Z B J160 K w := hO.to rfl
            refine W.widen (k := 0) (n := 0) (Nat.le_of_ble_eq_true rfl) (Nat.le_of_ble_eq_true rfl) ?_
            refine W.eq (g2 := F0 m 192 ls []) rfl ?_
            have hz164 : 8 ≤ ht158 ∧ ht158 ≤ 3008 := (by omega)
            have hz165 : (sp156 = 34 ∧ op157 = 35) ∨ (sp156 = 35 ∧ op157 = 34) := (by omega)
            have hO : OKP G h0 a (upd (upd (upd (upd (upd (upd F 5 (nI cs)) 18 (nI ba)) 19 (nI tp)) 22 (nI on)) 26 (nI ht158)) 27 (nI ot159)) (updR (updR (updR (updR R 5 (.ref pq)) 6 (va_rf (some mq))) 7 (.ref (a sp156))) 8 (.ref (a op157))) Z B J160 K w := hO.to rfl
            exact W.vret hx hb hr (fun t99 ht99 hW99 => ⟨⟨_, (w, (J160, sp156, op157, ht158, (nI ot159))), rfl, ⟨rfl, hz164, hz165, hO⟩, by rw [ht99]; exact hP, hD⟩, hS.F ht99⟩) hS.2.2 dX5_collect_192
          · obtain ⟨hc1, hc9⟩ := pred_nn hcl (by omega) c150
            obtain ⟨bj, hbj, hfj, hfk⟩ := hfr (c2 - 1) (by omega)
            rw [hc9] at hl
            refine lv_aloadN hx hb dX5_collect_41 (lv_at hl 1 rfl) ?_
            refine lv_ifnullN (tgt := 185) hx hb dX5_collect_43 (by decide) ?_
            refine lv_aload_n hx hb dX5_collect_185 rfl (lv_at hl 5 rfl) ?_
            refine c_get (v := .ref (a 28)) (C := RX5) (Tc := TX5) (N := 19) (ci := 4) hx hb hq pin_wsX50 hown hE hP hO 28 (sg_28 G h0 a _ _ _ _ _) rfl 1 (by decide) (hq _ pw_473) (fun _ h9 => h9) rfl dX5_collect_186 ?_
            have hO : OKW G h0 a (upd (upd (upd (upd (upd (upd (upd (upd F 5 (nI cs)) 18 (nI ba)) 19 (nI tp)) 22 (nI on)) 26 (nI ht)) 27 (nI ot2)) 26 (nI ht)) 27 (nI ot2)) (updR (updR (updR (updR (updR (updR R 5 (.ref pq)) 6 (va_rf (some mq))) 7 (.ref (a sp))) 8 (.ref (a op))) 7 (.ref (a sp))) 8 (.ref (a op))) Z B J2 K.1 (fun q99 x99 => x99 = rep G a K q99) w := hO.to rfl
            obtain ⟨_, qr169, hqr170⟩ := hO.2.1 29 _ (sg_29 G h0 a _ _ _ _ _)
            refine pc_V0 (G := G) (As := []) (rest := []) hx hb hml hown hq hE hX pX0_al hP hD hS hA hl.1 (K_endCollecting l G h0 a (upd (upd (upd (upd (upd (upd F 5 (nI cs)) 18 (nI ba)) 19 (nI tp)) 22 (nI on)) 26 (nI ht)) 27 (nI ot2)) (updR (updR (updR (updR R 5 (.ref pq)) 6 (va_rf (some mq))) 7 (.ref (a sp))) 8 (.ref (a op))) Z B J2 K.1 (fun q99 x99 => x99 = rep G a K q99) w sp op ht ot2 hsp (by omega) (by omega) hO) (gV pw_531 pw_532 pw_533 pw_440 pw_464) hV_X3_endCollecting qr169 3 hqr170 rfl rfl rfl (Nat.le_of_ble_eq_true rfl) dX5_collect_189 ⟨Nat.le_of_ble_eq_true rfl, Nat.le_of_ble_eq_true rfl⟩ ⟨Nat.le_of_ble_eq_true rfl, Nat.le_of_ble_eq_true rfl⟩ (fun v168 u166 H locs hw167 hP hD hS => ?_)
            obtain ⟨w, sp171, op172, ht173, ot174, J175⟩ := u166
            obtain ⟨hw167, h176, h177, h178, hO⟩ := hw167
            have h176 : 8 ≤ ht173 ∧ ht173 ≤ 3008 := h176
            have h177 : 8 ≤ ot174 ∧ ot174 ≤ 3008 := h177
            have h178 : (sp171 = 34 ∧ op172 = 35) ∨ (sp171 = 35 ∧ op172 = 34) := h178
            obtain rfl : v168 = none := hw167
            have hO : OKP G h0 a (upd (upd (upd (upd (upd (upd F 5 (nI cs)) 18 (nI ba)) 19 (nI tp)) 22 (nI on)) 26 (nI ht173)) 27 (nI ot174)) (updR (updR (updR (updR R 5 (.ref pq)) 6 (va_rf (some mq))) 7 (.ref (a sp171))) 8 (.ref (a op172))) Z B J175 K w := hO.to rfl
            refine W.widen (k := 0) (n := 0) (Nat.le_of_ble_eq_true rfl) (Nat.le_of_ble_eq_true rfl) ?_
            refine W.eq (g2 := F0 m 192 ls []) rfl ?_
            have hz179 : 8 ≤ ht173 ∧ ht173 ≤ 3008 := (by omega)
            have hz180 : (sp171 = 34 ∧ op172 = 35) ∨ (sp171 = 35 ∧ op172 = 34) := (by omega)
            have hO : OKP G h0 a (upd (upd (upd (upd (upd (upd F 5 (nI cs)) 18 (nI ba)) 19 (nI tp)) 22 (nI on)) 26 (nI ht173)) 27 (nI ot174)) (updR (updR (updR (updR R 5 (.ref pq)) 6 (va_rf (some mq))) 7 (.ref (a sp171))) 8 (.ref (a op172))) Z B J175 K w := hO.to rfl
            exact W.vret hx hb hr (fun t99 ht99 hW99 => ⟨⟨_, (w, (J175, sp171, op172, ht173, (nI ot174))), rfl, ⟨rfl, hz179, hz180, hO⟩, by rw [ht99]; exact hP, hD⟩, hS.F ht99⟩) hS.2.2 dX5_collect_192
        · have hl : lv_has ls 9 [(5, .int cl), (4, .ref x9), (3, .int at2), (2, .int fe2), (1, .int (nI fi2)), (0, .ref (a 5))] := hl
          refine W.eq (g2 := F0 m 36 ls []) rfl ?_
          have hxT := ho2 x9 rfl
          refine lv_iload hx hb dX5_collect_36 (lv_at hl 0 rfl) ?_
          refine lv_if_lt (tgt := 185) hx hb dX5_collect_38 (by decide) (fun c181 => ?_) (fun c181 => ?_)
          · refine lv_aload_n hx hb dX5_collect_185 rfl (lv_at hl 5 rfl) ?_
            refine c_get (v := .ref (a 28)) (C := RX5) (Tc := TX5) (N := 19) (ci := 4) hx hb hq pin_wsX50 hown hE hP hO 28 (sg_28 G h0 a _ _ _ _ _) rfl 1 (by decide) (hq _ pw_473) (fun _ h9 => h9) rfl dX5_collect_186 ?_
            have hO : OKW G h0 a (upd (upd (upd (upd (upd (upd (upd (upd F 5 (nI cs)) 18 (nI ba)) 19 (nI tp)) 22 (nI on)) 26 (nI ht)) 27 (nI ot2)) 26 (nI ht)) 27 (nI ot2)) (updR (updR (updR (updR (updR (updR R 5 (.ref pq)) 6 (va_rf (some mq))) 7 (.ref (a sp))) 8 (.ref (a op))) 7 (.ref (a sp))) 8 (.ref (a op))) Z B J2 K.1 (fun q99 x99 => x99 = rep G a K q99) w := hO.to rfl
            obtain ⟨_, qr185, hqr186⟩ := hO.2.1 29 _ (sg_29 G h0 a _ _ _ _ _)
            refine pc_V0 (G := G) (As := []) (rest := []) hx hb hml hown hq hE hX pX0_al hP hD hS hA hl.1 (K_endCollecting l G h0 a (upd (upd (upd (upd (upd (upd F 5 (nI cs)) 18 (nI ba)) 19 (nI tp)) 22 (nI on)) 26 (nI ht)) 27 (nI ot2)) (updR (updR (updR (updR R 5 (.ref pq)) 6 (va_rf (some mq))) 7 (.ref (a sp))) 8 (.ref (a op))) Z B J2 K.1 (fun q99 x99 => x99 = rep G a K q99) w sp op ht ot2 hsp (by omega) (by omega) hO) (gV pw_531 pw_532 pw_533 pw_440 pw_464) hV_X3_endCollecting qr185 3 hqr186 rfl rfl rfl (Nat.le_of_ble_eq_true rfl) dX5_collect_189 ⟨Nat.le_of_ble_eq_true rfl, Nat.le_of_ble_eq_true rfl⟩ ⟨Nat.le_of_ble_eq_true rfl, Nat.le_of_ble_eq_true rfl⟩ (fun v184 u182 H locs hw183 hP hD hS => ?_)
            obtain ⟨w, sp187, op188, ht189, ot190, J191⟩ := u182
            obtain ⟨hw183, h192, h193, h194, hO⟩ := hw183
            have h192 : 8 ≤ ht189 ∧ ht189 ≤ 3008 := h192
            have h193 : 8 ≤ ot190 ∧ ot190 ≤ 3008 := h193
            have h194 : (sp187 = 34 ∧ op188 = 35) ∨ (sp187 = 35 ∧ op188 = 34) := h194
            obtain rfl : v184 = none := hw183
            have hO : OKP G h0 a (upd (upd (upd (upd (upd (upd F 5 (nI cs)) 18 (nI ba)) 19 (nI tp)) 22 (nI on)) 26 (nI ht189)) 27 (nI ot190)) (updR (updR (updR (updR R 5 (.ref pq)) 6 (va_rf (some mq))) 7 (.ref (a sp187))) 8 (.ref (a op188))) Z B J191 K w := hO.to rfl
            refine W.widen (k := 0) (n := 0) (Nat.le_of_ble_eq_true rfl) (Nat.le_of_ble_eq_true rfl) ?_
            refine W.eq (g2 := F0 m 192 ls []) rfl ?_
            have hz195 : 8 ≤ ht189 ∧ ht189 ≤ 3008 := (by omega)
            have hz196 : (sp187 = 34 ∧ op188 = 35) ∨ (sp187 = 35 ∧ op188 = 34) := (by omega)
            have hO : OKP G h0 a (upd (upd (upd (upd (upd (upd F 5 (nI cs)) 18 (nI ba)) 19 (nI tp)) 22 (nI on)) 26 (nI ht189)) 27 (nI ot190)) (updR (updR (updR (updR R 5 (.ref pq)) 6 (va_rf (some mq))) 7 (.ref (a sp187))) 8 (.ref (a op188))) Z B J191 K w := hO.to rfl
            exact W.vret hx hb hr (fun t99 ht99 hW99 => ⟨⟨_, (w, (J191, sp187, op188, ht189, (nI ot190))), rfl, ⟨rfl, hz195, hz196, hO⟩, by rw [ht99]; exact hP, hD⟩, hS.F ht99⟩) hS.2.2 dX5_collect_192
          · obtain ⟨hc1, hc9⟩ := pred_nn hcl (by omega) c181
            obtain ⟨bj, hbj, hfj, hfk⟩ := hfr (c2 - 1) (by omega)
            rw [hc9] at hl
            refine lv_aload hx hb dX5_collect_41 (lv_at hl 1 rfl) ?_
            refine lv_ifnull hx hb dX5_collect_43 ?_
            refine lv_iload_n hx hb dX5_collect_46 rfl (lv_at hl 4 rfl) ?_
            refine lv_aload_n hx hb dX5_collect_47 rfl (lv_at hl 5 rfl) ?_
            refine c_get (v := .ref (a 2)) (C := RX5) (Tc := TX5) (N := 19) (ci := 4) hx hb hq pin_wsX50 hown hE hP hO 28 (sg_28 G h0 a _ _ _ _ _) rfl 0 (by decide) (hq _ pw_470) (fun _ h9 => h9) rfl dX5_collect_48 ?_
            refine lv_iload_n hx hb dX5_collect_51 rfl (lv_at hl 2 rfl) ?_
            have hO : OKW G h0 a (upd (upd (upd (upd (upd (upd (upd F 5 (nI cs)) 18 (nI ba)) 19 (nI tp)) 22 (nI on)) 26 (nI ht)) 27 (nI ot2)) 5 (nI cs)) (updR (updR (updR (updR R 5 (.ref pq)) 6 (va_rf (some mq))) 7 (.ref (a sp))) 8 (.ref (a op))) Z B J2 K.1 (fun q99 x99 => x99 = rep G a K q99) w := hO.to rfl
            obtain ⟨_, qr200, hqr201⟩ := hO.2.1 13 _ (sg_13 G h0 a _ _ _ _ _)
            refine pc_V0 (G := G) (As := [.int at2]) (rest := [.int (nI fi2)]) hx hb hml hown hq hE hX pX0_al hP hD hS hA hl.1 (K_heldAt l G h0 a (upd (upd (upd (upd (upd (upd F 5 (nI cs)) 18 (nI ba)) 19 (nI tp)) 22 (nI on)) 26 (nI ht)) 27 (nI ot2)) (updR (updR (updR (updR R 5 (.ref pq)) 6 (va_rf (some mq))) 7 (.ref (a sp))) 8 (.ref (a op))) Z B J2 K.1 (fun q99 x99 => x99 = rep G a K q99) w at2 cs (by omega) hO) (gV pw_524 pw_525 pw_526 pw_70 pw_382) hV_X1_heldAt qr200 1 hqr201 rfl rfl rfl (Nat.le_of_ble_eq_true rfl) dX5_collect_52 ⟨Nat.le_of_ble_eq_true rfl, Nat.le_of_ble_eq_true rfl⟩ ⟨Nat.le_of_ble_eq_true rfl, Nat.le_of_ble_eq_true rfl⟩ (fun v199 u197 H locs hw198 hP hD hS => ?_)
            obtain ⟨w, r202⟩ := u197
            obtain ⟨hw198, hO⟩ := hw198
            obtain rfl : v199 = some (.int r202) := hw198
            have hO : OKP G h0 a (upd (upd (upd (upd (upd (upd F 5 (nI cs)) 18 (nI ba)) 19 (nI tp)) 22 (nI on)) 26 (nI ht)) 27 (nI ot2)) (updR (updR (updR (updR R 5 (.ref pq)) 6 (va_rf (some mq))) 7 (.ref (a sp))) 8 (.ref (a op))) Z B J2 K w := hO.to rfl
            refine W.widen (k := 0) (n := 0) (Nat.le_of_ble_eq_true rfl) (Nat.le_of_ble_eq_true rfl) ?_
            refine W.eq (g2 := F0 m 55 ls [.int r202, .int (nI fi2)]) rfl ?_
            refine lv_iadd hx hb dX5_collect_55 ?_
            refine lv_topi (fun x203 e204 => ?_)
            refine lv_istore (lv' := [(6, .int x203), (5, .int (nI (c2 - 1))), (4, .ref x9), (3, .int at2), (2, .int fe2), (1, .int (nI fi2)), (0, .ref (a 5))]) hx hb dX5_collect_56 hl (by decide) rfl (fun ls hl => ?_)
            refine lv_iload_n hx hb dX5_collect_58 rfl (lv_at hl 5 rfl) ?_
            refine lv_aload hx hb dX5_collect_59 (lv_at hl 2 rfl) ?_
            refine p_get (v := .int (K.2.1 12 x9)) (C := RX6) (Tc := TX6) (N := 12) (ci := 12) hx hb hq pin_wsX60 hown hE hP hO (by rw [hxT]; decide) (rep_3 hxT) rfl 9 (by decide) (hq _ pw_519) (fun _ h9 => h9) rfl dX5_collect_61 ?_
            refine lv_iadd hx hb dX5_collect_64 ?_
            refine lv_topi (fun x205 e206 => ?_)
            refine lv_istore (lv' := [(7, .int x205), (6, .int x203), (5, .int (nI (c2 - 1))), (4, .ref x9), (3, .int at2), (2, .int fe2), (1, .int (nI fi2)), (0, .ref (a 5))]) hx hb dX5_collect_65 hl (by decide) rfl (fun ls hl => ?_)
            refine lv_iload_n hx hb dX5_collect_67 rfl (lv_at hl 6 rfl) ?_
            refine lv_iconst (v := 0) hx hb dX5_collect_68 (by decide) ?_
            refine va_mmax (own := RX5) hx hb (by rw [hml]; exact hl.1.symm) hown (hq _ pw_520) (hq _ pw_51) (hq _ pw_52) (hq _ pw_53) (Nat.le_of_ble_eq_true rfl) (Nat.le_of_ble_eq_true rfl) (Nat.le_of_ble_eq_true rfl) (Nat.le_of_ble_eq_true rfl) dX5_collect_69 ?_
            refine lv_topi (fun x207 e208 => ?_)
            obtain ⟨k9, hk9, hl9⟩ := mx_n (x := fi2) (y := 0) (n := 32000) (by omega) (by omega)
            obtain rfl : x207 = nI k9 := e208.trans hk9
            refine lv_istore (lv' := [(8, .int (nI k9)), (7, .int x205), (6, .int x203), (5, .int (nI (c2 - 1))), (4, .ref x9), (3, .int at2), (2, .int fe2), (1, .int (nI fi2)), (0, .ref (a 5))]) hx hb dX5_collect_72 hl (by decide) rfl (fun ls hl => ?_)
            have loop_j : ∀ (n_j : Nat) (i3 : Nat) (ot3 : Nat) (b6 : Int32) (b7 : Int32) (J3 : Nat → Nat → Int64) (H : Heap) (locs : List Loc) (ls : Array Slot) (w : va_W), i3 ≤ 32000 → 32000 + 1 ≤ i3 + n_j → (8 ≤ ot3 ∧ ot3 ≤ 3008) → va_P G.1 pCl w H → va_D A w → va_S A s.heap H locs → OKP G h0 a (upd (upd (upd (upd (upd (upd F 5 (nI cs)) 18 (nI ba)) 19 (nI tp)) 22 (nI on)) 26 (nI ht)) 27 (nI ot3)) (updR (updR (updR (updR R 5 (.ref pq)) 6 (va_rf (some mq))) 7 (.ref (a sp))) 8 (.ref (a op))) Z B J3 K w → lv_has ls 9 [(8, .int (nI i3)), (7, .int b7), (6, .int b6), (5, .int (nI (c2 - 1))), (4, .ref x9), (3, .int at2), (2, .int fe2), (1, .int (nI fi2)), (0, .ref (a 5))] → W p l e (headSpec (Cond.code yX5_collect cX5_collect 9 none :: pw) ({ frames := 6, cells := 0, slots := 0, locals := 145 } : Room)).room s m ([.ref (a 5)] : List Value).toArray below meth c H locs 0 0 (MQ below (pQ G A (fun (v : Option Value) (u : va_W × ((Nat → Nat → Int64) × Nat × Nat × Nat × Int32)) => v = none ∧ (8 ≤ u.2.2.2.2.1 ∧ u.2.2.2.2.1 ≤ 3008) ∧ ((u.2.2.1 = 34 ∧ u.2.2.2.1 = 35) ∨ (u.2.2.1 = 35 ∧ u.2.2.2.1 = 34)) ∧ (OKP G h0 a (upd (upd (upd (upd (upd (upd F 5 (nI cs)) 18 (nI ba)) 19 (nI tp)) 22 (nI on)) 26 (nI u.2.2.2.2.1)) 27 u.2.2.2.2.2) (updR (updR (updR (updR R 5 (.ref pq)) 6 (va_rf (some mq))) 7 (.ref (a u.2.2.1))) 8 (.ref (a u.2.2.2.1))) Z B u.2.1 K u.1)) (fun u => u.1)) ([.ref (a 5)] : List Value).toArray s ({ frames := 6, cells := 0, slots := 0, locals := 145 } : Room).cells ({ frames := 6, cells := 0, slots := 0, locals := 145 } : Room).slots A) (F0 m 74 ls []) := by
              intro n_j
              induction n_j with
              | zero => intro i3 ot3 b6 b7 J3 H locs ls w hk_j hn_j; omega
              | succ n_j ih_j =>
                intro i3 ot3 b6 b7 J3 H locs ls w hk_j hn_j hot3 hP hD hS hO hl
                refine lv_iload hx hb dX5_collect_74 (lv_at hl 0 rfl) ?_
                refine lv_iload_n hx hb dX5_collect_76 rfl (lv_at hl 6 rfl) ?_
                refine lv_icmp_ge (tgt := 135) hx hb dX5_collect_77 (by decide) (fun c209 => ?_) (fun c209 => ?_)
                · refine lv_iload_n hx hb dX5_collect_135 rfl (lv_at hl 7 rfl) ?_
                  refine lv_istore_n (lv' := [(2, .int (nI fi2)), (8, .int (nI i3)), (7, .int b7), (6, .int b6), (5, .int (nI (c2 - 1))), (4, .ref x9), (3, .int at2), (1, .int (nI fi2)), (0, .ref (a 5))]) hx hb dX5_collect_136 rfl hl (by decide) rfl (fun ls hl => ?_)
                  refine lv_aload_n hx hb dX5_collect_137 rfl (lv_at hl 8 rfl) ?_
                  refine c_get (v := .ref (a 30)) (C := RX5) (Tc := TX5) (N := 19) (ci := 4) hx hb hq pin_wsX50 hown hE hP hO 28 (sg_28 G h0 a _ _ _ _ _) rfl 3 (by decide) (hq _ pw_475) (fun _ h9 => h9) rfl dX5_collect_138 ?_
                  refine lv_iconst (v := 3) hx hb dX5_collect_141 (by decide) ?_
                  refine lv_iload hx hb dX5_collect_142 (lv_at hl 4 rfl) ?_
                  refine lv_imul hx hb dX5_collect_144 ?_
                  refine lv_topi (fun x210 e211 => ?_)
                  obtain rfl : x210 = nI (3 * (c2 - 1)) := e211.trans (nI_mulN (3) ((c2 - 1)))
                  refine c_ldi (f := (B 30)) (n := 300) (t0 := 0) hx hb hE hP hO 33 (sg_33 G h0 a _ _ _ _ _) rfl (vp_in_nI (by omega) (by decide)) dX5_collect_145 ?_
                  rw [(nI_clamp (show (3 * (c2 - 1)) < 2 ^ 31 by omega))]
                  refine lv_istore_n (lv' := [(3, .int ((B 30) (3 * (c2 - 1)))), (2, .int (nI fi2)), (8, .int (nI i3)), (7, .int b7), (6, .int b6), (5, .int (nI (c2 - 1))), (4, .ref x9), (1, .int (nI fi2)), (0, .ref (a 5))]) hx hb dX5_collect_146 rfl hl (by decide) rfl (fun ls hl => ?_)
                  refine lv_aload_n hx hb dX5_collect_147 rfl (lv_at hl 8 rfl) ?_
                  refine c_get (v := .ref (a 30)) (C := RX5) (Tc := TX5) (N := 19) (ci := 4) hx hb hq pin_wsX50 hown hE hP hO 28 (sg_28 G h0 a _ _ _ _ _) rfl 3 (by decide) (hq _ pw_475) (fun _ h9 => h9) rfl dX5_collect_148 ?_
                  refine lv_iconst (v := 3) hx hb dX5_collect_151 (by decide) ?_
                  refine lv_iload hx hb dX5_collect_152 (lv_at hl 5 rfl) ?_
                  refine lv_imul hx hb dX5_collect_154 ?_
                  refine lv_topi (fun x212 e213 => ?_)
                  obtain rfl : x212 = nI (3 * (c2 - 1)) := e213.trans (nI_mulN (3) ((c2 - 1)))
                  refine lv_iconst (v := 1) hx hb dX5_collect_155 (by decide) ?_
                  refine lv_iadd hx hb dX5_collect_156 ?_
                  refine lv_topi (fun x214 e215 => ?_)
                  obtain rfl : x214 = nI ((3 * (c2 - 1)) + 1) := e215.trans (nI_add ((3 * (c2 - 1))) (1))
                  refine c_ldi (f := (B 30)) (n := 300) (t0 := 0) hx hb hE hP hO 33 (sg_33 G h0 a _ _ _ _ _) rfl (vp_in_nI (by omega) (by decide)) dX5_collect_157 ?_
                  rw [(nI_clamp (show ((3 * (c2 - 1)) + 1) < 2 ^ 31 by omega))]
                  refine lv_topi (fun x216 e217 => ?_)
                  obtain rfl : x216 = nI bj := e217.trans (by show B 30 _ = _; exact hfj)
                  refine lv_istore_n (lv' := [(1, .int (nI bj)), (3, .int ((B 30) (3 * (c2 - 1)))), (2, .int (nI fi2)), (8, .int (nI i3)), (7, .int b7), (6, .int b6), (5, .int (nI (c2 - 1))), (4, .ref x9), (0, .ref (a 5))]) hx hb dX5_collect_158 rfl hl (by decide) rfl (fun ls hl => ?_)
                  refine lv_aload_n hx hb dX5_collect_159 rfl (lv_at hl 8 rfl) ?_
                  refine c_get (v := .ref pq) (C := RX5) (Tc := TX5) (N := 19) (ci := 4) hx hb hq pin_wsX50 hown hE hP hO 28 (sg_28 G h0 a _ _ _ _ _) rfl 8 (by decide) (hq _ pw_486) (fun _ h9 => h9) rfl dX5_collect_160 ?_
                  refine lv_aload_n hx hb dX5_collect_163 rfl (lv_at hl 8 rfl) ?_
                  refine c_get (v := .ref (a 30)) (C := RX5) (Tc := TX5) (N := 19) (ci := 4) hx hb hq pin_wsX50 hown hE hP hO 28 (sg_28 G h0 a _ _ _ _ _) rfl 3 (by decide) (hq _ pw_475) (fun _ h9 => h9) rfl dX5_collect_164 ?_
                  refine lv_iconst (v := 3) hx hb dX5_collect_167 (by decide) ?_
                  refine lv_iload hx hb dX5_collect_168 (lv_at hl 6 rfl) ?_
                  refine lv_imul hx hb dX5_collect_170 ?_
                  refine lv_topi (fun x218 e219 => ?_)
                  obtain rfl : x218 = nI (3 * (c2 - 1)) := e219.trans (nI_mulN (3) ((c2 - 1)))
                  refine lv_iconst (v := 2) hx hb dX5_collect_171 (by decide) ?_
                  refine lv_iadd hx hb dX5_collect_172 ?_
                  refine lv_topi (fun x220 e221 => ?_)
                  obtain rfl : x220 = nI ((3 * (c2 - 1)) + 2) := e221.trans (nI_add ((3 * (c2 - 1))) (2))
                  refine c_ldi (f := (B 30)) (n := 300) (t0 := 0) hx hb hE hP hO 33 (sg_33 G h0 a _ _ _ _ _) rfl (vp_in_nI (by omega) (by decide)) dX5_collect_173 ?_
                  rw [(nI_clamp (show ((3 * (c2 - 1)) + 2) < 2 ^ 31 by omega))]
                  have hO : OKP G h0 a (upd (upd (upd (upd (upd (upd F 5 (nI cs)) 18 (nI ba)) 19 (nI tp)) 22 (nI on)) 26 (nI ht)) 27 (nI ot3)) (updR (updR (updR (updR R 5 (.ref pq)) 6 (va_rf (some mq))) 7 (.ref (a sp))) 8 (.ref (a op))) Z B J3 K w := hO.to rfl
                  obtain ⟨qr225, hqr226⟩ := p_recv hO (by rw [hp1]; decide) (rep_7 hp1)
                  refine pc_V0 (G := G) (As := [.int ((B 30) ((3 * (c2 - 1)) + 2))]) (rest := []) hx hb hml hown hq hE hX pX0_al hP hD hS hA hl.1 (G_methodX l G h0 a (upd (upd (upd (upd (upd (upd F 5 (nI cs)) 18 (nI ba)) 19 (nI tp)) 22 (nI on)) 26 (nI ht)) 27 (nI ot3)) (updR (updR (updR (updR R 5 (.ref pq)) 6 (va_rf (some mq))) 7 (.ref (a sp))) 8 (.ref (a op))) Z B J3 K w pq dr ml nd ((B 30) ((3 * (c2 - 1)) + 2)) nm cp it g hps.1 hps.2.2.1 hO) (gV pw_528 pw_529 pw_530 pw_106 pw_518) hV_X9_method qr225 6 hqr226 rfl rfl rfl (Nat.le_of_ble_eq_true rfl) dX5_collect_174 ⟨Nat.le_of_ble_eq_true rfl, Nat.le_of_ble_eq_true rfl⟩ ⟨Nat.le_of_ble_eq_true rfl, Nat.le_of_ble_eq_true rfl⟩ (fun v224 u222 H locs hw223 hP hD hS => ?_)
                  obtain ⟨w, o227⟩ := u222
                  obtain ⟨hw223, h228, hO⟩ := hw223
                  have h228 : MoX K nm it ((B 30) ((3 * (c2 - 1)) + 2)) o227 := h228
                  obtain rfl : v224 = some ((va_rf o227)) := hw223
                  have hO : OKP G h0 a (upd (upd (upd (upd (upd (upd F 5 (nI cs)) 18 (nI ba)) 19 (nI tp)) 22 (nI on)) 26 (nI ht)) 27 (nI ot3)) (updR (updR (updR (updR R 5 (.ref pq)) 6 (va_rf (some mq))) 7 (.ref (a sp))) 8 (.ref (a op))) Z B J3 K w := hO.to rfl
                  refine W.widen (k := 0) (n := 0) (Nat.le_of_ble_eq_true rfl) (Nat.le_of_ble_eq_true rfl) ?_
                  refine W.eq (g2 := F0 m 177 ls [(va_rf o227)]) rfl ?_
                  rcases o227 with _ | d229
                  · have hl : lv_has ls 9 [(1, .int (nI bj)), (3, .int ((B 30) (3 * (c2 - 1)))), (2, .int (nI fi2)), (8, .int (nI i3)), (7, .int b7), (6, .int b6), (5, .int (nI (c2 - 1))), (4, .ref x9), (0, .ref (a 5))] := hl
                    refine W.eq (g2 := F0 m 177 ls [.null]) rfl ?_
                    refine lv_astoreN (lv' := [(4, .null), (1, .int (nI bj)), (3, .int ((B 30) (3 * (c2 - 1)))), (2, .int (nI fi2)), (8, .int (nI i3)), (7, .int b7), (6, .int b6), (5, .int (nI (c2 - 1))), (0, .ref (a 5))]) hx hb dX5_collect_177 hl (by decide) rfl (fun ls hl => ?_)
                    obtain ⟨x230, e231⟩ : ∃ y : Int32, y = (nI (c2 - 1)) + (-1) := ⟨_, rfl⟩
                    refine lv_iinc (v := x230) (lv' := [(5, .int x230), (4, .null), (1, .int (nI bj)), (3, .int ((B 30) (3 * (c2 - 1)))), (2, .int (nI fi2)), (8, .int (nI i3)), (7, .int b7), (6, .int b6), (0, .ref (a 5))]) hx hb dX5_collect_179 hl (k := 7) rfl (by rw [e231]; rfl) (by decide) rfl (fun ls hl => ?_)
                    refine lv_goto (tgt := 36) hx hb dX5_collect_182 (by decide) ?_
                    have hO : OKP G h0 a (upd (upd (upd (upd (upd (upd F 5 (nI cs)) 18 (nI ba)) 19 (nI tp)) 22 (nI on)) 26 (nI ht)) 27 (nI ot3)) (updR (updR (updR (updR R 5 (.ref pq)) 6 (va_rf (some mq))) 7 (.ref (a sp))) 8 (.ref (a op))) Z B J3 K w := hO.to rfl
                    exact ih_c (k2 + 1) bj (nI fi2) ((B 30) (3 * (c2 - 1))) x230 (c2 - 1) ot3 none J3 _ _ _ _ (by omega) (by omega) (by omega) (e231.trans add_m1) (by omega) (by omega) (fun z h => by cases h) hP hD hS hO (lv_sub hl [0, 1, 3, 4, 2, 8] rfl)
                  · have hl : lv_has ls 9 [(1, .int (nI bj)), (3, .int ((B 30) (3 * (c2 - 1)))), (2, .int (nI fi2)), (8, .int (nI i3)), (7, .int b7), (6, .int b6), (5, .int (nI (c2 - 1))), (4, .ref x9), (0, .ref (a 5))] := hl
                    refine W.eq (g2 := F0 m 177 ls [.ref d229]) rfl ?_
                    refine lv_astore (lv' := [(4, .ref d229), (1, .int (nI bj)), (3, .int ((B 30) (3 * (c2 - 1)))), (2, .int (nI fi2)), (8, .int (nI i3)), (7, .int b7), (6, .int b6), (5, .int (nI (c2 - 1))), (0, .ref (a 5))]) hx hb dX5_collect_177 hl (by decide) rfl (fun ls hl => ?_)
                    obtain ⟨x232, e233⟩ : ∃ y : Int32, y = (nI (c2 - 1)) + (-1) := ⟨_, rfl⟩
                    refine lv_iinc (v := x232) (lv' := [(5, .int x232), (4, .ref d229), (1, .int (nI bj)), (3, .int ((B 30) (3 * (c2 - 1)))), (2, .int (nI fi2)), (8, .int (nI i3)), (7, .int b7), (6, .int b6), (0, .ref (a 5))]) hx hb dX5_collect_179 hl (k := 7) rfl (by rw [e233]; rfl) (by decide) rfl (fun ls hl => ?_)
                    refine lv_goto (tgt := 36) hx hb dX5_collect_182 (by decide) ?_
                    have hO : OKP G h0 a (upd (upd (upd (upd (upd (upd F 5 (nI cs)) 18 (nI ba)) 19 (nI tp)) 22 (nI on)) 26 (nI ht)) 27 (nI ot3)) (updR (updR (updR (updR R 5 (.ref pq)) 6 (va_rf (some mq))) 7 (.ref (a sp))) 8 (.ref (a op))) Z B J3 K w := hO.to rfl
                    exact ih_c (k2 + 1) bj (nI fi2) ((B 30) (3 * (c2 - 1))) x232 (c2 - 1) ot3 (some d229) J3 _ _ _ _ (by omega) (by omega) (by omega) (e233.trans add_m1) (by omega) (by omega) (fun z h => by cases h; exact (h228 d229 rfl).1) hP hD hS hO (lv_sub hl [0, 1, 3, 4, 2, 8] rfl)
                · refine lv_iload hx hb dX5_collect_80 (lv_at hl 0 rfl) ?_
                  refine lv_aload_n hx hb dX5_collect_82 rfl (lv_at hl 8 rfl) ?_
                  refine c_get (v := .ref (a 29)) (C := RX5) (Tc := TX5) (N := 19) (ci := 4) hx hb hq pin_wsX50 hown hE hP hO 28 (sg_28 G h0 a _ _ _ _ _) rfl 2 (by decide) (hq _ pw_474) (fun _ h9 => h9) rfl dX5_collect_83 ?_
                  refine c_len (n := 0) (t0 := 2) (v := 32000) hx hb hE hP hO 32 (sg_32 G h0 a _ _ _ _ _) rfl rfl dX5_collect_86 ?_
                  refine lv_icmp_ge (tgt := 135) hx hb dX5_collect_87 (by decide) (fun c234 => ?_) (fun c234 => ?_)
                  · have n235 : 32000 ≤ i3 := (nI_leI (a := 32000) (b := i3) (by omega) (by omega)).mp c234
                    refine lv_iload_n hx hb dX5_collect_135 rfl (lv_at hl 7 rfl) ?_
                    refine lv_istore_n (lv' := [(2, .int (nI fi2)), (8, .int (nI i3)), (7, .int b7), (6, .int b6), (5, .int (nI (c2 - 1))), (4, .ref x9), (3, .int at2), (1, .int (nI fi2)), (0, .ref (a 5))]) hx hb dX5_collect_136 rfl hl (by decide) rfl (fun ls hl => ?_)
                    refine lv_aload_n hx hb dX5_collect_137 rfl (lv_at hl 8 rfl) ?_
                    refine c_get (v := .ref (a 30)) (C := RX5) (Tc := TX5) (N := 19) (ci := 4) hx hb hq pin_wsX50 hown hE hP hO 28 (sg_28 G h0 a _ _ _ _ _) rfl 3 (by decide) (hq _ pw_475) (fun _ h9 => h9) rfl dX5_collect_138 ?_
                    refine lv_iconst (v := 3) hx hb dX5_collect_141 (by decide) ?_
                    refine lv_iload hx hb dX5_collect_142 (lv_at hl 4 rfl) ?_
                    refine lv_imul hx hb dX5_collect_144 ?_
                    refine lv_topi (fun x236 e237 => ?_)
                    obtain rfl : x236 = nI (3 * (c2 - 1)) := e237.trans (nI_mulN (3) ((c2 - 1)))
                    refine c_ldi (f := (B 30)) (n := 300) (t0 := 0) hx hb hE hP hO 33 (sg_33 G h0 a _ _ _ _ _) rfl (vp_in_nI (by omega) (by decide)) dX5_collect_145 ?_
                    rw [(nI_clamp (show (3 * (c2 - 1)) < 2 ^ 31 by omega))]
                    refine lv_istore_n (lv' := [(3, .int ((B 30) (3 * (c2 - 1)))), (2, .int (nI fi2)), (8, .int (nI i3)), (7, .int b7), (6, .int b6), (5, .int (nI (c2 - 1))), (4, .ref x9), (1, .int (nI fi2)), (0, .ref (a 5))]) hx hb dX5_collect_146 rfl hl (by decide) rfl (fun ls hl => ?_)
                    refine lv_aload_n hx hb dX5_collect_147 rfl (lv_at hl 8 rfl) ?_
                    refine c_get (v := .ref (a 30)) (C := RX5) (Tc := TX5) (N := 19) (ci := 4) hx hb hq pin_wsX50 hown hE hP hO 28 (sg_28 G h0 a _ _ _ _ _) rfl 3 (by decide) (hq _ pw_475) (fun _ h9 => h9) rfl dX5_collect_148 ?_
                    refine lv_iconst (v := 3) hx hb dX5_collect_151 (by decide) ?_
                    refine lv_iload hx hb dX5_collect_152 (lv_at hl 5 rfl) ?_
                    refine lv_imul hx hb dX5_collect_154 ?_
                    refine lv_topi (fun x238 e239 => ?_)
                    obtain rfl : x238 = nI (3 * (c2 - 1)) := e239.trans (nI_mulN (3) ((c2 - 1)))
                    refine lv_iconst (v := 1) hx hb dX5_collect_155 (by decide) ?_
                    refine lv_iadd hx hb dX5_collect_156 ?_
                    refine lv_topi (fun x240 e241 => ?_)
                    obtain rfl : x240 = nI ((3 * (c2 - 1)) + 1) := e241.trans (nI_add ((3 * (c2 - 1))) (1))
                    refine c_ldi (f := (B 30)) (n := 300) (t0 := 0) hx hb hE hP hO 33 (sg_33 G h0 a _ _ _ _ _) rfl (vp_in_nI (by omega) (by decide)) dX5_collect_157 ?_
                    rw [(nI_clamp (show ((3 * (c2 - 1)) + 1) < 2 ^ 31 by omega))]
                    refine lv_topi (fun x242 e243 => ?_)
                    obtain rfl : x242 = nI bj := e243.trans (by show B 30 _ = _; exact hfj)
                    refine lv_istore_n (lv' := [(1, .int (nI bj)), (3, .int ((B 30) (3 * (c2 - 1)))), (2, .int (nI fi2)), (8, .int (nI i3)), (7, .int b7), (6, .int b6), (5, .int (nI (c2 - 1))), (4, .ref x9), (0, .ref (a 5))]) hx hb dX5_collect_158 rfl hl (by decide) rfl (fun ls hl => ?_)
                    refine lv_aload_n hx hb dX5_collect_159 rfl (lv_at hl 8 rfl) ?_
                    refine c_get (v := .ref pq) (C := RX5) (Tc := TX5) (N := 19) (ci := 4) hx hb hq pin_wsX50 hown hE hP hO 28 (sg_28 G h0 a _ _ _ _ _) rfl 8 (by decide) (hq _ pw_486) (fun _ h9 => h9) rfl dX5_collect_160 ?_
                    refine lv_aload_n hx hb dX5_collect_163 rfl (lv_at hl 8 rfl) ?_
                    refine c_get (v := .ref (a 30)) (C := RX5) (Tc := TX5) (N := 19) (ci := 4) hx hb hq pin_wsX50 hown hE hP hO 28 (sg_28 G h0 a _ _ _ _ _) rfl 3 (by decide) (hq _ pw_475) (fun _ h9 => h9) rfl dX5_collect_164 ?_
                    refine lv_iconst (v := 3) hx hb dX5_collect_167 (by decide) ?_
                    refine lv_iload hx hb dX5_collect_168 (lv_at hl 6 rfl) ?_
                    refine lv_imul hx hb dX5_collect_170 ?_
                    refine lv_topi (fun x244 e245 => ?_)
                    obtain rfl : x244 = nI (3 * (c2 - 1)) := e245.trans (nI_mulN (3) ((c2 - 1)))
                    refine lv_iconst (v := 2) hx hb dX5_collect_171 (by decide) ?_
                    refine lv_iadd hx hb dX5_collect_172 ?_
                    refine lv_topi (fun x246 e247 => ?_)
                    obtain rfl : x246 = nI ((3 * (c2 - 1)) + 2) := e247.trans (nI_add ((3 * (c2 - 1))) (2))
                    refine c_ldi (f := (B 30)) (n := 300) (t0 := 0) hx hb hE hP hO 33 (sg_33 G h0 a _ _ _ _ _) rfl (vp_in_nI (by omega) (by decide)) dX5_collect_173 ?_
                    rw [(nI_clamp (show ((3 * (c2 - 1)) + 2) < 2 ^ 31 by omega))]
                    have hO : OKP G h0 a (upd (upd (upd (upd (upd (upd F 5 (nI cs)) 18 (nI ba)) 19 (nI tp)) 22 (nI on)) 26 (nI ht)) 27 (nI ot3)) (updR (updR (updR (updR R 5 (.ref pq)) 6 (va_rf (some mq))) 7 (.ref (a sp))) 8 (.ref (a op))) Z B J3 K w := hO.to rfl
                    obtain ⟨qr251, hqr252⟩ := p_recv hO (by rw [hp1]; decide) (rep_7 hp1)
                    refine pc_V0 (G := G) (As := [.int ((B 30) ((3 * (c2 - 1)) + 2))]) (rest := []) hx hb hml hown hq hE hX pX0_al hP hD hS hA hl.1 (G_methodX l G h0 a (upd (upd (upd (upd (upd (upd F 5 (nI cs)) 18 (nI ba)) 19 (nI tp)) 22 (nI on)) 26 (nI ht)) 27 (nI ot3)) (updR (updR (updR (updR R 5 (.ref pq)) 6 (va_rf (some mq))) 7 (.ref (a sp))) 8 (.ref (a op))) Z B J3 K w pq dr ml nd ((B 30) ((3 * (c2 - 1)) + 2)) nm cp it g hps.1 hps.2.2.1 hO) (gV pw_528 pw_529 pw_530 pw_106 pw_518) hV_X9_method qr251 6 hqr252 rfl rfl rfl (Nat.le_of_ble_eq_true rfl) dX5_collect_174 ⟨Nat.le_of_ble_eq_true rfl, Nat.le_of_ble_eq_true rfl⟩ ⟨Nat.le_of_ble_eq_true rfl, Nat.le_of_ble_eq_true rfl⟩ (fun v250 u248 H locs hw249 hP hD hS => ?_)
                    obtain ⟨w, o253⟩ := u248
                    obtain ⟨hw249, h254, hO⟩ := hw249
                    have h254 : MoX K nm it ((B 30) ((3 * (c2 - 1)) + 2)) o253 := h254
                    obtain rfl : v250 = some ((va_rf o253)) := hw249
                    have hO : OKP G h0 a (upd (upd (upd (upd (upd (upd F 5 (nI cs)) 18 (nI ba)) 19 (nI tp)) 22 (nI on)) 26 (nI ht)) 27 (nI ot3)) (updR (updR (updR (updR R 5 (.ref pq)) 6 (va_rf (some mq))) 7 (.ref (a sp))) 8 (.ref (a op))) Z B J3 K w := hO.to rfl
                    refine W.widen (k := 0) (n := 0) (Nat.le_of_ble_eq_true rfl) (Nat.le_of_ble_eq_true rfl) ?_
                    refine W.eq (g2 := F0 m 177 ls [(va_rf o253)]) rfl ?_
                    rcases o253 with _ | d255
                    · have hl : lv_has ls 9 [(1, .int (nI bj)), (3, .int ((B 30) (3 * (c2 - 1)))), (2, .int (nI fi2)), (8, .int (nI i3)), (7, .int b7), (6, .int b6), (5, .int (nI (c2 - 1))), (4, .ref x9), (0, .ref (a 5))] := hl
                      refine W.eq (g2 := F0 m 177 ls [.null]) rfl ?_
                      refine lv_astoreN (lv' := [(4, .null), (1, .int (nI bj)), (3, .int ((B 30) (3 * (c2 - 1)))), (2, .int (nI fi2)), (8, .int (nI i3)), (7, .int b7), (6, .int b6), (5, .int (nI (c2 - 1))), (0, .ref (a 5))]) hx hb dX5_collect_177 hl (by decide) rfl (fun ls hl => ?_)
                      obtain ⟨x256, e257⟩ : ∃ y : Int32, y = (nI (c2 - 1)) + (-1) := ⟨_, rfl⟩
                      refine lv_iinc (v := x256) (lv' := [(5, .int x256), (4, .null), (1, .int (nI bj)), (3, .int ((B 30) (3 * (c2 - 1)))), (2, .int (nI fi2)), (8, .int (nI i3)), (7, .int b7), (6, .int b6), (0, .ref (a 5))]) hx hb dX5_collect_179 hl (k := 7) rfl (by rw [e257]; rfl) (by decide) rfl (fun ls hl => ?_)
                      refine lv_goto (tgt := 36) hx hb dX5_collect_182 (by decide) ?_
                      have hO : OKP G h0 a (upd (upd (upd (upd (upd (upd F 5 (nI cs)) 18 (nI ba)) 19 (nI tp)) 22 (nI on)) 26 (nI ht)) 27 (nI ot3)) (updR (updR (updR (updR R 5 (.ref pq)) 6 (va_rf (some mq))) 7 (.ref (a sp))) 8 (.ref (a op))) Z B J3 K w := hO.to rfl
                      exact ih_c (k2 + 1) bj (nI fi2) ((B 30) (3 * (c2 - 1))) x256 (c2 - 1) ot3 none J3 _ _ _ _ (by omega) (by omega) (by omega) (e257.trans add_m1) (by omega) (by omega) (fun z h => by cases h) hP hD hS hO (lv_sub hl [0, 1, 3, 4, 2, 8] rfl)
                    · have hl : lv_has ls 9 [(1, .int (nI bj)), (3, .int ((B 30) (3 * (c2 - 1)))), (2, .int (nI fi2)), (8, .int (nI i3)), (7, .int b7), (6, .int b6), (5, .int (nI (c2 - 1))), (4, .ref x9), (0, .ref (a 5))] := hl
                      refine W.eq (g2 := F0 m 177 ls [.ref d255]) rfl ?_
                      refine lv_astore (lv' := [(4, .ref d255), (1, .int (nI bj)), (3, .int ((B 30) (3 * (c2 - 1)))), (2, .int (nI fi2)), (8, .int (nI i3)), (7, .int b7), (6, .int b6), (5, .int (nI (c2 - 1))), (0, .ref (a 5))]) hx hb dX5_collect_177 hl (by decide) rfl (fun ls hl => ?_)
                      obtain ⟨x258, e259⟩ : ∃ y : Int32, y = (nI (c2 - 1)) + (-1) := ⟨_, rfl⟩
                      refine lv_iinc (v := x258) (lv' := [(5, .int x258), (4, .ref d255), (1, .int (nI bj)), (3, .int ((B 30) (3 * (c2 - 1)))), (2, .int (nI fi2)), (8, .int (nI i3)), (7, .int b7), (6, .int b6), (0, .ref (a 5))]) hx hb dX5_collect_179 hl (k := 7) rfl (by rw [e259]; rfl) (by decide) rfl (fun ls hl => ?_)
                      refine lv_goto (tgt := 36) hx hb dX5_collect_182 (by decide) ?_
                      have hO : OKP G h0 a (upd (upd (upd (upd (upd (upd F 5 (nI cs)) 18 (nI ba)) 19 (nI tp)) 22 (nI on)) 26 (nI ht)) 27 (nI ot3)) (updR (updR (updR (updR R 5 (.ref pq)) 6 (va_rf (some mq))) 7 (.ref (a sp))) 8 (.ref (a op))) Z B J3 K w := hO.to rfl
                      exact ih_c (k2 + 1) bj (nI fi2) ((B 30) (3 * (c2 - 1))) x258 (c2 - 1) ot3 (some d255) J3 _ _ _ _ (by omega) (by omega) (by omega) (e259.trans add_m1) (by omega) (by omega) (fun z h => by cases h; exact (h254 d255 rfl).1) hP hD hS hO (lv_sub hl [0, 1, 3, 4, 2, 8] rfl)
                  · have n260 : ¬ (32000 ≤ i3) := fun h9 => c234 ((nI_leI (a := 32000) (b := i3) (by omega) (by omega)).mpr h9)
                    refine lv_aload_n hx hb dX5_collect_90 rfl (lv_at hl 8 rfl) ?_
                    refine c_get (v := .ref (a 29)) (C := RX5) (Tc := TX5) (N := 19) (ci := 4) hx hb hq pin_wsX50 hown hE hP hO 28 (sg_28 G h0 a _ _ _ _ _) rfl 2 (by decide) (hq _ pw_474) (fun _ h9 => h9) rfl dX5_collect_91 ?_
                    refine lv_iload hx hb dX5_collect_94 (lv_at hl 0 rfl) ?_
                    refine lv_iload hx hb dX5_collect_96 (lv_at hl 0 rfl) ?_
                    refine lv_iload hx hb dX5_collect_98 (lv_at hl 2 rfl) ?_
                    refine lv_icmp_lt (tgt := 110) hx hb dX5_collect_100 (by decide) (fun c261 => ?_) (fun c261 => ?_)
                    · refine lv_aload_n hx hb dX5_collect_110 rfl (lv_at hl 8 rfl) ?_
                      refine c_get (v := .ref (a 28)) (C := RX5) (Tc := TX5) (N := 19) (ci := 4) hx hb hq pin_wsX50 hown hE hP hO 28 (sg_28 G h0 a _ _ _ _ _) rfl 1 (by decide) (hq _ pw_473) (fun _ h9 => h9) rfl dX5_collect_111 ?_
                      refine lv_aload_n hx hb dX5_collect_114 rfl (lv_at hl 8 rfl) ?_
                      refine c_get (v := .ref (a 29)) (C := RX5) (Tc := TX5) (N := 19) (ci := 4) hx hb hq pin_wsX50 hown hE hP hO 28 (sg_28 G h0 a _ _ _ _ _) rfl 2 (by decide) (hq _ pw_474) (fun _ h9 => h9) rfl dX5_collect_115 ?_
                      refine lv_iload hx hb dX5_collect_118 (lv_at hl 0 rfl) ?_
                      refine c_ldl (f := (J3 29)) (n := 32000) (t0 := 2) hx hb hE hP hO 32 (sg_32 G h0 a _ _ _ _ _) rfl (vp_in_nI (by omega) (by decide)) dX5_collect_120 ?_
                      rw [(nI_clamp (show i3 < 2 ^ 31 by omega))]
                      refine lv_topl (fun x262 e263 => ?_)
                      have hO : OKW G h0 a (upd (upd (upd (upd (upd (upd (upd (upd F 5 (nI cs)) 18 (nI ba)) 19 (nI tp)) 22 (nI on)) 26 (nI ht)) 27 (nI ot3)) 26 (nI ht)) 27 (nI ot3)) (updR (updR (updR (updR (updR (updR R 5 (.ref pq)) 6 (va_rf (some mq))) 7 (.ref (a sp))) 8 (.ref (a op))) 7 (.ref (a sp))) 8 (.ref (a op))) Z B J3 K.1 (fun q99 x99 => x99 = rep G a K q99) w := hO.to rfl
                      obtain ⟨_, qr267, hqr268⟩ := hO.2.1 29 _ (sg_29 G h0 a _ _ _ _ _)
                      refine pc_V0 (G := G) (As := [.long x262]) (rest := [.int (nI i3), .ref (a 29)]) hx hb hml hown hq hE hX pX0_al hP hD hS hA hl.1 (K_moved l G h0 a (upd (upd (upd (upd (upd (upd F 5 (nI cs)) 18 (nI ba)) 19 (nI tp)) 22 (nI on)) 26 (nI ht)) 27 (nI ot3)) (updR (updR (updR (updR R 5 (.ref pq)) 6 (va_rf (some mq))) 7 (.ref (a sp))) 8 (.ref (a op))) Z B J3 K.1 (fun q99 x99 => x99 = rep G a K q99) w x262 sp op ht ot3 hsp (by omega) (by omega) hO) (gV pw_527 pw_466 pw_467 pw_440 pw_459) hV_X3_moved qr267 3 hqr268 rfl rfl rfl (Nat.le_of_ble_eq_true rfl) dX5_collect_121 ⟨Nat.le_of_ble_eq_true rfl, Nat.le_of_ble_eq_true rfl⟩ ⟨Nat.le_of_ble_eq_true rfl, Nat.le_of_ble_eq_true rfl⟩ (fun v266 u264 H locs hw265 hP hD hS => ?_)
                      obtain ⟨w, ot269, r270, J271⟩ := u264
                      obtain ⟨hw265, h272, hO⟩ := hw265
                      have h272 : 8 ≤ ot269 ∧ ot269 ≤ 3008 := h272
                      obtain rfl : v266 = some (.long r270) := hw265
                      have hO : OKP G h0 a (upd (upd (upd (upd (upd (upd F 5 (nI cs)) 18 (nI ba)) 19 (nI tp)) 22 (nI on)) 26 (nI ht)) 27 (nI ot269)) (updR (updR (updR (updR R 5 (.ref pq)) 6 (va_rf (some mq))) 7 (.ref (a sp))) 8 (.ref (a op))) Z B J271 K w := hO.to rfl
                      refine W.widen (k := 0) (n := 0) (Nat.le_of_ble_eq_true rfl) (Nat.le_of_ble_eq_true rfl) ?_
                      refine W.eq (g2 := F0 m 124 ls [.long r270, .int (nI i3), .ref (a 29)]) rfl ?_
                      refine lv_goto (tgt := 128) hx hb dX5_collect_124 (by decide) ?_
                      refine c_stl (f := (J271 29)) (n := 32000) (t0 := 2) hx hb hE hP hD hS hO 32 (sg_32 G h0 a _ _ _ _ _) rfl (vp_in_nI (by omega) (by decide)) (sj_29 G h0 a _ _ _ _ _ _) dX5_collect_128 (fun H locs w hP hD hS hO => ?_)
                      rw [(nI_clamp (show i3 < 2 ^ 31 by omega))] at hO
                      refine lv_iinc (v := (nI (i3 + 1))) (lv' := [(8, .int (nI (i3 + 1))), (7, .int b7), (6, .int b6), (5, .int (nI (c2 - 1))), (4, .ref x9), (3, .int at2), (2, .int fe2), (1, .int (nI fi2)), (0, .ref (a 5))]) hx hb dX5_collect_129 hl (k := 0) rfl (nI_1 i3) (by decide) rfl (fun ls hl => ?_)
                      refine lv_goto (tgt := 74) hx hb dX5_collect_132 (by decide) ?_
                      have hO : OKP G h0 a (upd (upd (upd (upd (upd (upd F 5 (nI cs)) 18 (nI ba)) 19 (nI tp)) 22 (nI on)) 26 (nI ht)) 27 (nI ot269)) (updR (updR (updR (updR R 5 (.ref pq)) 6 (va_rf (some mq))) 7 (.ref (a sp))) 8 (.ref (a op))) Z B (updJ J271 29 (vp_updL (J271 29) i3 r270)) K w := hO.to rfl
                      exact ih_j (i3 + 1) ot269 b6 b7 (updJ J271 29 (vp_updL (J271 29) i3 r270)) _ _ _ _ (by omega) (by omega) (by omega) hP hD hS hO (lv_sub hl [0, 1, 2, 3, 4, 5, 6, 7, 8] rfl)
                    · refine lv_iload hx hb dX5_collect_103 (lv_at hl 0 rfl) ?_
                      refine lv_iload hx hb dX5_collect_105 (lv_at hl 1 rfl) ?_
                      refine lv_icmp_lt (tgt := 127) hx hb dX5_collect_107 (by decide) (fun c273 => ?_) (fun c273 => ?_)
                      · refine lv_lconst (v := 0) hx hb dX5_collect_127 (by decide) ?_
                        refine c_stl (f := (J3 29)) (n := 32000) (t0 := 2) hx hb hE hP hD hS hO 32 (sg_32 G h0 a _ _ _ _ _) rfl (vp_in_nI (by omega) (by decide)) (sj_29 G h0 a _ _ _ _ _ _) dX5_collect_128 (fun H locs w hP hD hS hO => ?_)
                        rw [(nI_clamp (show i3 < 2 ^ 31 by omega))] at hO
                        refine lv_iinc (v := (nI (i3 + 1))) (lv' := [(8, .int (nI (i3 + 1))), (7, .int b7), (6, .int b6), (5, .int (nI (c2 - 1))), (4, .ref x9), (3, .int at2), (2, .int fe2), (1, .int (nI fi2)), (0, .ref (a 5))]) hx hb dX5_collect_129 hl (k := 0) rfl (nI_1 i3) (by decide) rfl (fun ls hl => ?_)
                        refine lv_goto (tgt := 74) hx hb dX5_collect_132 (by decide) ?_
                        have hO : OKP G h0 a (upd (upd (upd (upd (upd (upd F 5 (nI cs)) 18 (nI ba)) 19 (nI tp)) 22 (nI on)) 26 (nI ht)) 27 (nI ot3)) (updR (updR (updR (updR R 5 (.ref pq)) 6 (va_rf (some mq))) 7 (.ref (a sp))) 8 (.ref (a op))) Z B (updJ J3 29 (vp_updL (J3 29) i3 0)) K w := hO.to rfl
                        exact ih_j (i3 + 1) ot3 b6 b7 (updJ J3 29 (vp_updL (J3 29) i3 0)) _ _ _ _ (by omega) (by omega) (by omega) hP hD hS hO (lv_sub hl [0, 1, 2, 3, 4, 5, 6, 7, 8] rfl)
                      · refine lv_aload_n hx hb dX5_collect_110 rfl (lv_at hl 8 rfl) ?_
                        refine c_get (v := .ref (a 28)) (C := RX5) (Tc := TX5) (N := 19) (ci := 4) hx hb hq pin_wsX50 hown hE hP hO 28 (sg_28 G h0 a _ _ _ _ _) rfl 1 (by decide) (hq _ pw_473) (fun _ h9 => h9) rfl dX5_collect_111 ?_
                        refine lv_aload_n hx hb dX5_collect_114 rfl (lv_at hl 8 rfl) ?_
                        refine c_get (v := .ref (a 29)) (C := RX5) (Tc := TX5) (N := 19) (ci := 4) hx hb hq pin_wsX50 hown hE hP hO 28 (sg_28 G h0 a _ _ _ _ _) rfl 2 (by decide) (hq _ pw_474) (fun _ h9 => h9) rfl dX5_collect_115 ?_
                        refine lv_iload hx hb dX5_collect_118 (lv_at hl 0 rfl) ?_
                        refine c_ldl (f := (J3 29)) (n := 32000) (t0 := 2) hx hb hE hP hO 32 (sg_32 G h0 a _ _ _ _ _) rfl (vp_in_nI (by omega) (by decide)) dX5_collect_120 ?_
                        rw [(nI_clamp (show i3 < 2 ^ 31 by omega))]
                        refine lv_topl (fun x274 e275 => ?_)
                        have hO : OKW G h0 a (upd (upd (upd (upd (upd (upd (upd (upd F 5 (nI cs)) 18 (nI ba)) 19 (nI tp)) 22 (nI on)) 26 (nI ht)) 27 (nI ot3)) 26 (nI ht)) 27 (nI ot3)) (updR (updR (updR (updR (updR (updR R 5 (.ref pq)) 6 (va_rf (some mq))) 7 (.ref (a sp))) 8 (.ref (a op))) 7 (.ref (a sp))) 8 (.ref (a op))) Z B J3 K.1 (fun q99 x99 => x99 = rep G a K q99) w := hO.to rfl
                        obtain ⟨_, qr279, hqr280⟩ := hO.2.1 29 _ (sg_29 G h0 a _ _ _ _ _)
                        refine pc_V0 (G := G) (As := [.long x274]) (rest := [.int (nI i3), .ref (a 29)]) hx hb hml hown hq hE hX pX0_al hP hD hS hA hl.1 (K_moved l G h0 a (upd (upd (upd (upd (upd (upd F 5 (nI cs)) 18 (nI ba)) 19 (nI tp)) 22 (nI on)) 26 (nI ht)) 27 (nI ot3)) (updR (updR (updR (updR R 5 (.ref pq)) 6 (va_rf (some mq))) 7 (.ref (a sp))) 8 (.ref (a op))) Z B J3 K.1 (fun q99 x99 => x99 = rep G a K q99) w x274 sp op ht ot3 hsp (by omega) (by omega) hO) (gV pw_527 pw_466 pw_467 pw_440 pw_459) hV_X3_moved qr279 3 hqr280 rfl rfl rfl (Nat.le_of_ble_eq_true rfl) dX5_collect_121 ⟨Nat.le_of_ble_eq_true rfl, Nat.le_of_ble_eq_true rfl⟩ ⟨Nat.le_of_ble_eq_true rfl, Nat.le_of_ble_eq_true rfl⟩ (fun v278 u276 H locs hw277 hP hD hS => ?_)
                        obtain ⟨w, ot281, r282, J283⟩ := u276
                        obtain ⟨hw277, h284, hO⟩ := hw277
                        have h284 : 8 ≤ ot281 ∧ ot281 ≤ 3008 := h284
                        obtain rfl : v278 = some (.long r282) := hw277
                        have hO : OKP G h0 a (upd (upd (upd (upd (upd (upd F 5 (nI cs)) 18 (nI ba)) 19 (nI tp)) 22 (nI on)) 26 (nI ht)) 27 (nI ot281)) (updR (updR (updR (updR R 5 (.ref pq)) 6 (va_rf (some mq))) 7 (.ref (a sp))) 8 (.ref (a op))) Z B J283 K w := hO.to rfl
                        refine W.widen (k := 0) (n := 0) (Nat.le_of_ble_eq_true rfl) (Nat.le_of_ble_eq_true rfl) ?_
                        refine W.eq (g2 := F0 m 124 ls [.long r282, .int (nI i3), .ref (a 29)]) rfl ?_
                        refine lv_goto (tgt := 128) hx hb dX5_collect_124 (by decide) ?_
                        refine c_stl (f := (J283 29)) (n := 32000) (t0 := 2) hx hb hE hP hD hS hO 32 (sg_32 G h0 a _ _ _ _ _) rfl (vp_in_nI (by omega) (by decide)) (sj_29 G h0 a _ _ _ _ _ _) dX5_collect_128 (fun H locs w hP hD hS hO => ?_)
                        rw [(nI_clamp (show i3 < 2 ^ 31 by omega))] at hO
                        refine lv_iinc (v := (nI (i3 + 1))) (lv' := [(8, .int (nI (i3 + 1))), (7, .int b7), (6, .int b6), (5, .int (nI (c2 - 1))), (4, .ref x9), (3, .int at2), (2, .int fe2), (1, .int (nI fi2)), (0, .ref (a 5))]) hx hb dX5_collect_129 hl (k := 0) rfl (nI_1 i3) (by decide) rfl (fun ls hl => ?_)
                        refine lv_goto (tgt := 74) hx hb dX5_collect_132 (by decide) ?_
                        have hO : OKP G h0 a (upd (upd (upd (upd (upd (upd F 5 (nI cs)) 18 (nI ba)) 19 (nI tp)) 22 (nI on)) 26 (nI ht)) 27 (nI ot281)) (updR (updR (updR (updR R 5 (.ref pq)) 6 (va_rf (some mq))) 7 (.ref (a sp))) 8 (.ref (a op))) Z B (updJ J283 29 (vp_updL (J283 29) i3 r282)) K w := hO.to rfl
                        exact ih_j (i3 + 1) ot281 b6 b7 (updJ J283 29 (vp_updL (J283 29) i3 r282)) _ _ _ _ (by omega) (by omega) (by omega) hP hD hS hO (lv_sub hl [0, 1, 2, 3, 4, 5, 6, 7, 8] rfl)
            have hO : OKP G h0 a (upd (upd (upd (upd (upd (upd F 5 (nI cs)) 18 (nI ba)) 19 (nI tp)) 22 (nI on)) 26 (nI ht)) 27 (nI ot2)) (updR (updR (updR (updR R 5 (.ref pq)) 6 (va_rf (some mq))) 7 (.ref (a sp))) 8 (.ref (a op))) Z B J2 K w := hO.to rfl
            exact loop_j (32000 + 1) k9 ot2 x203 x205 J2 _ _ _ _ (by omega) (by omega) (by omega) hP hD hS hO (lv_sub hl [0, 1, 2, 3, 4, 5, 6, 7, 8] rfl)
    have hO : OKP G h0 a (upd (upd (upd (upd (upd (upd F 5 (nI cs)) 18 (nI ba)) 19 (nI tp)) 22 (nI on)) 26 (nI ht)) 27 (nI 8)) (updR (updR (updR (updR R 5 (.ref pq)) 6 (va_rf (some mq))) 7 (.ref (a sp))) 8 (.ref (a op))) Z B J K w := hO.to rfl
    exact loop_c (on + 1) 0 ba (nI tp) (F 20) x148 on 8 (some mq) J _ _ _ _ (by omega) (by omega) (by omega) e149 (by omega) (by omega) (fun z h => by cases h; exact hmT) hP hD hS hO (lv_sub hl [0, 1, 2, 3, 4, 5] rfl)
