def abK (K : PK) (dr : Nat) : Nat → Int64 := fun k => match K.2.2.2.2.1 dr k with
  | none => 0
  | some d => K.2.2.2.1 d
section LK2
variable {G : pT} {K K1 : PK} {g : Nat → Nat → Nat} {q d p o ax pq dr ml nd nm cp s k m j i : Nat} {it : Nat → Nat} {ab ab2 ab0 : Nat → Int64} {v y : Int64}
theorem AbF.start : AbF K dr nd (abK K dr) := fun k _ d he => by
  unfold abK
  rw [he]
theorem Bi0.start (hw : WPr G K g) (hr : DcR K g dr nd) (h : 1 ≤ nd) : Bi0 (abK K dr) 1 := ⟨by
  obtain ⟨d, e1, e2, _, e4⟩ := hr 0 (by omega)
  unfold abK
  rw [e1]
  exact ((hw.2.2.1 d e2).2.2.2.2.2.2 e4).1, fun j b h1 h2 h3 => absurd h3 (by omega)⟩
theorem PaB.start (h : PaN K dr nd) : PaB K dr nd ab := fun j hj d p he hp => by rw [(h j hj d he).1] at hp; cases hp
theorem PaU.start (h : PaN K dr nd) : PaU K dr nd k := fun j hj _ d he => (h j hj d he).1
theorem Bi0.at (h : Bi0 ab k) (hk : 1 ≤ k) : Bi0 (upL ab k v) k := ⟨(upL_ne (by omega)).trans h.1, fun j b h1 h2 h3 hb => by rw [upL_ne (by omega)] at hb; exact h.2 j b h1 h2 h3 hb⟩
theorem Bi0.all (h : Bi0 ab k) (hk : 7 ≤ k) : Bi0 ab 7 := ⟨h.1, fun j b h1 h2 h3 => h.2 j b h1 h2 (by omega)⟩
theorem WCl.start : WCl ab nd 0 := fun j _ _ hj => absurd hj (by omega)
theorem WCl.all (h : WCl ab nd m) (hm : nd ≤ m) : WCl ab nd nd := fun j a b hj => h j a b (by omega)
theorem bitL_one {b : Nat} (h : bitL 1 b) : b = 0 := by
  unfold bitL at h
  have e : (1 : Int64).toBitVec = 1#64 := rfl
  rw [e, BitVec.getLsbD_one] at h
  simp at h
  exact h
theorem shl_0 : (1 : Int64) <<< ((nI 0).toInt64 &&& 63) = 1 := by decide +kernel
theorem bti_ne (h : 1 ≤ k) : ¬ bti k = 2 := by
  unfold bti
  rw [if_neg (by omega)]
  split <;> decide
theorem bti_1 (h : 1 ≤ k) (h7 : k < 7) : 1 ≤ bti k := by
  unfold bti
  rw [if_neg (by omega), if_pos h7]; exact Nat.le_refl _
end LK2
theorem Bi0.up2 {ab : Nat → Int64} {k : Nat} {v : Int64} (h : Bi0 ab k) (hk : 1 ≤ k) (hv : k < 7 → ∀ b : Nat, bitL v b → b = 0) : Bi0 (upL ab k v) (k + 1) := Bi0.up h hk hv
theorem lz_bound (lz : Int32) : ∃ k : Nat, k < 2147483648 ∧ (∀ i : Nat, i < 2147483648 → nI i < lz → i < k) := by
  rcases i32_cases lz with h | ⟨k, h1, h2⟩
  · exact ⟨0, by decide, fun i hi h9 => absurd (Int32.lt_trans h9 h) (nI_pos hi)⟩
  · exact ⟨k, h2, fun i hi h9 => by rw [h1] at h9; exact (nI_ltI (a := i) (b := k) hi h2).mp h9⟩
theorem WMd.all {ab ab2 : Nat → Int64} {nd m k : Nat} (h : WMd ab ab2 nd m k) (hk : nd ≤ k) : WMd ab ab2 nd m nd := fun a b ha hb => by
  rw [h a b ha hb]
  exact ⟨fun z => z.imp id (fun z => ⟨ha, z.2⟩), fun z => z.imp id (fun z => ⟨by omega, z.2⟩)⟩
theorem dX9_link_0 : decode cX9_link 0 = .ok (.iconst 1, 1) := by decide +kernel
theorem dX9_link_1 : decode cX9_link 1 = .ok (.istore_n 1, 1) := by decide +kernel
theorem dX9_link_2 : decode cX9_link 2 = .ok (.iload_n 1, 1) := by decide +kernel
theorem dX9_link_3 : decode cX9_link 3 = .ok (.aload_n 0, 1) := by decide +kernel
theorem dX9_link_4 : decode cX9_link 4 = .ok (.getfield 33, 3) := by decide +kernel
theorem dX9_link_7 : decode cX9_link 7 = .ok (.if_icmp .ge 139, 3) := by decide +kernel
theorem dX9_link_146 : decode cX9_link 146 = .ok (.iconst 0, 1) := by decide +kernel
theorem dX9_link_147 : decode cX9_link 147 = .ok (.istore_n 1, 1) := by decide +kernel
theorem dX9_link_148 : decode cX9_link 148 = .ok (.iload_n 1, 1) := by decide +kernel
theorem dX9_link_149 : decode cX9_link 149 = .ok (.aload_n 0, 1) := by decide +kernel
theorem dX9_link_150 : decode cX9_link 150 = .ok (.getfield 33, 3) := by decide +kernel
theorem dX9_link_153 : decode cX9_link 153 = .ok (.if_icmp .ge 57, 3) := by decide +kernel
theorem dX9_link_210 : decode cX9_link 210 = .ok (.return_, 1) := by decide +kernel
theorem dX9_link_156 : decode cX9_link 156 = .ok (.iconst 0, 1) := by decide +kernel
theorem dX9_link_157 : decode cX9_link 157 = .ok (.istore_n 2, 1) := by decide +kernel
theorem dX9_link_158 : decode cX9_link 158 = .ok (.iload_n 2, 1) := by decide +kernel
theorem dX9_link_159 : decode cX9_link 159 = .ok (.aload_n 0, 1) := by decide +kernel
theorem dX9_link_160 : decode cX9_link 160 = .ok (.getfield 33, 3) := by decide +kernel
theorem dX9_link_163 : decode cX9_link 163 = .ok (.if_icmp .ge 41, 3) := by decide +kernel
theorem dX9_link_204 : decode cX9_link 204 = .ok (.iinc 1 1, 3) := by decide +kernel
theorem dX9_link_207 : decode cX9_link 207 = .ok (.goto (-59), 3) := by decide +kernel
theorem dX9_link_166 : decode cX9_link 166 = .ok (.aload_n 0, 1) := by decide +kernel
theorem dX9_link_167 : decode cX9_link 167 = .ok (.iload_n 1, 1) := by decide +kernel
theorem dX9_link_168 : decode cX9_link 168 = .ok (.iload_n 2, 1) := by decide +kernel
theorem dX9_link_169 : decode cX9_link 169 = .ok (.invokevirtual 65, 3) := by decide +kernel
theorem dX9_link_172 : decode cX9_link 172 = .ok (.ifCond .eq 26, 3) := by decide +kernel
theorem dX9_link_198 : decode cX9_link 198 = .ok (.iinc 2 1, 3) := by decide +kernel
theorem dX9_link_201 : decode cX9_link 201 = .ok (.goto (-43), 3) := by decide +kernel
theorem dX9_link_175 : decode cX9_link 175 = .ok (.aload_n 0, 1) := by decide +kernel
theorem dX9_link_176 : decode cX9_link 176 = .ok (.getfield 17, 3) := by decide +kernel
theorem dX9_link_179 : decode cX9_link 179 = .ok (.iload_n 2, 1) := by decide +kernel
theorem dX9_link_180 : decode cX9_link 180 = .ok (.aaload, 1) := by decide +kernel
theorem dX9_link_181 : decode cX9_link 181 = .ok (.dup, 1) := by decide +kernel
theorem dX9_link_182 : decode cX9_link 182 = .ok (.getfield 57, 3) := by decide +kernel
theorem dX9_link_185 : decode cX9_link 185 = .ok (.aload_n 0, 1) := by decide +kernel
theorem dX9_link_186 : decode cX9_link 186 = .ok (.getfield 17, 3) := by decide +kernel
theorem dX9_link_189 : decode cX9_link 189 = .ok (.iload_n 1, 1) := by decide +kernel
theorem dX9_link_190 : decode cX9_link 190 = .ok (.aaload, 1) := by decide +kernel
theorem dX9_link_191 : decode cX9_link 191 = .ok (.getfield 57, 3) := by decide +kernel
theorem dX9_link_194 : decode cX9_link 194 = .ok (.lor, 1) := by decide +kernel
theorem dX9_link_195 : decode cX9_link 195 = .ok (.putfield 57, 3) := by decide +kernel
theorem dX9_link_10 : decode cX9_link 10 = .ok (.aload_n 0, 1) := by decide +kernel
theorem dX9_link_11 : decode cX9_link 11 = .ok (.getfield 17, 3) := by decide +kernel
theorem dX9_link_14 : decode cX9_link 14 = .ok (.iload_n 1, 1) := by decide +kernel
theorem dX9_link_15 : decode cX9_link 15 = .ok (.aaload, 1) := by decide +kernel
theorem dX9_link_16 : decode cX9_link 16 = .ok (.astore_n 2, 1) := by decide +kernel
theorem dX9_link_17 : decode cX9_link 17 = .ok (.aload_n 2, 1) := by decide +kernel
theorem dX9_link_18 : decode cX9_link 18 = .ok (.lconst 1, 1) := by decide +kernel
theorem dX9_link_19 : decode cX9_link 19 = .ok (.putfield 57, 3) := by decide +kernel
theorem dX9_link_22 : decode cX9_link 22 = .ok (.aload_n 2, 1) := by decide +kernel
theorem dX9_link_23 : decode cX9_link 23 = .ok (.getfield 164, 3) := by decide +kernel
theorem dX9_link_26 : decode cX9_link 26 = .ok (.ifCond .ne 43, 3) := by decide +kernel
theorem dX9_link_29 : decode cX9_link 29 = .ok (.aload_n 2, 1) := by decide +kernel
theorem dX9_link_30 : decode cX9_link 30 = .ok (.aload_n 2, 1) := by decide +kernel
theorem dX9_link_31 : decode cX9_link 31 = .ok (.getfield 148, 3) := by decide +kernel
theorem dX9_link_34 : decode cX9_link 34 = .ok (.iconst (-1), 1) := by decide +kernel
theorem dX9_link_35 : decode cX9_link 35 = .ok (.if_icmp .ne 12, 3) := by decide +kernel
theorem dX9_link_38 : decode cX9_link 38 = .ok (.aload_n 0, 1) := by decide +kernel
theorem dX9_link_39 : decode cX9_link 39 = .ok (.getfield 17, 3) := by decide +kernel
theorem dX9_link_42 : decode cX9_link 42 = .ok (.iconst 0, 1) := by decide +kernel
theorem dX9_link_43 : decode cX9_link 43 = .ok (.aaload, 1) := by decide +kernel
theorem dX9_link_44 : decode cX9_link 44 = .ok (.goto 22, 3) := by decide +kernel
theorem dX9_link_66 : decode cX9_link 66 = .ok (.putfield 174, 3) := by decide +kernel
theorem dX9_link_69 : decode cX9_link 69 = .ok (.aload_n 2, 1) := by decide +kernel
theorem dX9_link_70 : decode cX9_link 70 = .ok (.getfield 174, 3) := by decide +kernel
theorem dX9_link_73 : decode cX9_link 73 = .ok (.ifnull 21, 3) := by decide +kernel
theorem dX9_link_76 : decode cX9_link 76 = .ok (.aload_n 2, 1) := by decide +kernel
theorem dX9_link_77 : decode cX9_link 77 = .ok (.dup, 1) := by decide +kernel
theorem dX9_link_78 : decode cX9_link 78 = .ok (.getfield 57, 3) := by decide +kernel
theorem dX9_link_81 : decode cX9_link 81 = .ok (.lconst 1, 1) := by decide +kernel
theorem dX9_link_82 : decode cX9_link 82 = .ok (.aload_n 2, 1) := by decide +kernel
theorem dX9_link_83 : decode cX9_link 83 = .ok (.getfield 174, 3) := by decide +kernel
theorem dX9_link_86 : decode cX9_link 86 = .ok (.getfield 178, 3) := by decide +kernel
theorem dX9_link_89 : decode cX9_link 89 = .ok (.lshl, 1) := by decide +kernel
theorem dX9_link_90 : decode cX9_link 90 = .ok (.lor, 1) := by decide +kernel
theorem dX9_link_91 : decode cX9_link 91 = .ok (.putfield 57, 3) := by decide +kernel
theorem dX9_link_94 : decode cX9_link 94 = .ok (.iconst 0, 1) := by decide +kernel
theorem dX9_link_95 : decode cX9_link 95 = .ok (.istore_n 3, 1) := by decide +kernel
theorem dX9_link_96 : decode cX9_link 96 = .ok (.iload_n 3, 1) := by decide +kernel
theorem dX9_link_97 : decode cX9_link 97 = .ok (.aload_n 2, 1) := by decide +kernel
theorem dX9_link_98 : decode cX9_link 98 = .ok (.getfield 154, 3) := by decide +kernel
theorem dX9_link_101 : decode cX9_link 101 = .ok (.if_icmp .ge 39, 3) := by decide +kernel
theorem dX9_link_140 : decode cX9_link 140 = .ok (.iinc 1 1, 3) := by decide +kernel
theorem dX9_link_143 : decode cX9_link 143 = .ok (.goto (-141), 3) := by decide +kernel
theorem dX9_link_104 : decode cX9_link 104 = .ok (.aload_n 2, 1) := by decide +kernel
theorem dX9_link_105 : decode cX9_link 105 = .ok (.dup, 1) := by decide +kernel
theorem dX9_link_106 : decode cX9_link 106 = .ok (.getfield 57, 3) := by decide +kernel
theorem dX9_link_109 : decode cX9_link 109 = .ok (.lconst 1, 1) := by decide +kernel
theorem dX9_link_110 : decode cX9_link 110 = .ok (.aload_n 0, 1) := by decide +kernel
theorem dX9_link_111 : decode cX9_link 111 = .ok (.aload_n 0, 1) := by decide +kernel
theorem dX9_link_112 : decode cX9_link 112 = .ok (.getfield 9, 3) := by decide +kernel
theorem dX9_link_115 : decode cX9_link 115 = .ok (.aload_n 2, 1) := by decide +kernel
theorem dX9_link_116 : decode cX9_link 116 = .ok (.getfield 157, 3) := by decide +kernel
theorem dX9_link_119 : decode cX9_link 119 = .ok (.iconst 2, 1) := by decide +kernel
theorem dX9_link_120 : decode cX9_link 120 = .ok (.iload_n 3, 1) := by decide +kernel
theorem dX9_link_121 : decode cX9_link 121 = .ok (.imul, 1) := by decide +kernel
theorem dX9_link_122 : decode cX9_link 122 = .ok (.iadd, 1) := by decide +kernel
theorem dX9_link_123 : decode cX9_link 123 = .ok (.invokevirtual 41, 3) := by decide +kernel
theorem dX9_link_126 : decode cX9_link 126 = .ok (.invokevirtual 116, 3) := by decide +kernel
theorem dX9_link_129 : decode cX9_link 129 = .ok (.lshl, 1) := by decide +kernel
theorem dX9_link_130 : decode cX9_link 130 = .ok (.lor, 1) := by decide +kernel
theorem dX9_link_131 : decode cX9_link 131 = .ok (.putfield 57, 3) := by decide +kernel
theorem dX9_link_134 : decode cX9_link 134 = .ok (.iinc 3 1, 3) := by decide +kernel
theorem dX9_link_137 : decode cX9_link 137 = .ok (.goto (-41), 3) := by decide +kernel
theorem dX9_link_47 : decode cX9_link 47 = .ok (.aload_n 0, 1) := by decide +kernel
theorem dX9_link_48 : decode cX9_link 48 = .ok (.aload_n 0, 1) := by decide +kernel
theorem dX9_link_49 : decode cX9_link 49 = .ok (.aload_n 0, 1) := by decide +kernel
theorem dX9_link_50 : decode cX9_link 50 = .ok (.getfield 9, 3) := by decide +kernel
theorem dX9_link_53 : decode cX9_link 53 = .ok (.aload_n 2, 1) := by decide +kernel
theorem dX9_link_54 : decode cX9_link 54 = .ok (.getfield 148, 3) := by decide +kernel
theorem dX9_link_57 : decode cX9_link 57 = .ok (.invokevirtual 41, 3) := by decide +kernel
theorem dX9_link_60 : decode cX9_link 60 = .ok (.invokevirtual 116, 3) := by decide +kernel
theorem dX9_link_63 : decode cX9_link 63 = .ok (.invokevirtual 160, 3) := by decide +kernel
set_option maxHeartbeats 60000000 in
set_option maxRecDepth 100000 in
theorem G_link (l : Launch) (G : pT) (h0 : Nat) (a : Nat → Nat) (F : Nat → Int32) (R : Nat → Value) (Z : Int64) (B : Nat → Nat → Int32) (J : Nat → Nat → Int64) (K : PK) (w : va_W) (pq : Nat) (dr : Nat) (ml : Nat) (nd : Nat) (nm : Nat) (cp : Nat) (it : Nat → Nat) (s9 : Nat) (sz : Nat) (g : Nat → Nat → Nat) (hsz : sz ≤ 5000) (hwp : WPr G K g) (hps : PgS G K g (a 1) pq dr ml nd nm cp it s9) (hO : OKP G h0 a (upd F 2 (nI sz)) R Z B J K w) : PM l G pX0 yX9_link cX9_link 4 none ({ frames := 3, cells := 0, slots := 0, locals := 82 }) [.ref pq] w (fun (v : Option Value) (u : va_W × (PK × (Nat → Int64))) => v = none ∧ (WPr G u.2.1 g) ∧ (PgT G u.2.1 g (a 1) pq dr ml nd nm cp it s9) ∧ (AbF u.2.1 dr nd u.2.2) ∧ (PaB u.2.1 dr nd u.2.2) ∧ (WCl u.2.2 nd nd) ∧ (Bi0 u.2.2 7) ∧ (OKP G h0 a (upd F 2 (nI sz)) R Z B J u.2.1 u.1)) (fun u => u.1) := by
  intro sz
  refine Met.ofW (cc := cX9_link) (maxL := 4) (ret := none) (by decide) rfl ?_
  intro p e s m args below meth c s₁ B9 hml hv
  obtain ⟨rfl, hsz, hP, hD0, hE, hX⟩ := hv
  have hx := B9.exec
  have hb := B9.bytes
  have hr := B9.returns
  have hts := atoms_spec (ws := Cond.code yX9_link cX9_link 4 none :: pw) B9.pre
  have hq : ∀ w ∈ pw, w.before _ s = true := fun w h => hts w (List.mem_cons_of_mem _ h)
  have hown : s.vm.findClass RX9 = some m.cls := findClass_of_methodNamed B9.named
  have hlocks := B9.notSynchronized
  subst hsz
  have hD := hD0.self (sz := s.heap.size)
  have hA : ∀ q : Nat, s.heap.size ≤ q → va_A w s.heap.size q := fun q h => Or.inr h
  generalize va_A w s.heap.size = A at hD hE hA ⊢
  have hS : va_S A s.heap s.heap [] := va_S.rf
  have hl := lv_entry ([.ref pq]) (n := 4) (Nat.le_of_ble_eq_true rfl)
  rw [lg_entry_eq]
  generalize (lg_sl ([.ref pq]) ++ List.replicate (4 - (lg_sl ([.ref pq])).length) Slot.unset).toArray = ls at hl ⊢
  have hl : lv_has ls 4 [(0, .ref pq)] := hl
  have hp1 := hps.1.1
  have hp2 := hps.1.2.1
  have hp3 := hps.1.2.2.1
  have hp4 := hps.1.2.2.2.1
  have hp5 := hps.1.2.2.2.2.1
  have hp6 := hps.1.2.2.2.2.2.1
  have hp8 := hps.1.2.2.2.2.2.2.2.1
  have hp9 := hps.1.2.2.2.2.2.2.2.2
  refine lv_iconst (v := 1) hx hb dX9_link_0 (by decide) ?_
  refine lv_istore_n (lv' := [(1, .int 1), (0, .ref pq)]) hx hb dX9_link_1 rfl hl (by decide) rfl (fun ls hl => ?_)
  have loop_2 : ∀ (n_2 : Nat) (i2 : Nat) (K2 : PK) (ab2 : Nat → Int64) (H : Heap) (locs : List Loc) (ls : Array Slot) (w : va_W), i2 ≤ nd → nd + 1 ≤ i2 + n_2 → (WPr G K2 g) → (PgT G K2 g (a 1) pq dr ml nd nm cp it s9) → (AbF K2 dr nd ab2) → (PaB K2 dr nd ab2) → (PaU K2 dr nd i2) → (Bi0 ab2 i2) → (1 ≤ i2) → va_P G.1 pCl w H → va_D A w → va_S A s.heap H locs → OKP G h0 a (upd F 2 (nI sz)) R Z B J K2 w → lv_has ls 4 [(1, .int (nI i2)), (0, .ref pq)] → W p l e (headSpec (Cond.code yX9_link cX9_link 4 none :: pw) ({ frames := 3, cells := 0, slots := 0, locals := 82 } : Room)).room s m ([.ref pq] : List Value).toArray below meth c H locs 0 0 (MQ below (pQ G A (fun (v : Option Value) (u : va_W × (PK × (Nat → Int64))) => v = none ∧ (WPr G u.2.1 g) ∧ (PgT G u.2.1 g (a 1) pq dr ml nd nm cp it s9) ∧ (AbF u.2.1 dr nd u.2.2) ∧ (PaB u.2.1 dr nd u.2.2) ∧ (WCl u.2.2 nd nd) ∧ (Bi0 u.2.2 7) ∧ (OKP G h0 a (upd F 2 (nI sz)) R Z B J u.2.1 u.1)) (fun u => u.1)) ([.ref pq] : List Value).toArray s ({ frames := 3, cells := 0, slots := 0, locals := 82 } : Room).cells ({ frames := 3, cells := 0, slots := 0, locals := 82 } : Room).slots A) (F0 m 2 ls []) := by
    intro n_2
    induction n_2 with
    | zero => intro i2 K2 ab2 H locs ls w hk_2 hn_2; omega
    | succ n_2 ih_2 =>
      intro i2 K2 ab2 H locs ls w hk_2 hn_2 hqw2 hqp2 hqa2 hqb2 hpu2 hbi2 hi2 hP hD hS hO hl
      have hpx := hqp2.1
      have hp1 := hpx.1
      have hp2 := hpx.2.1
      have hp3 := hpx.2.2.1
      have hp4 := hpx.2.2.2.1
      have hp5 := hpx.2.2.2.2.1
      have hp6 := hpx.2.2.2.2.2.1
      have hp8 := hpx.2.2.2.2.2.2.2.1
      have hp9 := hpx.2.2.2.2.2.2.2.2
      refine lv_iload_n hx hb dX9_link_2 rfl (lv_at hl 0 rfl) ?_
      refine lv_aload_n hx hb dX9_link_3 rfl (lv_at hl 1 rfl) ?_
      refine p_get (v := .int (nI nd)) (C := RX9) (Tc := TX9) (N := 5) (ci := 6) hx hb hq pin_wsX90 hown hE hP hO (by rw [hp1]; decide) (rep_7 hp1) rfl 2 (by decide) (hq _ pw_14) (fun _ h9 => h9) (congrArg (fun z => some (Value.int z)) hp8) dX9_link_4 ?_
      refine lv_icmp_ge (tgt := 146) hx hb dX9_link_7 (by decide) (fun c1 => ?_) (fun c1 => ?_)
      · have n2 : nd ≤ i2 := (nI_leI (a := nd) (b := i2) (by omega) (by omega)).mp c1
        refine lv_iconst (v := 0) hx hb dX9_link_146 (by decide) ?_
        refine lv_istore_n (lv' := [(1, .int 0), (0, .ref pq)]) hx hb dX9_link_147 rfl hl (by decide) rfl (fun ls hl => ?_)
        have loop_5 : ∀ (n_5 : Nat) (m5 : Nat) (K5 : PK) (ab5 : Nat → Int64) (H : Heap) (locs : List Loc) (ls : Array Slot) (w : va_W), m5 ≤ nd → nd + 1 ≤ m5 + n_5 → (WPr G K5 g) → (PgT G K5 g (a 1) pq dr ml nd nm cp it s9) → (AbF K5 dr nd ab5) → (PaB K5 dr nd ab5) → (Bi0 ab5 7) → (WCl ab5 nd m5) → va_P G.1 pCl w H → va_D A w → va_S A s.heap H locs → OKP G h0 a (upd F 2 (nI sz)) R Z B J K5 w → lv_has ls 4 [(1, .int (nI m5)), (0, .ref pq)] → W p l e (headSpec (Cond.code yX9_link cX9_link 4 none :: pw) ({ frames := 3, cells := 0, slots := 0, locals := 82 } : Room)).room s m ([.ref pq] : List Value).toArray below meth c H locs 0 0 (MQ below (pQ G A (fun (v : Option Value) (u : va_W × (PK × (Nat → Int64))) => v = none ∧ (WPr G u.2.1 g) ∧ (PgT G u.2.1 g (a 1) pq dr ml nd nm cp it s9) ∧ (AbF u.2.1 dr nd u.2.2) ∧ (PaB u.2.1 dr nd u.2.2) ∧ (WCl u.2.2 nd nd) ∧ (Bi0 u.2.2 7) ∧ (OKP G h0 a (upd F 2 (nI sz)) R Z B J u.2.1 u.1)) (fun u => u.1)) ([.ref pq] : List Value).toArray s ({ frames := 3, cells := 0, slots := 0, locals := 82 } : Room).cells ({ frames := 3, cells := 0, slots := 0, locals := 82 } : Room).slots A) (F0 m 148 ls []) := by
          intro n_5
          induction n_5 with
          | zero => intro m5 K5 ab5 H locs ls w hk_5 hn_5; omega
          | succ n_5 ih_5 =>
            intro m5 K5 ab5 H locs ls w hk_5 hn_5 hqw5 hqp5 hqa5 hqb5 hbi5 hcl5 hP hD hS hO hl
            have hpx := hqp5.1
            have hp1 := hpx.1
            have hp2 := hpx.2.1
            have hp3 := hpx.2.2.1
            have hp4 := hpx.2.2.2.1
            have hp5 := hpx.2.2.2.2.1
            have hp6 := hpx.2.2.2.2.2.1
            have hp8 := hpx.2.2.2.2.2.2.2.1
            have hp9 := hpx.2.2.2.2.2.2.2.2
            refine lv_iload_n hx hb dX9_link_148 rfl (lv_at hl 0 rfl) ?_
            refine lv_aload_n hx hb dX9_link_149 rfl (lv_at hl 1 rfl) ?_
            refine p_get (v := .int (nI nd)) (C := RX9) (Tc := TX9) (N := 5) (ci := 6) hx hb hq pin_wsX90 hown hE hP hO (by rw [hp1]; decide) (rep_7 hp1) rfl 2 (by decide) (hq _ pw_14) (fun _ h9 => h9) (congrArg (fun z => some (Value.int z)) hp8) dX9_link_150 ?_
            refine lv_icmp_ge (tgt := 210) hx hb dX9_link_153 (by decide) (fun c3 => ?_) (fun c3 => ?_)
            · have n4 : nd ≤ m5 := (nI_leI (a := nd) (b := m5) (by omega) (by omega)).mp c3
              have hz5 : WPr G K5 g := hqw5
              have hz6 : PgT G K5 g (a 1) pq dr ml nd nm cp it s9 := hqp5
              have hz7 : AbF K5 dr nd ab5 := hqa5
              have hz8 : PaB K5 dr nd ab5 := hqb5
              have hz9 : WCl ab5 nd nd := (WCl.all hcl5 (by omega))
              have hz10 : Bi0 ab5 7 := hbi5
              have hO : OKP G h0 a (upd F 2 (nI sz)) R Z B J K5 w := hO.to rfl
              exact W.vret hx hb hr (fun t99 ht99 hW99 => ⟨⟨_, (w, (K5, ab5)), rfl, ⟨rfl, hz5, hz6, hz7, hz8, hz9, hz10, hO⟩, by rw [ht99]; exact hP, hD⟩, hS.F ht99⟩) hS.2.2 dX9_link_210
            · have n11 : ¬ (nd ≤ m5) := fun h9 => c3 ((nI_leI (a := nd) (b := m5) (by omega) (by omega)).mpr h9)
              refine lv_iconst (v := 0) hx hb dX9_link_156 (by decide) ?_
              refine lv_istore_n (lv' := [(2, .int 0), (1, .int (nI m5)), (0, .ref pq)]) hx hb dX9_link_157 rfl hl (by decide) rfl (fun ls hl => ?_)
              have loop_6 : ∀ (n_6 : Nat) (k6 : Nat) (K6 : PK) (ab6 : Nat → Int64) (H : Heap) (locs : List Loc) (ls : Array Slot) (w : va_W), k6 ≤ nd → nd + 1 ≤ k6 + n_6 → (WPr G K6 g) → (PgT G K6 g (a 1) pq dr ml nd nm cp it s9) → (AbF K6 dr nd ab6) → (PaB K6 dr nd ab6) → (Bi0 ab6 7) → (WMd ab5 ab6 nd m5 k6) → va_P G.1 pCl w H → va_D A w → va_S A s.heap H locs → OKP G h0 a (upd F 2 (nI sz)) R Z B J K6 w → lv_has ls 4 [(2, .int (nI k6)), (1, .int (nI m5)), (0, .ref pq)] → W p l e (headSpec (Cond.code yX9_link cX9_link 4 none :: pw) ({ frames := 3, cells := 0, slots := 0, locals := 82 } : Room)).room s m ([.ref pq] : List Value).toArray below meth c H locs 0 0 (MQ below (pQ G A (fun (v : Option Value) (u : va_W × (PK × (Nat → Int64))) => v = none ∧ (WPr G u.2.1 g) ∧ (PgT G u.2.1 g (a 1) pq dr ml nd nm cp it s9) ∧ (AbF u.2.1 dr nd u.2.2) ∧ (PaB u.2.1 dr nd u.2.2) ∧ (WCl u.2.2 nd nd) ∧ (Bi0 u.2.2 7) ∧ (OKP G h0 a (upd F 2 (nI sz)) R Z B J u.2.1 u.1)) (fun u => u.1)) ([.ref pq] : List Value).toArray s ({ frames := 3, cells := 0, slots := 0, locals := 82 } : Room).cells ({ frames := 3, cells := 0, slots := 0, locals := 82 } : Room).slots A) (F0 m 158 ls []) := by
                intro n_6
                induction n_6 with
                | zero => intro k6 K6 ab6 H locs ls w hk_6 hn_6; omega
                | succ n_6 ih_6 =>
                  intro k6 K6 ab6 H locs ls w hk_6 hn_6 hqw6 hqp6 hqa6 hqb6 hbi6 hmd6 hP hD hS hO hl
                  have hpx := hqp6.1
                  have hp1 := hpx.1
                  have hp2 := hpx.2.1
                  have hp3 := hpx.2.2.1
                  have hp4 := hpx.2.2.2.1
                  have hp5 := hpx.2.2.2.2.1
                  have hp6 := hpx.2.2.2.2.2.1
                  have hp8 := hpx.2.2.2.2.2.2.2.1
                  have hp9 := hpx.2.2.2.2.2.2.2.2
                  refine lv_iload_n hx hb dX9_link_158 rfl (lv_at hl 0 rfl) ?_
                  refine lv_aload_n hx hb dX9_link_159 rfl (lv_at hl 2 rfl) ?_
                  refine p_get (v := .int (nI nd)) (C := RX9) (Tc := TX9) (N := 5) (ci := 6) hx hb hq pin_wsX90 hown hE hP hO (by rw [hp1]; decide) (rep_7 hp1) rfl 2 (by decide) (hq _ pw_14) (fun _ h9 => h9) (congrArg (fun z => some (Value.int z)) hp8) dX9_link_160 ?_
                  refine lv_icmp_ge (tgt := 204) hx hb dX9_link_163 (by decide) (fun c12 => ?_) (fun c12 => ?_)
                  · have n13 : nd ≤ k6 := (nI_leI (a := nd) (b := k6) (by omega) (by omega)).mp c12
                    refine lv_iinc (v := (nI (m5 + 1))) (lv' := [(1, .int (nI (m5 + 1))), (2, .int (nI k6)), (0, .ref pq)]) hx hb dX9_link_204 hl (k := 1) rfl (nI_1 m5) (by decide) rfl (fun ls hl => ?_)
                    refine lv_goto (tgt := 148) hx hb dX9_link_207 (by decide) ?_
                    have hO : OKP G h0 a (upd F 2 (nI sz)) R Z B J K6 w := hO.to rfl
                    exact ih_5 (m5 + 1) K6 ab6 _ _ _ _ (by omega) (by omega) hqw6 hqp6 hqa6 hqb6 hbi6 (WCl.step hcl5 (WMd.all hmd6 (by omega)) (by omega)) hP hD hS hO (lv_sub hl [0, 2] rfl)
                  · have n14 : ¬ (nd ≤ k6) := fun h9 => c12 ((nI_leI (a := nd) (b := k6) (by omega) (by omega)).mpr h9)
                    refine lv_aload_n hx hb dX9_link_166 rfl (lv_at hl 2 rfl) ?_
                    refine lv_iload_n hx hb dX9_link_167 rfl (lv_at hl 1 rfl) ?_
                    refine lv_iload_n hx hb dX9_link_168 rfl (lv_at hl 0 rfl) ?_
                    have hO : OKP G h0 a (upd F 2 (nI sz)) R Z B J K6 w := hO.to rfl
                    obtain ⟨qr18, hqr19⟩ := p_recv hO (by rw [hp1]; decide) (rep_7 hp1)
                    refine pc_V0 (G := G) (As := [.int (nI m5), .int (nI k6)]) (rest := []) hx hb hml hown hq hE hX pX0_al hP hD hS hA hl.1 (G_isAbove l G h0 a (upd F 2 (nI sz)) R Z B J K6 w pq dr ml nd (nI m5) (nI k6) g hqp6.1 hqp6.2.1 hO) (gV pw_107 pw_108 pw_109 pw_106 pw_101) hV_X9_isAbove qr18 6 hqr19 rfl rfl rfl (Nat.le_of_ble_eq_true rfl) dX9_link_169 ⟨Nat.le_of_ble_eq_true rfl, Nat.le_of_ble_eq_true rfl⟩ ⟨Nat.le_of_ble_eq_true rfl, Nat.le_of_ble_eq_true rfl⟩ (fun v17 u15 H locs hw16 hP hD hS => ?_)
                    obtain ⟨w, r20⟩ := u15
                    obtain ⟨hw16, h21, h22, hO⟩ := hw16
                    have h21 : r20 ≤ 1 := h21
                    have h22 : AbQ K6 dr nd (nI m5) (nI k6) r20 := h22
                    obtain rfl : v17 = some (.int (nI r20)) := hw16
                    have hO : OKP G h0 a (upd F 2 (nI sz)) R Z B J K6 w := hO.to rfl
                    refine W.widen (k := 0) (n := 0) (Nat.le_of_ble_eq_true rfl) (Nat.le_of_ble_eq_true rfl) ?_
                    refine W.eq (g2 := F0 m 172 ls [.int (nI r20)]) rfl ?_
                    obtain ⟨dk, hk1, hk2, hk3, hk4⟩ := hqp6.2.1 k6 (by omega)
                    have hbq : r20 = 1 ↔ bitL (ab6 k6) m5 := by rw [← hqa6 k6 (by omega) dk hk1]; exact h22 m5 k6 dk (by omega) (by omega) rfl rfl hk1
                    refine lv_if_eq (tgt := 198) hx hb dX9_link_172 (by decide) (fun c23 => ?_) (fun c23 => ?_)
                    · have n24 : r20 = 0 := (nI_eq (a := r20) (b := 0) (by omega) (by omega)).mp c23
                      have hms := WMd.miss hmd6 (by omega) (by omega) (fun z => by have z2 := hbq.mpr z; omega)
                      refine lv_iinc (v := (nI (k6 + 1))) (lv' := [(2, .int (nI (k6 + 1))), (1, .int (nI m5)), (0, .ref pq)]) hx hb dX9_link_198 hl (k := 0) rfl (nI_1 k6) (by decide) rfl (fun ls hl => ?_)
                      refine lv_goto (tgt := 158) hx hb dX9_link_201 (by decide) ?_
                      have hO : OKP G h0 a (upd F 2 (nI sz)) R Z B J K6 w := hO.to rfl
                      exact ih_6 (k6 + 1) K6 ab6 _ _ _ _ (by omega) (by omega) hqw6 hqp6 hqa6 hqb6 hbi6 hms hP hD hS hO (lv_sub hl [0, 1, 2] rfl)
                    · have n25 : ¬ (r20 = 0) := fun h9 => c23 ((nI_eq (a := r20) (b := 0) (by omega) (by omega)).mpr h9)
                      have hbt := hbq.mp (by omega)
                      refine lv_aload_n hx hb dX9_link_175 rfl (lv_at hl 2 rfl) ?_
                      refine p_get (v := .ref dr) (C := RX9) (Tc := TX9) (N := 5) (ci := 6) hx hb hq pin_wsX90 hown hE hP hO (by rw [hp1]; decide) (rep_7 hp1) rfl 1 (by decide) (hq _ pw_15) (fun _ h9 => h9) (congrArg (fun z => some (va_rf z)) hp3) dX9_link_176 ?_
                      refine lv_iload_n hx hb dX9_link_179 rfl (lv_at hl 0 rfl) ?_
                      refine p_ald8 hx hb hE hP hO hp4 (vp_in_nI (by omega) (by omega)) dX9_link_180 ?_
                      rw [nI_clamp (show k6 < 2 ^ 31 by omega)]
                      obtain ⟨dK, heK, htK, hnK, hgK⟩ := hqp6.2.1 k6 (by omega)
                      rw [heK]
                      refine W.eq (g2 := F0 m 181 ls [.ref dK]) rfl ?_
                      refine lv_dup hx hb dX9_link_181 rfl ?_
                      refine p_get (v := .long (K6.2.2.2.1 dK)) (C := RX2) (Tc := TX2) (N := 13) (ci := 2) hx hb hq pin_wsX20 hown hE hP hO (by rw [htK]; decide) (rep_4 htK) rfl 10 (by decide) (hq _ pw_102) (fun _ h9 => h9) rfl dX9_link_182 ?_
                      refine lv_aload_n hx hb dX9_link_185 rfl (lv_at hl 2 rfl) ?_
                      refine p_get (v := .ref dr) (C := RX9) (Tc := TX9) (N := 5) (ci := 6) hx hb hq pin_wsX90 hown hE hP hO (by rw [hp1]; decide) (rep_7 hp1) rfl 1 (by decide) (hq _ pw_15) (fun _ h9 => h9) (congrArg (fun z => some (va_rf z)) hp3) dX9_link_186 ?_
                      refine lv_iload_n hx hb dX9_link_189 rfl (lv_at hl 1 rfl) ?_
                      refine p_ald8 hx hb hE hP hO hp4 (vp_in_nI (by omega) (by omega)) dX9_link_190 ?_
                      rw [nI_clamp (show m5 < 2 ^ 31 by omega)]
                      obtain ⟨dM, heM, htM, hnM, hgM⟩ := hqp6.2.1 m5 (by omega)
                      rw [heM]
                      refine W.eq (g2 := F0 m 191 ls [.ref dM, .long (K6.2.2.2.1 dK), .ref dK]) rfl ?_
                      refine p_get (v := .long (K6.2.2.2.1 dM)) (C := RX2) (Tc := TX2) (N := 13) (ci := 2) hx hb hq pin_wsX20 hown hE hP hO (by rw [htM]; decide) (rep_4 htM) rfl 10 (by decide) (hq _ pw_102) (fun _ h9 => h9) rfl dX9_link_191 ?_
                      refine lv_lor hx hb dX9_link_194 ?_
                      refine lv_topl (fun x26 e27 => ?_)
                      refine p_put (v := .long x26) (ty := .long) (C := RX2) (Tc := TX2) (N := 13) (ci := 2) (K' := (kL K6 dK x26)) hx hb hq pin_wsX20 tyX2 tyX2_ok nmX2 hown hE hP hD hS hO (by rw [htK]; decide) (rep_4 htK) rfl 10 (by decide) (hq _ pw_102) (fun _ h9 => h9) rfl (by decide +kernel) rfl rfl (Nat.le_of_ble_eq_true rfl) rfl (by rw [rep_4 (show (kL K6 dK x26).1 dK = 4 from htK), pl_0] <;> rfl) (fun p9 hp9 => rep_kL hp9) dX9_link_195 (fun H locs w hP hD hS hO => ?_)
                      obtain ⟨K28, hK29⟩ : ∃ z : PK, z = (kL K6 dK x26) := ⟨_, rfl⟩
                      rw [← hK29] at hO
                      have hf30 : K28.1 pq = 7 := (by rw [hK29]; exact hp1)
                      have hf31 : K28.2.2.1 18 pq = some (a 1) := (by rw [hK29]; exact hp2)
                      have hf32 : K28.2.2.1 14 pq = some dr := (by rw [hK29]; exact hp3)
                      have hf33 : K28.1 dr = 8 := (by rw [hK29]; exact hp4)
                      have hf34 : K28.2.2.1 15 pq = some ml := (by rw [hK29]; exact hp5)
                      have hf35 : K28.1 ml = 5 := (by rw [hK29]; exact hp6)
                      have hf36 : K28.2.1 24 pq = (nI nd) := (by rw [hK29]; exact hp8)
                      have hf37 : K28.1 dK = 4 := (by rw [hK29]; exact htK)
                      have hf38 : K28.2.1 15 dK = (nI k6) := (by rw [hK29]; exact hnK)
                      have hf39 : K28.1 dM = 4 := (by rw [hK29]; exact htM)
                      have hf40 : K28.2.1 15 dM = (nI m5) := (by rw [hK29]; exact hnM)
                      have hyk : x26 = ab6 k6 ||| ab6 m5 := by rw [e27, hqa6 k6 (by omega) dK heK, hqa6 m5 (by omega) dM heM]
                      have hgK2 : ¬ g 5 dK = 2 := by rw [hgK]; exact bti_ne (Nat.pos_of_ne_zero (fun z => by rw [z, hbi6.1] at hbt; exact bitL_zero hbt))
                      have hw9 : WPr G K28 g := by rw [hK29]; exact WPr.kL hqw6 hgK2
                      have hp9 : PgT G K28 g (a 1) pq dr ml nd nm cp it s9 := by rw [hK29]; exact PgT.kL hqp6
                      have ha9 : AbF K28 dr nd (upL ab6 k6 (ab6 k6 ||| ab6 m5)) := by rw [hK29, ← hyk]; exact AbF.kL hqa6 hqp6.2.1 (by omega) (by omega) heK
                      have hb9 : PaB K28 dr nd (upL ab6 k6 (ab6 k6 ||| ab6 m5)) := by rw [hK29, ← hyk]; exact PaB.or hqb6 (Or.inl (fun b hb => by rw [hyk, bitL_or]; exact Or.inl hb))
                      have hz9 := Bi0.hit hbi6 (by omega) hbt
                      have hm9 := WMd.hit hmd6 (by omega) (by omega) hbt
                      refine lv_iinc (v := (nI (k6 + 1))) (lv' := [(2, .int (nI (k6 + 1))), (1, .int (nI m5)), (0, .ref pq)]) hx hb dX9_link_198 hl (k := 0) rfl (nI_1 k6) (by decide) rfl (fun ls hl => ?_)
                      refine lv_goto (tgt := 158) hx hb dX9_link_201 (by decide) ?_
                      have hO : OKP G h0 a (upd F 2 (nI sz)) R Z B J K28 w := hO.to rfl
                      exact ih_6 (k6 + 1) K28 (upL ab6 k6 (ab6 k6 ||| ab6 m5)) _ _ _ _ (by omega) (by omega) hw9 hp9 ha9 hb9 hz9 hm9 hP hD hS hO (lv_sub hl [0, 1, 2] rfl)
              have hO : OKP G h0 a (upd F 2 (nI sz)) R Z B J K5 w := hO.to rfl
              exact loop_6 (nd + 1) 0 K5 ab5 _ _ _ _ (by omega) (by omega) hqw5 hqp5 hqa5 hqb5 hbi5 WMd.start hP hD hS hO (lv_sub hl [0, 1, 2] rfl)
        have hO : OKP G h0 a (upd F 2 (nI sz)) R Z B J K2 w := hO.to rfl
        exact loop_5 (nd + 1) 0 K2 ab2 _ _ _ _ (by omega) (by omega) hqw2 hqp2 hqa2 hqb2 (Bi0.all hbi2 (by omega)) WCl.start hP hD hS hO (lv_sub hl [0, 1] rfl)
      · have n41 : ¬ (nd ≤ i2) := fun h9 => c1 ((nI_leI (a := nd) (b := i2) (by omega) (by omega)).mpr h9)
        refine lv_aload_n hx hb dX9_link_10 rfl (lv_at hl 1 rfl) ?_
        refine p_get (v := .ref dr) (C := RX9) (Tc := TX9) (N := 5) (ci := 6) hx hb hq pin_wsX90 hown hE hP hO (by rw [hp1]; decide) (rep_7 hp1) rfl 1 (by decide) (hq _ pw_15) (fun _ h9 => h9) (congrArg (fun z => some (va_rf z)) hp3) dX9_link_11 ?_
        refine lv_iload_n hx hb dX9_link_14 rfl (lv_at hl 0 rfl) ?_
        refine p_ald8 hx hb hE hP hO hp4 (vp_in_nI (by omega) (by omega)) dX9_link_15 ?_
        rw [nI_clamp (show i2 < 2 ^ 31 by omega)]
        obtain ⟨dA, heA, htA, hnA, hgA⟩ := hqp2.2.1 i2 (by omega)
        rw [heA]
        refine W.eq (g2 := F0 m 16 ls [.ref dA]) rfl ?_
        refine lv_astore_n (lv' := [(2, .ref dA), (1, .int (nI i2)), (0, .ref pq)]) hx hb dX9_link_16 rfl hl (by decide) rfl (fun ls hl => ?_)
        refine lv_aload_n hx hb dX9_link_17 rfl (lv_at hl 0 rfl) ?_
        refine lv_lconst (v := 1) hx hb dX9_link_18 (by decide) ?_
        refine p_put (v := .long 1) (ty := .long) (C := RX2) (Tc := TX2) (N := 13) (ci := 2) (K' := (kL K2 dA 1)) hx hb hq pin_wsX20 tyX2 tyX2_ok nmX2 hown hE hP hD hS hO (by rw [htA]; decide) (rep_4 htA) rfl 10 (by decide) (hq _ pw_102) (fun _ h9 => h9) rfl (by decide +kernel) rfl rfl (Nat.le_of_ble_eq_true rfl) rfl (by rw [rep_4 (show (kL K2 dA 1).1 dA = 4 from htA), pl_0] <;> rfl) (fun p9 hp9 => rep_kL hp9) dX9_link_19 (fun H locs w hP hD hS hO => ?_)
        obtain ⟨K42, hK43⟩ : ∃ z : PK, z = (kL K2 dA 1) := ⟨_, rfl⟩
        rw [← hK43] at hO
        have hf44 : K42.1 pq = 7 := (by rw [hK43]; exact hp1)
        have hf45 : K42.2.2.1 18 pq = some (a 1) := (by rw [hK43]; exact hp2)
        have hf46 : K42.2.2.1 14 pq = some dr := (by rw [hK43]; exact hp3)
        have hf47 : K42.1 dr = 8 := (by rw [hK43]; exact hp4)
        have hf48 : K42.2.2.1 15 pq = some ml := (by rw [hK43]; exact hp5)
        have hf49 : K42.1 ml = 5 := (by rw [hK43]; exact hp6)
        have hf50 : K42.2.1 24 pq = (nI nd) := (by rw [hK43]; exact hp8)
        have hf51 : K42.1 dA = 4 := (by rw [hK43]; exact htA)
        have hf52 : K42.2.1 15 dA = (nI i2) := (by rw [hK43]; exact hnA)
        have hgA2 : ¬ g 5 dA = 2 := by rw [hgA]; exact bti_ne hi2
        have hw3 : WPr G K42 g := by rw [hK43]; exact WPr.kL hqw2 hgA2
        have hp3 : PgT G K42 g (a 1) pq dr ml nd nm cp it s9 := by rw [hK43]; exact PgT.kL hqp2
        have ha3 : AbF K42 dr nd (upL ab2 i2 1) := by rw [hK43]; exact AbF.kL hqa2 hqp2.2.1 (by omega) (by omega) heA
        have hb3 : PaB K42 dr nd (upL ab2 i2 1) := by rw [hK43]; exact PaB.or hqb2 (Or.inr (fun d h => hpu2 i2 (by omega) (Nat.le_refl _) d h))
        have hu3 : PaU K42 dr nd i2 := by rw [hK43]; exact PaU.kL hpu2
        have hz3 := Bi0.at (v := 1) hbi2 hi2
        have hl3 : K42.2.2.2.1 dA = 1 := by rw [hK43]; exact kL_eq
        have heA3 : K42.2.2.2.2.1 dr i2 = some dA := by rw [hK43]; exact heA
        by_cases h7 : i2 < 7
        · have hcz := (hw3.2.2.1 dA hf51).2.2.2.2.2.1 (by rw [hgA]; exact bti_1 hi2 h7)
          refine lv_aload_n hx hb dX9_link_22 rfl (lv_at hl 0 rfl) ?_
          refine p_get (v := .int 0) (C := RX2) (Tc := TX2) (N := 13) (ci := 2) hx hb hq pin_wsX20 hown hE hP hO (by rw [hf51]; decide) (rep_4 hf51) rfl 3 (by decide) (hq _ pw_1101) (fun _ h9 => h9) (congrArg (fun z => some (Value.int z)) hcz.2.2) dX9_link_23 ?_
          refine lv_if_ne (tgt := 69) hx hb dX9_link_26 (by decide) (fun c53 => absurd c53 (by decide)) (fun c53 => ?_)
          refine lv_aload_n hx hb dX9_link_29 rfl (lv_at hl 0 rfl) ?_
          refine lv_aload_n hx hb dX9_link_30 rfl (lv_at hl 0 rfl) ?_
          refine p_get (v := .int (-1)) (C := RX2) (Tc := TX2) (N := 13) (ci := 2) hx hb hq pin_wsX20 hown hE hP hO (by rw [hf51]; decide) (rep_4 hf51) rfl 4 (by decide) (hq _ pw_1105) (fun _ h9 => h9) (congrArg (fun z => some (Value.int z)) hcz.1) dX9_link_31 ?_
          refine lv_iconst (v := (-1)) hx hb dX9_link_34 (by decide) ?_
          refine lv_icmp_ne (tgt := 47) hx hb dX9_link_35 (by decide) (fun c54 => absurd c54 (by decide)) (fun c54 => ?_)
          refine lv_aload_n hx hb dX9_link_38 rfl (lv_at hl 2 rfl) ?_
          refine p_get (v := .ref dr) (C := RX9) (Tc := TX9) (N := 5) (ci := 6) hx hb hq pin_wsX90 hown hE hP hO (by rw [hf44]; decide) (rep_7 hf44) rfl 1 (by decide) (hq _ pw_15) (fun _ h9 => h9) (congrArg (fun z => some (va_rf z)) hf46) dX9_link_39 ?_
          refine lv_iconst (v := 0) hx hb dX9_link_42 (by decide) ?_
          refine W.eq (g2 := F0 m 43 ls [.int (nI 0), .ref dr, .ref dA]) rfl ?_
          refine p_ald8 hx hb hE hP hO hf47 (vp_in_nI (by omega) (by omega)) dX9_link_43 ?_
          rw [nI_clamp (show 0 < 2 ^ 31 by omega)]
          obtain ⟨dP, heP, htP, hnP, hgP⟩ := hp3.2.1 0 (by omega)
          rw [heP]
          refine W.eq (g2 := F0 m 44 ls [.ref dP, .ref dA]) rfl ?_
          refine lv_goto (tgt := 66) hx hb dX9_link_44 (by decide) ?_
          refine p_put (v := .ref dP) (ty := (.object "JinjaTongue$Decl")) (C := RX2) (Tc := TX2) (N := 13) (ci := 2) (K' := (kC K42 10 dA (some dP))) hx hb hq pin_wsX20 tyX2 tyX2_ok nmX2 hown hE hP hD hS hO (by rw [hf51]; decide) (rep_4 hf51) rfl 9 (by decide) (hq _ pw_1138) (fun _ h9 => h9) rfl (by decide +kernel) rfl rfl (Nat.le_of_ble_eq_true rfl) rfl (by rw [rep_4 (show (kC K42 10 dA (some dP)).1 dA = 4 from hf51), pc_10] <;> rfl) (fun p9 hp9 => rep_kC hp9) dX9_link_66 (fun H locs w hP hD hS hO => ?_)
          obtain ⟨K55, hK56⟩ : ∃ z : PK, z = (kC K42 10 dA (some dP)) := ⟨_, rfl⟩
          rw [← hK56] at hO
          have hf57 : K55.1 pq = 7 := (by rw [hK56]; exact hf44)
          have hf58 : K55.2.2.1 18 pq = some (a 1) := (by rw [hK56]; exact (kC_of (by decide)).trans hf45)
          have hf59 : K55.2.2.1 14 pq = some dr := (by rw [hK56]; exact (kC_of (by decide)).trans hf46)
          have hf60 : K55.1 dr = 8 := (by rw [hK56]; exact hf47)
          have hf61 : K55.2.2.1 15 pq = some ml := (by rw [hK56]; exact (kC_of (by decide)).trans hf48)
          have hf62 : K55.1 ml = 5 := (by rw [hK56]; exact hf49)
          have hf63 : K55.2.1 24 pq = (nI nd) := (by rw [hK56]; exact hf50)
          have hf64 : K55.1 dA = 4 := (by rw [hK56]; exact hf51)
          have hf65 : K55.2.1 15 dA = (nI i2) := (by rw [hK56]; exact hf52)
          have hf66 : K55.2.1 19 dA = (-1) := (by rw [hK56]; exact hcz.1)
          have hf67 : K55.2.1 21 dA = 0 := (by rw [hK56]; exact hcz.2.1)
          have hf68 : K55.2.1 18 dA = 0 := (by rw [hK56]; exact hcz.2.2)
          have hf69 : K55.1 dP = 4 := (by rw [hK56]; exact htP)
          have hf70 : K55.2.1 15 dP = (nI 0) := (by rw [hK56]; exact hnP)
          have hf71 : K55.2.2.1 10 dA = some dP := by rw [hK56]; exact kC_eq
          have hw4 : WPr G K55 g := by rw [hK56]; exact WPr.par hw3 hgA2 (fun d h => by cases h; exact htP)
          have hp4 : PgT G K55 g (a 1) pq dr ml nd nm cp it s9 := by rw [hK56]; exact PgT.kC hp3 (Or.inr rfl)
          have ha4 : AbF K55 dr nd (upL ab2 i2 1) := by rw [hK56]; exact AbF.kC ha3
          have hu4 : PaU K55 dr nd (i2 + 1) := by rw [hK56]; exact PaU.kC hu3 hp3.2.1 (by omega) (by omega) heA3
          have hl4 : K55.2.2.2.1 dA = 1 := by rw [hK56]; exact hl3
          refine lv_aload_n hx hb dX9_link_69 rfl (lv_at hl 0 rfl) ?_
          refine p_get (v := .ref dP) (C := RX2) (Tc := TX2) (N := 13) (ci := 2) hx hb hq pin_wsX20 hown hE hP hO (by rw [hf64]; decide) (rep_4 hf64) rfl 9 (by decide) (hq _ pw_1138) (fun _ h9 => h9) (congrArg (fun z => some (va_rf z)) hf71) dX9_link_70 ?_
          refine lv_ifnull hx hb dX9_link_73 ?_
          refine lv_aload_n hx hb dX9_link_76 rfl (lv_at hl 0 rfl) ?_
          refine lv_dup hx hb dX9_link_77 rfl ?_
          refine p_get (v := .long (K55.2.2.2.1 dA)) (C := RX2) (Tc := TX2) (N := 13) (ci := 2) hx hb hq pin_wsX20 hown hE hP hO (by rw [hf64]; decide) (rep_4 hf64) rfl 10 (by decide) (hq _ pw_102) (fun _ h9 => h9) rfl dX9_link_78 ?_
          refine lv_lconst (v := 1) hx hb dX9_link_81 (by decide) ?_
          refine lv_aload_n hx hb dX9_link_82 rfl (lv_at hl 0 rfl) ?_
          refine p_get (v := .ref dP) (C := RX2) (Tc := TX2) (N := 13) (ci := 2) hx hb hq pin_wsX20 hown hE hP hO (by rw [hf64]; decide) (rep_4 hf64) rfl 9 (by decide) (hq _ pw_1138) (fun _ h9 => h9) (congrArg (fun z => some (va_rf z)) hf71) dX9_link_83 ?_
          refine p_get (v := .int (nI 0)) (C := RX2) (Tc := TX2) (N := 13) (ci := 2) hx hb hq pin_wsX20 hown hE hP hO (by rw [hf69]; decide) (rep_4 hf69) rfl 0 (by decide) (hq _ pw_1139) (fun _ h9 => h9) (congrArg (fun z => some (Value.int z)) hf70) dX9_link_86 ?_
          refine lv_lshl hx hb dX9_link_89 rfl ?_
          refine lv_topl (fun x72 e73 => ?_)
          refine lv_lor hx hb dX9_link_90 ?_
          refine lv_topl (fun x74 e75 => ?_)
          refine p_put (v := .long x74) (ty := .long) (C := RX2) (Tc := TX2) (N := 13) (ci := 2) (K' := (kL K55 dA x74)) hx hb hq pin_wsX20 tyX2 tyX2_ok nmX2 hown hE hP hD hS hO (by rw [hf64]; decide) (rep_4 hf64) rfl 10 (by decide) (hq _ pw_102) (fun _ h9 => h9) rfl (by decide +kernel) rfl rfl (Nat.le_of_ble_eq_true rfl) rfl (by rw [rep_4 (show (kL K55 dA x74).1 dA = 4 from hf64), pl_0] <;> rfl) (fun p9 hp9 => rep_kL hp9) dX9_link_91 (fun H locs w hP hD hS hO => ?_)
          obtain ⟨K76, hK77⟩ : ∃ z : PK, z = (kL K55 dA x74) := ⟨_, rfl⟩
          rw [← hK77] at hO
          have hf78 : K76.1 pq = 7 := (by rw [hK77]; exact hf57)
          have hf79 : K76.2.2.1 18 pq = some (a 1) := (by rw [hK77]; exact hf58)
          have hf80 : K76.2.2.1 14 pq = some dr := (by rw [hK77]; exact hf59)
          have hf81 : K76.1 dr = 8 := (by rw [hK77]; exact hf60)
          have hf82 : K76.2.2.1 15 pq = some ml := (by rw [hK77]; exact hf61)
          have hf83 : K76.1 ml = 5 := (by rw [hK77]; exact hf62)
          have hf84 : K76.2.1 24 pq = (nI nd) := (by rw [hK77]; exact hf63)
          have hf85 : K76.1 dA = 4 := (by rw [hK77]; exact hf64)
          have hf86 : K76.2.1 15 dA = (nI i2) := (by rw [hK77]; exact hf65)
          have hf87 : K76.2.1 19 dA = (-1) := (by rw [hK77]; exact hf66)
          have hf88 : K76.2.1 21 dA = 0 := (by rw [hK77]; exact hf67)
          have hf89 : K76.2.1 18 dA = 0 := (by rw [hK77]; exact hf68)
          have hf90 : K76.1 dP = 4 := (by rw [hK77]; exact hf69)
          have hf91 : K76.2.1 15 dP = (nI 0) := (by rw [hK77]; exact hf70)
          have hf92 : K76.2.2.1 10 dA = some dP := (by rw [hK77]; exact hf71)
          have hbp : bitL x74 0 := by rw [e75, bitL_or, e73]; exact Or.inr (bitL_shl 0 (by omega))
          have hw5 : WPr G K76 g := by rw [hK77]; exact WPr.kL hw4 hgA2
          have hp5 : PgT G K76 g (a 1) pq dr ml nd nm cp it s9 := by rw [hK77]; exact PgT.kL hp4
          have heA4 : K55.2.2.2.2.1 dr i2 = some dA := by rw [hK56]; exact heA3
          have ha5 : AbF K76 dr nd (upL (upL ab2 i2 1) i2 x74) := by rw [hK77]; exact AbF.kL ha4 hp4.2.1 (by omega) (by omega) heA4
          have hb5 : PaB K76 dr nd (upL (upL ab2 i2 1) i2 x74) := by rw [hK77, hK56]; exact PaB.par hb3 hp3.2.1 (by omega) (by omega) heA3 (by omega) heP hbp
          have hu5 : PaU K76 dr nd (i2 + 1) := by rw [hK77]; exact PaU.kL hu4
          have hz5 := Bi0.up (v := x74) hz3 hi2 (fun _ b hb => by rw [e75, hl4, bitL_or, e73, shl_0] at hb; rcases hb with w | w <;> exact bitL_one w)
          obtain ⟨bA, hbA, hbB⟩ := lz_bound 0
          refine lv_iconst (v := 0) hx hb dX9_link_94 (by decide) ?_
          refine lv_istore_n (lv' := [(3, .int 0), (2, .ref dA), (1, .int (nI i2)), (0, .ref pq)]) hx hb dX9_link_95 rfl hl (by decide) rfl (fun ls hl => ?_)
          have loop_4 : ∀ (n_4 : Nat) (i4 : Nat) (K4 : PK) (ab4 : Nat → Int64) (d4 : Nat) (lz4 : Int32) (H : Heap) (locs : List Loc) (ls : Array Slot) (w : va_W), i4 ≤ bA → bA + 1 ≤ i4 + n_4 → (WPr G K4 g) → (PgT G K4 g (a 1) pq dr ml nd nm cp it s9) → (AbF K4 dr nd ab4) → (PaB K4 dr nd ab4) → (PaU K4 dr nd (i2 + 1)) → (Bi0 ab4 (i2 + 1)) → (K4.1 d4 = 4) → (¬ g 5 d4 = 2) → (K4.2.1 21 d4 = lz4) → (K4.2.2.2.2.1 dr i2 = some d4) → (∀ i : Nat, i < 2147483648 → nI i < lz4 → i < bA) → (i2 < 7 → lz4 = 0) → va_P G.1 pCl w H → va_D A w → va_S A s.heap H locs → OKP G h0 a (upd F 2 (nI sz)) R Z B J K4 w → lv_has ls 4 [(3, .int (nI i4)), (2, .ref d4), (1, .int (nI i2)), (0, .ref pq)] → W p l e (headSpec (Cond.code yX9_link cX9_link 4 none :: pw) ({ frames := 3, cells := 0, slots := 0, locals := 82 } : Room)).room s m ([.ref pq] : List Value).toArray below meth c H locs 0 0 (MQ below (pQ G A (fun (v : Option Value) (u : va_W × (PK × (Nat → Int64))) => v = none ∧ (WPr G u.2.1 g) ∧ (PgT G u.2.1 g (a 1) pq dr ml nd nm cp it s9) ∧ (AbF u.2.1 dr nd u.2.2) ∧ (PaB u.2.1 dr nd u.2.2) ∧ (WCl u.2.2 nd nd) ∧ (Bi0 u.2.2 7) ∧ (OKP G h0 a (upd F 2 (nI sz)) R Z B J u.2.1 u.1)) (fun u => u.1)) ([.ref pq] : List Value).toArray s ({ frames := 3, cells := 0, slots := 0, locals := 82 } : Room).cells ({ frames := 3, cells := 0, slots := 0, locals := 82 } : Room).slots A) (F0 m 96 ls []) := by
            intro n_4
            induction n_4 with
            | zero => intro i4 K4 ab4 d4 lz4 H locs ls w hk_4 hn_4; omega
            | succ n_4 ih_4 =>
              intro i4 K4 ab4 d4 lz4 H locs ls w hk_4 hn_4 hqw4 hqp4 hqa4 hqb4 hpu4 hbi4 hT4 hg4 hlz4 he4 hlb4 h74 hP hD hS hO hl
              have hpx := hqp4.1
              have hp1 := hpx.1
              have hp2 := hpx.2.1
              have hp3 := hpx.2.2.1
              have hp4 := hpx.2.2.2.1
              have hp5 := hpx.2.2.2.2.1
              have hp6 := hpx.2.2.2.2.2.1
              have hp8 := hpx.2.2.2.2.2.2.2.1
              have hp9 := hpx.2.2.2.2.2.2.2.2
              refine lv_iload_n hx hb dX9_link_96 rfl (lv_at hl 0 rfl) ?_
              refine lv_aload_n hx hb dX9_link_97 rfl (lv_at hl 1 rfl) ?_
              refine p_get (v := .int lz4) (C := RX2) (Tc := TX2) (N := 13) (ci := 2) hx hb hq pin_wsX20 hown hE hP hO (by rw [hT4]; decide) (rep_4 hT4) rfl 6 (by decide) (hq _ pw_1106) (fun _ h9 => h9) (congrArg (fun z => some (Value.int z)) hlz4) dX9_link_98 ?_
              refine lv_icmp_ge (tgt := 140) hx hb dX9_link_101 (by decide) (fun c93 => ?_) (fun c93 => ?_)
              · refine lv_iinc (v := (nI (i2 + 1))) (lv' := [(1, .int (nI (i2 + 1))), (3, .int (nI i4)), (2, .ref d4), (0, .ref pq)]) hx hb dX9_link_140 hl (k := 2) rfl (nI_1 i2) (by decide) rfl (fun ls hl => ?_)
                refine lv_goto (tgt := 2) hx hb dX9_link_143 (by decide) ?_
                have hO : OKP G h0 a (upd F 2 (nI sz)) R Z B J K4 w := hO.to rfl
                exact ih_2 (i2 + 1) K4 ab4 _ _ _ _ (by omega) (by omega) hqw4 hqp4 hqa4 hqb4 hpu4 hbi4 (by omega) hP hD hS hO (lv_sub hl [0, 3] rfl)
              · have hi9 := hlb4 i4 (by omega) (Int32.not_le.mp c93)
                have h79 : 7 ≤ i2 := Nat.le_of_not_lt (fun z => by rw [h74 z] at c93; exact c93 (nI_leI (a := 0) (b := i4) (by omega) (by omega) |>.mpr (by omega)))
                refine lv_aload_n hx hb dX9_link_104 rfl (lv_at hl 1 rfl) ?_
                refine lv_dup hx hb dX9_link_105 rfl ?_
                refine p_get (v := .long (K4.2.2.2.1 d4)) (C := RX2) (Tc := TX2) (N := 13) (ci := 2) hx hb hq pin_wsX20 hown hE hP hO (by rw [hT4]; decide) (rep_4 hT4) rfl 10 (by decide) (hq _ pw_102) (fun _ h9 => h9) rfl dX9_link_106 ?_
                refine lv_lconst (v := 1) hx hb dX9_link_109 (by decide) ?_
                refine lv_aload_n hx hb dX9_link_110 rfl (lv_at hl 3 rfl) ?_
                refine lv_aload_n hx hb dX9_link_111 rfl (lv_at hl 3 rfl) ?_
                refine p_get (v := .ref (a 1)) (C := RX9) (Tc := TX9) (N := 5) (ci := 6) hx hb hq pin_wsX90 hown hE hP hO (by rw [hp1]; decide) (rep_7 hp1) rfl 0 (by decide) (hq _ pw_784) (fun _ h9 => h9) (congrArg (fun z => some (va_rf z)) hp2) dX9_link_112 ?_
                refine lv_aload_n hx hb dX9_link_115 rfl (lv_at hl 1 rfl) ?_
                refine p_get (v := .int (K4.2.1 20 d4)) (C := RX2) (Tc := TX2) (N := 13) (ci := 2) hx hb hq pin_wsX20 hown hE hP hO (by rw [hT4]; decide) (rep_4 hT4) rfl 5 (by decide) (hq _ pw_1107) (fun _ h9 => h9) rfl dX9_link_116 ?_
                refine lv_iconst (v := 2) hx hb dX9_link_119 (by decide) ?_
                refine lv_iload_n hx hb dX9_link_120 rfl (lv_at hl 0 rfl) ?_
                refine lv_imul hx hb dX9_link_121 ?_
                refine lv_topi (fun x94 e95 => ?_)
                obtain rfl : x94 = nI (2 * i4) := e95.trans (nI_mulN (2) (i4))
                refine lv_iadd hx hb dX9_link_122 ?_
                refine lv_topi (fun x96 e97 => ?_)
                have hO : OKW G h0 a (upd (upd F 2 (nI sz)) 2 (nI sz)) R Z B J K4.1 (fun q99 x99 => x99 = rep G a K4 q99) w := hO.to rfl
                obtain ⟨_, qr101, hqr102⟩ := hO.2.1 2 _ (sg_2 G h0 a _ _ _ _ _)
                refine pc_V0 (G := G) (As := [.int x96]) (rest := [.ref pq, .long 1, .long (K4.2.2.2.1 d4), .ref d4]) hx hb hml hown hq hE hX pX0_al hP hD hS hA hl.1 (K_valueAt l G h0 a (upd F 2 (nI sz)) R Z B J K4.1 (fun q99 x99 => x99 = rep G a K4 q99) w x96 sz (by omega) hO) (gV pw_785 pw_57 pw_58 pw_59 pw_39) hV_X10_valueAt qr101 7 hqr102 rfl rfl rfl (Nat.le_of_ble_eq_true rfl) dX9_link_123 ⟨Nat.le_of_ble_eq_true rfl, Nat.le_of_ble_eq_true rfl⟩ ⟨Nat.le_of_ble_eq_true rfl, Nat.le_of_ble_eq_true rfl⟩ (fun v100 u98 H locs hw99 hP hD hS => ?_)
                obtain ⟨w, r103⟩ := u98
                obtain ⟨hw99, hO⟩ := hw99
                obtain rfl : v100 = some (.int r103) := hw99
                have hO : OKP G h0 a (upd F 2 (nI sz)) R Z B J K4 w := hO.to rfl
                refine W.widen (k := 0) (n := 0) (Nat.le_of_ble_eq_true rfl) (Nat.le_of_ble_eq_true rfl) ?_
                refine W.eq (g2 := F0 m 126 ls [.int r103, .ref pq, .long 1, .long (K4.2.2.2.1 d4), .ref d4]) rfl ?_
                have hO : OKP G h0 a (upd F 2 (nI sz)) R Z B J K4 w := hO.to rfl
                obtain ⟨qr107, hqr108⟩ := p_recv hO (by rw [hp1]; decide) (rep_7 hp1)
                refine pc_V0 (G := G) (As := [.int r103]) (rest := [.long 1, .long (K4.2.2.2.1 d4), .ref d4]) hx hb hml hown hq hE hX pX0_al hP hD hS hA hl.1 (G_find l G h0 a (upd F 2 (nI sz)) R Z B J K4 w pq dr ml nd r103 g hqp4.1 hqp4.2.1 hO) (gV pw_1102 pw_585 pw_586 pw_106 pw_509) hV_X9_find qr107 6 hqr108 rfl rfl rfl (Nat.le_of_ble_eq_true rfl) dX9_link_126 ⟨Nat.le_of_ble_eq_true rfl, Nat.le_of_ble_eq_true rfl⟩ ⟨Nat.le_of_ble_eq_true rfl, Nat.le_of_ble_eq_true rfl⟩ (fun v106 u104 H locs hw105 hP hD hS => ?_)
                obtain ⟨w, r109⟩ := u104
                obtain ⟨hw105, h110, hO⟩ := hw105
                have h110 : FnQ r109 nd := h110
                obtain rfl : v106 = some (.int r109) := hw105
                have hO : OKP G h0 a (upd F 2 (nI sz)) R Z B J K4 w := hO.to rfl
                refine W.widen (k := 0) (n := 0) (Nat.le_of_ble_eq_true rfl) (Nat.le_of_ble_eq_true rfl) ?_
                refine W.eq (g2 := F0 m 129 ls [.int r109, .long 1, .long (K4.2.2.2.1 d4), .ref d4]) rfl ?_
                refine lv_lshl hx hb dX9_link_129 rfl ?_
                refine lv_topl (fun x111 e112 => ?_)
                refine lv_lor hx hb dX9_link_130 ?_
                refine lv_topl (fun x113 e114 => ?_)
                refine p_put (v := .long x113) (ty := .long) (C := RX2) (Tc := TX2) (N := 13) (ci := 2) (K' := (kL K4 d4 x113)) hx hb hq pin_wsX20 tyX2 tyX2_ok nmX2 hown hE hP hD hS hO (by rw [hT4]; decide) (rep_4 hT4) rfl 10 (by decide) (hq _ pw_102) (fun _ h9 => h9) rfl (by decide +kernel) rfl rfl (Nat.le_of_ble_eq_true rfl) rfl (by rw [rep_4 (show (kL K4 d4 x113).1 d4 = 4 from hT4), pl_0] <;> rfl) (fun p9 hp9 => rep_kL hp9) dX9_link_131 (fun H locs w hP hD hS hO => ?_)
                obtain ⟨K115, hK116⟩ : ∃ z : PK, z = (kL K4 d4 x113) := ⟨_, rfl⟩
                rw [← hK116] at hO
                have hf117 : K115.1 pq = 7 := (by rw [hK116]; exact hp1)
                have hf118 : K115.2.2.1 18 pq = some (a 1) := (by rw [hK116]; exact hp2)
                have hf119 : K115.2.2.1 14 pq = some dr := (by rw [hK116]; exact hp3)
                have hf120 : K115.1 dr = 8 := (by rw [hK116]; exact hp4)
                have hf121 : K115.2.2.1 15 pq = some ml := (by rw [hK116]; exact hp5)
                have hf122 : K115.1 ml = 5 := (by rw [hK116]; exact hp6)
                have hf123 : K115.2.1 24 pq = (nI nd) := (by rw [hK116]; exact hp8)
                have hf124 : K115.1 d4 = 4 := (by rw [hK116]; exact hT4)
                have hf125 : K115.2.1 21 d4 = lz4 := (by rw [hK116]; exact hlz4)
                have hw9 : WPr G K115 g := by rw [hK116]; exact WPr.kL hqw4 hg4
                have hp9 : PgT G K115 g (a 1) pq dr ml nd nm cp it s9 := by rw [hK116]; exact PgT.kL hqp4
                have ha9 : AbF K115 dr nd (upL ab4 i2 x113) := by rw [hK116]; exact AbF.kL hqa4 hqp4.2.1 (by omega) (by omega) he4
                have hb9 : PaB K115 dr nd (upL ab4 i2 x113) := by rw [hK116]; exact PaB.or hqb4 (Or.inl (fun b hb => by rw [e114, bitL_or]; exact Or.inl (by rw [hqa4 i2 (by omega) d4 he4]; exact hb)))
                have hu9 : PaU K115 dr nd (i2 + 1) := by rw [hK116]; exact PaU.kL hpu4
                have hz9 := Bi0.or (v := x113) hbi4 h79
                have he9 : K115.2.2.2.2.1 dr i2 = some d4 := by rw [hK116]; exact he4
                refine lv_iinc (v := (nI (i4 + 1))) (lv' := [(3, .int (nI (i4 + 1))), (2, .ref d4), (1, .int (nI i2)), (0, .ref pq)]) hx hb dX9_link_134 hl (k := 0) rfl (nI_1 i4) (by decide) rfl (fun ls hl => ?_)
                refine lv_goto (tgt := 96) hx hb dX9_link_137 (by decide) ?_
                have hO : OKP G h0 a (upd F 2 (nI sz)) R Z B J K115 w := hO.to rfl
                exact ih_4 (i4 + 1) K115 (upL ab4 i2 x113) d4 lz4 _ _ _ _ (by omega) (by omega) hw9 hp9 ha9 hb9 hu9 hz9 hf124 hg4 hf125 he9 hlb4 h74 hP hD hS hO (lv_sub hl [0, 1, 2, 3] rfl)
          have hO : OKP G h0 a (upd F 2 (nI sz)) R Z B J K76 w := hO.to rfl
          exact loop_4 (bA + 1) 0 K76 (upL (upL ab2 i2 1) i2 x74) dA (0 : Int32) _ _ _ _ (by omega) (by omega) hw5 hp5 ha5 hb5 hu5 hz5 hf85 hgA2 hf88 (by rw [hK77, hK56]; exact heA3) hbB (fun z => rfl) hP hD hS hO (lv_sub hl [0, 1, 2, 3] rfl)
        · obtain ⟨lzA, hlzA⟩ : ∃ z : Int32, K42.2.1 21 dA = z := ⟨_, rfl⟩
          refine lv_aload_n hx hb dX9_link_22 rfl (lv_at hl 0 rfl) ?_
          refine p_get (v := .int (K42.2.1 18 dA)) (C := RX2) (Tc := TX2) (N := 13) (ci := 2) hx hb hq pin_wsX20 hown hE hP hO (by rw [hf51]; decide) (rep_4 hf51) rfl 3 (by decide) (hq _ pw_1101) (fun _ h9 => h9) rfl dX9_link_23 ?_
          refine lv_if_ne (tgt := 69) hx hb dX9_link_26 (by decide) (fun c126 => ?_) (fun c126 => ?_)
          · have hcn : K42.2.2.1 10 dA = none := hu3 i2 (by omega) (Nat.le_refl _) dA heA3
            refine lv_aload_n hx hb dX9_link_69 rfl (lv_at hl 0 rfl) ?_
            refine p_get (v := .null) (C := RX2) (Tc := TX2) (N := 13) (ci := 2) hx hb hq pin_wsX20 hown hE hP hO (by rw [hf51]; decide) (rep_4 hf51) rfl 9 (by decide) (hq _ pw_1138) (fun _ h9 => h9) (congrArg (fun z => some (va_rf z)) hcn) dX9_link_70 ?_
            refine lv_ifnullN (tgt := 94) hx hb dX9_link_73 (by decide) ?_
            have hz5 : Bi0 (upL ab2 i2 1) (i2 + 1) := Bi0.up2 hbi2 hi2 (fun z => absurd z h7)
            obtain ⟨bA, hbA, hbB⟩ := lz_bound lzA
            refine lv_iconst (v := 0) hx hb dX9_link_94 (by decide) ?_
            refine lv_istore_n (lv' := [(3, .int 0), (2, .ref dA), (1, .int (nI i2)), (0, .ref pq)]) hx hb dX9_link_95 rfl hl (by decide) rfl (fun ls hl => ?_)
            have loop_4 : ∀ (n_4 : Nat) (i4 : Nat) (K4 : PK) (ab4 : Nat → Int64) (d4 : Nat) (lz4 : Int32) (H : Heap) (locs : List Loc) (ls : Array Slot) (w : va_W), i4 ≤ bA → bA + 1 ≤ i4 + n_4 → (WPr G K4 g) → (PgT G K4 g (a 1) pq dr ml nd nm cp it s9) → (AbF K4 dr nd ab4) → (PaB K4 dr nd ab4) → (PaU K4 dr nd (i2 + 1)) → (Bi0 ab4 (i2 + 1)) → (K4.1 d4 = 4) → (¬ g 5 d4 = 2) → (K4.2.1 21 d4 = lz4) → (K4.2.2.2.2.1 dr i2 = some d4) → (∀ i : Nat, i < 2147483648 → nI i < lz4 → i < bA) → (i2 < 7 → lz4 = 0) → va_P G.1 pCl w H → va_D A w → va_S A s.heap H locs → OKP G h0 a (upd F 2 (nI sz)) R Z B J K4 w → lv_has ls 4 [(3, .int (nI i4)), (2, .ref d4), (1, .int (nI i2)), (0, .ref pq)] → W p l e (headSpec (Cond.code yX9_link cX9_link 4 none :: pw) ({ frames := 3, cells := 0, slots := 0, locals := 82 } : Room)).room s m ([.ref pq] : List Value).toArray below meth c H locs 0 0 (MQ below (pQ G A (fun (v : Option Value) (u : va_W × (PK × (Nat → Int64))) => v = none ∧ (WPr G u.2.1 g) ∧ (PgT G u.2.1 g (a 1) pq dr ml nd nm cp it s9) ∧ (AbF u.2.1 dr nd u.2.2) ∧ (PaB u.2.1 dr nd u.2.2) ∧ (WCl u.2.2 nd nd) ∧ (Bi0 u.2.2 7) ∧ (OKP G h0 a (upd F 2 (nI sz)) R Z B J u.2.1 u.1)) (fun u => u.1)) ([.ref pq] : List Value).toArray s ({ frames := 3, cells := 0, slots := 0, locals := 82 } : Room).cells ({ frames := 3, cells := 0, slots := 0, locals := 82 } : Room).slots A) (F0 m 96 ls []) := by
              intro n_4
              induction n_4 with
              | zero => intro i4 K4 ab4 d4 lz4 H locs ls w hk_4 hn_4; omega
              | succ n_4 ih_4 =>
                intro i4 K4 ab4 d4 lz4 H locs ls w hk_4 hn_4 hqw4 hqp4 hqa4 hqb4 hpu4 hbi4 hT4 hg4 hlz4 he4 hlb4 h74 hP hD hS hO hl
                have hpx := hqp4.1
                have hp1 := hpx.1
                have hp2 := hpx.2.1
                have hp3 := hpx.2.2.1
                have hp4 := hpx.2.2.2.1
                have hp5 := hpx.2.2.2.2.1
                have hp6 := hpx.2.2.2.2.2.1
                have hp8 := hpx.2.2.2.2.2.2.2.1
                have hp9 := hpx.2.2.2.2.2.2.2.2
                refine lv_iload_n hx hb dX9_link_96 rfl (lv_at hl 0 rfl) ?_
                refine lv_aload_n hx hb dX9_link_97 rfl (lv_at hl 1 rfl) ?_
                refine p_get (v := .int lz4) (C := RX2) (Tc := TX2) (N := 13) (ci := 2) hx hb hq pin_wsX20 hown hE hP hO (by rw [hT4]; decide) (rep_4 hT4) rfl 6 (by decide) (hq _ pw_1106) (fun _ h9 => h9) (congrArg (fun z => some (Value.int z)) hlz4) dX9_link_98 ?_
                refine lv_icmp_ge (tgt := 140) hx hb dX9_link_101 (by decide) (fun c127 => ?_) (fun c127 => ?_)
                · refine lv_iinc (v := (nI (i2 + 1))) (lv' := [(1, .int (nI (i2 + 1))), (3, .int (nI i4)), (2, .ref d4), (0, .ref pq)]) hx hb dX9_link_140 hl (k := 2) rfl (nI_1 i2) (by decide) rfl (fun ls hl => ?_)
                  refine lv_goto (tgt := 2) hx hb dX9_link_143 (by decide) ?_
                  have hO : OKP G h0 a (upd F 2 (nI sz)) R Z B J K4 w := hO.to rfl
                  exact ih_2 (i2 + 1) K4 ab4 _ _ _ _ (by omega) (by omega) hqw4 hqp4 hqa4 hqb4 hpu4 hbi4 (by omega) hP hD hS hO (lv_sub hl [0, 3] rfl)
                · have hi9 := hlb4 i4 (by omega) (Int32.not_le.mp c127)
                  have h79 : 7 ≤ i2 := Nat.le_of_not_lt (fun z => by rw [h74 z] at c127; exact c127 (nI_leI (a := 0) (b := i4) (by omega) (by omega) |>.mpr (by omega)))
                  refine lv_aload_n hx hb dX9_link_104 rfl (lv_at hl 1 rfl) ?_
                  refine lv_dup hx hb dX9_link_105 rfl ?_
                  refine p_get (v := .long (K4.2.2.2.1 d4)) (C := RX2) (Tc := TX2) (N := 13) (ci := 2) hx hb hq pin_wsX20 hown hE hP hO (by rw [hT4]; decide) (rep_4 hT4) rfl 10 (by decide) (hq _ pw_102) (fun _ h9 => h9) rfl dX9_link_106 ?_
                  refine lv_lconst (v := 1) hx hb dX9_link_109 (by decide) ?_
                  refine lv_aload_n hx hb dX9_link_110 rfl (lv_at hl 3 rfl) ?_
                  refine lv_aload_n hx hb dX9_link_111 rfl (lv_at hl 3 rfl) ?_
                  refine p_get (v := .ref (a 1)) (C := RX9) (Tc := TX9) (N := 5) (ci := 6) hx hb hq pin_wsX90 hown hE hP hO (by rw [hp1]; decide) (rep_7 hp1) rfl 0 (by decide) (hq _ pw_784) (fun _ h9 => h9) (congrArg (fun z => some (va_rf z)) hp2) dX9_link_112 ?_
                  refine lv_aload_n hx hb dX9_link_115 rfl (lv_at hl 1 rfl) ?_
                  refine p_get (v := .int (K4.2.1 20 d4)) (C := RX2) (Tc := TX2) (N := 13) (ci := 2) hx hb hq pin_wsX20 hown hE hP hO (by rw [hT4]; decide) (rep_4 hT4) rfl 5 (by decide) (hq _ pw_1107) (fun _ h9 => h9) rfl dX9_link_116 ?_
                  refine lv_iconst (v := 2) hx hb dX9_link_119 (by decide) ?_
                  refine lv_iload_n hx hb dX9_link_120 rfl (lv_at hl 0 rfl) ?_
                  refine lv_imul hx hb dX9_link_121 ?_
                  refine lv_topi (fun x128 e129 => ?_)
                  obtain rfl : x128 = nI (2 * i4) := e129.trans (nI_mulN (2) (i4))
                  refine lv_iadd hx hb dX9_link_122 ?_
                  refine lv_topi (fun x130 e131 => ?_)
                  have hO : OKW G h0 a (upd (upd F 2 (nI sz)) 2 (nI sz)) R Z B J K4.1 (fun q99 x99 => x99 = rep G a K4 q99) w := hO.to rfl
                  obtain ⟨_, qr135, hqr136⟩ := hO.2.1 2 _ (sg_2 G h0 a _ _ _ _ _)
                  refine pc_V0 (G := G) (As := [.int x130]) (rest := [.ref pq, .long 1, .long (K4.2.2.2.1 d4), .ref d4]) hx hb hml hown hq hE hX pX0_al hP hD hS hA hl.1 (K_valueAt l G h0 a (upd F 2 (nI sz)) R Z B J K4.1 (fun q99 x99 => x99 = rep G a K4 q99) w x130 sz (by omega) hO) (gV pw_785 pw_57 pw_58 pw_59 pw_39) hV_X10_valueAt qr135 7 hqr136 rfl rfl rfl (Nat.le_of_ble_eq_true rfl) dX9_link_123 ⟨Nat.le_of_ble_eq_true rfl, Nat.le_of_ble_eq_true rfl⟩ ⟨Nat.le_of_ble_eq_true rfl, Nat.le_of_ble_eq_true rfl⟩ (fun v134 u132 H locs hw133 hP hD hS => ?_)
                  obtain ⟨w, r137⟩ := u132
                  obtain ⟨hw133, hO⟩ := hw133
                  obtain rfl : v134 = some (.int r137) := hw133
                  have hO : OKP G h0 a (upd F 2 (nI sz)) R Z B J K4 w := hO.to rfl
                  refine W.widen (k := 0) (n := 0) (Nat.le_of_ble_eq_true rfl) (Nat.le_of_ble_eq_true rfl) ?_
                  refine W.eq (g2 := F0 m 126 ls [.int r137, .ref pq, .long 1, .long (K4.2.2.2.1 d4), .ref d4]) rfl ?_
                  have hO : OKP G h0 a (upd F 2 (nI sz)) R Z B J K4 w := hO.to rfl
                  obtain ⟨qr141, hqr142⟩ := p_recv hO (by rw [hp1]; decide) (rep_7 hp1)
                  refine pc_V0 (G := G) (As := [.int r137]) (rest := [.long 1, .long (K4.2.2.2.1 d4), .ref d4]) hx hb hml hown hq hE hX pX0_al hP hD hS hA hl.1 (G_find l G h0 a (upd F 2 (nI sz)) R Z B J K4 w pq dr ml nd r137 g hqp4.1 hqp4.2.1 hO) (gV pw_1102 pw_585 pw_586 pw_106 pw_509) hV_X9_find qr141 6 hqr142 rfl rfl rfl (Nat.le_of_ble_eq_true rfl) dX9_link_126 ⟨Nat.le_of_ble_eq_true rfl, Nat.le_of_ble_eq_true rfl⟩ ⟨Nat.le_of_ble_eq_true rfl, Nat.le_of_ble_eq_true rfl⟩ (fun v140 u138 H locs hw139 hP hD hS => ?_)
                  obtain ⟨w, r143⟩ := u138
                  obtain ⟨hw139, h144, hO⟩ := hw139
                  have h144 : FnQ r143 nd := h144
                  obtain rfl : v140 = some (.int r143) := hw139
                  have hO : OKP G h0 a (upd F 2 (nI sz)) R Z B J K4 w := hO.to rfl
                  refine W.widen (k := 0) (n := 0) (Nat.le_of_ble_eq_true rfl) (Nat.le_of_ble_eq_true rfl) ?_
                  refine W.eq (g2 := F0 m 129 ls [.int r143, .long 1, .long (K4.2.2.2.1 d4), .ref d4]) rfl ?_
                  refine lv_lshl hx hb dX9_link_129 rfl ?_
                  refine lv_topl (fun x145 e146 => ?_)
                  refine lv_lor hx hb dX9_link_130 ?_
                  refine lv_topl (fun x147 e148 => ?_)
                  refine p_put (v := .long x147) (ty := .long) (C := RX2) (Tc := TX2) (N := 13) (ci := 2) (K' := (kL K4 d4 x147)) hx hb hq pin_wsX20 tyX2 tyX2_ok nmX2 hown hE hP hD hS hO (by rw [hT4]; decide) (rep_4 hT4) rfl 10 (by decide) (hq _ pw_102) (fun _ h9 => h9) rfl (by decide +kernel) rfl rfl (Nat.le_of_ble_eq_true rfl) rfl (by rw [rep_4 (show (kL K4 d4 x147).1 d4 = 4 from hT4), pl_0] <;> rfl) (fun p9 hp9 => rep_kL hp9) dX9_link_131 (fun H locs w hP hD hS hO => ?_)
                  obtain ⟨K149, hK150⟩ : ∃ z : PK, z = (kL K4 d4 x147) := ⟨_, rfl⟩
                  rw [← hK150] at hO
                  have hf151 : K149.1 pq = 7 := (by rw [hK150]; exact hp1)
                  have hf152 : K149.2.2.1 18 pq = some (a 1) := (by rw [hK150]; exact hp2)
                  have hf153 : K149.2.2.1 14 pq = some dr := (by rw [hK150]; exact hp3)
                  have hf154 : K149.1 dr = 8 := (by rw [hK150]; exact hp4)
                  have hf155 : K149.2.2.1 15 pq = some ml := (by rw [hK150]; exact hp5)
                  have hf156 : K149.1 ml = 5 := (by rw [hK150]; exact hp6)
                  have hf157 : K149.2.1 24 pq = (nI nd) := (by rw [hK150]; exact hp8)
                  have hf158 : K149.1 d4 = 4 := (by rw [hK150]; exact hT4)
                  have hf159 : K149.2.1 21 d4 = lz4 := (by rw [hK150]; exact hlz4)
                  have hw9 : WPr G K149 g := by rw [hK150]; exact WPr.kL hqw4 hg4
                  have hp9 : PgT G K149 g (a 1) pq dr ml nd nm cp it s9 := by rw [hK150]; exact PgT.kL hqp4
                  have ha9 : AbF K149 dr nd (upL ab4 i2 x147) := by rw [hK150]; exact AbF.kL hqa4 hqp4.2.1 (by omega) (by omega) he4
                  have hb9 : PaB K149 dr nd (upL ab4 i2 x147) := by rw [hK150]; exact PaB.or hqb4 (Or.inl (fun b hb => by rw [e148, bitL_or]; exact Or.inl (by rw [hqa4 i2 (by omega) d4 he4]; exact hb)))
                  have hu9 : PaU K149 dr nd (i2 + 1) := by rw [hK150]; exact PaU.kL hpu4
                  have hz9 := Bi0.or (v := x147) hbi4 h79
                  have he9 : K149.2.2.2.2.1 dr i2 = some d4 := by rw [hK150]; exact he4
                  refine lv_iinc (v := (nI (i4 + 1))) (lv' := [(3, .int (nI (i4 + 1))), (2, .ref d4), (1, .int (nI i2)), (0, .ref pq)]) hx hb dX9_link_134 hl (k := 0) rfl (nI_1 i4) (by decide) rfl (fun ls hl => ?_)
                  refine lv_goto (tgt := 96) hx hb dX9_link_137 (by decide) ?_
                  have hO : OKP G h0 a (upd F 2 (nI sz)) R Z B J K149 w := hO.to rfl
                  exact ih_4 (i4 + 1) K149 (upL ab4 i2 x147) d4 lz4 _ _ _ _ (by omega) (by omega) hw9 hp9 ha9 hb9 hu9 hz9 hf158 hg4 hf159 he9 hlb4 h74 hP hD hS hO (lv_sub hl [0, 1, 2, 3] rfl)
            have hO : OKP G h0 a (upd F 2 (nI sz)) R Z B J K42 w := hO.to rfl
            exact loop_4 (bA + 1) 0 K42 (upL ab2 i2 1) dA lzA _ _ _ _ (by omega) (by omega) hw3 hp3 ha3 hb3 (PaU.up hu3) hz5 hf51 hgA2 hlzA (by skip; exact heA3) hbB (fun z => absurd z h7) hP hD hS hO (lv_sub hl [0, 1, 2, 3] rfl)
          · refine lv_aload_n hx hb dX9_link_29 rfl (lv_at hl 0 rfl) ?_
            refine lv_aload_n hx hb dX9_link_30 rfl (lv_at hl 0 rfl) ?_
            refine p_get (v := .int (K42.2.1 19 dA)) (C := RX2) (Tc := TX2) (N := 13) (ci := 2) hx hb hq pin_wsX20 hown hE hP hO (by rw [hf51]; decide) (rep_4 hf51) rfl 4 (by decide) (hq _ pw_1105) (fun _ h9 => h9) rfl dX9_link_31 ?_
            refine lv_iconst (v := (-1)) hx hb dX9_link_34 (by decide) ?_
            refine lv_icmp_ne (tgt := 47) hx hb dX9_link_35 (by decide) (fun c160 => ?_) (fun c160 => ?_)
            · refine lv_aload_n hx hb dX9_link_47 rfl (lv_at hl 2 rfl) ?_
              refine lv_aload_n hx hb dX9_link_48 rfl (lv_at hl 2 rfl) ?_
              refine lv_aload_n hx hb dX9_link_49 rfl (lv_at hl 2 rfl) ?_
              refine p_get (v := .ref (a 1)) (C := RX9) (Tc := TX9) (N := 5) (ci := 6) hx hb hq pin_wsX90 hown hE hP hO (by rw [hf44]; decide) (rep_7 hf44) rfl 0 (by decide) (hq _ pw_784) (fun _ h9 => h9) (congrArg (fun z => some (va_rf z)) hf45) dX9_link_50 ?_
              refine lv_aload_n hx hb dX9_link_53 rfl (lv_at hl 0 rfl) ?_
              refine p_get (v := .int (K42.2.1 19 dA)) (C := RX2) (Tc := TX2) (N := 13) (ci := 2) hx hb hq pin_wsX20 hown hE hP hO (by rw [hf51]; decide) (rep_4 hf51) rfl 4 (by decide) (hq _ pw_1105) (fun _ h9 => h9) rfl dX9_link_54 ?_
              have hO : OKW G h0 a (upd (upd F 2 (nI sz)) 2 (nI sz)) R Z B J K42.1 (fun q99 x99 => x99 = rep G a K42 q99) w := hO.to rfl
              obtain ⟨_, qr164, hqr165⟩ := hO.2.1 2 _ (sg_2 G h0 a _ _ _ _ _)
              refine pc_V0 (G := G) (As := [.int (K42.2.1 19 dA)]) (rest := [.ref pq, .ref pq, .ref dA]) hx hb hml hown hq hE hX pX0_al hP hD hS hA hl.1 (K_valueAt l G h0 a (upd F 2 (nI sz)) R Z B J K42.1 (fun q99 x99 => x99 = rep G a K42 q99) w (K42.2.1 19 dA) sz (by omega) hO) (gV pw_785 pw_57 pw_58 pw_59 pw_39) hV_X10_valueAt qr164 7 hqr165 rfl rfl rfl (Nat.le_of_ble_eq_true rfl) dX9_link_57 ⟨Nat.le_of_ble_eq_true rfl, Nat.le_of_ble_eq_true rfl⟩ ⟨Nat.le_of_ble_eq_true rfl, Nat.le_of_ble_eq_true rfl⟩ (fun v163 u161 H locs hw162 hP hD hS => ?_)
              obtain ⟨w, r166⟩ := u161
              obtain ⟨hw162, hO⟩ := hw162
              obtain rfl : v163 = some (.int r166) := hw162
              have hO : OKP G h0 a (upd F 2 (nI sz)) R Z B J K42 w := hO.to rfl
              refine W.widen (k := 0) (n := 0) (Nat.le_of_ble_eq_true rfl) (Nat.le_of_ble_eq_true rfl) ?_
              refine W.eq (g2 := F0 m 60 ls [.int r166, .ref pq, .ref pq, .ref dA]) rfl ?_
              have hO : OKP G h0 a (upd F 2 (nI sz)) R Z B J K42 w := hO.to rfl
              obtain ⟨qr170, hqr171⟩ := p_recv hO (by rw [hf44]; decide) (rep_7 hf44)
              refine pc_V0 (G := G) (As := [.int r166]) (rest := [.ref pq, .ref dA]) hx hb hml hown hq hE hX pX0_al hP hD hS hA hl.1 (G_find l G h0 a (upd F 2 (nI sz)) R Z B J K42 w pq dr ml nd r166 g hp3.1 hp3.2.1 hO) (gV pw_1102 pw_585 pw_586 pw_106 pw_509) hV_X9_find qr170 6 hqr171 rfl rfl rfl (Nat.le_of_ble_eq_true rfl) dX9_link_60 ⟨Nat.le_of_ble_eq_true rfl, Nat.le_of_ble_eq_true rfl⟩ ⟨Nat.le_of_ble_eq_true rfl, Nat.le_of_ble_eq_true rfl⟩ (fun v169 u167 H locs hw168 hP hD hS => ?_)
              obtain ⟨w, r172⟩ := u167
              obtain ⟨hw168, h173, hO⟩ := hw168
              have h173 : FnQ r172 nd := h173
              obtain rfl : v169 = some (.int r172) := hw168
              have hO : OKP G h0 a (upd F 2 (nI sz)) R Z B J K42 w := hO.to rfl
              refine W.widen (k := 0) (n := 0) (Nat.le_of_ble_eq_true rfl) (Nat.le_of_ble_eq_true rfl) ?_
              refine W.eq (g2 := F0 m 63 ls [.int r172, .ref pq, .ref dA]) rfl ?_
              have hO : OKP G h0 a (upd F 2 (nI sz)) R Z B J K42 w := hO.to rfl
              obtain ⟨qr177, hqr178⟩ := p_recv hO (by rw [hf44]; decide) (rep_7 hf44)
              refine pc_V0 (G := G) (As := [.int r172]) (rest := [.ref dA]) hx hb hml hown hq hE hX pX0_al hP hD hS hA hl.1 (G_decl l G h0 a (upd F 2 (nI sz)) R Z B J K42 w pq dr ml nd r172 g hp3.1 hp3.2.1 hO) (gV pw_1103 pw_182 pw_183 pw_106 pw_13) hV_X9_decl qr177 6 hqr178 rfl rfl rfl (Nat.le_of_ble_eq_true rfl) dX9_link_63 ⟨Nat.le_of_ble_eq_true rfl, Nat.le_of_ble_eq_true rfl⟩ ⟨Nat.le_of_ble_eq_true rfl, Nat.le_of_ble_eq_true rfl⟩ (fun v176 u174 H locs hw175 hP hD hS => ?_)
              obtain ⟨w, o179⟩ := u174
              obtain ⟨hw175, h180, h181, hO⟩ := hw175
              have h180 : DoN K42 o179 := h180
              have h181 : DoK K42 dr nd r172 o179 := h181
              obtain rfl : v176 = some ((va_rf o179)) := hw175
              have hO : OKP G h0 a (upd F 2 (nI sz)) R Z B J K42 w := hO.to rfl
              refine W.widen (k := 0) (n := 0) (Nat.le_of_ble_eq_true rfl) (Nat.le_of_ble_eq_true rfl) ?_
              refine W.eq (g2 := F0 m 66 ls [(va_rf o179), .ref dA]) rfl ?_
              rcases o179 with _ | d182
              · have hl : lv_has ls 4 [(2, .ref dA), (1, .int (nI i2)), (0, .ref pq)] := hl
                refine W.eq (g2 := F0 m 66 ls [.null, .ref dA]) rfl ?_
                refine p_put (v := .null) (ty := (.object "JinjaTongue$Decl")) (C := RX2) (Tc := TX2) (N := 13) (ci := 2) (K' := (kC K42 10 dA none)) hx hb hq pin_wsX20 tyX2 tyX2_ok nmX2 hown hE hP hD hS hO (by rw [hf51]; decide) (rep_4 hf51) rfl 9 (by decide) (hq _ pw_1138) (fun _ h9 => h9) rfl (by decide +kernel) rfl rfl (Nat.le_of_ble_eq_true rfl) rfl (by rw [rep_4 (show (kC K42 10 dA none).1 dA = 4 from hf51), pc_10] <;> rfl) (fun p9 hp9 => rep_kC hp9) dX9_link_66 (fun H locs w hP hD hS hO => ?_)
                obtain ⟨K183, hK184⟩ : ∃ z : PK, z = (kC K42 10 dA none) := ⟨_, rfl⟩
                rw [← hK184] at hO
                have hf185 : K183.1 pq = 7 := (by rw [hK184]; exact hf44)
                have hf186 : K183.2.2.1 18 pq = some (a 1) := (by rw [hK184]; exact (kC_of (by decide)).trans hf45)
                have hf187 : K183.2.2.1 14 pq = some dr := (by rw [hK184]; exact (kC_of (by decide)).trans hf46)
                have hf188 : K183.1 dr = 8 := (by rw [hK184]; exact hf47)
                have hf189 : K183.2.2.1 15 pq = some ml := (by rw [hK184]; exact (kC_of (by decide)).trans hf48)
                have hf190 : K183.1 ml = 5 := (by rw [hK184]; exact hf49)
                have hf191 : K183.2.1 24 pq = (nI nd) := (by rw [hK184]; exact hf50)
                have hf192 : K183.1 dA = 4 := (by rw [hK184]; exact hf51)
                have hf193 : K183.2.1 15 dA = (nI i2) := (by rw [hK184]; exact hf52)
                have hf194 : K183.2.1 21 dA = lzA := (by rw [hK184]; exact hlzA)
                have hf195 : K183.2.2.1 10 dA = none := by rw [hK184]; exact kC_eq
                have hw4 : WPr G K183 g := by rw [hK184]; exact WPr.par hw3 hgA2 (fun d h => by cases h)
                have hp4 : PgT G K183 g (a 1) pq dr ml nd nm cp it s9 := by rw [hK184]; exact PgT.kC hp3 (Or.inr rfl)
                have ha4 : AbF K183 dr nd (upL ab2 i2 1) := by rw [hK184]; exact AbF.kC ha3
                have hu4 : PaU K183 dr nd (i2 + 1) := by rw [hK184]; exact PaU.kC hu3 hp3.2.1 (by omega) (by omega) heA3
                have hl4 : K183.2.2.2.1 dA = 1 := by rw [hK184]; exact hl3
                have hb4 : PaB K183 dr nd (upL ab2 i2 1) := by rw [hK184]; exact PaB.nul hb3
                refine lv_aload_n hx hb dX9_link_69 rfl (lv_at hl 0 rfl) ?_
                refine p_get (v := .null) (C := RX2) (Tc := TX2) (N := 13) (ci := 2) hx hb hq pin_wsX20 hown hE hP hO (by rw [hf192]; decide) (rep_4 hf192) rfl 9 (by decide) (hq _ pw_1138) (fun _ h9 => h9) (congrArg (fun z => some (va_rf z)) hf195) dX9_link_70 ?_
                refine lv_ifnullN (tgt := 94) hx hb dX9_link_73 (by decide) ?_
                have hz5 : Bi0 (upL ab2 i2 1) (i2 + 1) := Bi0.up2 hbi2 hi2 (fun z => absurd z h7)
                obtain ⟨bA, hbA, hbB⟩ := lz_bound lzA
                refine lv_iconst (v := 0) hx hb dX9_link_94 (by decide) ?_
                refine lv_istore_n (lv' := [(3, .int 0), (2, .ref dA), (1, .int (nI i2)), (0, .ref pq)]) hx hb dX9_link_95 rfl hl (by decide) rfl (fun ls hl => ?_)
                have loop_4 : ∀ (n_4 : Nat) (i4 : Nat) (K4 : PK) (ab4 : Nat → Int64) (d4 : Nat) (lz4 : Int32) (H : Heap) (locs : List Loc) (ls : Array Slot) (w : va_W), i4 ≤ bA → bA + 1 ≤ i4 + n_4 → (WPr G K4 g) → (PgT G K4 g (a 1) pq dr ml nd nm cp it s9) → (AbF K4 dr nd ab4) → (PaB K4 dr nd ab4) → (PaU K4 dr nd (i2 + 1)) → (Bi0 ab4 (i2 + 1)) → (K4.1 d4 = 4) → (¬ g 5 d4 = 2) → (K4.2.1 21 d4 = lz4) → (K4.2.2.2.2.1 dr i2 = some d4) → (∀ i : Nat, i < 2147483648 → nI i < lz4 → i < bA) → (i2 < 7 → lz4 = 0) → va_P G.1 pCl w H → va_D A w → va_S A s.heap H locs → OKP G h0 a (upd F 2 (nI sz)) R Z B J K4 w → lv_has ls 4 [(3, .int (nI i4)), (2, .ref d4), (1, .int (nI i2)), (0, .ref pq)] → W p l e (headSpec (Cond.code yX9_link cX9_link 4 none :: pw) ({ frames := 3, cells := 0, slots := 0, locals := 82 } : Room)).room s m ([.ref pq] : List Value).toArray below meth c H locs 0 0 (MQ below (pQ G A (fun (v : Option Value) (u : va_W × (PK × (Nat → Int64))) => v = none ∧ (WPr G u.2.1 g) ∧ (PgT G u.2.1 g (a 1) pq dr ml nd nm cp it s9) ∧ (AbF u.2.1 dr nd u.2.2) ∧ (PaB u.2.1 dr nd u.2.2) ∧ (WCl u.2.2 nd nd) ∧ (Bi0 u.2.2 7) ∧ (OKP G h0 a (upd F 2 (nI sz)) R Z B J u.2.1 u.1)) (fun u => u.1)) ([.ref pq] : List Value).toArray s ({ frames := 3, cells := 0, slots := 0, locals := 82 } : Room).cells ({ frames := 3, cells := 0, slots := 0, locals := 82 } : Room).slots A) (F0 m 96 ls []) := by
                  intro n_4
                  induction n_4 with
                  | zero => intro i4 K4 ab4 d4 lz4 H locs ls w hk_4 hn_4; omega
                  | succ n_4 ih_4 =>
                    intro i4 K4 ab4 d4 lz4 H locs ls w hk_4 hn_4 hqw4 hqp4 hqa4 hqb4 hpu4 hbi4 hT4 hg4 hlz4 he4 hlb4 h74 hP hD hS hO hl
                    have hpx := hqp4.1
                    have hp1 := hpx.1
                    have hp2 := hpx.2.1
                    have hp3 := hpx.2.2.1
                    have hp4 := hpx.2.2.2.1
                    have hp5 := hpx.2.2.2.2.1
                    have hp6 := hpx.2.2.2.2.2.1
                    have hp8 := hpx.2.2.2.2.2.2.2.1
                    have hp9 := hpx.2.2.2.2.2.2.2.2
                    refine lv_iload_n hx hb dX9_link_96 rfl (lv_at hl 0 rfl) ?_
                    refine lv_aload_n hx hb dX9_link_97 rfl (lv_at hl 1 rfl) ?_
                    refine p_get (v := .int lz4) (C := RX2) (Tc := TX2) (N := 13) (ci := 2) hx hb hq pin_wsX20 hown hE hP hO (by rw [hT4]; decide) (rep_4 hT4) rfl 6 (by decide) (hq _ pw_1106) (fun _ h9 => h9) (congrArg (fun z => some (Value.int z)) hlz4) dX9_link_98 ?_
                    refine lv_icmp_ge (tgt := 140) hx hb dX9_link_101 (by decide) (fun c196 => ?_) (fun c196 => ?_)
                    · refine lv_iinc (v := (nI (i2 + 1))) (lv' := [(1, .int (nI (i2 + 1))), (3, .int (nI i4)), (2, .ref d4), (0, .ref pq)]) hx hb dX9_link_140 hl (k := 2) rfl (nI_1 i2) (by decide) rfl (fun ls hl => ?_)
                      refine lv_goto (tgt := 2) hx hb dX9_link_143 (by decide) ?_
                      have hO : OKP G h0 a (upd F 2 (nI sz)) R Z B J K4 w := hO.to rfl
                      exact ih_2 (i2 + 1) K4 ab4 _ _ _ _ (by omega) (by omega) hqw4 hqp4 hqa4 hqb4 hpu4 hbi4 (by omega) hP hD hS hO (lv_sub hl [0, 3] rfl)
                    · have hi9 := hlb4 i4 (by omega) (Int32.not_le.mp c196)
                      have h79 : 7 ≤ i2 := Nat.le_of_not_lt (fun z => by rw [h74 z] at c196; exact c196 (nI_leI (a := 0) (b := i4) (by omega) (by omega) |>.mpr (by omega)))
                      refine lv_aload_n hx hb dX9_link_104 rfl (lv_at hl 1 rfl) ?_
                      refine lv_dup hx hb dX9_link_105 rfl ?_
                      refine p_get (v := .long (K4.2.2.2.1 d4)) (C := RX2) (Tc := TX2) (N := 13) (ci := 2) hx hb hq pin_wsX20 hown hE hP hO (by rw [hT4]; decide) (rep_4 hT4) rfl 10 (by decide) (hq _ pw_102) (fun _ h9 => h9) rfl dX9_link_106 ?_
                      refine lv_lconst (v := 1) hx hb dX9_link_109 (by decide) ?_
                      refine lv_aload_n hx hb dX9_link_110 rfl (lv_at hl 3 rfl) ?_
                      refine lv_aload_n hx hb dX9_link_111 rfl (lv_at hl 3 rfl) ?_
                      refine p_get (v := .ref (a 1)) (C := RX9) (Tc := TX9) (N := 5) (ci := 6) hx hb hq pin_wsX90 hown hE hP hO (by rw [hp1]; decide) (rep_7 hp1) rfl 0 (by decide) (hq _ pw_784) (fun _ h9 => h9) (congrArg (fun z => some (va_rf z)) hp2) dX9_link_112 ?_
                      refine lv_aload_n hx hb dX9_link_115 rfl (lv_at hl 1 rfl) ?_
                      refine p_get (v := .int (K4.2.1 20 d4)) (C := RX2) (Tc := TX2) (N := 13) (ci := 2) hx hb hq pin_wsX20 hown hE hP hO (by rw [hT4]; decide) (rep_4 hT4) rfl 5 (by decide) (hq _ pw_1107) (fun _ h9 => h9) rfl dX9_link_116 ?_
                      refine lv_iconst (v := 2) hx hb dX9_link_119 (by decide) ?_
                      refine lv_iload_n hx hb dX9_link_120 rfl (lv_at hl 0 rfl) ?_
                      refine lv_imul hx hb dX9_link_121 ?_
                      refine lv_topi (fun x197 e198 => ?_)
                      obtain rfl : x197 = nI (2 * i4) := e198.trans (nI_mulN (2) (i4))
                      refine lv_iadd hx hb dX9_link_122 ?_
                      refine lv_topi (fun x199 e200 => ?_)
                      have hO : OKW G h0 a (upd (upd F 2 (nI sz)) 2 (nI sz)) R Z B J K4.1 (fun q99 x99 => x99 = rep G a K4 q99) w := hO.to rfl
                      obtain ⟨_, qr204, hqr205⟩ := hO.2.1 2 _ (sg_2 G h0 a _ _ _ _ _)
                      refine pc_V0 (G := G) (As := [.int x199]) (rest := [.ref pq, .long 1, .long (K4.2.2.2.1 d4), .ref d4]) hx hb hml hown hq hE hX pX0_al hP hD hS hA hl.1 (K_valueAt l G h0 a (upd F 2 (nI sz)) R Z B J K4.1 (fun q99 x99 => x99 = rep G a K4 q99) w x199 sz (by omega) hO) (gV pw_785 pw_57 pw_58 pw_59 pw_39) hV_X10_valueAt qr204 7 hqr205 rfl rfl rfl (Nat.le_of_ble_eq_true rfl) dX9_link_123 ⟨Nat.le_of_ble_eq_true rfl, Nat.le_of_ble_eq_true rfl⟩ ⟨Nat.le_of_ble_eq_true rfl, Nat.le_of_ble_eq_true rfl⟩ (fun v203 u201 H locs hw202 hP hD hS => ?_)
                      obtain ⟨w, r206⟩ := u201
                      obtain ⟨hw202, hO⟩ := hw202
                      obtain rfl : v203 = some (.int r206) := hw202
                      have hO : OKP G h0 a (upd F 2 (nI sz)) R Z B J K4 w := hO.to rfl
                      refine W.widen (k := 0) (n := 0) (Nat.le_of_ble_eq_true rfl) (Nat.le_of_ble_eq_true rfl) ?_
                      refine W.eq (g2 := F0 m 126 ls [.int r206, .ref pq, .long 1, .long (K4.2.2.2.1 d4), .ref d4]) rfl ?_
                      have hO : OKP G h0 a (upd F 2 (nI sz)) R Z B J K4 w := hO.to rfl
                      obtain ⟨qr210, hqr211⟩ := p_recv hO (by rw [hp1]; decide) (rep_7 hp1)
                      refine pc_V0 (G := G) (As := [.int r206]) (rest := [.long 1, .long (K4.2.2.2.1 d4), .ref d4]) hx hb hml hown hq hE hX pX0_al hP hD hS hA hl.1 (G_find l G h0 a (upd F 2 (nI sz)) R Z B J K4 w pq dr ml nd r206 g hqp4.1 hqp4.2.1 hO) (gV pw_1102 pw_585 pw_586 pw_106 pw_509) hV_X9_find qr210 6 hqr211 rfl rfl rfl (Nat.le_of_ble_eq_true rfl) dX9_link_126 ⟨Nat.le_of_ble_eq_true rfl, Nat.le_of_ble_eq_true rfl⟩ ⟨Nat.le_of_ble_eq_true rfl, Nat.le_of_ble_eq_true rfl⟩ (fun v209 u207 H locs hw208 hP hD hS => ?_)
                      obtain ⟨w, r212⟩ := u207
                      obtain ⟨hw208, h213, hO⟩ := hw208
                      have h213 : FnQ r212 nd := h213
                      obtain rfl : v209 = some (.int r212) := hw208
                      have hO : OKP G h0 a (upd F 2 (nI sz)) R Z B J K4 w := hO.to rfl
                      refine W.widen (k := 0) (n := 0) (Nat.le_of_ble_eq_true rfl) (Nat.le_of_ble_eq_true rfl) ?_
                      refine W.eq (g2 := F0 m 129 ls [.int r212, .long 1, .long (K4.2.2.2.1 d4), .ref d4]) rfl ?_
                      refine lv_lshl hx hb dX9_link_129 rfl ?_
                      refine lv_topl (fun x214 e215 => ?_)
                      refine lv_lor hx hb dX9_link_130 ?_
                      refine lv_topl (fun x216 e217 => ?_)
                      refine p_put (v := .long x216) (ty := .long) (C := RX2) (Tc := TX2) (N := 13) (ci := 2) (K' := (kL K4 d4 x216)) hx hb hq pin_wsX20 tyX2 tyX2_ok nmX2 hown hE hP hD hS hO (by rw [hT4]; decide) (rep_4 hT4) rfl 10 (by decide) (hq _ pw_102) (fun _ h9 => h9) rfl (by decide +kernel) rfl rfl (Nat.le_of_ble_eq_true rfl) rfl (by rw [rep_4 (show (kL K4 d4 x216).1 d4 = 4 from hT4), pl_0] <;> rfl) (fun p9 hp9 => rep_kL hp9) dX9_link_131 (fun H locs w hP hD hS hO => ?_)
                      obtain ⟨K218, hK219⟩ : ∃ z : PK, z = (kL K4 d4 x216) := ⟨_, rfl⟩
                      rw [← hK219] at hO
                      have hf220 : K218.1 pq = 7 := (by rw [hK219]; exact hp1)
                      have hf221 : K218.2.2.1 18 pq = some (a 1) := (by rw [hK219]; exact hp2)
                      have hf222 : K218.2.2.1 14 pq = some dr := (by rw [hK219]; exact hp3)
                      have hf223 : K218.1 dr = 8 := (by rw [hK219]; exact hp4)
                      have hf224 : K218.2.2.1 15 pq = some ml := (by rw [hK219]; exact hp5)
                      have hf225 : K218.1 ml = 5 := (by rw [hK219]; exact hp6)
                      have hf226 : K218.2.1 24 pq = (nI nd) := (by rw [hK219]; exact hp8)
                      have hf227 : K218.1 d4 = 4 := (by rw [hK219]; exact hT4)
                      have hf228 : K218.2.1 21 d4 = lz4 := (by rw [hK219]; exact hlz4)
                      have hw9 : WPr G K218 g := by rw [hK219]; exact WPr.kL hqw4 hg4
                      have hp9 : PgT G K218 g (a 1) pq dr ml nd nm cp it s9 := by rw [hK219]; exact PgT.kL hqp4
                      have ha9 : AbF K218 dr nd (upL ab4 i2 x216) := by rw [hK219]; exact AbF.kL hqa4 hqp4.2.1 (by omega) (by omega) he4
                      have hb9 : PaB K218 dr nd (upL ab4 i2 x216) := by rw [hK219]; exact PaB.or hqb4 (Or.inl (fun b hb => by rw [e217, bitL_or]; exact Or.inl (by rw [hqa4 i2 (by omega) d4 he4]; exact hb)))
                      have hu9 : PaU K218 dr nd (i2 + 1) := by rw [hK219]; exact PaU.kL hpu4
                      have hz9 := Bi0.or (v := x216) hbi4 h79
                      have he9 : K218.2.2.2.2.1 dr i2 = some d4 := by rw [hK219]; exact he4
                      refine lv_iinc (v := (nI (i4 + 1))) (lv' := [(3, .int (nI (i4 + 1))), (2, .ref d4), (1, .int (nI i2)), (0, .ref pq)]) hx hb dX9_link_134 hl (k := 0) rfl (nI_1 i4) (by decide) rfl (fun ls hl => ?_)
                      refine lv_goto (tgt := 96) hx hb dX9_link_137 (by decide) ?_
                      have hO : OKP G h0 a (upd F 2 (nI sz)) R Z B J K218 w := hO.to rfl
                      exact ih_4 (i4 + 1) K218 (upL ab4 i2 x216) d4 lz4 _ _ _ _ (by omega) (by omega) hw9 hp9 ha9 hb9 hu9 hz9 hf227 hg4 hf228 he9 hlb4 h74 hP hD hS hO (lv_sub hl [0, 1, 2, 3] rfl)
                have hO : OKP G h0 a (upd F 2 (nI sz)) R Z B J K183 w := hO.to rfl
                exact loop_4 (bA + 1) 0 K183 (upL ab2 i2 1) dA lzA _ _ _ _ (by omega) (by omega) hw4 hp4 ha4 hb4 hu4 hz5 hf192 hgA2 hf194 (by rw [hK184]; exact heA3) hbB (fun z => absurd z h7) hP hD hS hO (lv_sub hl [0, 1, 2, 3] rfl)
              · have hl : lv_has ls 4 [(2, .ref dA), (1, .int (nI i2)), (0, .ref pq)] := hl
                refine W.eq (g2 := F0 m 66 ls [.ref d182, .ref dA]) rfl ?_
                obtain ⟨iP, hiP, _, heP⟩ := h181 d182 rfl
                have htP := h180 d182 rfl
                obtain ⟨dQ, heQ, _, hnQ, _⟩ := hp3.2.1 iP hiP
                rw [heP] at heQ
                cases heQ
                refine p_put (v := .ref d182) (ty := (.object "JinjaTongue$Decl")) (C := RX2) (Tc := TX2) (N := 13) (ci := 2) (K' := (kC K42 10 dA (some d182))) hx hb hq pin_wsX20 tyX2 tyX2_ok nmX2 hown hE hP hD hS hO (by rw [hf51]; decide) (rep_4 hf51) rfl 9 (by decide) (hq _ pw_1138) (fun _ h9 => h9) rfl (by decide +kernel) rfl rfl (Nat.le_of_ble_eq_true rfl) rfl (by rw [rep_4 (show (kC K42 10 dA (some d182)).1 dA = 4 from hf51), pc_10] <;> rfl) (fun p9 hp9 => rep_kC hp9) dX9_link_66 (fun H locs w hP hD hS hO => ?_)
                obtain ⟨K229, hK230⟩ : ∃ z : PK, z = (kC K42 10 dA (some d182)) := ⟨_, rfl⟩
                rw [← hK230] at hO
                have hf231 : K229.1 pq = 7 := (by rw [hK230]; exact hf44)
                have hf232 : K229.2.2.1 18 pq = some (a 1) := (by rw [hK230]; exact (kC_of (by decide)).trans hf45)
                have hf233 : K229.2.2.1 14 pq = some dr := (by rw [hK230]; exact (kC_of (by decide)).trans hf46)
                have hf234 : K229.1 dr = 8 := (by rw [hK230]; exact hf47)
                have hf235 : K229.2.2.1 15 pq = some ml := (by rw [hK230]; exact (kC_of (by decide)).trans hf48)
                have hf236 : K229.1 ml = 5 := (by rw [hK230]; exact hf49)
                have hf237 : K229.2.1 24 pq = (nI nd) := (by rw [hK230]; exact hf50)
                have hf238 : K229.1 dA = 4 := (by rw [hK230]; exact hf51)
                have hf239 : K229.2.1 15 dA = (nI i2) := (by rw [hK230]; exact hf52)
                have hf240 : K229.2.1 21 dA = lzA := (by rw [hK230]; exact hlzA)
                have hf241 : K229.1 d182 = 4 := (by rw [hK230]; exact htP)
                have hf242 : K229.2.1 15 d182 = (nI iP) := (by rw [hK230]; exact hnQ)
                have hf243 : K229.2.2.1 10 dA = some d182 := by rw [hK230]; exact kC_eq
                have hw4 : WPr G K229 g := by rw [hK230]; exact WPr.par hw3 hgA2 (fun d h => by cases h; exact htP)
                have hp4 : PgT G K229 g (a 1) pq dr ml nd nm cp it s9 := by rw [hK230]; exact PgT.kC hp3 (Or.inr rfl)
                have ha4 : AbF K229 dr nd (upL ab2 i2 1) := by rw [hK230]; exact AbF.kC ha3
                have hu4 : PaU K229 dr nd (i2 + 1) := by rw [hK230]; exact PaU.kC hu3 hp3.2.1 (by omega) (by omega) heA3
                have hl4 : K229.2.2.2.1 dA = 1 := by rw [hK230]; exact hl3
                refine lv_aload_n hx hb dX9_link_69 rfl (lv_at hl 0 rfl) ?_
                refine p_get (v := .ref d182) (C := RX2) (Tc := TX2) (N := 13) (ci := 2) hx hb hq pin_wsX20 hown hE hP hO (by rw [hf238]; decide) (rep_4 hf238) rfl 9 (by decide) (hq _ pw_1138) (fun _ h9 => h9) (congrArg (fun z => some (va_rf z)) hf243) dX9_link_70 ?_
                refine lv_ifnull hx hb dX9_link_73 ?_
                refine lv_aload_n hx hb dX9_link_76 rfl (lv_at hl 0 rfl) ?_
                refine lv_dup hx hb dX9_link_77 rfl ?_
                refine p_get (v := .long (K229.2.2.2.1 dA)) (C := RX2) (Tc := TX2) (N := 13) (ci := 2) hx hb hq pin_wsX20 hown hE hP hO (by rw [hf238]; decide) (rep_4 hf238) rfl 10 (by decide) (hq _ pw_102) (fun _ h9 => h9) rfl dX9_link_78 ?_
                refine lv_lconst (v := 1) hx hb dX9_link_81 (by decide) ?_
                refine lv_aload_n hx hb dX9_link_82 rfl (lv_at hl 0 rfl) ?_
                refine p_get (v := .ref d182) (C := RX2) (Tc := TX2) (N := 13) (ci := 2) hx hb hq pin_wsX20 hown hE hP hO (by rw [hf238]; decide) (rep_4 hf238) rfl 9 (by decide) (hq _ pw_1138) (fun _ h9 => h9) (congrArg (fun z => some (va_rf z)) hf243) dX9_link_83 ?_
                refine p_get (v := .int (nI iP)) (C := RX2) (Tc := TX2) (N := 13) (ci := 2) hx hb hq pin_wsX20 hown hE hP hO (by rw [hf241]; decide) (rep_4 hf241) rfl 0 (by decide) (hq _ pw_1139) (fun _ h9 => h9) (congrArg (fun z => some (Value.int z)) hf242) dX9_link_86 ?_
                refine lv_lshl hx hb dX9_link_89 rfl ?_
                refine lv_topl (fun x244 e245 => ?_)
                refine lv_lor hx hb dX9_link_90 ?_
                refine lv_topl (fun x246 e247 => ?_)
                refine p_put (v := .long x246) (ty := .long) (C := RX2) (Tc := TX2) (N := 13) (ci := 2) (K' := (kL K229 dA x246)) hx hb hq pin_wsX20 tyX2 tyX2_ok nmX2 hown hE hP hD hS hO (by rw [hf238]; decide) (rep_4 hf238) rfl 10 (by decide) (hq _ pw_102) (fun _ h9 => h9) rfl (by decide +kernel) rfl rfl (Nat.le_of_ble_eq_true rfl) rfl (by rw [rep_4 (show (kL K229 dA x246).1 dA = 4 from hf238), pl_0] <;> rfl) (fun p9 hp9 => rep_kL hp9) dX9_link_91 (fun H locs w hP hD hS hO => ?_)
                obtain ⟨K248, hK249⟩ : ∃ z : PK, z = (kL K229 dA x246) := ⟨_, rfl⟩
                rw [← hK249] at hO
                have hf250 : K248.1 pq = 7 := (by rw [hK249]; exact hf231)
                have hf251 : K248.2.2.1 18 pq = some (a 1) := (by rw [hK249]; exact hf232)
                have hf252 : K248.2.2.1 14 pq = some dr := (by rw [hK249]; exact hf233)
                have hf253 : K248.1 dr = 8 := (by rw [hK249]; exact hf234)
                have hf254 : K248.2.2.1 15 pq = some ml := (by rw [hK249]; exact hf235)
                have hf255 : K248.1 ml = 5 := (by rw [hK249]; exact hf236)
                have hf256 : K248.2.1 24 pq = (nI nd) := (by rw [hK249]; exact hf237)
                have hf257 : K248.1 dA = 4 := (by rw [hK249]; exact hf238)
                have hf258 : K248.2.1 15 dA = (nI i2) := (by rw [hK249]; exact hf239)
                have hf259 : K248.2.1 21 dA = lzA := (by rw [hK249]; exact hf240)
                have hf260 : K248.1 d182 = 4 := (by rw [hK249]; exact hf241)
                have hf261 : K248.2.1 15 d182 = (nI iP) := (by rw [hK249]; exact hf242)
                have hf262 : K248.2.2.1 10 dA = some d182 := (by rw [hK249]; exact hf243)
                have hbp : bitL x246 iP := by rw [e247, bitL_or, e245]; exact Or.inr (bitL_shl iP (by omega))
                have hw5 : WPr G K248 g := by rw [hK249]; exact WPr.kL hw4 hgA2
                have hp5 : PgT G K248 g (a 1) pq dr ml nd nm cp it s9 := by rw [hK249]; exact PgT.kL hp4
                have heA4 : K229.2.2.2.2.1 dr i2 = some dA := by rw [hK230]; exact heA3
                have ha5 : AbF K248 dr nd (upL (upL ab2 i2 1) i2 x246) := by rw [hK249]; exact AbF.kL ha4 hp4.2.1 (by omega) (by omega) heA4
                have hb5 : PaB K248 dr nd (upL (upL ab2 i2 1) i2 x246) := by rw [hK249, hK230]; exact PaB.par hb3 hp3.2.1 (by omega) (by omega) heA3 (by omega) heP hbp
                have hu5 : PaU K248 dr nd (i2 + 1) := by rw [hK249]; exact PaU.kL hu4
                have hz5 := Bi0.up (v := x246) hz3 hi2 (fun z => absurd z h7)
                obtain ⟨bA, hbA, hbB⟩ := lz_bound lzA
                refine lv_iconst (v := 0) hx hb dX9_link_94 (by decide) ?_
                refine lv_istore_n (lv' := [(3, .int 0), (2, .ref dA), (1, .int (nI i2)), (0, .ref pq)]) hx hb dX9_link_95 rfl hl (by decide) rfl (fun ls hl => ?_)
                have loop_4 : ∀ (n_4 : Nat) (i4 : Nat) (K4 : PK) (ab4 : Nat → Int64) (d4 : Nat) (lz4 : Int32) (H : Heap) (locs : List Loc) (ls : Array Slot) (w : va_W), i4 ≤ bA → bA + 1 ≤ i4 + n_4 → (WPr G K4 g) → (PgT G K4 g (a 1) pq dr ml nd nm cp it s9) → (AbF K4 dr nd ab4) → (PaB K4 dr nd ab4) → (PaU K4 dr nd (i2 + 1)) → (Bi0 ab4 (i2 + 1)) → (K4.1 d4 = 4) → (¬ g 5 d4 = 2) → (K4.2.1 21 d4 = lz4) → (K4.2.2.2.2.1 dr i2 = some d4) → (∀ i : Nat, i < 2147483648 → nI i < lz4 → i < bA) → (i2 < 7 → lz4 = 0) → va_P G.1 pCl w H → va_D A w → va_S A s.heap H locs → OKP G h0 a (upd F 2 (nI sz)) R Z B J K4 w → lv_has ls 4 [(3, .int (nI i4)), (2, .ref d4), (1, .int (nI i2)), (0, .ref pq)] → W p l e (headSpec (Cond.code yX9_link cX9_link 4 none :: pw) ({ frames := 3, cells := 0, slots := 0, locals := 82 } : Room)).room s m ([.ref pq] : List Value).toArray below meth c H locs 0 0 (MQ below (pQ G A (fun (v : Option Value) (u : va_W × (PK × (Nat → Int64))) => v = none ∧ (WPr G u.2.1 g) ∧ (PgT G u.2.1 g (a 1) pq dr ml nd nm cp it s9) ∧ (AbF u.2.1 dr nd u.2.2) ∧ (PaB u.2.1 dr nd u.2.2) ∧ (WCl u.2.2 nd nd) ∧ (Bi0 u.2.2 7) ∧ (OKP G h0 a (upd F 2 (nI sz)) R Z B J u.2.1 u.1)) (fun u => u.1)) ([.ref pq] : List Value).toArray s ({ frames := 3, cells := 0, slots := 0, locals := 82 } : Room).cells ({ frames := 3, cells := 0, slots := 0, locals := 82 } : Room).slots A) (F0 m 96 ls []) := by
                  intro n_4
                  induction n_4 with
                  | zero => intro i4 K4 ab4 d4 lz4 H locs ls w hk_4 hn_4; omega
                  | succ n_4 ih_4 =>
                    intro i4 K4 ab4 d4 lz4 H locs ls w hk_4 hn_4 hqw4 hqp4 hqa4 hqb4 hpu4 hbi4 hT4 hg4 hlz4 he4 hlb4 h74 hP hD hS hO hl
                    have hpx := hqp4.1
                    have hp1 := hpx.1
                    have hp2 := hpx.2.1
                    have hp3 := hpx.2.2.1
                    have hp4 := hpx.2.2.2.1
                    have hp5 := hpx.2.2.2.2.1
                    have hp6 := hpx.2.2.2.2.2.1
                    have hp8 := hpx.2.2.2.2.2.2.2.1
                    have hp9 := hpx.2.2.2.2.2.2.2.2
                    refine lv_iload_n hx hb dX9_link_96 rfl (lv_at hl 0 rfl) ?_
                    refine lv_aload_n hx hb dX9_link_97 rfl (lv_at hl 1 rfl) ?_
                    refine p_get (v := .int lz4) (C := RX2) (Tc := TX2) (N := 13) (ci := 2) hx hb hq pin_wsX20 hown hE hP hO (by rw [hT4]; decide) (rep_4 hT4) rfl 6 (by decide) (hq _ pw_1106) (fun _ h9 => h9) (congrArg (fun z => some (Value.int z)) hlz4) dX9_link_98 ?_
                    refine lv_icmp_ge (tgt := 140) hx hb dX9_link_101 (by decide) (fun c263 => ?_) (fun c263 => ?_)
                    · refine lv_iinc (v := (nI (i2 + 1))) (lv' := [(1, .int (nI (i2 + 1))), (3, .int (nI i4)), (2, .ref d4), (0, .ref pq)]) hx hb dX9_link_140 hl (k := 2) rfl (nI_1 i2) (by decide) rfl (fun ls hl => ?_)
                      refine lv_goto (tgt := 2) hx hb dX9_link_143 (by decide) ?_
                      have hO : OKP G h0 a (upd F 2 (nI sz)) R Z B J K4 w := hO.to rfl
                      exact ih_2 (i2 + 1) K4 ab4 _ _ _ _ (by omega) (by omega) hqw4 hqp4 hqa4 hqb4 hpu4 hbi4 (by omega) hP hD hS hO (lv_sub hl [0, 3] rfl)
                    · have hi9 := hlb4 i4 (by omega) (Int32.not_le.mp c263)
                      have h79 : 7 ≤ i2 := Nat.le_of_not_lt (fun z => by rw [h74 z] at c263; exact c263 (nI_leI (a := 0) (b := i4) (by omega) (by omega) |>.mpr (by omega)))
                      refine lv_aload_n hx hb dX9_link_104 rfl (lv_at hl 1 rfl) ?_
                      refine lv_dup hx hb dX9_link_105 rfl ?_
                      refine p_get (v := .long (K4.2.2.2.1 d4)) (C := RX2) (Tc := TX2) (N := 13) (ci := 2) hx hb hq pin_wsX20 hown hE hP hO (by rw [hT4]; decide) (rep_4 hT4) rfl 10 (by decide) (hq _ pw_102) (fun _ h9 => h9) rfl dX9_link_106 ?_
                      refine lv_lconst (v := 1) hx hb dX9_link_109 (by decide) ?_
                      refine lv_aload_n hx hb dX9_link_110 rfl (lv_at hl 3 rfl) ?_
                      refine lv_aload_n hx hb dX9_link_111 rfl (lv_at hl 3 rfl) ?_
                      refine p_get (v := .ref (a 1)) (C := RX9) (Tc := TX9) (N := 5) (ci := 6) hx hb hq pin_wsX90 hown hE hP hO (by rw [hp1]; decide) (rep_7 hp1) rfl 0 (by decide) (hq _ pw_784) (fun _ h9 => h9) (congrArg (fun z => some (va_rf z)) hp2) dX9_link_112 ?_
                      refine lv_aload_n hx hb dX9_link_115 rfl (lv_at hl 1 rfl) ?_
                      refine p_get (v := .int (K4.2.1 20 d4)) (C := RX2) (Tc := TX2) (N := 13) (ci := 2) hx hb hq pin_wsX20 hown hE hP hO (by rw [hT4]; decide) (rep_4 hT4) rfl 5 (by decide) (hq _ pw_1107) (fun _ h9 => h9) rfl dX9_link_116 ?_
                      refine lv_iconst (v := 2) hx hb dX9_link_119 (by decide) ?_
                      refine lv_iload_n hx hb dX9_link_120 rfl (lv_at hl 0 rfl) ?_
                      refine lv_imul hx hb dX9_link_121 ?_
                      refine lv_topi (fun x264 e265 => ?_)
                      obtain rfl : x264 = nI (2 * i4) := e265.trans (nI_mulN (2) (i4))
                      refine lv_iadd hx hb dX9_link_122 ?_
                      refine lv_topi (fun x266 e267 => ?_)
                      have hO : OKW G h0 a (upd (upd F 2 (nI sz)) 2 (nI sz)) R Z B J K4.1 (fun q99 x99 => x99 = rep G a K4 q99) w := hO.to rfl
                      obtain ⟨_, qr271, hqr272⟩ := hO.2.1 2 _ (sg_2 G h0 a _ _ _ _ _)
                      refine pc_V0 (G := G) (As := [.int x266]) (rest := [.ref pq, .long 1, .long (K4.2.2.2.1 d4), .ref d4]) hx hb hml hown hq hE hX pX0_al hP hD hS hA hl.1 (K_valueAt l G h0 a (upd F 2 (nI sz)) R Z B J K4.1 (fun q99 x99 => x99 = rep G a K4 q99) w x266 sz (by omega) hO) (gV pw_785 pw_57 pw_58 pw_59 pw_39) hV_X10_valueAt qr271 7 hqr272 rfl rfl rfl (Nat.le_of_ble_eq_true rfl) dX9_link_123 ⟨Nat.le_of_ble_eq_true rfl, Nat.le_of_ble_eq_true rfl⟩ ⟨Nat.le_of_ble_eq_true rfl, Nat.le_of_ble_eq_true rfl⟩ (fun v270 u268 H locs hw269 hP hD hS => ?_)
                      obtain ⟨w, r273⟩ := u268
                      obtain ⟨hw269, hO⟩ := hw269
                      obtain rfl : v270 = some (.int r273) := hw269
                      have hO : OKP G h0 a (upd F 2 (nI sz)) R Z B J K4 w := hO.to rfl
                      refine W.widen (k := 0) (n := 0) (Nat.le_of_ble_eq_true rfl) (Nat.le_of_ble_eq_true rfl) ?_
                      refine W.eq (g2 := F0 m 126 ls [.int r273, .ref pq, .long 1, .long (K4.2.2.2.1 d4), .ref d4]) rfl ?_
                      have hO : OKP G h0 a (upd F 2 (nI sz)) R Z B J K4 w := hO.to rfl
                      obtain ⟨qr277, hqr278⟩ := p_recv hO (by rw [hp1]; decide) (rep_7 hp1)
                      refine pc_V0 (G := G) (As := [.int r273]) (rest := [.long 1, .long (K4.2.2.2.1 d4), .ref d4]) hx hb hml hown hq hE hX pX0_al hP hD hS hA hl.1 (G_find l G h0 a (upd F 2 (nI sz)) R Z B J K4 w pq dr ml nd r273 g hqp4.1 hqp4.2.1 hO) (gV pw_1102 pw_585 pw_586 pw_106 pw_509) hV_X9_find qr277 6 hqr278 rfl rfl rfl (Nat.le_of_ble_eq_true rfl) dX9_link_126 ⟨Nat.le_of_ble_eq_true rfl, Nat.le_of_ble_eq_true rfl⟩ ⟨Nat.le_of_ble_eq_true rfl, Nat.le_of_ble_eq_true rfl⟩ (fun v276 u274 H locs hw275 hP hD hS => ?_)
                      obtain ⟨w, r279⟩ := u274
                      obtain ⟨hw275, h280, hO⟩ := hw275
                      have h280 : FnQ r279 nd := h280
                      obtain rfl : v276 = some (.int r279) := hw275
                      have hO : OKP G h0 a (upd F 2 (nI sz)) R Z B J K4 w := hO.to rfl
                      refine W.widen (k := 0) (n := 0) (Nat.le_of_ble_eq_true rfl) (Nat.le_of_ble_eq_true rfl) ?_
                      refine W.eq (g2 := F0 m 129 ls [.int r279, .long 1, .long (K4.2.2.2.1 d4), .ref d4]) rfl ?_
                      refine lv_lshl hx hb dX9_link_129 rfl ?_
                      refine lv_topl (fun x281 e282 => ?_)
                      refine lv_lor hx hb dX9_link_130 ?_
                      refine lv_topl (fun x283 e284 => ?_)
                      refine p_put (v := .long x283) (ty := .long) (C := RX2) (Tc := TX2) (N := 13) (ci := 2) (K' := (kL K4 d4 x283)) hx hb hq pin_wsX20 tyX2 tyX2_ok nmX2 hown hE hP hD hS hO (by rw [hT4]; decide) (rep_4 hT4) rfl 10 (by decide) (hq _ pw_102) (fun _ h9 => h9) rfl (by decide +kernel) rfl rfl (Nat.le_of_ble_eq_true rfl) rfl (by rw [rep_4 (show (kL K4 d4 x283).1 d4 = 4 from hT4), pl_0] <;> rfl) (fun p9 hp9 => rep_kL hp9) dX9_link_131 (fun H locs w hP hD hS hO => ?_)
                      obtain ⟨K285, hK286⟩ : ∃ z : PK, z = (kL K4 d4 x283) := ⟨_, rfl⟩
                      rw [← hK286] at hO
                      have hf287 : K285.1 pq = 7 := (by rw [hK286]; exact hp1)
                      have hf288 : K285.2.2.1 18 pq = some (a 1) := (by rw [hK286]; exact hp2)
                      have hf289 : K285.2.2.1 14 pq = some dr := (by rw [hK286]; exact hp3)
                      have hf290 : K285.1 dr = 8 := (by rw [hK286]; exact hp4)
                      have hf291 : K285.2.2.1 15 pq = some ml := (by rw [hK286]; exact hp5)
                      have hf292 : K285.1 ml = 5 := (by rw [hK286]; exact hp6)
                      have hf293 : K285.2.1 24 pq = (nI nd) := (by rw [hK286]; exact hp8)
                      have hf294 : K285.1 d4 = 4 := (by rw [hK286]; exact hT4)
                      have hf295 : K285.2.1 21 d4 = lz4 := (by rw [hK286]; exact hlz4)
                      have hw9 : WPr G K285 g := by rw [hK286]; exact WPr.kL hqw4 hg4
                      have hp9 : PgT G K285 g (a 1) pq dr ml nd nm cp it s9 := by rw [hK286]; exact PgT.kL hqp4
                      have ha9 : AbF K285 dr nd (upL ab4 i2 x283) := by rw [hK286]; exact AbF.kL hqa4 hqp4.2.1 (by omega) (by omega) he4
                      have hb9 : PaB K285 dr nd (upL ab4 i2 x283) := by rw [hK286]; exact PaB.or hqb4 (Or.inl (fun b hb => by rw [e284, bitL_or]; exact Or.inl (by rw [hqa4 i2 (by omega) d4 he4]; exact hb)))
                      have hu9 : PaU K285 dr nd (i2 + 1) := by rw [hK286]; exact PaU.kL hpu4
                      have hz9 := Bi0.or (v := x283) hbi4 h79
                      have he9 : K285.2.2.2.2.1 dr i2 = some d4 := by rw [hK286]; exact he4
                      refine lv_iinc (v := (nI (i4 + 1))) (lv' := [(3, .int (nI (i4 + 1))), (2, .ref d4), (1, .int (nI i2)), (0, .ref pq)]) hx hb dX9_link_134 hl (k := 0) rfl (nI_1 i4) (by decide) rfl (fun ls hl => ?_)
                      refine lv_goto (tgt := 96) hx hb dX9_link_137 (by decide) ?_
                      have hO : OKP G h0 a (upd F 2 (nI sz)) R Z B J K285 w := hO.to rfl
                      exact ih_4 (i4 + 1) K285 (upL ab4 i2 x283) d4 lz4 _ _ _ _ (by omega) (by omega) hw9 hp9 ha9 hb9 hu9 hz9 hf294 hg4 hf295 he9 hlb4 h74 hP hD hS hO (lv_sub hl [0, 1, 2, 3] rfl)
                have hO : OKP G h0 a (upd F 2 (nI sz)) R Z B J K248 w := hO.to rfl
                exact loop_4 (bA + 1) 0 K248 (upL (upL ab2 i2 1) i2 x246) dA lzA _ _ _ _ (by omega) (by omega) hw5 hp5 ha5 hb5 hu5 hz5 hf257 hgA2 hf259 (by rw [hK249, hK230]; exact heA3) hbB (fun z => absurd z h7) hP hD hS hO (lv_sub hl [0, 1, 2, 3] rfl)
            · refine lv_aload_n hx hb dX9_link_38 rfl (lv_at hl 2 rfl) ?_
              refine p_get (v := .ref dr) (C := RX9) (Tc := TX9) (N := 5) (ci := 6) hx hb hq pin_wsX90 hown hE hP hO (by rw [hf44]; decide) (rep_7 hf44) rfl 1 (by decide) (hq _ pw_15) (fun _ h9 => h9) (congrArg (fun z => some (va_rf z)) hf46) dX9_link_39 ?_
              refine lv_iconst (v := 0) hx hb dX9_link_42 (by decide) ?_
              refine W.eq (g2 := F0 m 43 ls [.int (nI 0), .ref dr, .ref dA]) rfl ?_
              refine p_ald8 hx hb hE hP hO hf47 (vp_in_nI (by omega) (by omega)) dX9_link_43 ?_
              rw [nI_clamp (show 0 < 2 ^ 31 by omega)]
              obtain ⟨dP, heP, htP, hnP, hgP⟩ := hp3.2.1 0 (by omega)
              rw [heP]
              refine W.eq (g2 := F0 m 44 ls [.ref dP, .ref dA]) rfl ?_
              refine lv_goto (tgt := 66) hx hb dX9_link_44 (by decide) ?_
              refine p_put (v := .ref dP) (ty := (.object "JinjaTongue$Decl")) (C := RX2) (Tc := TX2) (N := 13) (ci := 2) (K' := (kC K42 10 dA (some dP))) hx hb hq pin_wsX20 tyX2 tyX2_ok nmX2 hown hE hP hD hS hO (by rw [hf51]; decide) (rep_4 hf51) rfl 9 (by decide) (hq _ pw_1138) (fun _ h9 => h9) rfl (by decide +kernel) rfl rfl (Nat.le_of_ble_eq_true rfl) rfl (by rw [rep_4 (show (kC K42 10 dA (some dP)).1 dA = 4 from hf51), pc_10] <;> rfl) (fun p9 hp9 => rep_kC hp9) dX9_link_66 (fun H locs w hP hD hS hO => ?_)
              obtain ⟨K296, hK297⟩ : ∃ z : PK, z = (kC K42 10 dA (some dP)) := ⟨_, rfl⟩
              rw [← hK297] at hO
              have hf298 : K296.1 pq = 7 := (by rw [hK297]; exact hf44)
              have hf299 : K296.2.2.1 18 pq = some (a 1) := (by rw [hK297]; exact (kC_of (by decide)).trans hf45)
              have hf300 : K296.2.2.1 14 pq = some dr := (by rw [hK297]; exact (kC_of (by decide)).trans hf46)
              have hf301 : K296.1 dr = 8 := (by rw [hK297]; exact hf47)
              have hf302 : K296.2.2.1 15 pq = some ml := (by rw [hK297]; exact (kC_of (by decide)).trans hf48)
              have hf303 : K296.1 ml = 5 := (by rw [hK297]; exact hf49)
              have hf304 : K296.2.1 24 pq = (nI nd) := (by rw [hK297]; exact hf50)
              have hf305 : K296.1 dA = 4 := (by rw [hK297]; exact hf51)
              have hf306 : K296.2.1 15 dA = (nI i2) := (by rw [hK297]; exact hf52)
              have hf307 : K296.2.1 21 dA = lzA := (by rw [hK297]; exact hlzA)
              have hf308 : K296.1 dP = 4 := (by rw [hK297]; exact htP)
              have hf309 : K296.2.1 15 dP = (nI 0) := (by rw [hK297]; exact hnP)
              have hf310 : K296.2.2.1 10 dA = some dP := by rw [hK297]; exact kC_eq
              have hw4 : WPr G K296 g := by rw [hK297]; exact WPr.par hw3 hgA2 (fun d h => by cases h; exact htP)
              have hp4 : PgT G K296 g (a 1) pq dr ml nd nm cp it s9 := by rw [hK297]; exact PgT.kC hp3 (Or.inr rfl)
              have ha4 : AbF K296 dr nd (upL ab2 i2 1) := by rw [hK297]; exact AbF.kC ha3
              have hu4 : PaU K296 dr nd (i2 + 1) := by rw [hK297]; exact PaU.kC hu3 hp3.2.1 (by omega) (by omega) heA3
              have hl4 : K296.2.2.2.1 dA = 1 := by rw [hK297]; exact hl3
              refine lv_aload_n hx hb dX9_link_69 rfl (lv_at hl 0 rfl) ?_
              refine p_get (v := .ref dP) (C := RX2) (Tc := TX2) (N := 13) (ci := 2) hx hb hq pin_wsX20 hown hE hP hO (by rw [hf305]; decide) (rep_4 hf305) rfl 9 (by decide) (hq _ pw_1138) (fun _ h9 => h9) (congrArg (fun z => some (va_rf z)) hf310) dX9_link_70 ?_
              refine lv_ifnull hx hb dX9_link_73 ?_
              refine lv_aload_n hx hb dX9_link_76 rfl (lv_at hl 0 rfl) ?_
              refine lv_dup hx hb dX9_link_77 rfl ?_
              refine p_get (v := .long (K296.2.2.2.1 dA)) (C := RX2) (Tc := TX2) (N := 13) (ci := 2) hx hb hq pin_wsX20 hown hE hP hO (by rw [hf305]; decide) (rep_4 hf305) rfl 10 (by decide) (hq _ pw_102) (fun _ h9 => h9) rfl dX9_link_78 ?_
              refine lv_lconst (v := 1) hx hb dX9_link_81 (by decide) ?_
              refine lv_aload_n hx hb dX9_link_82 rfl (lv_at hl 0 rfl) ?_
              refine p_get (v := .ref dP) (C := RX2) (Tc := TX2) (N := 13) (ci := 2) hx hb hq pin_wsX20 hown hE hP hO (by rw [hf305]; decide) (rep_4 hf305) rfl 9 (by decide) (hq _ pw_1138) (fun _ h9 => h9) (congrArg (fun z => some (va_rf z)) hf310) dX9_link_83 ?_
              refine p_get (v := .int (nI 0)) (C := RX2) (Tc := TX2) (N := 13) (ci := 2) hx hb hq pin_wsX20 hown hE hP hO (by rw [hf308]; decide) (rep_4 hf308) rfl 0 (by decide) (hq _ pw_1139) (fun _ h9 => h9) (congrArg (fun z => some (Value.int z)) hf309) dX9_link_86 ?_
              refine lv_lshl hx hb dX9_link_89 rfl ?_
              refine lv_topl (fun x311 e312 => ?_)
              refine lv_lor hx hb dX9_link_90 ?_
              refine lv_topl (fun x313 e314 => ?_)
              refine p_put (v := .long x313) (ty := .long) (C := RX2) (Tc := TX2) (N := 13) (ci := 2) (K' := (kL K296 dA x313)) hx hb hq pin_wsX20 tyX2 tyX2_ok nmX2 hown hE hP hD hS hO (by rw [hf305]; decide) (rep_4 hf305) rfl 10 (by decide) (hq _ pw_102) (fun _ h9 => h9) rfl (by decide +kernel) rfl rfl (Nat.le_of_ble_eq_true rfl) rfl (by rw [rep_4 (show (kL K296 dA x313).1 dA = 4 from hf305), pl_0] <;> rfl) (fun p9 hp9 => rep_kL hp9) dX9_link_91 (fun H locs w hP hD hS hO => ?_)
              obtain ⟨K315, hK316⟩ : ∃ z : PK, z = (kL K296 dA x313) := ⟨_, rfl⟩
              rw [← hK316] at hO
              have hf317 : K315.1 pq = 7 := (by rw [hK316]; exact hf298)
              have hf318 : K315.2.2.1 18 pq = some (a 1) := (by rw [hK316]; exact hf299)
              have hf319 : K315.2.2.1 14 pq = some dr := (by rw [hK316]; exact hf300)
              have hf320 : K315.1 dr = 8 := (by rw [hK316]; exact hf301)
              have hf321 : K315.2.2.1 15 pq = some ml := (by rw [hK316]; exact hf302)
              have hf322 : K315.1 ml = 5 := (by rw [hK316]; exact hf303)
              have hf323 : K315.2.1 24 pq = (nI nd) := (by rw [hK316]; exact hf304)
              have hf324 : K315.1 dA = 4 := (by rw [hK316]; exact hf305)
              have hf325 : K315.2.1 15 dA = (nI i2) := (by rw [hK316]; exact hf306)
              have hf326 : K315.2.1 21 dA = lzA := (by rw [hK316]; exact hf307)
              have hf327 : K315.1 dP = 4 := (by rw [hK316]; exact hf308)
              have hf328 : K315.2.1 15 dP = (nI 0) := (by rw [hK316]; exact hf309)
              have hf329 : K315.2.2.1 10 dA = some dP := (by rw [hK316]; exact hf310)
              have hbp : bitL x313 0 := by rw [e314, bitL_or, e312]; exact Or.inr (bitL_shl 0 (by omega))
              have hw5 : WPr G K315 g := by rw [hK316]; exact WPr.kL hw4 hgA2
              have hp5 : PgT G K315 g (a 1) pq dr ml nd nm cp it s9 := by rw [hK316]; exact PgT.kL hp4
              have heA4 : K296.2.2.2.2.1 dr i2 = some dA := by rw [hK297]; exact heA3
              have ha5 : AbF K315 dr nd (upL (upL ab2 i2 1) i2 x313) := by rw [hK316]; exact AbF.kL ha4 hp4.2.1 (by omega) (by omega) heA4
              have hb5 : PaB K315 dr nd (upL (upL ab2 i2 1) i2 x313) := by rw [hK316, hK297]; exact PaB.par hb3 hp3.2.1 (by omega) (by omega) heA3 (by omega) heP hbp
              have hu5 : PaU K315 dr nd (i2 + 1) := by rw [hK316]; exact PaU.kL hu4
              have hz5 := Bi0.up (v := x313) hz3 hi2 (fun z => absurd z h7)
              obtain ⟨bA, hbA, hbB⟩ := lz_bound lzA
              refine lv_iconst (v := 0) hx hb dX9_link_94 (by decide) ?_
              refine lv_istore_n (lv' := [(3, .int 0), (2, .ref dA), (1, .int (nI i2)), (0, .ref pq)]) hx hb dX9_link_95 rfl hl (by decide) rfl (fun ls hl => ?_)
              have loop_4 : ∀ (n_4 : Nat) (i4 : Nat) (K4 : PK) (ab4 : Nat → Int64) (d4 : Nat) (lz4 : Int32) (H : Heap) (locs : List Loc) (ls : Array Slot) (w : va_W), i4 ≤ bA → bA + 1 ≤ i4 + n_4 → (WPr G K4 g) → (PgT G K4 g (a 1) pq dr ml nd nm cp it s9) → (AbF K4 dr nd ab4) → (PaB K4 dr nd ab4) → (PaU K4 dr nd (i2 + 1)) → (Bi0 ab4 (i2 + 1)) → (K4.1 d4 = 4) → (¬ g 5 d4 = 2) → (K4.2.1 21 d4 = lz4) → (K4.2.2.2.2.1 dr i2 = some d4) → (∀ i : Nat, i < 2147483648 → nI i < lz4 → i < bA) → (i2 < 7 → lz4 = 0) → va_P G.1 pCl w H → va_D A w → va_S A s.heap H locs → OKP G h0 a (upd F 2 (nI sz)) R Z B J K4 w → lv_has ls 4 [(3, .int (nI i4)), (2, .ref d4), (1, .int (nI i2)), (0, .ref pq)] → W p l e (headSpec (Cond.code yX9_link cX9_link 4 none :: pw) ({ frames := 3, cells := 0, slots := 0, locals := 82 } : Room)).room s m ([.ref pq] : List Value).toArray below meth c H locs 0 0 (MQ below (pQ G A (fun (v : Option Value) (u : va_W × (PK × (Nat → Int64))) => v = none ∧ (WPr G u.2.1 g) ∧ (PgT G u.2.1 g (a 1) pq dr ml nd nm cp it s9) ∧ (AbF u.2.1 dr nd u.2.2) ∧ (PaB u.2.1 dr nd u.2.2) ∧ (WCl u.2.2 nd nd) ∧ (Bi0 u.2.2 7) ∧ (OKP G h0 a (upd F 2 (nI sz)) R Z B J u.2.1 u.1)) (fun u => u.1)) ([.ref pq] : List Value).toArray s ({ frames := 3, cells := 0, slots := 0, locals := 82 } : Room).cells ({ frames := 3, cells := 0, slots := 0, locals := 82 } : Room).slots A) (F0 m 96 ls []) := by
                intro n_4
                induction n_4 with
                | zero => intro i4 K4 ab4 d4 lz4 H locs ls w hk_4 hn_4; omega
                | succ n_4 ih_4 =>
                  intro i4 K4 ab4 d4 lz4 H locs ls w hk_4 hn_4 hqw4 hqp4 hqa4 hqb4 hpu4 hbi4 hT4 hg4 hlz4 he4 hlb4 h74 hP hD hS hO hl
                  have hpx := hqp4.1
                  have hp1 := hpx.1
                  have hp2 := hpx.2.1
                  have hp3 := hpx.2.2.1
                  have hp4 := hpx.2.2.2.1
                  have hp5 := hpx.2.2.2.2.1
                  have hp6 := hpx.2.2.2.2.2.1
                  have hp8 := hpx.2.2.2.2.2.2.2.1
                  have hp9 := hpx.2.2.2.2.2.2.2.2
                  refine lv_iload_n hx hb dX9_link_96 rfl (lv_at hl 0 rfl) ?_
                  refine lv_aload_n hx hb dX9_link_97 rfl (lv_at hl 1 rfl) ?_
                  refine p_get (v := .int lz4) (C := RX2) (Tc := TX2) (N := 13) (ci := 2) hx hb hq pin_wsX20 hown hE hP hO (by rw [hT4]; decide) (rep_4 hT4) rfl 6 (by decide) (hq _ pw_1106) (fun _ h9 => h9) (congrArg (fun z => some (Value.int z)) hlz4) dX9_link_98 ?_
                  refine lv_icmp_ge (tgt := 140) hx hb dX9_link_101 (by decide) (fun c330 => ?_) (fun c330 => ?_)
                  · refine lv_iinc (v := (nI (i2 + 1))) (lv' := [(1, .int (nI (i2 + 1))), (3, .int (nI i4)), (2, .ref d4), (0, .ref pq)]) hx hb dX9_link_140 hl (k := 2) rfl (nI_1 i2) (by decide) rfl (fun ls hl => ?_)
                    refine lv_goto (tgt := 2) hx hb dX9_link_143 (by decide) ?_
                    have hO : OKP G h0 a (upd F 2 (nI sz)) R Z B J K4 w := hO.to rfl
                    exact ih_2 (i2 + 1) K4 ab4 _ _ _ _ (by omega) (by omega) hqw4 hqp4 hqa4 hqb4 hpu4 hbi4 (by omega) hP hD hS hO (lv_sub hl [0, 3] rfl)
                  · have hi9 := hlb4 i4 (by omega) (Int32.not_le.mp c330)
                    have h79 : 7 ≤ i2 := Nat.le_of_not_lt (fun z => by rw [h74 z] at c330; exact c330 (nI_leI (a := 0) (b := i4) (by omega) (by omega) |>.mpr (by omega)))
                    refine lv_aload_n hx hb dX9_link_104 rfl (lv_at hl 1 rfl) ?_
                    refine lv_dup hx hb dX9_link_105 rfl ?_
                    refine p_get (v := .long (K4.2.2.2.1 d4)) (C := RX2) (Tc := TX2) (N := 13) (ci := 2) hx hb hq pin_wsX20 hown hE hP hO (by rw [hT4]; decide) (rep_4 hT4) rfl 10 (by decide) (hq _ pw_102) (fun _ h9 => h9) rfl dX9_link_106 ?_
                    refine lv_lconst (v := 1) hx hb dX9_link_109 (by decide) ?_
                    refine lv_aload_n hx hb dX9_link_110 rfl (lv_at hl 3 rfl) ?_
                    refine lv_aload_n hx hb dX9_link_111 rfl (lv_at hl 3 rfl) ?_
                    refine p_get (v := .ref (a 1)) (C := RX9) (Tc := TX9) (N := 5) (ci := 6) hx hb hq pin_wsX90 hown hE hP hO (by rw [hp1]; decide) (rep_7 hp1) rfl 0 (by decide) (hq _ pw_784) (fun _ h9 => h9) (congrArg (fun z => some (va_rf z)) hp2) dX9_link_112 ?_
                    refine lv_aload_n hx hb dX9_link_115 rfl (lv_at hl 1 rfl) ?_
                    refine p_get (v := .int (K4.2.1 20 d4)) (C := RX2) (Tc := TX2) (N := 13) (ci := 2) hx hb hq pin_wsX20 hown hE hP hO (by rw [hT4]; decide) (rep_4 hT4) rfl 5 (by decide) (hq _ pw_1107) (fun _ h9 => h9) rfl dX9_link_116 ?_
                    refine lv_iconst (v := 2) hx hb dX9_link_119 (by decide) ?_
                    refine lv_iload_n hx hb dX9_link_120 rfl (lv_at hl 0 rfl) ?_
                    refine lv_imul hx hb dX9_link_121 ?_
                    refine lv_topi (fun x331 e332 => ?_)
                    obtain rfl : x331 = nI (2 * i4) := e332.trans (nI_mulN (2) (i4))
                    refine lv_iadd hx hb dX9_link_122 ?_
                    refine lv_topi (fun x333 e334 => ?_)
                    have hO : OKW G h0 a (upd (upd F 2 (nI sz)) 2 (nI sz)) R Z B J K4.1 (fun q99 x99 => x99 = rep G a K4 q99) w := hO.to rfl
                    obtain ⟨_, qr338, hqr339⟩ := hO.2.1 2 _ (sg_2 G h0 a _ _ _ _ _)
                    refine pc_V0 (G := G) (As := [.int x333]) (rest := [.ref pq, .long 1, .long (K4.2.2.2.1 d4), .ref d4]) hx hb hml hown hq hE hX pX0_al hP hD hS hA hl.1 (K_valueAt l G h0 a (upd F 2 (nI sz)) R Z B J K4.1 (fun q99 x99 => x99 = rep G a K4 q99) w x333 sz (by omega) hO) (gV pw_785 pw_57 pw_58 pw_59 pw_39) hV_X10_valueAt qr338 7 hqr339 rfl rfl rfl (Nat.le_of_ble_eq_true rfl) dX9_link_123 ⟨Nat.le_of_ble_eq_true rfl, Nat.le_of_ble_eq_true rfl⟩ ⟨Nat.le_of_ble_eq_true rfl, Nat.le_of_ble_eq_true rfl⟩ (fun v337 u335 H locs hw336 hP hD hS => ?_)
                    obtain ⟨w, r340⟩ := u335
                    obtain ⟨hw336, hO⟩ := hw336
                    obtain rfl : v337 = some (.int r340) := hw336
                    have hO : OKP G h0 a (upd F 2 (nI sz)) R Z B J K4 w := hO.to rfl
                    refine W.widen (k := 0) (n := 0) (Nat.le_of_ble_eq_true rfl) (Nat.le_of_ble_eq_true rfl) ?_
                    refine W.eq (g2 := F0 m 126 ls [.int r340, .ref pq, .long 1, .long (K4.2.2.2.1 d4), .ref d4]) rfl ?_
                    have hO : OKP G h0 a (upd F 2 (nI sz)) R Z B J K4 w := hO.to rfl
                    obtain ⟨qr344, hqr345⟩ := p_recv hO (by rw [hp1]; decide) (rep_7 hp1)
                    refine pc_V0 (G := G) (As := [.int r340]) (rest := [.long 1, .long (K4.2.2.2.1 d4), .ref d4]) hx hb hml hown hq hE hX pX0_al hP hD hS hA hl.1 (G_find l G h0 a (upd F 2 (nI sz)) R Z B J K4 w pq dr ml nd r340 g hqp4.1 hqp4.2.1 hO) (gV pw_1102 pw_585 pw_586 pw_106 pw_509) hV_X9_find qr344 6 hqr345 rfl rfl rfl (Nat.le_of_ble_eq_true rfl) dX9_link_126 ⟨Nat.le_of_ble_eq_true rfl, Nat.le_of_ble_eq_true rfl⟩ ⟨Nat.le_of_ble_eq_true rfl, Nat.le_of_ble_eq_true rfl⟩ (fun v343 u341 H locs hw342 hP hD hS => ?_)
                    obtain ⟨w, r346⟩ := u341
                    obtain ⟨hw342, h347, hO⟩ := hw342
                    have h347 : FnQ r346 nd := h347
                    obtain rfl : v343 = some (.int r346) := hw342
                    have hO : OKP G h0 a (upd F 2 (nI sz)) R Z B J K4 w := hO.to rfl
                    refine W.widen (k := 0) (n := 0) (Nat.le_of_ble_eq_true rfl) (Nat.le_of_ble_eq_true rfl) ?_
                    refine W.eq (g2 := F0 m 129 ls [.int r346, .long 1, .long (K4.2.2.2.1 d4), .ref d4]) rfl ?_
                    refine lv_lshl hx hb dX9_link_129 rfl ?_
                    refine lv_topl (fun x348 e349 => ?_)
                    refine lv_lor hx hb dX9_link_130 ?_
                    refine lv_topl (fun x350 e351 => ?_)
                    refine p_put (v := .long x350) (ty := .long) (C := RX2) (Tc := TX2) (N := 13) (ci := 2) (K' := (kL K4 d4 x350)) hx hb hq pin_wsX20 tyX2 tyX2_ok nmX2 hown hE hP hD hS hO (by rw [hT4]; decide) (rep_4 hT4) rfl 10 (by decide) (hq _ pw_102) (fun _ h9 => h9) rfl (by decide +kernel) rfl rfl (Nat.le_of_ble_eq_true rfl) rfl (by rw [rep_4 (show (kL K4 d4 x350).1 d4 = 4 from hT4), pl_0] <;> rfl) (fun p9 hp9 => rep_kL hp9) dX9_link_131 (fun H locs w hP hD hS hO => ?_)
                    obtain ⟨K352, hK353⟩ : ∃ z : PK, z = (kL K4 d4 x350) := ⟨_, rfl⟩
                    rw [← hK353] at hO
                    have hf354 : K352.1 pq = 7 := (by rw [hK353]; exact hp1)
                    have hf355 : K352.2.2.1 18 pq = some (a 1) := (by rw [hK353]; exact hp2)
                    have hf356 : K352.2.2.1 14 pq = some dr := (by rw [hK353]; exact hp3)
                    have hf357 : K352.1 dr = 8 := (by rw [hK353]; exact hp4)
                    have hf358 : K352.2.2.1 15 pq = some ml := (by rw [hK353]; exact hp5)
                    have hf359 : K352.1 ml = 5 := (by rw [hK353]; exact hp6)
                    have hf360 : K352.2.1 24 pq = (nI nd) := (by rw [hK353]; exact hp8)
                    have hf361 : K352.1 d4 = 4 := (by rw [hK353]; exact hT4)
                    have hf362 : K352.2.1 21 d4 = lz4 := (by rw [hK353]; exact hlz4)
                    have hw9 : WPr G K352 g := by rw [hK353]; exact WPr.kL hqw4 hg4
                    have hp9 : PgT G K352 g (a 1) pq dr ml nd nm cp it s9 := by rw [hK353]; exact PgT.kL hqp4
                    have ha9 : AbF K352 dr nd (upL ab4 i2 x350) := by rw [hK353]; exact AbF.kL hqa4 hqp4.2.1 (by omega) (by omega) he4
                    have hb9 : PaB K352 dr nd (upL ab4 i2 x350) := by rw [hK353]; exact PaB.or hqb4 (Or.inl (fun b hb => by rw [e351, bitL_or]; exact Or.inl (by rw [hqa4 i2 (by omega) d4 he4]; exact hb)))
                    have hu9 : PaU K352 dr nd (i2 + 1) := by rw [hK353]; exact PaU.kL hpu4
                    have hz9 := Bi0.or (v := x350) hbi4 h79
                    have he9 : K352.2.2.2.2.1 dr i2 = some d4 := by rw [hK353]; exact he4
                    refine lv_iinc (v := (nI (i4 + 1))) (lv' := [(3, .int (nI (i4 + 1))), (2, .ref d4), (1, .int (nI i2)), (0, .ref pq)]) hx hb dX9_link_134 hl (k := 0) rfl (nI_1 i4) (by decide) rfl (fun ls hl => ?_)
                    refine lv_goto (tgt := 96) hx hb dX9_link_137 (by decide) ?_
                    have hO : OKP G h0 a (upd F 2 (nI sz)) R Z B J K352 w := hO.to rfl
                    exact ih_4 (i4 + 1) K352 (upL ab4 i2 x350) d4 lz4 _ _ _ _ (by omega) (by omega) hw9 hp9 ha9 hb9 hu9 hz9 hf361 hg4 hf362 he9 hlb4 h74 hP hD hS hO (lv_sub hl [0, 1, 2, 3] rfl)
              have hO : OKP G h0 a (upd F 2 (nI sz)) R Z B J K315 w := hO.to rfl
              exact loop_4 (bA + 1) 0 K315 (upL (upL ab2 i2 1) i2 x313) dA lzA _ _ _ _ (by omega) (by omega) hw5 hp5 ha5 hb5 hu5 hz5 hf324 hgA2 hf326 (by rw [hK316, hK297]; exact heA3) hbB (fun z => absurd z h7) hP hD hS hO (lv_sub hl [0, 1, 2, 3] rfl)
  have hO : OKP G h0 a (upd F 2 (nI sz)) R Z B J K w := hO.to rfl
  exact loop_2 (nd + 1) 1 K (abK K dr) _ _ _ _ (by omega) (by omega) hwp hps.t AbF.start (PaB.start hps.pn) (PaU.start hps.pn) (Bi0.start hwp hps.2.1 (by omega)) (by omega) hP hD hS hO (lv_sub hl [0, 1] rfl)
