def abK (K : PK) (dr : Nat) : Nat → Int64 := fun k => match K.2.2.2.2.1 dr k with
  | none => 0
  | some d => K.2.2.2.1 d
def LkX (K K1 : PK) : Prop := (∀ p : Nat, K1.1 p = K.1 p) ∧ (∀ f p : Nat, K1.2.1 f p = K.2.1 f p) ∧ (∀ f p : Nat, ¬ f = 10 → K1.2.2.1 f p = K.2.2.1 f p) ∧ (∀ p : Nat, K1.2.2.2.2.1 p = K.2.2.2.2.1 p) ∧ ∀ p : Nat, K1.2.2.2.2.2 p = K.2.2.2.2.2 p
theorem LkX.rfl {K : PK} : LkX K K := ⟨fun _ => Eq.refl _, fun _ _ => Eq.refl _, fun _ _ _ => Eq.refl _, fun _ => Eq.refl _, fun _ => Eq.refl _⟩
theorem LkX.kL {K K1 : PK} {q : Nat} {v : Int64} (h : LkX K K1) : LkX K (_root_.Jvm.Pilot.@@N@@.kL K1 q v) := h
theorem LkX.kC {K K1 : PK} {q : Nat} {w : Option Nat} (h : LkX K K1) : LkX K (_root_.Jvm.Pilot.@@N@@.kC K1 10 q w) := ⟨h.1, h.2.1, fun f p hf => (kC_of hf).trans (h.2.2.1 f p hf), h.2.2.2⟩
section LK2
variable {G : pT} {K K1 : PK} {g : Nat → Nat → Nat} {q d p o ax pq dr ml nd nm cp s k m j i : Nat} {it : Nat → Nat} {ab ab2 ab0 : Nat → Int64} {v y : Int64}
theorem AbF.start : AbF K dr nd (abK K dr) := fun k _ d he => by
  unfold abK
  rw [he]
theorem Bi0.start (hw : WPr G K g) (hr : DcR K g dr nd) (h : 1 ≤ nd) : Bi0 (abK K dr) 1 := ⟨by
  obtain ⟨d, e1, e2, _, e4⟩ := hr 0 (by omega)
  unfold abK
  rw [e1]
  exact ((hw.2.2.1 d e2).2.2.2.2.2.2 e4).1, fun j b h1 h2 h3 => absurd h3 (by omega)⟩
theorem PaB.start (h : PaN K dr nd) : PaB K dr nd ab := fun j hj d p he hp => by rw [(h j hj d he).1] at hp; cases hp
theorem PaU.start (h : PaN K dr nd) : PaU K dr nd k := fun j hj _ d he => (h j hj d he).1
theorem Bi0.at (h : Bi0 ab k) (hk : 1 ≤ k) : Bi0 (upL ab k v) k := ⟨(upL_ne (by omega)).trans h.1, fun j b h1 h2 h3 hb => by rw [upL_ne (by omega)] at hb; exact h.2 j b h1 h2 h3 hb⟩
theorem Bi0.all (h : Bi0 ab k) (hk : 7 ≤ k) : Bi0 ab 7 := ⟨h.1, fun j b h1 h2 h3 => h.2 j b h1 h2 (by omega)⟩
theorem WCl.start : WCl ab nd 0 := fun j _ _ hj => absurd hj (by omega)
theorem WCl.all (h : WCl ab nd m) (hm : nd ≤ m) : WCl ab nd nd := fun j a b hj => h j a b (by omega)
theorem bitL_one {b : Nat} (h : bitL 1 b) : b = 0 := by
  unfold bitL at h
  have e : (1 : Int64).toBitVec = 1#64 := rfl
  rw [e, BitVec.getLsbD_one] at h
  simp at h
  exact h
theorem shl_0 : (1 : Int64) <<< ((nI 0).toInt64 &&& 63) = 1 := by decide +kernel
theorem bti_ne (h : 1 ≤ k) : ¬ bti k = 2 := by
  unfold bti
  rw [if_neg (by omega)]
  split <;> decide
theorem bti_1 (h : 1 ≤ k) (h7 : k < 7) : 1 ≤ bti k := by
  unfold bti
  rw [if_neg (by omega), if_pos h7]; exact Nat.le_refl _
end LK2
theorem Bi0.up2 {ab : Nat → Int64} {k : Nat} {v : Int64} (h : Bi0 ab k) (hk : 1 ≤ k) (hv : k < 7 → ∀ b : Nat, bitL v b → b = 0) : Bi0 (upL ab k v) (k + 1) := Bi0.up h hk hv
theorem lz_bound (lz : Int32) : ∃ k : Nat, k < 2147483648 ∧ (∀ i : Nat, i < 2147483648 → nI i < lz → i < k) := by
  rcases i32_cases lz with h | ⟨k, h1, h2⟩
  · exact ⟨0, by decide, fun i hi h9 => absurd (Int32.lt_trans h9 h) (nI_pos hi)⟩
  · exact ⟨k, h2, fun i hi h9 => by rw [h1] at h9; exact (nI_ltI (a := i) (b := k) hi h2).mp h9⟩
theorem WMd.all {ab ab2 : Nat → Int64} {nd m k : Nat} (h : WMd ab ab2 nd m k) (hk : nd ≤ k) : WMd ab ab2 nd m nd := fun a b ha hb => by
  rw [h a b ha hb]
  exact ⟨fun z => z.imp id (fun z => ⟨ha, z.2⟩), fun z => z.imp id (fun z => ⟨by omega, z.2⟩)⟩
theorem dX9_link_0 : decode cX9_link 0 = .ok (.iconst 1, 1) := by decide +kernel
theorem dX9_link_1 : decode cX9_link 1 = .ok (.istore_n 1, 1) := by decide +kernel
theorem dX9_link_2 : decode cX9_link 2 = .ok (.iload_n 1, 1) := by decide +kernel
theorem dX9_link_3 : decode cX9_link 3 = .ok (.aload_n 0, 1) := by decide +kernel
theorem dX9_link_4 : decode cX9_link 4 = .ok (.getfield 33, 3) := by decide +kernel
theorem dX9_link_7 : decode cX9_link 7 = .ok (.if_icmp .ge 139, 3) := by decide +kernel
theorem dX9_link_146 : decode cX9_link 146 = .ok (.iconst 0, 1) := by decide +kernel
theorem dX9_link_147 : decode cX9_link 147 = .ok (.istore_n 1, 1) := by decide +kernel
theorem dX9_link_148 : decode cX9_link 148 = .ok (.iload_n 1, 1) := by decide +kernel
theorem dX9_link_149 : decode cX9_link 149 = .ok (.aload_n 0, 1) := by decide +kernel
theorem dX9_link_150 : decode cX9_link 150 = .ok (.getfield 33, 3) := by decide +kernel
theorem dX9_link_153 : decode cX9_link 153 = .ok (.if_icmp .ge 57, 3) := by decide +kernel
theorem dX9_link_210 : decode cX9_link 210 = .ok (.return_, 1) := by decide +kernel
theorem dX9_link_156 : decode cX9_link 156 = .ok (.iconst 0, 1) := by decide +kernel
theorem dX9_link_157 : decode cX9_link 157 = .ok (.istore_n 2, 1) := by decide +kernel
theorem dX9_link_158 : decode cX9_link 158 = .ok (.iload_n 2, 1) := by decide +kernel
theorem dX9_link_159 : decode cX9_link 159 = .ok (.aload_n 0, 1) := by decide +kernel
theorem dX9_link_160 : decode cX9_link 160 = .ok (.getfield 33, 3) := by decide +kernel
theorem dX9_link_163 : decode cX9_link 163 = .ok (.if_icmp .ge 41, 3) := by decide +kernel
theorem dX9_link_204 : decode cX9_link 204 = .ok (.iinc 1 1, 3) := by decide +kernel
theorem dX9_link_207 : decode cX9_link 207 = .ok (.goto (-59), 3) := by decide +kernel
theorem dX9_link_166 : decode cX9_link 166 = .ok (.aload_n 0, 1) := by decide +kernel
theorem dX9_link_167 : decode cX9_link 167 = .ok (.iload_n 1, 1) := by decide +kernel
theorem dX9_link_168 : decode cX9_link 168 = .ok (.iload_n 2, 1) := by decide +kernel
theorem dX9_link_169 : decode cX9_link 169 = .ok (.invokevirtual 65, 3) := by decide +kernel
theorem dX9_link_172 : decode cX9_link 172 = .ok (.ifCond .eq 26, 3) := by decide +kernel
theorem dX9_link_198 : decode cX9_link 198 = .ok (.iinc 2 1, 3) := by decide +kernel
theorem dX9_link_201 : decode cX9_link 201 = .ok (.goto (-43), 3) := by decide +kernel
theorem dX9_link_175 : decode cX9_link 175 = .ok (.aload_n 0, 1) := by decide +kernel
theorem dX9_link_176 : decode cX9_link 176 = .ok (.getfield 17, 3) := by decide +kernel
theorem dX9_link_179 : decode cX9_link 179 = .ok (.iload_n 2, 1) := by decide +kernel
theorem dX9_link_180 : decode cX9_link 180 = .ok (.aaload, 1) := by decide +kernel
theorem dX9_link_181 : decode cX9_link 181 = .ok (.dup, 1) := by decide +kernel
theorem dX9_link_182 : decode cX9_link 182 = .ok (.getfield 57, 3) := by decide +kernel
theorem dX9_link_185 : decode cX9_link 185 = .ok (.aload_n 0, 1) := by decide +kernel
theorem dX9_link_186 : decode cX9_link 186 = .ok (.getfield 17, 3) := by decide +kernel
theorem dX9_link_189 : decode cX9_link 189 = .ok (.iload_n 1, 1) := by decide +kernel
theorem dX9_link_190 : decode cX9_link 190 = .ok (.aaload, 1) := by decide +kernel
theorem dX9_link_191 : decode cX9_link 191 = .ok (.getfield 57, 3) := by decide +kernel
theorem dX9_link_194 : decode cX9_link 194 = .ok (.lor, 1) := by decide +kernel
theorem dX9_link_195 : decode cX9_link 195 = .ok (.putfield 57, 3) := by decide +kernel
theorem dX9_link_10 : decode cX9_link 10 = .ok (.aload_n 0, 1) := by decide +kernel
theorem dX9_link_11 : decode cX9_link 11 = .ok (.getfield 17, 3) := by decide +kernel
theorem dX9_link_14 : decode cX9_link 14 = .ok (.iload_n 1, 1) := by decide +kernel
theorem dX9_link_15 : decode cX9_link 15 = .ok (.aaload, 1) := by decide +kernel
theorem dX9_link_16 : decode cX9_link 16 = .ok (.astore_n 2, 1) := by decide +kernel
theorem dX9_link_17 : decode cX9_link 17 = .ok (.aload_n 2, 1) := by decide +kernel
theorem dX9_link_18 : decode cX9_link 18 = .ok (.lconst 1, 1) := by decide +kernel
theorem dX9_link_19 : decode cX9_link 19 = .ok (.putfield 57, 3) := by decide +kernel
theorem dX9_link_22 : decode cX9_link 22 = .ok (.aload_n 2, 1) := by decide +kernel
theorem dX9_link_23 : decode cX9_link 23 = .ok (.getfield 164, 3) := by decide +kernel
theorem dX9_link_26 : decode cX9_link 26 = .ok (.ifCond .ne 43, 3) := by decide +kernel
theorem dX9_link_29 : decode cX9_link 29 = .ok (.aload_n 2, 1) := by decide +kernel
theorem dX9_link_30 : decode cX9_link 30 = .ok (.aload_n 2, 1) := by decide +kernel
theorem dX9_link_31 : decode cX9_link 31 = .ok (.getfield 148, 3) := by decide +kernel
theorem dX9_link_34 : decode cX9_link 34 = .ok (.iconst (-1), 1) := by decide +kernel
theorem dX9_link_35 : decode cX9_link 35 = .ok (.if_icmp .ne 12, 3) := by decide +kernel
theorem dX9_link_38 : decode cX9_link 38 = .ok (.aload_n 0, 1) := by decide +kernel
theorem dX9_link_39 : decode cX9_link 39 = .ok (.getfield 17, 3) := by decide +kernel
theorem dX9_link_42 : decode cX9_link 42 = .ok (.iconst 0, 1) := by decide +kernel
theorem dX9_link_43 : decode cX9_link 43 = .ok (.aaload, 1) := by decide +kernel
theorem dX9_link_44 : decode cX9_link 44 = .ok (.goto 22, 3) := by decide +kernel
theorem dX9_link_66 : decode cX9_link 66 = .ok (.putfield 174, 3) := by decide +kernel
theorem dX9_link_69 : decode cX9_link 69 = .ok (.aload_n 2, 1) := by decide +kernel
theorem dX9_link_70 : decode cX9_link 70 = .ok (.getfield 174, 3) := by decide +kernel
theorem dX9_link_73 : decode cX9_link 73 = .ok (.ifnull 21, 3) := by decide +kernel
theorem dX9_link_76 : decode cX9_link 76 = .ok (.aload_n 2, 1) := by decide +kernel
theorem dX9_link_77 : decode cX9_link 77 = .ok (.dup, 1) := by decide +kernel
theorem dX9_link_78 : decode cX9_link 78 = .ok (.getfield 57, 3) := by decide +kernel
theorem dX9_link_81 : decode cX9_link 81 = .ok (.lconst 1, 1) := by decide +kernel
theorem dX9_link_82 : decode cX9_link 82 = .ok (.aload_n 2, 1) := by decide +kernel
theorem dX9_link_83 : decode cX9_link 83 = .ok (.getfield 174, 3) := by decide +kernel
theorem dX9_link_86 : decode cX9_link 86 = .ok (.getfield 178, 3) := by decide +kernel
theorem dX9_link_89 : decode cX9_link 89 = .ok (.lshl, 1) := by decide +kernel
theorem dX9_link_90 : decode cX9_link 90 = .ok (.lor, 1) := by decide +kernel
theorem dX9_link_91 : decode cX9_link 91 = .ok (.putfield 57, 3) := by decide +kernel
theorem dX9_link_94 : decode cX9_link 94 = .ok (.iconst 0, 1) := by decide +kernel
theorem dX9_link_95 : decode cX9_link 95 = .ok (.istore_n 3, 1) := by decide +kernel
theorem dX9_link_96 : decode cX9_link 96 = .ok (.iload_n 3, 1) := by decide +kernel
theorem dX9_link_97 : decode cX9_link 97 = .ok (.aload_n 2, 1) := by decide +kernel
theorem dX9_link_98 : decode cX9_link 98 = .ok (.getfield 154, 3) := by decide +kernel
theorem dX9_link_101 : decode cX9_link 101 = .ok (.if_icmp .ge 39, 3) := by decide +kernel
theorem dX9_link_140 : decode cX9_link 140 = .ok (.iinc 1 1, 3) := by decide +kernel
theorem dX9_link_143 : decode cX9_link 143 = .ok (.goto (-141), 3) := by decide +kernel
theorem dX9_link_104 : decode cX9_link 104 = .ok (.aload_n 2, 1) := by decide +kernel
theorem dX9_link_105 : decode cX9_link 105 = .ok (.dup, 1) := by decide +kernel
theorem dX9_link_106 : decode cX9_link 106 = .ok (.getfield 57, 3) := by decide +kernel
theorem dX9_link_109 : decode cX9_link 109 = .ok (.lconst 1, 1) := by decide +kernel
theorem dX9_link_110 : decode cX9_link 110 = .ok (.aload_n 0, 1) := by decide +kernel
theorem dX9_link_111 : decode cX9_link 111 = .ok (.aload_n 0, 1) := by decide +kernel
theorem dX9_link_112 : decode cX9_link 112 = .ok (.getfield 9, 3) := by decide +kernel
theorem dX9_link_115 : decode cX9_link 115 = .ok (.aload_n 2, 1) := by decide +kernel
theorem dX9_link_116 : decode cX9_link 116 = .ok (.getfield 157, 3) := by decide +kernel
theorem dX9_link_119 : decode cX9_link 119 = .ok (.iconst 2, 1) := by decide +kernel
theorem dX9_link_120 : decode cX9_link 120 = .ok (.iload_n 3, 1) := by decide +kernel
theorem dX9_link_121 : decode cX9_link 121 = .ok (.imul, 1) := by decide +kernel
theorem dX9_link_122 : decode cX9_link 122 = .ok (.iadd, 1) := by decide +kernel
theorem dX9_link_123 : decode cX9_link 123 = .ok (.invokevirtual 41, 3) := by decide +kernel
theorem dX9_link_126 : decode cX9_link 126 = .ok (.invokevirtual 116, 3) := by decide +kernel
theorem dX9_link_129 : decode cX9_link 129 = .ok (.lshl, 1) := by decide +kernel
theorem dX9_link_130 : decode cX9_link 130 = .ok (.lor, 1) := by decide +kernel
theorem dX9_link_131 : decode cX9_link 131 = .ok (.putfield 57, 3) := by decide +kernel
theorem dX9_link_134 : decode cX9_link 134 = .ok (.iinc 3 1, 3) := by decide +kernel
theorem dX9_link_137 : decode cX9_link 137 = .ok (.goto (-41), 3) := by decide +kernel
theorem dX9_link_47 : decode cX9_link 47 = .ok (.aload_n 0, 1) := by decide +kernel
theorem dX9_link_48 : decode cX9_link 48 = .ok (.aload_n 0, 1) := by decide +kernel
theorem dX9_link_49 : decode cX9_link 49 = .ok (.aload_n 0, 1) := by decide +kernel
theorem dX9_link_50 : decode cX9_link 50 = .ok (.getfield 9, 3) := by decide +kernel
theorem dX9_link_53 : decode cX9_link 53 = .ok (.aload_n 2, 1) := by decide +kernel
theorem dX9_link_54 : decode cX9_link 54 = .ok (.getfield 148, 3) := by decide +kernel
theorem dX9_link_57 : decode cX9_link 57 = .ok (.invokevirtual 41, 3) := by decide +kernel
theorem dX9_link_60 : decode cX9_link 60 = .ok (.invokevirtual 116, 3) := by decide +kernel
theorem dX9_link_63 : decode cX9_link 63 = .ok (.invokevirtual 160, 3) := by decide +kernel
set_option maxHeartbeats 60000000 in
set_option maxRecDepth 100000 in
theorem G_link (l : Launch) (G : pT) (h0 : Nat) (a : Nat → Nat) (F : Nat → Int32) (R : Nat → Value) (Z : Int64) (B : Nat → Nat → Int32) (J : Nat → Nat → Int64) (K : PK) (w : va_W) (pq : Nat) (dr : Nat) (ml : Nat) (nd : Nat) (nm : Nat) (cp : Nat) (it : Nat → Nat) (s9 : Nat) (sz : Nat) (g : Nat → Nat → Nat) (hsz : sz ≤ 5000) (hwp : WPr G K g) (hps : PgS G K g (a 1) pq dr ml nd nm cp it s9) (hO : OKP G h0 a (upd F 2 (nI sz)) R Z B J K w) : PM l G pX0 yX9_link cX9_link 4 none ({ frames := 3, cells := 0, slots := 0, locals := 82 }) [.ref pq] w (fun (v : Option Value) (u : va_W × (PK × (Nat → Int64))) => v = none ∧ (LkX K u.2.1) ∧ (WPr G u.2.1 g) ∧ (PgT G u.2.1 g (a 1) pq dr ml nd nm cp it s9) ∧ (AbF u.2.1 dr nd u.2.2) ∧ (PaB u.2.1 dr nd u.2.2) ∧ (WCl u.2.2 nd nd) ∧ (Bi0 u.2.2 7) ∧ (OKP G h0 a (upd F 2 (nI sz)) R Z B J u.2.1 u.1)) (fun u => u.1) := by
  intro sz
  refine Met.ofW (cc := cX9_link) (maxL := 4) (ret := none) (by decide) rfl ?_
  intro p e s m args below meth c s₁ B9 hml hv
  obtain ⟨rfl, hsz, hP, hD0, hE, hX⟩ := hv
  have hx := B9.exec
  have hb := B9.bytes
  have hr := B9.returns
  have hts := atoms_spec (ws := Cond.code yX9_link cX9_link 4 none :: pw) B9.pre
  have hq : ∀ w ∈ pw, w.before _ s = true := fun w h => hts w (List.mem_cons_of_mem _ h)
  have hown : s.vm.findClass RX9 = some m.cls := findClass_of_methodNamed B9.named
  have hlocks := B9.notSynchronized
  subst hsz
  have hD := hD0.self (sz := s.heap.size)
  have hA : ∀ q : Nat, s.heap.size ≤ q → va_A w s.heap.size q := fun q h => Or.inr h
  generalize va_A w s.heap.size = A at hD hE hA ⊢
  have hS : va_S A s.heap s.heap [] := va_S.rf
  have hl := lv_entry ([.ref pq]) (n := 4) (Nat.le_of_ble_eq_true rfl)
  rw [lg_entry_eq]
  generalize (lg_sl ([.ref pq]) ++ List.replicate (4 - (lg_sl ([.ref pq])).length) Slot.unset).toArray = ls at hl ⊢
  have hl : lv_has ls 4 [(0, .ref pq)] := hl
  have hp1 := hps.1.1
  have hp2 := hps.1.2.1
  have hp3 := hps.1.2.2.1
  have hp4 := hps.1.2.2.2.1
  have hp5 := hps.1.2.2.2.2.1
  have hp6 := hps.1.2.2.2.2.2.1
  have hp8 := hps.1.2.2.2.2.2.2.2.1
  have hp9 := hps.1.2.2.2.2.2.2.2.2
  refine lv_iconst (v := 1) hx hb dX9_link_0 (by decide) ?_
  refine lv_istore_n (lv' := [(1, .int 1), (0, .ref pq)]) hx hb dX9_link_1 rfl hl (by decide) rfl (fun ls hl => ?_)
  have loop_2 : ∀ (n_2 : Nat) (i2 : Nat) (K2 : PK) (ab2 : Nat → Int64) (H : Heap) (locs : List Loc) (ls : Array Slot) (w : va_W), i2 ≤ nd → nd + 1 ≤ i2 + n_2 → (LkX K K2) → (WPr G K2 g) → (PgT G K2 g (a 1) pq dr ml nd nm cp it s9) → (AbF K2 dr nd ab2) → (PaB K2 dr nd ab2) → (PaU K2 dr nd i2) → (Bi0 ab2 i2) → (1 ≤ i2) → va_P G.1 pCl w H → va_D A w → va_S A s.heap H locs → OKP G h0 a (upd F 2 (nI sz)) R Z B J K2 w → lv_has ls 4 [(1, .int (nI i2)), (0, .ref pq)] → W p l e (headSpec (Cond.code yX9_link cX9_link 4 none :: pw) ({ frames := 3, cells := 0, slots := 0, locals := 82 } : Room)).room s m ([.ref pq] : List Value).toArray below meth c H locs 0 0 (MQ below (pQ G A (fun (v : Option Value) (u : va_W × (PK × (Nat → Int64))) => v = none ∧ (LkX K u.2.1) ∧ (WPr G u.2.1 g) ∧ (PgT G u.2.1 g (a 1) pq dr ml nd nm cp it s9) ∧ (AbF u.2.1 dr nd u.2.2) ∧ (PaB u.2.1 dr nd u.2.2) ∧ (WCl u.2.2 nd nd) ∧ (Bi0 u.2.2 7) ∧ (OKP G h0 a (upd F 2 (nI sz)) R Z B J u.2.1 u.1)) (fun u => u.1)) ([.ref pq] : List Value).toArray s ({ frames := 3, cells := 0, slots := 0, locals := 82 } : Room).cells ({ frames := 3, cells := 0, slots := 0, locals := 82 } : Room).slots A) (F0 m 2 ls []) := by
    intro n_2
    induction n_2 with
    | zero => intro i2 K2 ab2 H locs ls w hk_2 hn_2; omega
    | succ n_2 ih_2 =>
      intro i2 K2 ab2 H locs ls w hk_2 hn_2 hqx2 hqw2 hqp2 hqa2 hqb2 hpu2 hbi2 hi2 hP hD hS hO hl
      have hpx := hqp2.1
      have hp1 := hpx.1
      have hp2 := hpx.2.1
      have hp3 := hpx.2.2.1
      have hp4 := hpx.2.2.2.1
      have hp5 := hpx.2.2.2.2.1
      have hp6 := hpx.2.2.2.2.2.1
      have hp8 := hpx.2.2.2.2.2.2.2.1
      have hp9 := hpx.2.2.2.2.2.2.2.2
      refine lv_iload_n hx hb dX9_link_2 rfl (lv_at hl 0 rfl) ?_
      refine lv_aload_n hx hb dX9_link_3 rfl (lv_at hl 1 rfl) ?_
      refine p_get (v := .int (nI nd)) (C := RX9) (Tc := TX9) (N := 5) (ci := 6) hx hb hq pin_wsX90 hown hE hP hO (by rw [hp1]; decide) (rep_7 hp1) rfl 2 (by decide) (hq _ pw_14) (fun _ h9 => h9) (congrArg (fun z => some (Value.int z)) hp8) dX9_link_4 ?_
      refine lv_icmp_ge (tgt := 146) hx hb dX9_link_7 (by decide) (fun c1 => ?_) (fun c1 => ?_)
      · have n2 : nd ≤ i2 := (nI_leI (a := nd) (b := i2) (by omega) (by omega)).mp c1
        refine lv_iconst (v := 0) hx hb dX9_link_146 (by decide) ?_
        refine lv_istore_n (lv' := [(1, .int 0), (0, .ref pq)]) hx hb dX9_link_147 rfl hl (by decide) rfl (fun ls hl => ?_)
        have loop_5 : ∀ (n_5 : Nat) (m5 : Nat) (K5 : PK) (ab5 : Nat → Int64) (H : Heap) (locs : List Loc) (ls : Array Slot) (w : va_W), m5 ≤ nd → nd + 1 ≤ m5 + n_5 → (LkX K K5) → (WPr G K5 g) → (PgT G K5 g (a 1) pq dr ml nd nm cp it s9) → (AbF K5 dr nd ab5) → (PaB K5 dr nd ab5) → (Bi0 ab5 7) → (WCl ab5 nd m5) → va_P G.1 pCl w H → va_D A w → va_S A s.heap H locs → OKP G h0 a (upd F 2 (nI sz)) R Z B J K5 w → lv_has ls 4 [(1, .int (nI m5)), (0, .ref pq)] → W p l e (headSpec (Cond.code yX9_link cX9_link 4 none :: pw) ({ frames := 3, cells := 0, slots := 0, locals := 82 } : Room)).room s m ([.ref pq] : List Value).toArray below meth c H locs 0 0 (MQ below (pQ G A (fun (v : Option Value) (u : va_W × (PK × (Nat → Int64))) => v = none ∧ (LkX K u.2.1) ∧ (WPr G u.2.1 g) ∧ (PgT G u.2.1 g (a 1) pq dr ml nd nm cp it s9) ∧ (AbF u.2.1 dr nd u.2.2) ∧ (PaB u.2.1 dr nd u.2.2) ∧ (WCl u.2.2 nd nd) ∧ (Bi0 u.2.2 7) ∧ (OKP G h0 a (upd F 2 (nI sz)) R Z B J u.2.1 u.1)) (fun u => u.1)) ([.ref pq] : List Value).toArray s ({ frames := 3, cells := 0, slots := 0, locals := 82 } : Room).cells ({ frames := 3, cells := 0, slots := 0, locals := 82 } : Room).slots A) (F0 m 148 ls []) := by
          intro n_5
          induction n_5 with
          | zero => intro m5 K5 ab5 H locs ls w hk_5 hn_5; omega
          | succ n_5 ih_5 =>
            intro m5 K5 ab5 H locs ls w hk_5 hn_5 hqx5 hqw5 hqp5 hqa5 hqb5 hbi5 hcl5 hP hD hS hO hl
            have hpx := hqp5.1
            have hp1 := hpx.1
            have hp2 := hpx.2.1
            have hp3 := hpx.2.2.1
            have hp4 := hpx.2.2.2.1
            have hp5 := hpx.2.2.2.2.1
            have hp6 := hpx.2.2.2.2.2.1
            have hp8 := hpx.2.2.2.2.2.2.2.1
            have hp9 := hpx.2.2.2.2.2.2.2.2
            refine lv_iload_n hx hb dX9_link_148 rfl (lv_at hl 0 rfl) ?_
            refine lv_aload_n hx hb dX9_link_149 rfl (lv_at hl 1 rfl) ?_
            refine p_get (v := .int (nI nd)) (C := RX9) (Tc := TX9) (N := 5) (ci := 6) hx hb hq pin_wsX90 hown hE hP hO (by rw [hp1]; decide) (rep_7 hp1) rfl 2 (by decide) (hq _ pw_14) (fun _ h9 => h9) (congrArg (fun z => some (Value.int z)) hp8) dX9_link_150 ?_
            refine lv_icmp_ge (tgt := 210) hx hb dX9_link_153 (by decide) (fun c3 => ?_) (fun c3 => ?_)
            · have n4 : nd ≤ m5 := (nI_leI (a := nd) (b := m5) (by omega) (by omega)).mp c3
              have hz5 : LkX K K5 := hqx5
              have hz6 : WPr G K5 g := hqw5
              have hz7 : PgT G K5 g (a 1) pq dr ml nd nm cp it s9 := hqp5
              have hz8 : AbF K5 dr nd ab5 := hqa5
              have hz9 : PaB K5 dr nd ab5 := hqb5
              have hz10 : WCl ab5 nd nd := (WCl.all hcl5 (by omega))
              have hz11 : Bi0 ab5 7 := hbi5
              have hO : OKP G h0 a (upd F 2 (nI sz)) R Z B J K5 w := hO.to rfl
              exact W.vret hx hb hr (fun t99 ht99 hW99 => ⟨⟨_, (w, (K5, ab5)), rfl, ⟨rfl, hz5, hz6, hz7, hz8, hz9, hz10, hz11, hO⟩, by rw [ht99]; exact hP, hD⟩, hS.F ht99⟩) hS.2.2 dX9_link_210
            · have n12 : ¬ (nd ≤ m5) := fun h9 => c3 ((nI_leI (a := nd) (b := m5) (by omega) (by omega)).mpr h9)
              refine lv_iconst (v := 0) hx hb dX9_link_156 (by decide) ?_
              refine lv_istore_n (lv' := [(2, .int 0), (1, .int (nI m5)), (0, .ref pq)]) hx hb dX9_link_157 rfl hl (by decide) rfl (fun ls hl => ?_)
              have loop_6 : ∀ (n_6 : Nat) (k6 : Nat) (K6 : PK) (ab6 : Nat → Int64) (H : Heap) (locs : List Loc) (ls : Array Slot) (w : va_W), k6 ≤ nd → nd + 1 ≤ k6 + n_6 → (LkX K K6) → (WPr G K6 g) → (PgT G K6 g (a 1) pq dr ml nd nm cp it s9) → (AbF K6 dr nd ab6) → (PaB K6 dr nd ab6) → (Bi0 ab6 7) → (WMd ab5 ab6 nd m5 k6) → va_P G.1 pCl w H → va_D A w → va_S A s.heap H locs → OKP G h0 a (upd F 2 (nI sz)) R Z B J K6 w → lv_has ls 4 [(2, .int (nI k6)), (1, .int (nI m5)), (0, .ref pq)] → W p l e (headSpec (Cond.code yX9_link cX9_link 4 none :: pw) ({ frames := 3, cells := 0, slots := 0, locals := 82 } : Room)).room s m ([.ref pq] : List Value).toArray below meth c H locs 0 0 (MQ below (pQ G A (fun (v : Option Value) (u : va_W × (PK × (Nat → Int64))) => v = none ∧ (LkX K u.2.1) ∧ (WPr G u.2.1 g) ∧ (PgT G u.2.1 g (a 1) pq dr ml nd nm cp it s9) ∧ (AbF u.2.1 dr nd u.2.2) ∧ (PaB u.2.1 dr nd u.2.2) ∧ (WCl u.2.2 nd nd) ∧ (Bi0 u.2.2 7) ∧ (OKP G h0 a (upd F 2 (nI sz)) R Z B J u.2.1 u.1)) (fun u => u.1)) ([.ref pq] : List Value).toArray s ({ frames := 3, cells := 0, slots := 0, locals := 82 } : Room).cells ({ frames := 3, cells := 0, slots := 0, locals := 82 } : Room).slots A) (F0 m 158 ls []) := by
                intro n_6
                induction n_6 with
                | zero => intro k6 K6 ab6 H locs ls w hk_6 hn_6; omega
                | succ n_6 ih_6 =>
                  intro k6 K6 ab6 H locs ls w hk_6 hn_6 hqx6 hqw6 hqp6 hqa6 hqb6 hbi6 hmd6 hP hD hS hO hl
                  have hpx := hqp6.1
                  have hp1 := hpx.1
                  have hp2 := hpx.2.1
                  have hp3 := hpx.2.2.1
                  have hp4 := hpx.2.2.2.1
                  have hp5 := hpx.2.2.2.2.1
                  have hp6 := hpx.2.2.2.2.2.1
                  have hp8 := hpx.2.2.2.2.2.2.2.1
                  have hp9 := hpx.2.2.2.2.2.2.2.2
                  refine lv_iload_n hx hb dX9_link_158 rfl (lv_at hl 0 rfl) ?_
                  refine lv_aload_n hx hb dX9_link_159 rfl (lv_at hl 2 rfl) ?_
                  refine p_get (v := .int (nI nd)) (C := RX9) (Tc := TX9) (N := 5) (ci := 6) hx hb hq pin_wsX90 hown hE hP hO (by rw [hp1]; decide) (rep_7 hp1) rfl 2 (by decide) (hq _ pw_14) (fun _ h9 => h9) (congrArg (fun z => some (Value.int z)) hp8) dX9_link_160 ?_
                  refine lv_icmp_ge (tgt := 204) hx hb dX9_link_163 (by decide) (fun c13 => ?_) (fun c13 => ?_)
                  · have n14 : nd ≤ k6 := (nI_leI (a := nd) (b := k6) (by omega) (by omega)).mp c13
                    refine lv_iinc (v := (nI (m5 + 1))) (lv' := [(1, .int (nI (m5 + 1))), (2, .int (nI k6)), (0, .ref pq)]) hx hb dX9_link_204 hl (k := 1) rfl (nI_1 m5) (by decide) rfl (fun ls hl => ?_)
                    refine lv_goto (tgt := 148) hx hb dX9_link_207 (by decide) ?_
                    have hO : OKP G h0 a (upd F 2 (nI sz)) R Z B J K6 w := hO.to rfl
                    exact ih_5 (m5 + 1) K6 ab6 _ _ _ _ (by omega) (by omega) hqx6 hqw6 hqp6 hqa6 hqb6 hbi6 (WCl.step hcl5 (WMd.all hmd6 (by omega)) (by omega)) hP hD hS hO (lv_sub hl [0, 2] rfl)
                  · have n15 : ¬ (nd ≤ k6) := fun h9 => c13 ((nI_leI (a := nd) (b := k6) (by omega) (by omega)).mpr h9)
                    refine lv_aload_n hx hb dX9_link_166 rfl (lv_at hl 2 rfl) ?_
                    refine lv_iload_n hx hb dX9_link_167 rfl (lv_at hl 1 rfl) ?_
                    refine lv_iload_n hx hb dX9_link_168 rfl (lv_at hl 0 rfl) ?_
                    have hO : OKP G h0 a (upd F 2 (nI sz)) R Z B J K6 w := hO.to rfl
                    obtain ⟨qr19, hqr20⟩ := p_recv hO (by rw [hp1]; decide) (rep_7 hp1)
                    refine pc_V0 (G := G) (As := [.int (nI m5), .int (nI k6)]) (rest := []) hx hb hml hown hq hE hX pX0_al hP hD hS hA hl.1 (G_isAbove l G h0 a (upd F 2 (nI sz)) R Z B J K6 w pq dr ml nd (nI m5) (nI k6) g hqp6.1 hqp6.2.1 hO) (gV pw_107 pw_108 pw_109 pw_106 pw_101) hV_X9_isAbove qr19 6 hqr20 rfl rfl rfl (Nat.le_of_ble_eq_true rfl) dX9_link_169 ⟨Nat.le_of_ble_eq_true rfl, Nat.le_of_ble_eq_true rfl⟩ ⟨Nat.le_of_ble_eq_true rfl, Nat.le_of_ble_eq_true rfl⟩ (fun v18 u16 H locs hw17 hP hD hS => ?_)
                    obtain ⟨w, r21⟩ := u16
                    obtain ⟨hw17, h22, h23, hO⟩ := hw17
                    have h22 : r21 ≤ 1 := h22
                    have h23 : AbQ K6 dr nd (nI m5) (nI k6) r21 := h23
                    obtain rfl : v18 = some (.int (nI r21)) := hw17
                    have hO : OKP G h0 a (upd F 2 (nI sz)) R Z B J K6 w := hO.to rfl
                    refine W.widen (k := 0) (n := 0) (Nat.le_of_ble_eq_true rfl) (Nat.le_of_ble_eq_true rfl) ?_
                    refine W.eq (g2 := F0 m 172 ls [.int (nI r21)]) rfl ?_
                    obtain ⟨dk, hk1, hk2, hk3, hk4⟩ := hqp6.2.1 k6 (by omega)
                    have hbq : r21 = 1 ↔ bitL (ab6 k6) m5 := by rw [← hqa6 k6 (by omega) dk hk1]; exact h23 m5 k6 dk (by omega) (by omega) rfl rfl hk1
                    refine lv_if_eq (tgt := 198) hx hb dX9_link_172 (by decide) (fun c24 => ?_) (fun c24 => ?_)
                    · have n25 : r21 = 0 := (nI_eq (a := r21) (b := 0) (by omega) (by omega)).mp c24
                      have hms := WMd.miss hmd6 (by omega) (by omega) (fun z => by have z2 := hbq.mpr z; omega)
                      refine lv_iinc (v := (nI (k6 + 1))) (lv' := [(2, .int (nI (k6 + 1))), (1, .int (nI m5)), (0, .ref pq)]) hx hb dX9_link_198 hl (k := 0) rfl (nI_1 k6) (by decide) rfl (fun ls hl => ?_)
                      refine lv_goto (tgt := 158) hx hb dX9_link_201 (by decide) ?_
                      have hO : OKP G h0 a (upd F 2 (nI sz)) R Z B J K6 w := hO.to rfl
                      exact ih_6 (k6 + 1) K6 ab6 _ _ _ _ (by omega) (by omega) hqx6 hqw6 hqp6 hqa6 hqb6 hbi6 hms hP hD hS hO (lv_sub hl [0, 1, 2] rfl)
                    · have n26 : ¬ (r21 = 0) := fun h9 => c24 ((nI_eq (a := r21) (b := 0) (by omega) (by omega)).mpr h9)
                      have hbt := hbq.mp (by omega)
                      refine lv_aload_n hx hb dX9_link_175 rfl (lv_at hl 2 rfl) ?_
                      refine p_get (v := .ref dr) (C := RX9) (Tc := TX9) (N := 5) (ci := 6) hx hb hq pin_wsX90 hown hE hP hO (by rw [hp1]; decide) (rep_7 hp1) rfl 1 (by decide) (hq _ pw_15) (fun _ h9 => h9) (congrArg (fun z => some (va_rf z)) hp3) dX9_link_176 ?_
                      refine lv_iload_n hx hb dX9_link_179 rfl (lv_at hl 0 rfl) ?_
                      refine p_ald8 hx hb hE hP hO hp4 (vp_in_nI (by omega) (by omega)) dX9_link_180 ?_
                      rw [nI_clamp (show k6 < 2 ^ 31 by omega)]
                      obtain ⟨dK, heK, htK, hnK, hgK⟩ := hqp6.2.1 k6 (by omega)
                      rw [heK]
                      refine W.eq (g2 := F0 m 181 ls [.ref dK]) rfl ?_
                      refine lv_dup hx hb dX9_link_181 rfl ?_
                      refine p_get (v := .long (K6.2.2.2.1 dK)) (C := RX2) (Tc := TX2) (N := 13) (ci := 2) hx hb hq pin_wsX20 hown hE hP hO (by rw [htK]; decide) (rep_4 htK) rfl 10 (by decide) (hq _ pw_102) (fun _ h9 => h9) rfl dX9_link_182 ?_
                      refine lv_aload_n hx hb dX9_link_185 rfl (lv_at hl 2 rfl) ?_
                      refine p_get (v := .ref dr) (C := RX9) (Tc := TX9) (N := 5) (ci := 6) hx hb hq pin_wsX90 hown hE hP hO (by rw [hp1]; decide) (rep_7 hp1) rfl 1 (by decide) (hq _ pw_15) (fun _ h9 => h9) (congrArg (fun z => some (va_rf z)) hp3) dX9_link_186 ?_
                      refine lv_iload_n hx hb dX9_link_189 rfl (lv_at hl 1 rfl) ?_
                      refine p_ald8 hx hb hE hP hO hp4 (vp_in_nI (by omega) (by omega)) dX9_link_190 ?_
                      rw [nI_clamp (show m5 < 2 ^ 31 by omega)]
                      obtain ⟨dM, heM, htM, hnM, hgM⟩ := hqp6.2.1 m5 (by omega)
                      rw [heM]
                      refine W.eq (g2 := F0 m 191 ls [.ref dM, .long (K6.2.2.2.1 dK), .ref dK]) rfl ?_
                      refine p_get (v := .long (K6.2.2.2.1 dM)) (C := RX2) (Tc := TX2) (N := 13) (ci := 2) hx hb hq pin_wsX20 hown hE hP hO (by rw [htM]; decide) (rep_4 htM) rfl 10 (by decide) (hq _ pw_102) (fun _ h9 => h9) rfl dX9_link_191 ?_
                      refine lv_lor hx hb dX9_link_194 ?_
                      refine lv_topl (fun x27 e28 => ?_)
                      refine p_put (v := .long x27) (ty := .long) (C := RX2) (Tc := TX2) (N := 13) (ci := 2) (K' := (kL K6 dK x27)) hx hb hq pin_wsX20 tyX2 tyX2_ok nmX2 hown hE hP hD hS hO (by rw [htK]; decide) (rep_4 htK) rfl 10 (by decide) (hq _ pw_102) (fun _ h9 => h9) rfl (by decide +kernel) rfl rfl (Nat.le_of_ble_eq_true rfl) rfl (by rw [rep_4 (show (kL K6 dK x27).1 dK = 4 from htK), pl_0] <;> rfl) (fun p9 hp9 => rep_kL hp9) dX9_link_195 (fun H locs w hP hD hS hO => ?_)
                      obtain ⟨K29, hK30⟩ : ∃ z : PK, z = (kL K6 dK x27) := ⟨_, rfl⟩
                      rw [← hK30] at hO
                      have hf31 : K29.1 pq = 7 := (by rw [hK30]; exact hp1)
                      have hf32 : K29.2.2.1 18 pq = some (a 1) := (by rw [hK30]; exact hp2)
                      have hf33 : K29.2.2.1 14 pq = some dr := (by rw [hK30]; exact hp3)
                      have hf34 : K29.1 dr = 8 := (by rw [hK30]; exact hp4)
                      have hf35 : K29.2.2.1 15 pq = some ml := (by rw [hK30]; exact hp5)
                      have hf36 : K29.1 ml = 5 := (by rw [hK30]; exact hp6)
                      have hf37 : K29.2.1 24 pq = (nI nd) := (by rw [hK30]; exact hp8)
                      have hf38 : K29.1 dK = 4 := (by rw [hK30]; exact htK)
                      have hf39 : K29.2.1 15 dK = (nI k6) := (by rw [hK30]; exact hnK)
                      have hf40 : K29.1 dM = 4 := (by rw [hK30]; exact htM)
                      have hf41 : K29.2.1 15 dM = (nI m5) := (by rw [hK30]; exact hnM)
                      have hyk : x27 = ab6 k6 ||| ab6 m5 := by rw [e28, hqa6 k6 (by omega) dK heK, hqa6 m5 (by omega) dM heM]
                      have hgK2 : ¬ g 5 dK = 2 := by rw [hgK]; exact bti_ne (Nat.pos_of_ne_zero (fun z => by rw [z, hbi6.1] at hbt; exact bitL_zero hbt))
                      have hx9 : LkX K K29 := by rw [hK30]; exact LkX.kL hqx6
                      have hw9 : WPr G K29 g := by rw [hK30]; exact WPr.kL hqw6 hgK2
                      have hp9 : PgT G K29 g (a 1) pq dr ml nd nm cp it s9 := by rw [hK30]; exact PgT.kL hqp6
                      have ha9 : AbF K29 dr nd (upL ab6 k6 (ab6 k6 ||| ab6 m5)) := by rw [hK30, ← hyk]; exact AbF.kL hqa6 hqp6.2.1 (by omega) (by omega) heK
                      have hb9 : PaB K29 dr nd (upL ab6 k6 (ab6 k6 ||| ab6 m5)) := by rw [hK30, ← hyk]; exact PaB.or hqb6 (Or.inl (fun b hb => by rw [hyk, bitL_or]; exact Or.inl hb))
                      have hz9 := Bi0.hit hbi6 (by omega) hbt
                      have hm9 := WMd.hit hmd6 (by omega) (by omega) hbt
                      refine lv_iinc (v := (nI (k6 + 1))) (lv' := [(2, .int (nI (k6 + 1))), (1, .int (nI m5)), (0, .ref pq)]) hx hb dX9_link_198 hl (k := 0) rfl (nI_1 k6) (by decide) rfl (fun ls hl => ?_)
                      refine lv_goto (tgt := 158) hx hb dX9_link_201 (by decide) ?_
                      have hO : OKP G h0 a (upd F 2 (nI sz)) R Z B J K29 w := hO.to rfl
                      exact ih_6 (k6 + 1) K29 (upL ab6 k6 (ab6 k6 ||| ab6 m5)) _ _ _ _ (by omega) (by omega) hx9 hw9 hp9 ha9 hb9 hz9 hm9 hP hD hS hO (lv_sub hl [0, 1, 2] rfl)
              have hO : OKP G h0 a (upd F 2 (nI sz)) R Z B J K5 w := hO.to rfl
              exact loop_6 (nd + 1) 0 K5 ab5 _ _ _ _ (by omega) (by omega) hqx5 hqw5 hqp5 hqa5 hqb5 hbi5 WMd.start hP hD hS hO (lv_sub hl [0, 1, 2] rfl)
        have hO : OKP G h0 a (upd F 2 (nI sz)) R Z B J K2 w := hO.to rfl
        exact loop_5 (nd + 1) 0 K2 ab2 _ _ _ _ (by omega) (by omega) hqx2 hqw2 hqp2 hqa2 hqb2 (Bi0.all hbi2 (by omega)) WCl.start hP hD hS hO (lv_sub hl [0, 1] rfl)
      · have n42 : ¬ (nd ≤ i2) := fun h9 => c1 ((nI_leI (a := nd) (b := i2) (by omega) (by omega)).mpr h9)
        refine lv_aload_n hx hb dX9_link_10 rfl (lv_at hl 1 rfl) ?_
        refine p_get (v := .ref dr) (C := RX9) (Tc := TX9) (N := 5) (ci := 6) hx hb hq pin_wsX90 hown hE hP hO (by rw [hp1]; decide) (rep_7 hp1) rfl 1 (by decide) (hq _ pw_15) (fun _ h9 => h9) (congrArg (fun z => some (va_rf z)) hp3) dX9_link_11 ?_
        refine lv_iload_n hx hb dX9_link_14 rfl (lv_at hl 0 rfl) ?_
        refine p_ald8 hx hb hE hP hO hp4 (vp_in_nI (by omega) (by omega)) dX9_link_15 ?_
        rw [nI_clamp (show i2 < 2 ^ 31 by omega)]
        obtain ⟨dA, heA, htA, hnA, hgA⟩ := hqp2.2.1 i2 (by omega)
        rw [heA]
        refine W.eq (g2 := F0 m 16 ls [.ref dA]) rfl ?_
        refine lv_astore_n (lv' := [(2, .ref dA), (1, .int (nI i2)), (0, .ref pq)]) hx hb dX9_link_16 rfl hl (by decide) rfl (fun ls hl => ?_)
        refine lv_aload_n hx hb dX9_link_17 rfl (lv_at hl 0 rfl) ?_
        refine lv_lconst (v := 1) hx hb dX9_link_18 (by decide) ?_
        refine p_put (v := .long 1) (ty := .long) (C := RX2) (Tc := TX2) (N := 13) (ci := 2) (K' := (kL K2 dA 1)) hx hb hq pin_wsX20 tyX2 tyX2_ok nmX2 hown hE hP hD hS hO (by rw [htA]; decide) (rep_4 htA) rfl 10 (by decide) (hq _ pw_102) (fun _ h9 => h9) rfl (by decide +kernel) rfl rfl (Nat.le_of_ble_eq_true rfl) rfl (by rw [rep_4 (show (kL K2 dA 1).1 dA = 4 from htA), pl_0] <;> rfl) (fun p9 hp9 => rep_kL hp9) dX9_link_19 (fun H locs w hP hD hS hO => ?_)
        obtain ⟨K43, hK44⟩ : ∃ z : PK, z = (kL K2 dA 1) := ⟨_, rfl⟩
        rw [← hK44] at hO
        have hf45 : K43.1 pq = 7 := (by rw [hK44]; exact hp1)
        have hf46 : K43.2.2.1 18 pq = some (a 1) := (by rw [hK44]; exact hp2)
        have hf47 : K43.2.2.1 14 pq = some dr := (by rw [hK44]; exact hp3)
        have hf48 : K43.1 dr = 8 := (by rw [hK44]; exact hp4)
        have hf49 : K43.2.2.1 15 pq = some ml := (by rw [hK44]; exact hp5)
        have hf50 : K43.1 ml = 5 := (by rw [hK44]; exact hp6)
        have hf51 : K43.2.1 24 pq = (nI nd) := (by rw [hK44]; exact hp8)
        have hf52 : K43.1 dA = 4 := (by rw [hK44]; exact htA)
        have hf53 : K43.2.1 15 dA = (nI i2) := (by rw [hK44]; exact hnA)
        have hgA2 : ¬ g 5 dA = 2 := by rw [hgA]; exact bti_ne hi2
        have hx3 : LkX K K43 := by rw [hK44]; exact LkX.kL hqx2
        have hw3 : WPr G K43 g := by rw [hK44]; exact WPr.kL hqw2 hgA2
        have hp3 : PgT G K43 g (a 1) pq dr ml nd nm cp it s9 := by rw [hK44]; exact PgT.kL hqp2
        have ha3 : AbF K43 dr nd (upL ab2 i2 1) := by rw [hK44]; exact AbF.kL hqa2 hqp2.2.1 (by omega) (by omega) heA
        have hb3 : PaB K43 dr nd (upL ab2 i2 1) := by rw [hK44]; exact PaB.or hqb2 (Or.inr (fun d h => hpu2 i2 (by omega) (Nat.le_refl _) d h))
        have hu3 : PaU K43 dr nd i2 := by rw [hK44]; exact PaU.kL hpu2
        have hz3 := Bi0.at (v := 1) hbi2 hi2
        have hl3 : K43.2.2.2.1 dA = 1 := by rw [hK44]; exact kL_eq
        have heA3 : K43.2.2.2.2.1 dr i2 = some dA := by rw [hK44]; exact heA
        by_cases h7 : i2 < 7
        · have hcz := (hw3.2.2.1 dA hf52).2.2.2.2.2.1 (by rw [hgA]; exact bti_1 hi2 h7)
          refine lv_aload_n hx hb dX9_link_22 rfl (lv_at hl 0 rfl) ?_
          refine p_get (v := .int 0) (C := RX2) (Tc := TX2) (N := 13) (ci := 2) hx hb hq pin_wsX20 hown hE hP hO (by rw [hf52]; decide) (rep_4 hf52) rfl 3 (by decide) (hq _ pw_1101) (fun _ h9 => h9) (congrArg (fun z => some (Value.int z)) hcz.2.2) dX9_link_23 ?_
          refine lv_if_ne (tgt := 69) hx hb dX9_link_26 (by decide) (fun c54 => absurd c54 (by decide)) (fun c54 => ?_)
          refine lv_aload_n hx hb dX9_link_29 rfl (lv_at hl 0 rfl) ?_
          refine lv_aload_n hx hb dX9_link_30 rfl (lv_at hl 0 rfl) ?_
          refine p_get (v := .int (-1)) (C := RX2) (Tc := TX2) (N := 13) (ci := 2) hx hb hq pin_wsX20 hown hE hP hO (by rw [hf52]; decide) (rep_4 hf52) rfl 4 (by decide) (hq _ pw_1105) (fun _ h9 => h9) (congrArg (fun z => some (Value.int z)) hcz.1) dX9_link_31 ?_
          refine lv_iconst (v := (-1)) hx hb dX9_link_34 (by decide) ?_
          refine lv_icmp_ne (tgt := 47) hx hb dX9_link_35 (by decide) (fun c55 => absurd c55 (by decide)) (fun c55 => ?_)
          refine lv_aload_n hx hb dX9_link_38 rfl (lv_at hl 2 rfl) ?_
          refine p_get (v := .ref dr) (C := RX9) (Tc := TX9) (N := 5) (ci := 6) hx hb hq pin_wsX90 hown hE hP hO (by rw [hf45]; decide) (rep_7 hf45) rfl 1 (by decide) (hq _ pw_15) (fun _ h9 => h9) (congrArg (fun z => some (va_rf z)) hf47) dX9_link_39 ?_
          refine lv_iconst (v := 0) hx hb dX9_link_42 (by decide) ?_
          refine W.eq (g2 := F0 m 43 ls [.int (nI 0), .ref dr, .ref dA]) rfl ?_
          refine p_ald8 hx hb hE hP hO hf48 (vp_in_nI (by omega) (by omega)) dX9_link_43 ?_
          rw [nI_clamp (show 0 < 2 ^ 31 by omega)]
          obtain ⟨dP, heP, htP, hnP, hgP⟩ := hp3.2.1 0 (by omega)
          rw [heP]
          refine W.eq (g2 := F0 m 44 ls [.ref dP, .ref dA]) rfl ?_
          refine lv_goto (tgt := 66) hx hb dX9_link_44 (by decide) ?_
          refine p_put (v := .ref dP) (ty := (.object "JinjaTongue$Decl")) (C := RX2) (Tc := TX2) (N := 13) (ci := 2) (K' := (kC K43 10 dA (some dP))) hx hb hq pin_wsX20 tyX2 tyX2_ok nmX2 hown hE hP hD hS hO (by rw [hf52]; decide) (rep_4 hf52) rfl 9 (by decide) (hq _ pw_1138) (fun _ h9 => h9) rfl (by decide +kernel) rfl rfl (Nat.le_of_ble_eq_true rfl) rfl (by rw [rep_4 (show (kC K43 10 dA (some dP)).1 dA = 4 from hf52), pc_10] <;> rfl) (fun p9 hp9 => rep_kC hp9) dX9_link_66 (fun H locs w hP hD hS hO => ?_)
          obtain ⟨K56, hK57⟩ : ∃ z : PK, z = (kC K43 10 dA (some dP)) := ⟨_, rfl⟩
          rw [← hK57] at hO
          have hf58 : K56.1 pq = 7 := (by rw [hK57]; exact hf45)
          have hf59 : K56.2.2.1 18 pq = some (a 1) := (by rw [hK57]; exact (kC_of (by decide)).trans hf46)
          have hf60 : K56.2.2.1 14 pq = some dr := (by rw [hK57]; exact (kC_of (by decide)).trans hf47)
          have hf61 : K56.1 dr = 8 := (by rw [hK57]; exact hf48)
          have hf62 : K56.2.2.1 15 pq = some ml := (by rw [hK57]; exact (kC_of (by decide)).trans hf49)
          have hf63 : K56.1 ml = 5 := (by rw [hK57]; exact hf50)
          have hf64 : K56.2.1 24 pq = (nI nd) := (by rw [hK57]; exact hf51)
          have hf65 : K56.1 dA = 4 := (by rw [hK57]; exact hf52)
          have hf66 : K56.2.1 15 dA = (nI i2) := (by rw [hK57]; exact hf53)
          have hf67 : K56.2.1 19 dA = (-1) := (by rw [hK57]; exact hcz.1)
          have hf68 : K56.2.1 21 dA = 0 := (by rw [hK57]; exact hcz.2.1)
          have hf69 : K56.2.1 18 dA = 0 := (by rw [hK57]; exact hcz.2.2)
          have hf70 : K56.1 dP = 4 := (by rw [hK57]; exact htP)
          have hf71 : K56.2.1 15 dP = (nI 0) := (by rw [hK57]; exact hnP)
          have hf72 : K56.2.2.1 10 dA = some dP := by rw [hK57]; exact kC_eq
          have hx4 : LkX K K56 := by rw [hK57]; exact LkX.kC hx3
          have hw4 : WPr G K56 g := by rw [hK57]; exact WPr.par hw3 hgA2 (fun d h => by cases h; exact htP)
          have hp4 : PgT G K56 g (a 1) pq dr ml nd nm cp it s9 := by rw [hK57]; exact PgT.kC hp3
          have ha4 : AbF K56 dr nd (upL ab2 i2 1) := by rw [hK57]; exact AbF.kC ha3
          have hu4 : PaU K56 dr nd (i2 + 1) := by rw [hK57]; exact PaU.kC hu3 hp3.2.1 (by omega) (by omega) heA3
          have hl4 : K56.2.2.2.1 dA = 1 := by rw [hK57]; exact hl3
          refine lv_aload_n hx hb dX9_link_69 rfl (lv_at hl 0 rfl) ?_
          refine p_get (v := .ref dP) (C := RX2) (Tc := TX2) (N := 13) (ci := 2) hx hb hq pin_wsX20 hown hE hP hO (by rw [hf65]; decide) (rep_4 hf65) rfl 9 (by decide) (hq _ pw_1138) (fun _ h9 => h9) (congrArg (fun z => some (va_rf z)) hf72) dX9_link_70 ?_
          refine lv_ifnull hx hb dX9_link_73 ?_
          refine lv_aload_n hx hb dX9_link_76 rfl (lv_at hl 0 rfl) ?_
          refine lv_dup hx hb dX9_link_77 rfl ?_
          refine p_get (v := .long (K56.2.2.2.1 dA)) (C := RX2) (Tc := TX2) (N := 13) (ci := 2) hx hb hq pin_wsX20 hown hE hP hO (by rw [hf65]; decide) (rep_4 hf65) rfl 10 (by decide) (hq _ pw_102) (fun _ h9 => h9) rfl dX9_link_78 ?_
          refine lv_lconst (v := 1) hx hb dX9_link_81 (by decide) ?_
          refine lv_aload_n hx hb dX9_link_82 rfl (lv_at hl 0 rfl) ?_
          refine p_get (v := .ref dP) (C := RX2) (Tc := TX2) (N := 13) (ci := 2) hx hb hq pin_wsX20 hown hE hP hO (by rw [hf65]; decide) (rep_4 hf65) rfl 9 (by decide) (hq _ pw_1138) (fun _ h9 => h9) (congrArg (fun z => some (va_rf z)) hf72) dX9_link_83 ?_
          refine p_get (v := .int (nI 0)) (C := RX2) (Tc := TX2) (N := 13) (ci := 2) hx hb hq pin_wsX20 hown hE hP hO (by rw [hf70]; decide) (rep_4 hf70) rfl 0 (by decide) (hq _ pw_1139) (fun _ h9 => h9) (congrArg (fun z => some (Value.int z)) hf71) dX9_link_86 ?_
          refine lv_lshl hx hb dX9_link_89 rfl ?_
          refine lv_topl (fun x73 e74 => ?_)
          refine lv_lor hx hb dX9_link_90 ?_
          refine lv_topl (fun x75 e76 => ?_)
          refine p_put (v := .long x75) (ty := .long) (C := RX2) (Tc := TX2) (N := 13) (ci := 2) (K' := (kL K56 dA x75)) hx hb hq pin_wsX20 tyX2 tyX2_ok nmX2 hown hE hP hD hS hO (by rw [hf65]; decide) (rep_4 hf65) rfl 10 (by decide) (hq _ pw_102) (fun _ h9 => h9) rfl (by decide +kernel) rfl rfl (Nat.le_of_ble_eq_true rfl) rfl (by rw [rep_4 (show (kL K56 dA x75).1 dA = 4 from hf65), pl_0] <;> rfl) (fun p9 hp9 => rep_kL hp9) dX9_link_91 (fun H locs w hP hD hS hO => ?_)
          obtain ⟨K77, hK78⟩ : ∃ z : PK, z = (kL K56 dA x75) := ⟨_, rfl⟩
          rw [← hK78] at hO
          have hf79 : K77.1 pq = 7 := (by rw [hK78]; exact hf58)
          have hf80 : K77.2.2.1 18 pq = some (a 1) := (by rw [hK78]; exact hf59)
          have hf81 : K77.2.2.1 14 pq = some dr := (by rw [hK78]; exact hf60)
          have hf82 : K77.1 dr = 8 := (by rw [hK78]; exact hf61)
          have hf83 : K77.2.2.1 15 pq = some ml := (by rw [hK78]; exact hf62)
          have hf84 : K77.1 ml = 5 := (by rw [hK78]; exact hf63)
          have hf85 : K77.2.1 24 pq = (nI nd) := (by rw [hK78]; exact hf64)
          have hf86 : K77.1 dA = 4 := (by rw [hK78]; exact hf65)
          have hf87 : K77.2.1 15 dA = (nI i2) := (by rw [hK78]; exact hf66)
          have hf88 : K77.2.1 19 dA = (-1) := (by rw [hK78]; exact hf67)
          have hf89 : K77.2.1 21 dA = 0 := (by rw [hK78]; exact hf68)
          have hf90 : K77.2.1 18 dA = 0 := (by rw [hK78]; exact hf69)
          have hf91 : K77.1 dP = 4 := (by rw [hK78]; exact hf70)
          have hf92 : K77.2.1 15 dP = (nI 0) := (by rw [hK78]; exact hf71)
          have hf93 : K77.2.2.1 10 dA = some dP := (by rw [hK78]; exact hf72)
          have hbp : bitL x75 0 := by rw [e76, bitL_or, e74]; exact Or.inr (bitL_shl 0 (by omega))
          have hx5 : LkX K K77 := by rw [hK78]; exact LkX.kL hx4
          have hw5 : WPr G K77 g := by rw [hK78]; exact WPr.kL hw4 hgA2
          have hp5 : PgT G K77 g (a 1) pq dr ml nd nm cp it s9 := by rw [hK78]; exact PgT.kL hp4
          have heA4 : K56.2.2.2.2.1 dr i2 = some dA := by rw [hK57]; exact heA3
          have ha5 : AbF K77 dr nd (upL (upL ab2 i2 1) i2 x75) := by rw [hK78]; exact AbF.kL ha4 hp4.2.1 (by omega) (by omega) heA4
          have hb5 : PaB K77 dr nd (upL (upL ab2 i2 1) i2 x75) := by rw [hK78, hK57]; exact PaB.par hb3 hp3.2.1 (by omega) (by omega) heA3 (by omega) heP hbp
          have hu5 : PaU K77 dr nd (i2 + 1) := by rw [hK78]; exact PaU.kL hu4
          have hz5 := Bi0.up (v := x75) hz3 hi2 (fun _ b hb => by rw [e76, hl4, bitL_or, e74, shl_0] at hb; rcases hb with w | w <;> exact bitL_one w)
          obtain ⟨bA, hbA, hbB⟩ := lz_bound 0
          refine lv_iconst (v := 0) hx hb dX9_link_94 (by decide) ?_
          refine lv_istore_n (lv' := [(3, .int 0), (2, .ref dA), (1, .int (nI i2)), (0, .ref pq)]) hx hb dX9_link_95 rfl hl (by decide) rfl (fun ls hl => ?_)
          have loop_4 : ∀ (n_4 : Nat) (i4 : Nat) (K4 : PK) (ab4 : Nat → Int64) (d4 : Nat) (lz4 : Int32) (H : Heap) (locs : List Loc) (ls : Array Slot) (w : va_W), i4 ≤ bA → bA + 1 ≤ i4 + n_4 → (LkX K K4) → (WPr G K4 g) → (PgT G K4 g (a 1) pq dr ml nd nm cp it s9) → (AbF K4 dr nd ab4) → (PaB K4 dr nd ab4) → (PaU K4 dr nd (i2 + 1)) → (Bi0 ab4 (i2 + 1)) → (K4.1 d4 = 4) → (¬ g 5 d4 = 2) → (K4.2.1 21 d4 = lz4) → (K4.2.2.2.2.1 dr i2 = some d4) → (∀ i : Nat, i < 2147483648 → nI i < lz4 → i < bA) → (i2 < 7 → lz4 = 0) → va_P G.1 pCl w H → va_D A w → va_S A s.heap H locs → OKP G h0 a (upd F 2 (nI sz)) R Z B J K4 w → lv_has ls 4 [(3, .int (nI i4)), (2, .ref d4), (1, .int (nI i2)), (0, .ref pq)] → W p l e (headSpec (Cond.code yX9_link cX9_link 4 none :: pw) ({ frames := 3, cells := 0, slots := 0, locals := 82 } : Room)).room s m ([.ref pq] : List Value).toArray below meth c H locs 0 0 (MQ below (pQ G A (fun (v : Option Value) (u : va_W × (PK × (Nat → Int64))) => v = none ∧ (LkX K u.2.1) ∧ (WPr G u.2.1 g) ∧ (PgT G u.2.1 g (a 1) pq dr ml nd nm cp it s9) ∧ (AbF u.2.1 dr nd u.2.2) ∧ (PaB u.2.1 dr nd u.2.2) ∧ (WCl u.2.2 nd nd) ∧ (Bi0 u.2.2 7) ∧ (OKP G h0 a (upd F 2 (nI sz)) R Z B J u.2.1 u.1)) (fun u => u.1)) ([.ref pq] : List Value).toArray s ({ frames := 3, cells := 0, slots := 0, locals := 82 } : Room).cells ({ frames := 3, cells := 0, slots := 0, locals := 82 } : Room).slots A) (F0 m 96 ls []) := by
            intro n_4
            induction n_4 with
            | zero => intro i4 K4 ab4 d4 lz4 H locs ls w hk_4 hn_4; omega
            | succ n_4 ih_4 =>
              intro i4 K4 ab4 d4 lz4 H locs ls w hk_4 hn_4 hqx4 hqw4 hqp4 hqa4 hqb4 hpu4 hbi4 hT4 hg4 hlz4 he4 hlb4 h74 hP hD hS hO hl
              have hpx := hqp4.1
              have hp1 := hpx.1
              have hp2 := hpx.2.1
              have hp3 := hpx.2.2.1
              have hp4 := hpx.2.2.2.1
              have hp5 := hpx.2.2.2.2.1
              have hp6 := hpx.2.2.2.2.2.1
              have hp8 := hpx.2.2.2.2.2.2.2.1
              have hp9 := hpx.2.2.2.2.2.2.2.2
              refine lv_iload_n hx hb dX9_link_96 rfl (lv_at hl 0 rfl) ?_
              refine lv_aload_n hx hb dX9_link_97 rfl (lv_at hl 1 rfl) ?_
              refine p_get (v := .int lz4) (C := RX2) (Tc := TX2) (N := 13) (ci := 2) hx hb hq pin_wsX20 hown hE hP hO (by rw [hT4]; decide) (rep_4 hT4) rfl 6 (by decide) (hq _ pw_1106) (fun _ h9 => h9) (congrArg (fun z => some (Value.int z)) hlz4) dX9_link_98 ?_
              refine lv_icmp_ge (tgt := 140) hx hb dX9_link_101 (by decide) (fun c94 => ?_) (fun c94 => ?_)
              · refine lv_iinc (v := (nI (i2 + 1))) (lv' := [(1, .int (nI (i2 + 1))), (3, .int (nI i4)), (2, .ref d4), (0, .ref pq)]) hx hb dX9_link_140 hl (k := 2) rfl (nI_1 i2) (by decide) rfl (fun ls hl => ?_)
                refine lv_goto (tgt := 2) hx hb dX9_link_143 (by decide) ?_
                have hO : OKP G h0 a (upd F 2 (nI sz)) R Z B J K4 w := hO.to rfl
                exact ih_2 (i2 + 1) K4 ab4 _ _ _ _ (by omega) (by omega) hqx4 hqw4 hqp4 hqa4 hqb4 hpu4 hbi4 (by omega) hP hD hS hO (lv_sub hl [0, 3] rfl)
              · have hi9 := hlb4 i4 (by omega) (Int32.not_le.mp c94)
                have h79 : 7 ≤ i2 := Nat.le_of_not_lt (fun z => by rw [h74 z] at c94; exact c94 (nI_leI (a := 0) (b := i4) (by omega) (by omega) |>.mpr (by omega)))
                refine lv_aload_n hx hb dX9_link_104 rfl (lv_at hl 1 rfl) ?_
                refine lv_dup hx hb dX9_link_105 rfl ?_
                refine p_get (v := .long (K4.2.2.2.1 d4)) (C := RX2) (Tc := TX2) (N := 13) (ci := 2) hx hb hq pin_wsX20 hown hE hP hO (by rw [hT4]; decide) (rep_4 hT4) rfl 10 (by decide) (hq _ pw_102) (fun _ h9 => h9) rfl dX9_link_106 ?_
                refine lv_lconst (v := 1) hx hb dX9_link_109 (by decide) ?_
                refine lv_aload_n hx hb dX9_link_110 rfl (lv_at hl 3 rfl) ?_
                refine lv_aload_n hx hb dX9_link_111 rfl (lv_at hl 3 rfl) ?_
                refine p_get (v := .ref (a 1)) (C := RX9) (Tc := TX9) (N := 5) (ci := 6) hx hb hq pin_wsX90 hown hE hP hO (by rw [hp1]; decide) (rep_7 hp1) rfl 0 (by decide) (hq _ pw_784) (fun _ h9 => h9) (congrArg (fun z => some (va_rf z)) hp2) dX9_link_112 ?_
                refine lv_aload_n hx hb dX9_link_115 rfl (lv_at hl 1 rfl) ?_
                refine p_get (v := .int (K4.2.1 20 d4)) (C := RX2) (Tc := TX2) (N := 13) (ci := 2) hx hb hq pin_wsX20 hown hE hP hO (by rw [hT4]; decide) (rep_4 hT4) rfl 5 (by decide) (hq _ pw_1107) (fun _ h9 => h9) rfl dX9_link_116 ?_
                refine lv_iconst (v := 2) hx hb dX9_link_119 (by decide) ?_
                refine lv_iload_n hx hb dX9_link_120 rfl (lv_at hl 0 rfl) ?_
                refine lv_imul hx hb dX9_link_121 ?_
                refine lv_topi (fun x95 e96 => ?_)
                obtain rfl : x95 = nI (2 * i4) := e96.trans (nI_mulN (2) (i4))
                refine lv_iadd hx hb dX9_link_122 ?_
                refine lv_topi (fun x97 e98 => ?_)
                have hO : OKW G h0 a (upd (upd F 2 (nI sz)) 2 (nI sz)) R Z B J K4.1 (fun q99 x99 => x99 = rep G a K4 q99) w := hO.to rfl
                obtain ⟨_, qr102, hqr103⟩ := hO.2.1 2 _ (sg_2 G h0 a _ _ _ _ _)
                refine pc_V0 (G := G) (As := [.int x97]) (rest := [.ref pq, .long 1, .long (K4.2.2.2.1 d4), .ref d4]) hx hb hml hown hq hE hX pX0_al hP hD hS hA hl.1 (K_valueAt l G h0 a (upd F 2 (nI sz)) R Z B J K4.1 (fun q99 x99 => x99 = rep G a K4 q99) w x97 sz (by omega) hO) (gV pw_785 pw_57 pw_58 pw_59 pw_39) hV_X10_valueAt qr102 7 hqr103 rfl rfl rfl (Nat.le_of_ble_eq_true rfl) dX9_link_123 ⟨Nat.le_of_ble_eq_true rfl, Nat.le_of_ble_eq_true rfl⟩ ⟨Nat.le_of_ble_eq_true rfl, Nat.le_of_ble_eq_true rfl⟩ (fun v101 u99 H locs hw100 hP hD hS => ?_)
                obtain ⟨w, r104⟩ := u99
                obtain ⟨hw100, hO⟩ := hw100
                obtain rfl : v101 = some (.int r104) := hw100
                have hO : OKP G h0 a (upd F 2 (nI sz)) R Z B J K4 w := hO.to rfl
                refine W.widen (k := 0) (n := 0) (Nat.le_of_ble_eq_true rfl) (Nat.le_of_ble_eq_true rfl) ?_
                refine W.eq (g2 := F0 m 126 ls [.int r104, .ref pq, .long 1, .long (K4.2.2.2.1 d4), .ref d4]) rfl ?_
                have hO : OKP G h0 a (upd F 2 (nI sz)) R Z B J K4 w := hO.to rfl
                obtain ⟨qr108, hqr109⟩ := p_recv hO (by rw [hp1]; decide) (rep_7 hp1)
                refine pc_V0 (G := G) (As := [.int r104]) (rest := [.long 1, .long (K4.2.2.2.1 d4), .ref d4]) hx hb hml hown hq hE hX pX0_al hP hD hS hA hl.1 (G_find l G h0 a (upd F 2 (nI sz)) R Z B J K4 w pq dr ml nd r104 g hqp4.1 hqp4.2.1 hO) (gV pw_1102 pw_585 pw_586 pw_106 pw_509) hV_X9_find qr108 6 hqr109 rfl rfl rfl (Nat.le_of_ble_eq_true rfl) dX9_link_126 ⟨Nat.le_of_ble_eq_true rfl, Nat.le_of_ble_eq_true rfl⟩ ⟨Nat.le_of_ble_eq_true rfl, Nat.le_of_ble_eq_true rfl⟩ (fun v107 u105 H locs hw106 hP hD hS => ?_)
                obtain ⟨w, r110⟩ := u105
                obtain ⟨hw106, h111, hO⟩ := hw106
                have h111 : FnQ r110 nd := h111
                obtain rfl : v107 = some (.int r110) := hw106
                have hO : OKP G h0 a (upd F 2 (nI sz)) R Z B J K4 w := hO.to rfl
                refine W.widen (k := 0) (n := 0) (Nat.le_of_ble_eq_true rfl) (Nat.le_of_ble_eq_true rfl) ?_
                refine W.eq (g2 := F0 m 129 ls [.int r110, .long 1, .long (K4.2.2.2.1 d4), .ref d4]) rfl ?_
                refine lv_lshl hx hb dX9_link_129 rfl ?_
                refine lv_topl (fun x112 e113 => ?_)
                refine lv_lor hx hb dX9_link_130 ?_
                refine lv_topl (fun x114 e115 => ?_)
                refine p_put (v := .long x114) (ty := .long) (C := RX2) (Tc := TX2) (N := 13) (ci := 2) (K' := (kL K4 d4 x114)) hx hb hq pin_wsX20 tyX2 tyX2_ok nmX2 hown hE hP hD hS hO (by rw [hT4]; decide) (rep_4 hT4) rfl 10 (by decide) (hq _ pw_102) (fun _ h9 => h9) rfl (by decide +kernel) rfl rfl (Nat.le_of_ble_eq_true rfl) rfl (by rw [rep_4 (show (kL K4 d4 x114).1 d4 = 4 from hT4), pl_0] <;> rfl) (fun p9 hp9 => rep_kL hp9) dX9_link_131 (fun H locs w hP hD hS hO => ?_)
                obtain ⟨K116, hK117⟩ : ∃ z : PK, z = (kL K4 d4 x114) := ⟨_, rfl⟩
                rw [← hK117] at hO
                have hf118 : K116.1 pq = 7 := (by rw [hK117]; exact hp1)
                have hf119 : K116.2.2.1 18 pq = some (a 1) := (by rw [hK117]; exact hp2)
                have hf120 : K116.2.2.1 14 pq = some dr := (by rw [hK117]; exact hp3)
                have hf121 : K116.1 dr = 8 := (by rw [hK117]; exact hp4)
                have hf122 : K116.2.2.1 15 pq = some ml := (by rw [hK117]; exact hp5)
                have hf123 : K116.1 ml = 5 := (by rw [hK117]; exact hp6)
                have hf124 : K116.2.1 24 pq = (nI nd) := (by rw [hK117]; exact hp8)
                have hf125 : K116.1 d4 = 4 := (by rw [hK117]; exact hT4)
                have hf126 : K116.2.1 21 d4 = lz4 := (by rw [hK117]; exact hlz4)
                have hx9 : LkX K K116 := by rw [hK117]; exact LkX.kL hqx4
                have hw9 : WPr G K116 g := by rw [hK117]; exact WPr.kL hqw4 hg4
                have hp9 : PgT G K116 g (a 1) pq dr ml nd nm cp it s9 := by rw [hK117]; exact PgT.kL hqp4
                have ha9 : AbF K116 dr nd (upL ab4 i2 x114) := by rw [hK117]; exact AbF.kL hqa4 hqp4.2.1 (by omega) (by omega) he4
                have hb9 : PaB K116 dr nd (upL ab4 i2 x114) := by rw [hK117]; exact PaB.or hqb4 (Or.inl (fun b hb => by rw [e115, bitL_or]; exact Or.inl (by rw [hqa4 i2 (by omega) d4 he4]; exact hb)))
                have hu9 : PaU K116 dr nd (i2 + 1) := by rw [hK117]; exact PaU.kL hpu4
                have hz9 := Bi0.or (v := x114) hbi4 h79
                have he9 : K116.2.2.2.2.1 dr i2 = some d4 := by rw [hK117]; exact he4
                refine lv_iinc (v := (nI (i4 + 1))) (lv' := [(3, .int (nI (i4 + 1))), (2, .ref d4), (1, .int (nI i2)), (0, .ref pq)]) hx hb dX9_link_134 hl (k := 0) rfl (nI_1 i4) (by decide) rfl (fun ls hl => ?_)
                refine lv_goto (tgt := 96) hx hb dX9_link_137 (by decide) ?_
                have hO : OKP G h0 a (upd F 2 (nI sz)) R Z B J K116 w := hO.to rfl
                exact ih_4 (i4 + 1) K116 (upL ab4 i2 x114) d4 lz4 _ _ _ _ (by omega) (by omega) hx9 hw9 hp9 ha9 hb9 hu9 hz9 hf125 hg4 hf126 he9 hlb4 h74 hP hD hS hO (lv_sub hl [0, 1, 2, 3] rfl)
          have hO : OKP G h0 a (upd F 2 (nI sz)) R Z B J K77 w := hO.to rfl
          exact loop_4 (bA + 1) 0 K77 (upL (upL ab2 i2 1) i2 x75) dA (0 : Int32) _ _ _ _ (by omega) (by omega) hx5 hw5 hp5 ha5 hb5 hu5 hz5 hf86 hgA2 hf89 (by rw [hK78, hK57]; exact heA3) hbB (fun z => rfl) hP hD hS hO (lv_sub hl [0, 1, 2, 3] rfl)
        · obtain ⟨lzA, hlzA⟩ : ∃ z : Int32, K43.2.1 21 dA = z := ⟨_, rfl⟩
          refine lv_aload_n hx hb dX9_link_22 rfl (lv_at hl 0 rfl) ?_
          refine p_get (v := .int (K43.2.1 18 dA)) (C := RX2) (Tc := TX2) (N := 13) (ci := 2) hx hb hq pin_wsX20 hown hE hP hO (by rw [hf52]; decide) (rep_4 hf52) rfl 3 (by decide) (hq _ pw_1101) (fun _ h9 => h9) rfl dX9_link_23 ?_
          refine lv_if_ne (tgt := 69) hx hb dX9_link_26 (by decide) (fun c127 => ?_) (fun c127 => ?_)
          · have hcn : K43.2.2.1 10 dA = none := hu3 i2 (by omega) (Nat.le_refl _) dA heA3
            refine lv_aload_n hx hb dX9_link_69 rfl (lv_at hl 0 rfl) ?_
            refine p_get (v := .null) (C := RX2) (Tc := TX2) (N := 13) (ci := 2) hx hb hq pin_wsX20 hown hE hP hO (by rw [hf52]; decide) (rep_4 hf52) rfl 9 (by decide) (hq _ pw_1138) (fun _ h9 => h9) (congrArg (fun z => some (va_rf z)) hcn) dX9_link_70 ?_
            refine lv_ifnullN (tgt := 94) hx hb dX9_link_73 (by decide) ?_
            have hz5 : Bi0 (upL ab2 i2 1) (i2 + 1) := Bi0.up2 hbi2 hi2 (fun z => absurd z h7)
            obtain ⟨bA, hbA, hbB⟩ := lz_bound lzA
            refine lv_iconst (v := 0) hx hb dX9_link_94 (by decide) ?_
            refine lv_istore_n (lv' := [(3, .int 0), (2, .ref dA), (1, .int (nI i2)), (0, .ref pq)]) hx hb dX9_link_95 rfl hl (by decide) rfl (fun ls hl => ?_)
            have loop_4 : ∀ (n_4 : Nat) (i4 : Nat) (K4 : PK) (ab4 : Nat → Int64) (d4 : Nat) (lz4 : Int32) (H : Heap) (locs : List Loc) (ls : Array Slot) (w : va_W), i4 ≤ bA → bA + 1 ≤ i4 + n_4 → (LkX K K4) → (WPr G K4 g) → (PgT G K4 g (a 1) pq dr ml nd nm cp it s9) → (AbF K4 dr nd ab4) → (PaB K4 dr nd ab4) → (PaU K4 dr nd (i2 + 1)) → (Bi0 ab4 (i2 + 1)) → (K4.1 d4 = 4) → (¬ g 5 d4 = 2) → (K4.2.1 21 d4 = lz4) → (K4.2.2.2.2.1 dr i2 = some d4) → (∀ i : Nat, i < 2147483648 → nI i < lz4 → i < bA) → (i2 < 7 → lz4 = 0) → va_P G.1 pCl w H → va_D A w → va_S A s.heap H locs → OKP G h0 a (upd F 2 (nI sz)) R Z B J K4 w → lv_has ls 4 [(3, .int (nI i4)), (2, .ref d4), (1, .int (nI i2)), (0, .ref pq)] → W p l e (headSpec (Cond.code yX9_link cX9_link 4 none :: pw) ({ frames := 3, cells := 0, slots := 0, locals := 82 } : Room)).room s m ([.ref pq] : List Value).toArray below meth c H locs 0 0 (MQ below (pQ G A (fun (v : Option Value) (u : va_W × (PK × (Nat → Int64))) => v = none ∧ (LkX K u.2.1) ∧ (WPr G u.2.1 g) ∧ (PgT G u.2.1 g (a 1) pq dr ml nd nm cp it s9) ∧ (AbF u.2.1 dr nd u.2.2) ∧ (PaB u.2.1 dr nd u.2.2) ∧ (WCl u.2.2 nd nd) ∧ (Bi0 u.2.2 7) ∧ (OKP G h0 a (upd F 2 (nI sz)) R Z B J u.2.1 u.1)) (fun u => u.1)) ([.ref pq] : List Value).toArray s ({ frames := 3, cells := 0, slots := 0, locals := 82 } : Room).cells ({ frames := 3, cells := 0, slots := 0, locals := 82 } : Room).slots A) (F0 m 96 ls []) := by
              intro n_4
              induction n_4 with
              | zero => intro i4 K4 ab4 d4 lz4 H locs ls w hk_4 hn_4; omega
              | succ n_4 ih_4 =>
                intro i4 K4 ab4 d4 lz4 H locs ls w hk_4 hn_4 hqx4 hqw4 hqp4 hqa4 hqb4 hpu4 hbi4 hT4 hg4 hlz4 he4 hlb4 h74 hP hD hS hO hl
                have hpx := hqp4.1
                have hp1 := hpx.1
                have hp2 := hpx.2.1
                have hp3 := hpx.2.2.1
                have hp4 := hpx.2.2.2.1
                have hp5 := hpx.2.2.2.2.1
                have hp6 := hpx.2.2.2.2.2.1
                have hp8 := hpx.2.2.2.2.2.2.2.1
                have hp9 := hpx.2.2.2.2.2.2.2.2
                refine lv_iload_n hx hb dX9_link_96 rfl (lv_at hl 0 rfl) ?_
                refine lv_aload_n hx hb dX9_link_97 rfl (lv_at hl 1 rfl) ?_
                refine p_get (v := .int lz4) (C := RX2) (Tc := TX2) (N := 13) (ci := 2) hx hb hq pin_wsX20 hown hE hP hO (by rw [hT4]; decide) (rep_4 hT4) rfl 6 (by decide) (hq _ pw_1106) (fun _ h9 => h9) (congrArg (fun z => some (Value.int z)) hlz4) dX9_link_98 ?_
                refine lv_icmp_ge (tgt := 140) hx hb dX9_link_101 (by decide) (fun c128 => ?_) (fun c128 => ?_)
                · refine lv_iinc (v := (nI (i2 + 1))) (lv' := [(1, .int (nI (i2 + 1))), (3, .int (nI i4)), (2, .ref d4), (0, .ref pq)]) hx hb dX9_link_140 hl (k := 2) rfl (nI_1 i2) (by decide) rfl (fun ls hl => ?_)
                  refine lv_goto (tgt := 2) hx hb dX9_link_143 (by decide) ?_
                  have hO : OKP G h0 a (upd F 2 (nI sz)) R Z B J K4 w := hO.to rfl
                  exact ih_2 (i2 + 1) K4 ab4 _ _ _ _ (by omega) (by omega) hqx4 hqw4 hqp4 hqa4 hqb4 hpu4 hbi4 (by omega) hP hD hS hO (lv_sub hl [0, 3] rfl)
                · have hi9 := hlb4 i4 (by omega) (Int32.not_le.mp c128)
                  have h79 : 7 ≤ i2 := Nat.le_of_not_lt (fun z => by rw [h74 z] at c128; exact c128 (nI_leI (a := 0) (b := i4) (by omega) (by omega) |>.mpr (by omega)))
                  refine lv_aload_n hx hb dX9_link_104 rfl (lv_at hl 1 rfl) ?_
                  refine lv_dup hx hb dX9_link_105 rfl ?_
                  refine p_get (v := .long (K4.2.2.2.1 d4)) (C := RX2) (Tc := TX2) (N := 13) (ci := 2) hx hb hq pin_wsX20 hown hE hP hO (by rw [hT4]; decide) (rep_4 hT4) rfl 10 (by decide) (hq _ pw_102) (fun _ h9 => h9) rfl dX9_link_106 ?_
                  refine lv_lconst (v := 1) hx hb dX9_link_109 (by decide) ?_
                  refine lv_aload_n hx hb dX9_link_110 rfl (lv_at hl 3 rfl) ?_
                  refine lv_aload_n hx hb dX9_link_111 rfl (lv_at hl 3 rfl) ?_
                  refine p_get (v := .ref (a 1)) (C := RX9) (Tc := TX9) (N := 5) (ci := 6) hx hb hq pin_wsX90 hown hE hP hO (by rw [hp1]; decide) (rep_7 hp1) rfl 0 (by decide) (hq _ pw_784) (fun _ h9 => h9) (congrArg (fun z => some (va_rf z)) hp2) dX9_link_112 ?_
                  refine lv_aload_n hx hb dX9_link_115 rfl (lv_at hl 1 rfl) ?_
                  refine p_get (v := .int (K4.2.1 20 d4)) (C := RX2) (Tc := TX2) (N := 13) (ci := 2) hx hb hq pin_wsX20 hown hE hP hO (by rw [hT4]; decide) (rep_4 hT4) rfl 5 (by decide) (hq _ pw_1107) (fun _ h9 => h9) rfl dX9_link_116 ?_
                  refine lv_iconst (v := 2) hx hb dX9_link_119 (by decide) ?_
                  refine lv_iload_n hx hb dX9_link_120 rfl (lv_at hl 0 rfl) ?_
                  refine lv_imul hx hb dX9_link_121 ?_
                  refine lv_topi (fun x129 e130 => ?_)
                  obtain rfl : x129 = nI (2 * i4) := e130.trans (nI_mulN (2) (i4))
                  refine lv_iadd hx hb dX9_link_122 ?_
                  refine lv_topi (fun x131 e132 => ?_)
                  have hO : OKW G h0 a (upd (upd F 2 (nI sz)) 2 (nI sz)) R Z B J K4.1 (fun q99 x99 => x99 = rep G a K4 q99) w := hO.to rfl
                  obtain ⟨_, qr136, hqr137⟩ := hO.2.1 2 _ (sg_2 G h0 a _ _ _ _ _)
                  refine pc_V0 (G := G) (As := [.int x131]) (rest := [.ref pq, .long 1, .long (K4.2.2.2.1 d4), .ref d4]) hx hb hml hown hq hE hX pX0_al hP hD hS hA hl.1 (K_valueAt l G h0 a (upd F 2 (nI sz)) R Z B J K4.1 (fun q99 x99 => x99 = rep G a K4 q99) w x131 sz (by omega) hO) (gV pw_785 pw_57 pw_58 pw_59 pw_39) hV_X10_valueAt qr136 7 hqr137 rfl rfl rfl (Nat.le_of_ble_eq_true rfl) dX9_link_123 ⟨Nat.le_of_ble_eq_true rfl, Nat.le_of_ble_eq_true rfl⟩ ⟨Nat.le_of_ble_eq_true rfl, Nat.le_of_ble_eq_true rfl⟩ (fun v135 u133 H locs hw134 hP hD hS => ?_)
                  obtain ⟨w, r138⟩ := u133
                  obtain ⟨hw134, hO⟩ := hw134
                  obtain rfl : v135 = some (.int r138) := hw134
                  have hO : OKP G h0 a (upd F 2 (nI sz)) R Z B J K4 w := hO.to rfl
                  refine W.widen (k := 0) (n := 0) (Nat.le_of_ble_eq_true rfl) (Nat.le_of_ble_eq_true rfl) ?_
                  refine W.eq (g2 := F0 m 126 ls [.int r138, .ref pq, .long 1, .long (K4.2.2.2.1 d4), .ref d4]) rfl ?_
                  have hO : OKP G h0 a (upd F 2 (nI sz)) R Z B J K4 w := hO.to rfl
                  obtain ⟨qr142, hqr143⟩ := p_recv hO (by rw [hp1]; decide) (rep_7 hp1)
                  refine pc_V0 (G := G) (As := [.int r138]) (rest := [.long 1, .long (K4.2.2.2.1 d4), .ref d4]) hx hb hml hown hq hE hX pX0_al hP hD hS hA hl.1 (G_find l G h0 a (upd F 2 (nI sz)) R Z B J K4 w pq dr ml nd r138 g hqp4.1 hqp4.2.1 hO) (gV pw_1102 pw_585 pw_586 pw_106 pw_509) hV_X9_find qr142 6 hqr143 rfl rfl rfl (Nat.le_of_ble_eq_true rfl) dX9_link_126 ⟨Nat.le_of_ble_eq_true rfl, Nat.le_of_ble_eq_true rfl⟩ ⟨Nat.le_of_ble_eq_true rfl, Nat.le_of_ble_eq_true rfl⟩ (fun v141 u139 H locs hw140 hP hD hS => ?_)
                  obtain ⟨w, r144⟩ := u139
                  obtain ⟨hw140, h145, hO⟩ := hw140
                  have h145 : FnQ r144 nd := h145
                  obtain rfl : v141 = some (.int r144) := hw140
                  have hO : OKP G h0 a (upd F 2 (nI sz)) R Z B J K4 w := hO.to rfl
                  refine W.widen (k := 0) (n := 0) (Nat.le_of_ble_eq_true rfl) (Nat.le_of_ble_eq_true rfl) ?_
                  refine W.eq (g2 := F0 m 129 ls [.int r144, .long 1, .long (K4.2.2.2.1 d4), .ref d4]) rfl ?_
                  refine lv_lshl hx hb dX9_link_129 rfl ?_
                  refine lv_topl (fun x146 e147 => ?_)
                  refine lv_lor hx hb dX9_link_130 ?_
                  refine lv_topl (fun x148 e149 => ?_)
                  refine p_put (v := .long x148) (ty := .long) (C := RX2) (Tc := TX2) (N := 13) (ci := 2) (K' := (kL K4 d4 x148)) hx hb hq pin_wsX20 tyX2 tyX2_ok nmX2 hown hE hP hD hS hO (by rw [hT4]; decide) (rep_4 hT4) rfl 10 (by decide) (hq _ pw_102) (fun _ h9 => h9) rfl (by decide +kernel) rfl rfl (Nat.le_of_ble_eq_true rfl) rfl (by rw [rep_4 (show (kL K4 d4 x148).1 d4 = 4 from hT4), pl_0] <;> rfl) (fun p9 hp9 => rep_kL hp9) dX9_link_131 (fun H locs w hP hD hS hO => ?_)
                  obtain ⟨K150, hK151⟩ : ∃ z : PK, z = (kL K4 d4 x148) := ⟨_, rfl⟩
                  rw [← hK151] at hO
                  have hf152 : K150.1 pq = 7 := (by rw [hK151]; exact hp1)
                  have hf153 : K150.2.2.1 18 pq = some (a 1) := (by rw [hK151]; exact hp2)
                  have hf154 : K150.2.2.1 14 pq = some dr := (by rw [hK151]; exact hp3)
                  have hf155 : K150.1 dr = 8 := (by rw [hK151]; exact hp4)
                  have hf156 : K150.2.2.1 15 pq = some ml := (by rw [hK151]; exact hp5)
                  have hf157 : K150.1 ml = 5 := (by rw [hK151]; exact hp6)
                  have hf158 : K150.2.1 24 pq = (nI nd) := (by rw [hK151]; exact hp8)
                  have hf159 : K150.1 d4 = 4 := (by rw [hK151]; exact hT4)
                  have hf160 : K150.2.1 21 d4 = lz4 := (by rw [hK151]; exact hlz4)
                  have hx9 : LkX K K150 := by rw [hK151]; exact LkX.kL hqx4
                  have hw9 : WPr G K150 g := by rw [hK151]; exact WPr.kL hqw4 hg4
                  have hp9 : PgT G K150 g (a 1) pq dr ml nd nm cp it s9 := by rw [hK151]; exact PgT.kL hqp4
                  have ha9 : AbF K150 dr nd (upL ab4 i2 x148) := by rw [hK151]; exact AbF.kL hqa4 hqp4.2.1 (by omega) (by omega) he4
                  have hb9 : PaB K150 dr nd (upL ab4 i2 x148) := by rw [hK151]; exact PaB.or hqb4 (Or.inl (fun b hb => by rw [e149, bitL_or]; exact Or.inl (by rw [hqa4 i2 (by omega) d4 he4]; exact hb)))
                  have hu9 : PaU K150 dr nd (i2 + 1) := by rw [hK151]; exact PaU.kL hpu4
                  have hz9 := Bi0.or (v := x148) hbi4 h79
                  have he9 : K150.2.2.2.2.1 dr i2 = some d4 := by rw [hK151]; exact he4
                  refine lv_iinc (v := (nI (i4 + 1))) (lv' := [(3, .int (nI (i4 + 1))), (2, .ref d4), (1, .int (nI i2)), (0, .ref pq)]) hx hb dX9_link_134 hl (k := 0) rfl (nI_1 i4) (by decide) rfl (fun ls hl => ?_)
                  refine lv_goto (tgt := 96) hx hb dX9_link_137 (by decide) ?_
                  have hO : OKP G h0 a (upd F 2 (nI sz)) R Z B J K150 w := hO.to rfl
                  exact ih_4 (i4 + 1) K150 (upL ab4 i2 x148) d4 lz4 _ _ _ _ (by omega) (by omega) hx9 hw9 hp9 ha9 hb9 hu9 hz9 hf159 hg4 hf160 he9 hlb4 h74 hP hD hS hO (lv_sub hl [0, 1, 2, 3] rfl)
            have hO : OKP G h0 a (upd F 2 (nI sz)) R Z B J K43 w := hO.to rfl
            exact loop_4 (bA + 1) 0 K43 (upL ab2 i2 1) dA lzA _ _ _ _ (by omega) (by omega) hx3 hw3 hp3 ha3 hb3 (PaU.up hu3) hz5 hf52 hgA2 hlzA (by skip; exact heA3) hbB (fun z => absurd z h7) hP hD hS hO (lv_sub hl [0, 1, 2, 3] rfl)
          · refine lv_aload_n hx hb dX9_link_29 rfl (lv_at hl 0 rfl) ?_
            refine lv_aload_n hx hb dX9_link_30 rfl (lv_at hl 0 rfl) ?_
            refine p_get (v := .int (K43.2.1 19 dA)) (C := RX2) (Tc := TX2) (N := 13) (ci := 2) hx hb hq pin_wsX20 hown hE hP hO (by rw [hf52]; decide) (rep_4 hf52) rfl 4 (by decide) (hq _ pw_1105) (fun _ h9 => h9) rfl dX9_link_31 ?_
            refine lv_iconst (v := (-1)) hx hb dX9_link_34 (by decide) ?_
            refine lv_icmp_ne (tgt := 47) hx hb dX9_link_35 (by decide) (fun c161 => ?_) (fun c161 => ?_)
            · refine lv_aload_n hx hb dX9_link_47 rfl (lv_at hl 2 rfl) ?_
              refine lv_aload_n hx hb dX9_link_48 rfl (lv_at hl 2 rfl) ?_
              refine lv_aload_n hx hb dX9_link_49 rfl (lv_at hl 2 rfl) ?_
              refine p_get (v := .ref (a 1)) (C := RX9) (Tc := TX9) (N := 5) (ci := 6) hx hb hq pin_wsX90 hown hE hP hO (by rw [hf45]; decide) (rep_7 hf45) rfl 0 (by decide) (hq _ pw_784) (fun _ h9 => h9) (congrArg (fun z => some (va_rf z)) hf46) dX9_link_50 ?_
              refine lv_aload_n hx hb dX9_link_53 rfl (lv_at hl 0 rfl) ?_
              refine p_get (v := .int (K43.2.1 19 dA)) (C := RX2) (Tc := TX2) (N := 13) (ci := 2) hx hb hq pin_wsX20 hown hE hP hO (by rw [hf52]; decide) (rep_4 hf52) rfl 4 (by decide) (hq _ pw_1105) (fun _ h9 => h9) rfl dX9_link_54 ?_
              have hO : OKW G h0 a (upd (upd F 2 (nI sz)) 2 (nI sz)) R Z B J K43.1 (fun q99 x99 => x99 = rep G a K43 q99) w := hO.to rfl
              obtain ⟨_, qr165, hqr166⟩ := hO.2.1 2 _ (sg_2 G h0 a _ _ _ _ _)
              refine pc_V0 (G := G) (As := [.int (K43.2.1 19 dA)]) (rest := [.ref pq, .ref pq, .ref dA]) hx hb hml hown hq hE hX pX0_al hP hD hS hA hl.1 (K_valueAt l G h0 a (upd F 2 (nI sz)) R Z B J K43.1 (fun q99 x99 => x99 = rep G a K43 q99) w (K43.2.1 19 dA) sz (by omega) hO) (gV pw_785 pw_57 pw_58 pw_59 pw_39) hV_X10_valueAt qr165 7 hqr166 rfl rfl rfl (Nat.le_of_ble_eq_true rfl) dX9_link_57 ⟨Nat.le_of_ble_eq_true rfl, Nat.le_of_ble_eq_true rfl⟩ ⟨Nat.le_of_ble_eq_true rfl, Nat.le_of_ble_eq_true rfl⟩ (fun v164 u162 H locs hw163 hP hD hS => ?_)
              obtain ⟨w, r167⟩ := u162
              obtain ⟨hw163, hO⟩ := hw163
              obtain rfl : v164 = some (.int r167) := hw163
              have hO : OKP G h0 a (upd F 2 (nI sz)) R Z B J K43 w := hO.to rfl
              refine W.widen (k := 0) (n := 0) (Nat.le_of_ble_eq_true rfl) (Nat.le_of_ble_eq_true rfl) ?_
              refine W.eq (g2 := F0 m 60 ls [.int r167, .ref pq, .ref pq, .ref dA]) rfl ?_
              have hO : OKP G h0 a (upd F 2 (nI sz)) R Z B J K43 w := hO.to rfl
              obtain ⟨qr171, hqr172⟩ := p_recv hO (by rw [hf45]; decide) (rep_7 hf45)
              refine pc_V0 (G := G) (As := [.int r167]) (rest := [.ref pq, .ref dA]) hx hb hml hown hq hE hX pX0_al hP hD hS hA hl.1 (G_find l G h0 a (upd F 2 (nI sz)) R Z B J K43 w pq dr ml nd r167 g hp3.1 hp3.2.1 hO) (gV pw_1102 pw_585 pw_586 pw_106 pw_509) hV_X9_find qr171 6 hqr172 rfl rfl rfl (Nat.le_of_ble_eq_true rfl) dX9_link_60 ⟨Nat.le_of_ble_eq_true rfl, Nat.le_of_ble_eq_true rfl⟩ ⟨Nat.le_of_ble_eq_true rfl, Nat.le_of_ble_eq_true rfl⟩ (fun v170 u168 H locs hw169 hP hD hS => ?_)
              obtain ⟨w, r173⟩ := u168
              obtain ⟨hw169, h174, hO⟩ := hw169
              have h174 : FnQ r173 nd := h174
              obtain rfl : v170 = some (.int r173) := hw169
              have hO : OKP G h0 a (upd F 2 (nI sz)) R Z B J K43 w := hO.to rfl
              refine W.widen (k := 0) (n := 0) (Nat.le_of_ble_eq_true rfl) (Nat.le_of_ble_eq_true rfl) ?_
              refine W.eq (g2 := F0 m 63 ls [.int r173, .ref pq, .ref dA]) rfl ?_
              have hO : OKP G h0 a (upd F 2 (nI sz)) R Z B J K43 w := hO.to rfl
              obtain ⟨qr178, hqr179⟩ := p_recv hO (by rw [hf45]; decide) (rep_7 hf45)
              refine pc_V0 (G := G) (As := [.int r173]) (rest := [.ref dA]) hx hb hml hown hq hE hX pX0_al hP hD hS hA hl.1 (G_decl l G h0 a (upd F 2 (nI sz)) R Z B J K43 w pq dr ml nd r173 g hp3.1 hp3.2.1 hO) (gV pw_1103 pw_182 pw_183 pw_106 pw_13) hV_X9_decl qr178 6 hqr179 rfl rfl rfl (Nat.le_of_ble_eq_true rfl) dX9_link_63 ⟨Nat.le_of_ble_eq_true rfl, Nat.le_of_ble_eq_true rfl⟩ ⟨Nat.le_of_ble_eq_true rfl, Nat.le_of_ble_eq_true rfl⟩ (fun v177 u175 H locs hw176 hP hD hS => ?_)
              obtain ⟨w, o180⟩ := u175
              obtain ⟨hw176, h181, h182, hO⟩ := hw176
              have h181 : DoN K43 o180 := h181
              have h182 : DoK K43 dr nd r173 o180 := h182
              obtain rfl : v177 = some ((va_rf o180)) := hw176
              have hO : OKP G h0 a (upd F 2 (nI sz)) R Z B J K43 w := hO.to rfl
              refine W.widen (k := 0) (n := 0) (Nat.le_of_ble_eq_true rfl) (Nat.le_of_ble_eq_true rfl) ?_
              refine W.eq (g2 := F0 m 66 ls [(va_rf o180), .ref dA]) rfl ?_
              rcases o180 with _ | d183
              · have hl : lv_has ls 4 [(2, .ref dA), (1, .int (nI i2)), (0, .ref pq)] := hl
                refine W.eq (g2 := F0 m 66 ls [.null, .ref dA]) rfl ?_
                refine p_put (v := .null) (ty := (.object "JinjaTongue$Decl")) (C := RX2) (Tc := TX2) (N := 13) (ci := 2) (K' := (kC K43 10 dA none)) hx hb hq pin_wsX20 tyX2 tyX2_ok nmX2 hown hE hP hD hS hO (by rw [hf52]; decide) (rep_4 hf52) rfl 9 (by decide) (hq _ pw_1138) (fun _ h9 => h9) rfl (by decide +kernel) rfl rfl (Nat.le_of_ble_eq_true rfl) rfl (by rw [rep_4 (show (kC K43 10 dA none).1 dA = 4 from hf52), pc_10] <;> rfl) (fun p9 hp9 => rep_kC hp9) dX9_link_66 (fun H locs w hP hD hS hO => ?_)
                obtain ⟨K184, hK185⟩ : ∃ z : PK, z = (kC K43 10 dA none) := ⟨_, rfl⟩
                rw [← hK185] at hO
                have hf186 : K184.1 pq = 7 := (by rw [hK185]; exact hf45)
                have hf187 : K184.2.2.1 18 pq = some (a 1) := (by rw [hK185]; exact (kC_of (by decide)).trans hf46)
                have hf188 : K184.2.2.1 14 pq = some dr := (by rw [hK185]; exact (kC_of (by decide)).trans hf47)
                have hf189 : K184.1 dr = 8 := (by rw [hK185]; exact hf48)
                have hf190 : K184.2.2.1 15 pq = some ml := (by rw [hK185]; exact (kC_of (by decide)).trans hf49)
                have hf191 : K184.1 ml = 5 := (by rw [hK185]; exact hf50)
                have hf192 : K184.2.1 24 pq = (nI nd) := (by rw [hK185]; exact hf51)
                have hf193 : K184.1 dA = 4 := (by rw [hK185]; exact hf52)
                have hf194 : K184.2.1 15 dA = (nI i2) := (by rw [hK185]; exact hf53)
                have hf195 : K184.2.1 21 dA = lzA := (by rw [hK185]; exact hlzA)
                have hf196 : K184.2.2.1 10 dA = none := by rw [hK185]; exact kC_eq
                have hx4 : LkX K K184 := by rw [hK185]; exact LkX.kC hx3
                have hw4 : WPr G K184 g := by rw [hK185]; exact WPr.par hw3 hgA2 (fun d h => by cases h)
                have hp4 : PgT G K184 g (a 1) pq dr ml nd nm cp it s9 := by rw [hK185]; exact PgT.kC hp3
                have ha4 : AbF K184 dr nd (upL ab2 i2 1) := by rw [hK185]; exact AbF.kC ha3
                have hu4 : PaU K184 dr nd (i2 + 1) := by rw [hK185]; exact PaU.kC hu3 hp3.2.1 (by omega) (by omega) heA3
                have hl4 : K184.2.2.2.1 dA = 1 := by rw [hK185]; exact hl3
                have hb4 : PaB K184 dr nd (upL ab2 i2 1) := by rw [hK185]; exact PaB.nul hb3
                refine lv_aload_n hx hb dX9_link_69 rfl (lv_at hl 0 rfl) ?_
                refine p_get (v := .null) (C := RX2) (Tc := TX2) (N := 13) (ci := 2) hx hb hq pin_wsX20 hown hE hP hO (by rw [hf193]; decide) (rep_4 hf193) rfl 9 (by decide) (hq _ pw_1138) (fun _ h9 => h9) (congrArg (fun z => some (va_rf z)) hf196) dX9_link_70 ?_
                refine lv_ifnullN (tgt := 94) hx hb dX9_link_73 (by decide) ?_
                have hz5 : Bi0 (upL ab2 i2 1) (i2 + 1) := Bi0.up2 hbi2 hi2 (fun z => absurd z h7)
                obtain ⟨bA, hbA, hbB⟩ := lz_bound lzA
                refine lv_iconst (v := 0) hx hb dX9_link_94 (by decide) ?_
                refine lv_istore_n (lv' := [(3, .int 0), (2, .ref dA), (1, .int (nI i2)), (0, .ref pq)]) hx hb dX9_link_95 rfl hl (by decide) rfl (fun ls hl => ?_)
                have loop_4 : ∀ (n_4 : Nat) (i4 : Nat) (K4 : PK) (ab4 : Nat → Int64) (d4 : Nat) (lz4 : Int32) (H : Heap) (locs : List Loc) (ls : Array Slot) (w : va_W), i4 ≤ bA → bA + 1 ≤ i4 + n_4 → (LkX K K4) → (WPr G K4 g) → (PgT G K4 g (a 1) pq dr ml nd nm cp it s9) → (AbF K4 dr nd ab4) → (PaB K4 dr nd ab4) → (PaU K4 dr nd (i2 + 1)) → (Bi0 ab4 (i2 + 1)) → (K4.1 d4 = 4) → (¬ g 5 d4 = 2) → (K4.2.1 21 d4 = lz4) → (K4.2.2.2.2.1 dr i2 = some d4) → (∀ i : Nat, i < 2147483648 → nI i < lz4 → i < bA) → (i2 < 7 → lz4 = 0) → va_P G.1 pCl w H → va_D A w → va_S A s.heap H locs → OKP G h0 a (upd F 2 (nI sz)) R Z B J K4 w → lv_has ls 4 [(3, .int (nI i4)), (2, .ref d4), (1, .int (nI i2)), (0, .ref pq)] → W p l e (headSpec (Cond.code yX9_link cX9_link 4 none :: pw) ({ frames := 3, cells := 0, slots := 0, locals := 82 } : Room)).room s m ([.ref pq] : List Value).toArray below meth c H locs 0 0 (MQ below (pQ G A (fun (v : Option Value) (u : va_W × (PK × (Nat → Int64))) => v = none ∧ (LkX K u.2.1) ∧ (WPr G u.2.1 g) ∧ (PgT G u.2.1 g (a 1) pq dr ml nd nm cp it s9) ∧ (AbF u.2.1 dr nd u.2.2) ∧ (PaB u.2.1 dr nd u.2.2) ∧ (WCl u.2.2 nd nd) ∧ (Bi0 u.2.2 7) ∧ (OKP G h0 a (upd F 2 (nI sz)) R Z B J u.2.1 u.1)) (fun u => u.1)) ([.ref pq] : List Value).toArray s ({ frames := 3, cells := 0, slots := 0, locals := 82 } : Room).cells ({ frames := 3, cells := 0, slots := 0, locals := 82 } : Room).slots A) (F0 m 96 ls []) := by
                  intro n_4
                  induction n_4 with
                  | zero => intro i4 K4 ab4 d4 lz4 H locs ls w hk_4 hn_4; omega
                  | succ n_4 ih_4 =>
                    intro i4 K4 ab4 d4 lz4 H locs ls w hk_4 hn_4 hqx4 hqw4 hqp4 hqa4 hqb4 hpu4 hbi4 hT4 hg4 hlz4 he4 hlb4 h74 hP hD hS hO hl
                    have hpx := hqp4.1
                    have hp1 := hpx.1
                    have hp2 := hpx.2.1
                    have hp3 := hpx.2.2.1
                    have hp4 := hpx.2.2.2.1
                    have hp5 := hpx.2.2.2.2.1
                    have hp6 := hpx.2.2.2.2.2.1
                    have hp8 := hpx.2.2.2.2.2.2.2.1
                    have hp9 := hpx.2.2.2.2.2.2.2.2
                    refine lv_iload_n hx hb dX9_link_96 rfl (lv_at hl 0 rfl) ?_
                    refine lv_aload_n hx hb dX9_link_97 rfl (lv_at hl 1 rfl) ?_
                    refine p_get (v := .int lz4) (C := RX2) (Tc := TX2) (N := 13) (ci := 2) hx hb hq pin_wsX20 hown hE hP hO (by rw [hT4]; decide) (rep_4 hT4) rfl 6 (by decide) (hq _ pw_1106) (fun _ h9 => h9) (congrArg (fun z => some (Value.int z)) hlz4) dX9_link_98 ?_
                    refine lv_icmp_ge (tgt := 140) hx hb dX9_link_101 (by decide) (fun c197 => ?_) (fun c197 => ?_)
                    · refine lv_iinc (v := (nI (i2 + 1))) (lv' := [(1, .int (nI (i2 + 1))), (3, .int (nI i4)), (2, .ref d4), (0, .ref pq)]) hx hb dX9_link_140 hl (k := 2) rfl (nI_1 i2) (by decide) rfl (fun ls hl => ?_)
                      refine lv_goto (tgt := 2) hx hb dX9_link_143 (by decide) ?_
                      have hO : OKP G h0 a (upd F 2 (nI sz)) R Z B J K4 w := hO.to rfl
                      exact ih_2 (i2 + 1) K4 ab4 _ _ _ _ (by omega) (by omega) hqx4 hqw4 hqp4 hqa4 hqb4 hpu4 hbi4 (by omega) hP hD hS hO (lv_sub hl [0, 3] rfl)
                    · have hi9 := hlb4 i4 (by omega) (Int32.not_le.mp c197)
                      have h79 : 7 ≤ i2 := Nat.le_of_not_lt (fun z => by rw [h74 z] at c197; exact c197 (nI_leI (a := 0) (b := i4) (by omega) (by omega) |>.mpr (by omega)))
                      refine lv_aload_n hx hb dX9_link_104 rfl (lv_at hl 1 rfl) ?_
                      refine lv_dup hx hb dX9_link_105 rfl ?_
                      refine p_get (v := .long (K4.2.2.2.1 d4)) (C := RX2) (Tc := TX2) (N := 13) (ci := 2) hx hb hq pin_wsX20 hown hE hP hO (by rw [hT4]; decide) (rep_4 hT4) rfl 10 (by decide) (hq _ pw_102) (fun _ h9 => h9) rfl dX9_link_106 ?_
                      refine lv_lconst (v := 1) hx hb dX9_link_109 (by decide) ?_
                      refine lv_aload_n hx hb dX9_link_110 rfl (lv_at hl 3 rfl) ?_
                      refine lv_aload_n hx hb dX9_link_111 rfl (lv_at hl 3 rfl) ?_
                      refine p_get (v := .ref (a 1)) (C := RX9) (Tc := TX9) (N := 5) (ci := 6) hx hb hq pin_wsX90 hown hE hP hO (by rw [hp1]; decide) (rep_7 hp1) rfl 0 (by decide) (hq _ pw_784) (fun _ h9 => h9) (congrArg (fun z => some (va_rf z)) hp2) dX9_link_112 ?_
                      refine lv_aload_n hx hb dX9_link_115 rfl (lv_at hl 1 rfl) ?_
                      refine p_get (v := .int (K4.2.1 20 d4)) (C := RX2) (Tc := TX2) (N := 13) (ci := 2) hx hb hq pin_wsX20 hown hE hP hO (by rw [hT4]; decide) (rep_4 hT4) rfl 5 (by decide) (hq _ pw_1107) (fun _ h9 => h9) rfl dX9_link_116 ?_
                      refine lv_iconst (v := 2) hx hb dX9_link_119 (by decide) ?_
                      refine lv_iload_n hx hb dX9_link_120 rfl (lv_at hl 0 rfl) ?_
                      refine lv_imul hx hb dX9_link_121 ?_
                      refine lv_topi (fun x198 e199 => ?_)
                      obtain rfl : x198 = nI (2 * i4) := e199.trans (nI_mulN (2) (i4))
                      refine lv_iadd hx hb dX9_link_122 ?_
                      refine lv_topi (fun x200 e201 => ?_)
                      have hO : OKW G h0 a (upd (upd F 2 (nI sz)) 2 (nI sz)) R Z B J K4.1 (fun q99 x99 => x99 = rep G a K4 q99) w := hO.to rfl
                      obtain ⟨_, qr205, hqr206⟩ := hO.2.1 2 _ (sg_2 G h0 a _ _ _ _ _)
                      refine pc_V0 (G := G) (As := [.int x200]) (rest := [.ref pq, .long 1, .long (K4.2.2.2.1 d4), .ref d4]) hx hb hml hown hq hE hX pX0_al hP hD hS hA hl.1 (K_valueAt l G h0 a (upd F 2 (nI sz)) R Z B J K4.1 (fun q99 x99 => x99 = rep G a K4 q99) w x200 sz (by omega) hO) (gV pw_785 pw_57 pw_58 pw_59 pw_39) hV_X10_valueAt qr205 7 hqr206 rfl rfl rfl (Nat.le_of_ble_eq_true rfl) dX9_link_123 ⟨Nat.le_of_ble_eq_true rfl, Nat.le_of_ble_eq_true rfl⟩ ⟨Nat.le_of_ble_eq_true rfl, Nat.le_of_ble_eq_true rfl⟩ (fun v204 u202 H locs hw203 hP hD hS => ?_)
                      obtain ⟨w, r207⟩ := u202
                      obtain ⟨hw203, hO⟩ := hw203
                      obtain rfl : v204 = some (.int r207) := hw203
                      have hO : OKP G h0 a (upd F 2 (nI sz)) R Z B J K4 w := hO.to rfl
                      refine W.widen (k := 0) (n := 0) (Nat.le_of_ble_eq_true rfl) (Nat.le_of_ble_eq_true rfl) ?_
                      refine W.eq (g2 := F0 m 126 ls [.int r207, .ref pq, .long 1, .long (K4.2.2.2.1 d4), .ref d4]) rfl ?_
                      have hO : OKP G h0 a (upd F 2 (nI sz)) R Z B J K4 w := hO.to rfl
                      obtain ⟨qr211, hqr212⟩ := p_recv hO (by rw [hp1]; decide) (rep_7 hp1)
                      refine pc_V0 (G := G) (As := [.int r207]) (rest := [.long 1, .long (K4.2.2.2.1 d4), .ref d4]) hx hb hml hown hq hE hX pX0_al hP hD hS hA hl.1 (G_find l G h0 a (upd F 2 (nI sz)) R Z B J K4 w pq dr ml nd r207 g hqp4.1 hqp4.2.1 hO) (gV pw_1102 pw_585 pw_586 pw_106 pw_509) hV_X9_find qr211 6 hqr212 rfl rfl rfl (Nat.le_of_ble_eq_true rfl) dX9_link_126 ⟨Nat.le_of_ble_eq_true rfl, Nat.le_of_ble_eq_true rfl⟩ ⟨Nat.le_of_ble_eq_true rfl, Nat.le_of_ble_eq_true rfl⟩ (fun v210 u208 H locs hw209 hP hD hS => ?_)
                      obtain ⟨w, r213⟩ := u208
                      obtain ⟨hw209, h214, hO⟩ := hw209
                      have h214 : FnQ r213 nd := h214
                      obtain rfl : v210 = some (.int r213) := hw209
                      have hO : OKP G h0 a (upd F 2 (nI sz)) R Z B J K4 w := hO.to rfl
                      refine W.widen (k := 0) (n := 0) (Nat.le_of_ble_eq_true rfl) (Nat.le_of_ble_eq_true rfl) ?_
                      refine W.eq (g2 := F0 m 129 ls [.int r213, .long 1, .long (K4.2.2.2.1 d4), .ref d4]) rfl ?_
                      refine lv_lshl hx hb dX9_link_129 rfl ?_
                      refine lv_topl (fun x215 e216 => ?_)
                      refine lv_lor hx hb dX9_link_130 ?_
                      refine lv_topl (fun x217 e218 => ?_)
                      refine p_put (v := .long x217) (ty := .long) (C := RX2) (Tc := TX2) (N := 13) (ci := 2) (K' := (kL K4 d4 x217)) hx hb hq pin_wsX20 tyX2 tyX2_ok nmX2 hown hE hP hD hS hO (by rw [hT4]; decide) (rep_4 hT4) rfl 10 (by decide) (hq _ pw_102) (fun _ h9 => h9) rfl (by decide +kernel) rfl rfl (Nat.le_of_ble_eq_true rfl) rfl (by rw [rep_4 (show (kL K4 d4 x217).1 d4 = 4 from hT4), pl_0] <;> rfl) (fun p9 hp9 => rep_kL hp9) dX9_link_131 (fun H locs w hP hD hS hO => ?_)
                      obtain ⟨K219, hK220⟩ : ∃ z : PK, z = (kL K4 d4 x217) := ⟨_, rfl⟩
                      rw [← hK220] at hO
                      have hf221 : K219.1 pq = 7 := (by rw [hK220]; exact hp1)
                      have hf222 : K219.2.2.1 18 pq = some (a 1) := (by rw [hK220]; exact hp2)
                      have hf223 : K219.2.2.1 14 pq = some dr := (by rw [hK220]; exact hp3)
                      have hf224 : K219.1 dr = 8 := (by rw [hK220]; exact hp4)
                      have hf225 : K219.2.2.1 15 pq = some ml := (by rw [hK220]; exact hp5)
                      have hf226 : K219.1 ml = 5 := (by rw [hK220]; exact hp6)
                      have hf227 : K219.2.1 24 pq = (nI nd) := (by rw [hK220]; exact hp8)
                      have hf228 : K219.1 d4 = 4 := (by rw [hK220]; exact hT4)
                      have hf229 : K219.2.1 21 d4 = lz4 := (by rw [hK220]; exact hlz4)
                      have hx9 : LkX K K219 := by rw [hK220]; exact LkX.kL hqx4
                      have hw9 : WPr G K219 g := by rw [hK220]; exact WPr.kL hqw4 hg4
                      have hp9 : PgT G K219 g (a 1) pq dr ml nd nm cp it s9 := by rw [hK220]; exact PgT.kL hqp4
                      have ha9 : AbF K219 dr nd (upL ab4 i2 x217) := by rw [hK220]; exact AbF.kL hqa4 hqp4.2.1 (by omega) (by omega) he4
                      have hb9 : PaB K219 dr nd (upL ab4 i2 x217) := by rw [hK220]; exact PaB.or hqb4 (Or.inl (fun b hb => by rw [e218, bitL_or]; exact Or.inl (by rw [hqa4 i2 (by omega) d4 he4]; exact hb)))
                      have hu9 : PaU K219 dr nd (i2 + 1) := by rw [hK220]; exact PaU.kL hpu4
                      have hz9 := Bi0.or (v := x217) hbi4 h79
                      have he9 : K219.2.2.2.2.1 dr i2 = some d4 := by rw [hK220]; exact he4
                      refine lv_iinc (v := (nI (i4 + 1))) (lv' := [(3, .int (nI (i4 + 1))), (2, .ref d4), (1, .int (nI i2)), (0, .ref pq)]) hx hb dX9_link_134 hl (k := 0) rfl (nI_1 i4) (by decide) rfl (fun ls hl => ?_)
                      refine lv_goto (tgt := 96) hx hb dX9_link_137 (by decide) ?_
                      have hO : OKP G h0 a (upd F 2 (nI sz)) R Z B J K219 w := hO.to rfl
                      exact ih_4 (i4 + 1) K219 (upL ab4 i2 x217) d4 lz4 _ _ _ _ (by omega) (by omega) hx9 hw9 hp9 ha9 hb9 hu9 hz9 hf228 hg4 hf229 he9 hlb4 h74 hP hD hS hO (lv_sub hl [0, 1, 2, 3] rfl)
                have hO : OKP G h0 a (upd F 2 (nI sz)) R Z B J K184 w := hO.to rfl
                exact loop_4 (bA + 1) 0 K184 (upL ab2 i2 1) dA lzA _ _ _ _ (by omega) (by omega) hx4 hw4 hp4 ha4 hb4 hu4 hz5 hf193 hgA2 hf195 (by rw [hK185]; exact heA3) hbB (fun z => absurd z h7) hP hD hS hO (lv_sub hl [0, 1, 2, 3] rfl)
              · have hl : lv_has ls 4 [(2, .ref dA), (1, .int (nI i2)), (0, .ref pq)] := hl
                refine W.eq (g2 := F0 m 66 ls [.ref d183, .ref dA]) rfl ?_
                obtain ⟨iP, hiP, _, heP⟩ := h182 d183 rfl
                have htP := h181 d183 rfl
                obtain ⟨dQ, heQ, _, hnQ, _⟩ := hp3.2.1 iP hiP
                rw [heP] at heQ
                cases heQ
                refine p_put (v := .ref d183) (ty := (.object "JinjaTongue$Decl")) (C := RX2) (Tc := TX2) (N := 13) (ci := 2) (K' := (kC K43 10 dA (some d183))) hx hb hq pin_wsX20 tyX2 tyX2_ok nmX2 hown hE hP hD hS hO (by rw [hf52]; decide) (rep_4 hf52) rfl 9 (by decide) (hq _ pw_1138) (fun _ h9 => h9) rfl (by decide +kernel) rfl rfl (Nat.le_of_ble_eq_true rfl) rfl (by rw [rep_4 (show (kC K43 10 dA (some d183)).1 dA = 4 from hf52), pc_10] <;> rfl) (fun p9 hp9 => rep_kC hp9) dX9_link_66 (fun H locs w hP hD hS hO => ?_)
                obtain ⟨K230, hK231⟩ : ∃ z : PK, z = (kC K43 10 dA (some d183)) := ⟨_, rfl⟩
                rw [← hK231] at hO
                have hf232 : K230.1 pq = 7 := (by rw [hK231]; exact hf45)
                have hf233 : K230.2.2.1 18 pq = some (a 1) := (by rw [hK231]; exact (kC_of (by decide)).trans hf46)
                have hf234 : K230.2.2.1 14 pq = some dr := (by rw [hK231]; exact (kC_of (by decide)).trans hf47)
                have hf235 : K230.1 dr = 8 := (by rw [hK231]; exact hf48)
                have hf236 : K230.2.2.1 15 pq = some ml := (by rw [hK231]; exact (kC_of (by decide)).trans hf49)
                have hf237 : K230.1 ml = 5 := (by rw [hK231]; exact hf50)
                have hf238 : K230.2.1 24 pq = (nI nd) := (by rw [hK231]; exact hf51)
                have hf239 : K230.1 dA = 4 := (by rw [hK231]; exact hf52)
                have hf240 : K230.2.1 15 dA = (nI i2) := (by rw [hK231]; exact hf53)
                have hf241 : K230.2.1 21 dA = lzA := (by rw [hK231]; exact hlzA)
                have hf242 : K230.1 d183 = 4 := (by rw [hK231]; exact htP)
                have hf243 : K230.2.1 15 d183 = (nI iP) := (by rw [hK231]; exact hnQ)
                have hf244 : K230.2.2.1 10 dA = some d183 := by rw [hK231]; exact kC_eq
                have hx4 : LkX K K230 := by rw [hK231]; exact LkX.kC hx3
                have hw4 : WPr G K230 g := by rw [hK231]; exact WPr.par hw3 hgA2 (fun d h => by cases h; exact htP)
                have hp4 : PgT G K230 g (a 1) pq dr ml nd nm cp it s9 := by rw [hK231]; exact PgT.kC hp3
                have ha4 : AbF K230 dr nd (upL ab2 i2 1) := by rw [hK231]; exact AbF.kC ha3
                have hu4 : PaU K230 dr nd (i2 + 1) := by rw [hK231]; exact PaU.kC hu3 hp3.2.1 (by omega) (by omega) heA3
                have hl4 : K230.2.2.2.1 dA = 1 := by rw [hK231]; exact hl3
                refine lv_aload_n hx hb dX9_link_69 rfl (lv_at hl 0 rfl) ?_
                refine p_get (v := .ref d183) (C := RX2) (Tc := TX2) (N := 13) (ci := 2) hx hb hq pin_wsX20 hown hE hP hO (by rw [hf239]; decide) (rep_4 hf239) rfl 9 (by decide) (hq _ pw_1138) (fun _ h9 => h9) (congrArg (fun z => some (va_rf z)) hf244) dX9_link_70 ?_
                refine lv_ifnull hx hb dX9_link_73 ?_
                refine lv_aload_n hx hb dX9_link_76 rfl (lv_at hl 0 rfl) ?_
                refine lv_dup hx hb dX9_link_77 rfl ?_
                refine p_get (v := .long (K230.2.2.2.1 dA)) (C := RX2) (Tc := TX2) (N := 13) (ci := 2) hx hb hq pin_wsX20 hown hE hP hO (by rw [hf239]; decide) (rep_4 hf239) rfl 10 (by decide) (hq _ pw_102) (fun _ h9 => h9) rfl dX9_link_78 ?_
                refine lv_lconst (v := 1) hx hb dX9_link_81 (by decide) ?_
                refine lv_aload_n hx hb dX9_link_82 rfl (lv_at hl 0 rfl) ?_
                refine p_get (v := .ref d183) (C := RX2) (Tc := TX2) (N := 13) (ci := 2) hx hb hq pin_wsX20 hown hE hP hO (by rw [hf239]; decide) (rep_4 hf239) rfl 9 (by decide) (hq _ pw_1138) (fun _ h9 => h9) (congrArg (fun z => some (va_rf z)) hf244) dX9_link_83 ?_
                refine p_get (v := .int (nI iP)) (C := RX2) (Tc := TX2) (N := 13) (ci := 2) hx hb hq pin_wsX20 hown hE hP hO (by rw [hf242]; decide) (rep_4 hf242) rfl 0 (by decide) (hq _ pw_1139) (fun _ h9 => h9) (congrArg (fun z => some (Value.int z)) hf243) dX9_link_86 ?_
                refine lv_lshl hx hb dX9_link_89 rfl ?_
                refine lv_topl (fun x245 e246 => ?_)
                refine lv_lor hx hb dX9_link_90 ?_
                refine lv_topl (fun x247 e248 => ?_)
                refine p_put (v := .long x247) (ty := .long) (C := RX2) (Tc := TX2) (N := 13) (ci := 2) (K' := (kL K230 dA x247)) hx hb hq pin_wsX20 tyX2 tyX2_ok nmX2 hown hE hP hD hS hO (by rw [hf239]; decide) (rep_4 hf239) rfl 10 (by decide) (hq _ pw_102) (fun _ h9 => h9) rfl (by decide +kernel) rfl rfl (Nat.le_of_ble_eq_true rfl) rfl (by rw [rep_4 (show (kL K230 dA x247).1 dA = 4 from hf239), pl_0] <;> rfl) (fun p9 hp9 => rep_kL hp9) dX9_link_91 (fun H locs w hP hD hS hO => ?_)
                obtain ⟨K249, hK250⟩ : ∃ z : PK, z = (kL K230 dA x247) := ⟨_, rfl⟩
                rw [← hK250] at hO
                have hf251 : K249.1 pq = 7 := (by rw [hK250]; exact hf232)
                have hf252 : K249.2.2.1 18 pq = some (a 1) := (by rw [hK250]; exact hf233)
                have hf253 : K249.2.2.1 14 pq = some dr := (by rw [hK250]; exact hf234)
                have hf254 : K249.1 dr = 8 := (by rw [hK250]; exact hf235)
                have hf255 : K249.2.2.1 15 pq = some ml := (by rw [hK250]; exact hf236)
                have hf256 : K249.1 ml = 5 := (by rw [hK250]; exact hf237)
                have hf257 : K249.2.1 24 pq = (nI nd) := (by rw [hK250]; exact hf238)
                have hf258 : K249.1 dA = 4 := (by rw [hK250]; exact hf239)
                have hf259 : K249.2.1 15 dA = (nI i2) := (by rw [hK250]; exact hf240)
                have hf260 : K249.2.1 21 dA = lzA := (by rw [hK250]; exact hf241)
                have hf261 : K249.1 d183 = 4 := (by rw [hK250]; exact hf242)
                have hf262 : K249.2.1 15 d183 = (nI iP) := (by rw [hK250]; exact hf243)
                have hf263 : K249.2.2.1 10 dA = some d183 := (by rw [hK250]; exact hf244)
                have hbp : bitL x247 iP := by rw [e248, bitL_or, e246]; exact Or.inr (bitL_shl iP (by omega))
                have hx5 : LkX K K249 := by rw [hK250]; exact LkX.kL hx4
                have hw5 : WPr G K249 g := by rw [hK250]; exact WPr.kL hw4 hgA2
                have hp5 : PgT G K249 g (a 1) pq dr ml nd nm cp it s9 := by rw [hK250]; exact PgT.kL hp4
                have heA4 : K230.2.2.2.2.1 dr i2 = some dA := by rw [hK231]; exact heA3
                have ha5 : AbF K249 dr nd (upL (upL ab2 i2 1) i2 x247) := by rw [hK250]; exact AbF.kL ha4 hp4.2.1 (by omega) (by omega) heA4
                have hb5 : PaB K249 dr nd (upL (upL ab2 i2 1) i2 x247) := by rw [hK250, hK231]; exact PaB.par hb3 hp3.2.1 (by omega) (by omega) heA3 (by omega) heP hbp
                have hu5 : PaU K249 dr nd (i2 + 1) := by rw [hK250]; exact PaU.kL hu4
                have hz5 := Bi0.up (v := x247) hz3 hi2 (fun z => absurd z h7)
                obtain ⟨bA, hbA, hbB⟩ := lz_bound lzA
                refine lv_iconst (v := 0) hx hb dX9_link_94 (by decide) ?_
                refine lv_istore_n (lv' := [(3, .int 0), (2, .ref dA), (1, .int (nI i2)), (0, .ref pq)]) hx hb dX9_link_95 rfl hl (by decide) rfl (fun ls hl => ?_)
                have loop_4 : ∀ (n_4 : Nat) (i4 : Nat) (K4 : PK) (ab4 : Nat → Int64) (d4 : Nat) (lz4 : Int32) (H : Heap) (locs : List Loc) (ls : Array Slot) (w : va_W), i4 ≤ bA → bA + 1 ≤ i4 + n_4 → (LkX K K4) → (WPr G K4 g) → (PgT G K4 g (a 1) pq dr ml nd nm cp it s9) → (AbF K4 dr nd ab4) → (PaB K4 dr nd ab4) → (PaU K4 dr nd (i2 + 1)) → (Bi0 ab4 (i2 + 1)) → (K4.1 d4 = 4) → (¬ g 5 d4 = 2) → (K4.2.1 21 d4 = lz4) → (K4.2.2.2.2.1 dr i2 = some d4) → (∀ i : Nat, i < 2147483648 → nI i < lz4 → i < bA) → (i2 < 7 → lz4 = 0) → va_P G.1 pCl w H → va_D A w → va_S A s.heap H locs → OKP G h0 a (upd F 2 (nI sz)) R Z B J K4 w → lv_has ls 4 [(3, .int (nI i4)), (2, .ref d4), (1, .int (nI i2)), (0, .ref pq)] → W p l e (headSpec (Cond.code yX9_link cX9_link 4 none :: pw) ({ frames := 3, cells := 0, slots := 0, locals := 82 } : Room)).room s m ([.ref pq] : List Value).toArray below meth c H locs 0 0 (MQ below (pQ G A (fun (v : Option Value) (u : va_W × (PK × (Nat → Int64))) => v = none ∧ (LkX K u.2.1) ∧ (WPr G u.2.1 g) ∧ (PgT G u.2.1 g (a 1) pq dr ml nd nm cp it s9) ∧ (AbF u.2.1 dr nd u.2.2) ∧ (PaB u.2.1 dr nd u.2.2) ∧ (WCl u.2.2 nd nd) ∧ (Bi0 u.2.2 7) ∧ (OKP G h0 a (upd F 2 (nI sz)) R Z B J u.2.1 u.1)) (fun u => u.1)) ([.ref pq] : List Value).toArray s ({ frames := 3, cells := 0, slots := 0, locals := 82 } : Room).cells ({ frames := 3, cells := 0, slots := 0, locals := 82 } : Room).slots A) (F0 m 96 ls []) := by
                  intro n_4
                  induction n_4 with
                  | zero => intro i4 K4 ab4 d4 lz4 H locs ls w hk_4 hn_4; omega
                  | succ n_4 ih_4 =>
                    intro i4 K4 ab4 d4 lz4 H locs ls w hk_4 hn_4 hqx4 hqw4 hqp4 hqa4 hqb4 hpu4 hbi4 hT4 hg4 hlz4 he4 hlb4 h74 hP hD hS hO hl
                    have hpx := hqp4.1
                    have hp1 := hpx.1
                    have hp2 := hpx.2.1
                    have hp3 := hpx.2.2.1
                    have hp4 := hpx.2.2.2.1
                    have hp5 := hpx.2.2.2.2.1
                    have hp6 := hpx.2.2.2.2.2.1
                    have hp8 := hpx.2.2.2.2.2.2.2.1
                    have hp9 := hpx.2.2.2.2.2.2.2.2
                    refine lv_iload_n hx hb dX9_link_96 rfl (lv_at hl 0 rfl) ?_
                    refine lv_aload_n hx hb dX9_link_97 rfl (lv_at hl 1 rfl) ?_
                    refine p_get (v := .int lz4) (C := RX2) (Tc := TX2) (N := 13) (ci := 2) hx hb hq pin_wsX20 hown hE hP hO (by rw [hT4]; decide) (rep_4 hT4) rfl 6 (by decide) (hq _ pw_1106) (fun _ h9 => h9) (congrArg (fun z => some (Value.int z)) hlz4) dX9_link_98 ?_
                    refine lv_icmp_ge (tgt := 140) hx hb dX9_link_101 (by decide) (fun c264 => ?_) (fun c264 => ?_)
                    · refine lv_iinc (v := (nI (i2 + 1))) (lv' := [(1, .int (nI (i2 + 1))), (3, .int (nI i4)), (2, .ref d4), (0, .ref pq)]) hx hb dX9_link_140 hl (k := 2) rfl (nI_1 i2) (by decide) rfl (fun ls hl => ?_)
                      refine lv_goto (tgt := 2) hx hb dX9_link_143 (by decide) ?_
                      have hO : OKP G h0 a (upd F 2 (nI sz)) R Z B J K4 w := hO.to rfl
                      exact ih_2 (i2 + 1) K4 ab4 _ _ _ _ (by omega) (by omega) hqx4 hqw4 hqp4 hqa4 hqb4 hpu4 hbi4 (by omega) hP hD hS hO (lv_sub hl [0, 3] rfl)
                    · have hi9 := hlb4 i4 (by omega) (Int32.not_le.mp c264)
                      have h79 : 7 ≤ i2 := Nat.le_of_not_lt (fun z => by rw [h74 z] at c264; exact c264 (nI_leI (a := 0) (b := i4) (by omega) (by omega) |>.mpr (by omega)))
                      refine lv_aload_n hx hb dX9_link_104 rfl (lv_at hl 1 rfl) ?_
                      refine lv_dup hx hb dX9_link_105 rfl ?_
                      refine p_get (v := .long (K4.2.2.2.1 d4)) (C := RX2) (Tc := TX2) (N := 13) (ci := 2) hx hb hq pin_wsX20 hown hE hP hO (by rw [hT4]; decide) (rep_4 hT4) rfl 10 (by decide) (hq _ pw_102) (fun _ h9 => h9) rfl dX9_link_106 ?_
                      refine lv_lconst (v := 1) hx hb dX9_link_109 (by decide) ?_
                      refine lv_aload_n hx hb dX9_link_110 rfl (lv_at hl 3 rfl) ?_
                      refine lv_aload_n hx hb dX9_link_111 rfl (lv_at hl 3 rfl) ?_
                      refine p_get (v := .ref (a 1)) (C := RX9) (Tc := TX9) (N := 5) (ci := 6) hx hb hq pin_wsX90 hown hE hP hO (by rw [hp1]; decide) (rep_7 hp1) rfl 0 (by decide) (hq _ pw_784) (fun _ h9 => h9) (congrArg (fun z => some (va_rf z)) hp2) dX9_link_112 ?_
                      refine lv_aload_n hx hb dX9_link_115 rfl (lv_at hl 1 rfl) ?_
                      refine p_get (v := .int (K4.2.1 20 d4)) (C := RX2) (Tc := TX2) (N := 13) (ci := 2) hx hb hq pin_wsX20 hown hE hP hO (by rw [hT4]; decide) (rep_4 hT4) rfl 5 (by decide) (hq _ pw_1107) (fun _ h9 => h9) rfl dX9_link_116 ?_
                      refine lv_iconst (v := 2) hx hb dX9_link_119 (by decide) ?_
                      refine lv_iload_n hx hb dX9_link_120 rfl (lv_at hl 0 rfl) ?_
                      refine lv_imul hx hb dX9_link_121 ?_
                      refine lv_topi (fun x265 e266 => ?_)
                      obtain rfl : x265 = nI (2 * i4) := e266.trans (nI_mulN (2) (i4))
                      refine lv_iadd hx hb dX9_link_122 ?_
                      refine lv_topi (fun x267 e268 => ?_)
                      have hO : OKW G h0 a (upd (upd F 2 (nI sz)) 2 (nI sz)) R Z B J K4.1 (fun q99 x99 => x99 = rep G a K4 q99) w := hO.to rfl
                      obtain ⟨_, qr272, hqr273⟩ := hO.2.1 2 _ (sg_2 G h0 a _ _ _ _ _)
                      refine pc_V0 (G := G) (As := [.int x267]) (rest := [.ref pq, .long 1, .long (K4.2.2.2.1 d4), .ref d4]) hx hb hml hown hq hE hX pX0_al hP hD hS hA hl.1 (K_valueAt l G h0 a (upd F 2 (nI sz)) R Z B J K4.1 (fun q99 x99 => x99 = rep G a K4 q99) w x267 sz (by omega) hO) (gV pw_785 pw_57 pw_58 pw_59 pw_39) hV_X10_valueAt qr272 7 hqr273 rfl rfl rfl (Nat.le_of_ble_eq_true rfl) dX9_link_123 ⟨Nat.le_of_ble_eq_true rfl, Nat.le_of_ble_eq_true rfl⟩ ⟨Nat.le_of_ble_eq_true rfl, Nat.le_of_ble_eq_true rfl⟩ (fun v271 u269 H locs hw270 hP hD hS => ?_)
                      obtain ⟨w, r274⟩ := u269
                      obtain ⟨hw270, hO⟩ := hw270
                      obtain rfl : v271 = some (.int r274) := hw270
                      have hO : OKP G h0 a (upd F 2 (nI sz)) R Z B J K4 w := hO.to rfl
                      refine W.widen (k := 0) (n := 0) (Nat.le_of_ble_eq_true rfl) (Nat.le_of_ble_eq_true rfl) ?_
                      refine W.eq (g2 := F0 m 126 ls [.int r274, .ref pq, .long 1, .long (K4.2.2.2.1 d4), .ref d4]) rfl ?_
                      have hO : OKP G h0 a (upd F 2 (nI sz)) R Z B J K4 w := hO.to rfl
                      obtain ⟨qr278, hqr279⟩ := p_recv hO (by rw [hp1]; decide) (rep_7 hp1)
                      refine pc_V0 (G := G) (As := [.int r274]) (rest := [.long 1, .long (K4.2.2.2.1 d4), .ref d4]) hx hb hml hown hq hE hX pX0_al hP hD hS hA hl.1 (G_find l G h0 a (upd F 2 (nI sz)) R Z B J K4 w pq dr ml nd r274 g hqp4.1 hqp4.2.1 hO) (gV pw_1102 pw_585 pw_586 pw_106 pw_509) hV_X9_find qr278 6 hqr279 rfl rfl rfl (Nat.le_of_ble_eq_true rfl) dX9_link_126 ⟨Nat.le_of_ble_eq_true rfl, Nat.le_of_ble_eq_true rfl⟩ ⟨Nat.le_of_ble_eq_true rfl, Nat.le_of_ble_eq_true rfl⟩ (fun v277 u275 H locs hw276 hP hD hS => ?_)
                      obtain ⟨w, r280⟩ := u275
                      obtain ⟨hw276, h281, hO⟩ := hw276
                      have h281 : FnQ r280 nd := h281
                      obtain rfl : v277 = some (.int r280) := hw276
                      have hO : OKP G h0 a (upd F 2 (nI sz)) R Z B J K4 w := hO.to rfl
                      refine W.widen (k := 0) (n := 0) (Nat.le_of_ble_eq_true rfl) (Nat.le_of_ble_eq_true rfl) ?_
                      refine W.eq (g2 := F0 m 129 ls [.int r280, .long 1, .long (K4.2.2.2.1 d4), .ref d4]) rfl ?_
                      refine lv_lshl hx hb dX9_link_129 rfl ?_
                      refine lv_topl (fun x282 e283 => ?_)
                      refine lv_lor hx hb dX9_link_130 ?_
                      refine lv_topl (fun x284 e285 => ?_)
                      refine p_put (v := .long x284) (ty := .long) (C := RX2) (Tc := TX2) (N := 13) (ci := 2) (K' := (kL K4 d4 x284)) hx hb hq pin_wsX20 tyX2 tyX2_ok nmX2 hown hE hP hD hS hO (by rw [hT4]; decide) (rep_4 hT4) rfl 10 (by decide) (hq _ pw_102) (fun _ h9 => h9) rfl (by decide +kernel) rfl rfl (Nat.le_of_ble_eq_true rfl) rfl (by rw [rep_4 (show (kL K4 d4 x284).1 d4 = 4 from hT4), pl_0] <;> rfl) (fun p9 hp9 => rep_kL hp9) dX9_link_131 (fun H locs w hP hD hS hO => ?_)
                      obtain ⟨K286, hK287⟩ : ∃ z : PK, z = (kL K4 d4 x284) := ⟨_, rfl⟩
                      rw [← hK287] at hO
                      have hf288 : K286.1 pq = 7 := (by rw [hK287]; exact hp1)
                      have hf289 : K286.2.2.1 18 pq = some (a 1) := (by rw [hK287]; exact hp2)
                      have hf290 : K286.2.2.1 14 pq = some dr := (by rw [hK287]; exact hp3)
                      have hf291 : K286.1 dr = 8 := (by rw [hK287]; exact hp4)
                      have hf292 : K286.2.2.1 15 pq = some ml := (by rw [hK287]; exact hp5)
                      have hf293 : K286.1 ml = 5 := (by rw [hK287]; exact hp6)
                      have hf294 : K286.2.1 24 pq = (nI nd) := (by rw [hK287]; exact hp8)
                      have hf295 : K286.1 d4 = 4 := (by rw [hK287]; exact hT4)
                      have hf296 : K286.2.1 21 d4 = lz4 := (by rw [hK287]; exact hlz4)
                      have hx9 : LkX K K286 := by rw [hK287]; exact LkX.kL hqx4
                      have hw9 : WPr G K286 g := by rw [hK287]; exact WPr.kL hqw4 hg4
                      have hp9 : PgT G K286 g (a 1) pq dr ml nd nm cp it s9 := by rw [hK287]; exact PgT.kL hqp4
                      have ha9 : AbF K286 dr nd (upL ab4 i2 x284) := by rw [hK287]; exact AbF.kL hqa4 hqp4.2.1 (by omega) (by omega) he4
                      have hb9 : PaB K286 dr nd (upL ab4 i2 x284) := by rw [hK287]; exact PaB.or hqb4 (Or.inl (fun b hb => by rw [e285, bitL_or]; exact Or.inl (by rw [hqa4 i2 (by omega) d4 he4]; exact hb)))
                      have hu9 : PaU K286 dr nd (i2 + 1) := by rw [hK287]; exact PaU.kL hpu4
                      have hz9 := Bi0.or (v := x284) hbi4 h79
                      have he9 : K286.2.2.2.2.1 dr i2 = some d4 := by rw [hK287]; exact he4
                      refine lv_iinc (v := (nI (i4 + 1))) (lv' := [(3, .int (nI (i4 + 1))), (2, .ref d4), (1, .int (nI i2)), (0, .ref pq)]) hx hb dX9_link_134 hl (k := 0) rfl (nI_1 i4) (by decide) rfl (fun ls hl => ?_)
                      refine lv_goto (tgt := 96) hx hb dX9_link_137 (by decide) ?_
                      have hO : OKP G h0 a (upd F 2 (nI sz)) R Z B J K286 w := hO.to rfl
                      exact ih_4 (i4 + 1) K286 (upL ab4 i2 x284) d4 lz4 _ _ _ _ (by omega) (by omega) hx9 hw9 hp9 ha9 hb9 hu9 hz9 hf295 hg4 hf296 he9 hlb4 h74 hP hD hS hO (lv_sub hl [0, 1, 2, 3] rfl)
                have hO : OKP G h0 a (upd F 2 (nI sz)) R Z B J K249 w := hO.to rfl
                exact loop_4 (bA + 1) 0 K249 (upL (upL ab2 i2 1) i2 x247) dA lzA _ _ _ _ (by omega) (by omega) hx5 hw5 hp5 ha5 hb5 hu5 hz5 hf258 hgA2 hf260 (by rw [hK250, hK231]; exact heA3) hbB (fun z => absurd z h7) hP hD hS hO (lv_sub hl [0, 1, 2, 3] rfl)
            · refine lv_aload_n hx hb dX9_link_38 rfl (lv_at hl 2 rfl) ?_
              refine p_get (v := .ref dr) (C := RX9) (Tc := TX9) (N := 5) (ci := 6) hx hb hq pin_wsX90 hown hE hP hO (by rw [hf45]; decide) (rep_7 hf45) rfl 1 (by decide) (hq _ pw_15) (fun _ h9 => h9) (congrArg (fun z => some (va_rf z)) hf47) dX9_link_39 ?_
              refine lv_iconst (v := 0) hx hb dX9_link_42 (by decide) ?_
              refine W.eq (g2 := F0 m 43 ls [.int (nI 0), .ref dr, .ref dA]) rfl ?_
              refine p_ald8 hx hb hE hP hO hf48 (vp_in_nI (by omega) (by omega)) dX9_link_43 ?_
              rw [nI_clamp (show 0 < 2 ^ 31 by omega)]
              obtain ⟨dP, heP, htP, hnP, hgP⟩ := hp3.2.1 0 (by omega)
              rw [heP]
              refine W.eq (g2 := F0 m 44 ls [.ref dP, .ref dA]) rfl ?_
              refine lv_goto (tgt := 66) hx hb dX9_link_44 (by decide) ?_
              refine p_put (v := .ref dP) (ty := (.object "JinjaTongue$Decl")) (C := RX2) (Tc := TX2) (N := 13) (ci := 2) (K' := (kC K43 10 dA (some dP))) hx hb hq pin_wsX20 tyX2 tyX2_ok nmX2 hown hE hP hD hS hO (by rw [hf52]; decide) (rep_4 hf52) rfl 9 (by decide) (hq _ pw_1138) (fun _ h9 => h9) rfl (by decide +kernel) rfl rfl (Nat.le_of_ble_eq_true rfl) rfl (by rw [rep_4 (show (kC K43 10 dA (some dP)).1 dA = 4 from hf52), pc_10] <;> rfl) (fun p9 hp9 => rep_kC hp9) dX9_link_66 (fun H locs w hP hD hS hO => ?_)
              obtain ⟨K297, hK298⟩ : ∃ z : PK, z = (kC K43 10 dA (some dP)) := ⟨_, rfl⟩
              rw [← hK298] at hO
              have hf299 : K297.1 pq = 7 := (by rw [hK298]; exact hf45)
              have hf300 : K297.2.2.1 18 pq = some (a 1) := (by rw [hK298]; exact (kC_of (by decide)).trans hf46)
              have hf301 : K297.2.2.1 14 pq = some dr := (by rw [hK298]; exact (kC_of (by decide)).trans hf47)
              have hf302 : K297.1 dr = 8 := (by rw [hK298]; exact hf48)
              have hf303 : K297.2.2.1 15 pq = some ml := (by rw [hK298]; exact (kC_of (by decide)).trans hf49)
              have hf304 : K297.1 ml = 5 := (by rw [hK298]; exact hf50)
              have hf305 : K297.2.1 24 pq = (nI nd) := (by rw [hK298]; exact hf51)
              have hf306 : K297.1 dA = 4 := (by rw [hK298]; exact hf52)
              have hf307 : K297.2.1 15 dA = (nI i2) := (by rw [hK298]; exact hf53)
              have hf308 : K297.2.1 21 dA = lzA := (by rw [hK298]; exact hlzA)
              have hf309 : K297.1 dP = 4 := (by rw [hK298]; exact htP)
              have hf310 : K297.2.1 15 dP = (nI 0) := (by rw [hK298]; exact hnP)
              have hf311 : K297.2.2.1 10 dA = some dP := by rw [hK298]; exact kC_eq
              have hx4 : LkX K K297 := by rw [hK298]; exact LkX.kC hx3
              have hw4 : WPr G K297 g := by rw [hK298]; exact WPr.par hw3 hgA2 (fun d h => by cases h; exact htP)
              have hp4 : PgT G K297 g (a 1) pq dr ml nd nm cp it s9 := by rw [hK298]; exact PgT.kC hp3
              have ha4 : AbF K297 dr nd (upL ab2 i2 1) := by rw [hK298]; exact AbF.kC ha3
              have hu4 : PaU K297 dr nd (i2 + 1) := by rw [hK298]; exact PaU.kC hu3 hp3.2.1 (by omega) (by omega) heA3
              have hl4 : K297.2.2.2.1 dA = 1 := by rw [hK298]; exact hl3
              refine lv_aload_n hx hb dX9_link_69 rfl (lv_at hl 0 rfl) ?_
              refine p_get (v := .ref dP) (C := RX2) (Tc := TX2) (N := 13) (ci := 2) hx hb hq pin_wsX20 hown hE hP hO (by rw [hf306]; decide) (rep_4 hf306) rfl 9 (by decide) (hq _ pw_1138) (fun _ h9 => h9) (congrArg (fun z => some (va_rf z)) hf311) dX9_link_70 ?_
              refine lv_ifnull hx hb dX9_link_73 ?_
              refine lv_aload_n hx hb dX9_link_76 rfl (lv_at hl 0 rfl) ?_
              refine lv_dup hx hb dX9_link_77 rfl ?_
              refine p_get (v := .long (K297.2.2.2.1 dA)) (C := RX2) (Tc := TX2) (N := 13) (ci := 2) hx hb hq pin_wsX20 hown hE hP hO (by rw [hf306]; decide) (rep_4 hf306) rfl 10 (by decide) (hq _ pw_102) (fun _ h9 => h9) rfl dX9_link_78 ?_
              refine lv_lconst (v := 1) hx hb dX9_link_81 (by decide) ?_
              refine lv_aload_n hx hb dX9_link_82 rfl (lv_at hl 0 rfl) ?_
              refine p_get (v := .ref dP) (C := RX2) (Tc := TX2) (N := 13) (ci := 2) hx hb hq pin_wsX20 hown hE hP hO (by rw [hf306]; decide) (rep_4 hf306) rfl 9 (by decide) (hq _ pw_1138) (fun _ h9 => h9) (congrArg (fun z => some (va_rf z)) hf311) dX9_link_83 ?_
              refine p_get (v := .int (nI 0)) (C := RX2) (Tc := TX2) (N := 13) (ci := 2) hx hb hq pin_wsX20 hown hE hP hO (by rw [hf309]; decide) (rep_4 hf309) rfl 0 (by decide) (hq _ pw_1139) (fun _ h9 => h9) (congrArg (fun z => some (Value.int z)) hf310) dX9_link_86 ?_
              refine lv_lshl hx hb dX9_link_89 rfl ?_
              refine lv_topl (fun x312 e313 => ?_)
              refine lv_lor hx hb dX9_link_90 ?_
              refine lv_topl (fun x314 e315 => ?_)
              refine p_put (v := .long x314) (ty := .long) (C := RX2) (Tc := TX2) (N := 13) (ci := 2) (K' := (kL K297 dA x314)) hx hb hq pin_wsX20 tyX2 tyX2_ok nmX2 hown hE hP hD hS hO (by rw [hf306]; decide) (rep_4 hf306) rfl 10 (by decide) (hq _ pw_102) (fun _ h9 => h9) rfl (by decide +kernel) rfl rfl (Nat.le_of_ble_eq_true rfl) rfl (by rw [rep_4 (show (kL K297 dA x314).1 dA = 4 from hf306), pl_0] <;> rfl) (fun p9 hp9 => rep_kL hp9) dX9_link_91 (fun H locs w hP hD hS hO => ?_)
              obtain ⟨K316, hK317⟩ : ∃ z : PK, z = (kL K297 dA x314) := ⟨_, rfl⟩
              rw [← hK317] at hO
              have hf318 : K316.1 pq = 7 := (by rw [hK317]; exact hf299)
              have hf319 : K316.2.2.1 18 pq = some (a 1) := (by rw [hK317]; exact hf300)
              have hf320 : K316.2.2.1 14 pq = some dr := (by rw [hK317]; exact hf301)
              have hf321 : K316.1 dr = 8 := (by rw [hK317]; exact hf302)
              have hf322 : K316.2.2.1 15 pq = some ml := (by rw [hK317]; exact hf303)
              have hf323 : K316.1 ml = 5 := (by rw [hK317]; exact hf304)
              have hf324 : K316.2.1 24 pq = (nI nd) := (by rw [hK317]; exact hf305)
              have hf325 : K316.1 dA = 4 := (by rw [hK317]; exact hf306)
              have hf326 : K316.2.1 15 dA = (nI i2) := (by rw [hK317]; exact hf307)
              have hf327 : K316.2.1 21 dA = lzA := (by rw [hK317]; exact hf308)
              have hf328 : K316.1 dP = 4 := (by rw [hK317]; exact hf309)
              have hf329 : K316.2.1 15 dP = (nI 0) := (by rw [hK317]; exact hf310)
              have hf330 : K316.2.2.1 10 dA = some dP := (by rw [hK317]; exact hf311)
              have hbp : bitL x314 0 := by rw [e315, bitL_or, e313]; exact Or.inr (bitL_shl 0 (by omega))
              have hx5 : LkX K K316 := by rw [hK317]; exact LkX.kL hx4
              have hw5 : WPr G K316 g := by rw [hK317]; exact WPr.kL hw4 hgA2
              have hp5 : PgT G K316 g (a 1) pq dr ml nd nm cp it s9 := by rw [hK317]; exact PgT.kL hp4
              have heA4 : K297.2.2.2.2.1 dr i2 = some dA := by rw [hK298]; exact heA3
              have ha5 : AbF K316 dr nd (upL (upL ab2 i2 1) i2 x314) := by rw [hK317]; exact AbF.kL ha4 hp4.2.1 (by omega) (by omega) heA4
              have hb5 : PaB K316 dr nd (upL (upL ab2 i2 1) i2 x314) := by rw [hK317, hK298]; exact PaB.par hb3 hp3.2.1 (by omega) (by omega) heA3 (by omega) heP hbp
              have hu5 : PaU K316 dr nd (i2 + 1) := by rw [hK317]; exact PaU.kL hu4
              have hz5 := Bi0.up (v := x314) hz3 hi2 (fun z => absurd z h7)
              obtain ⟨bA, hbA, hbB⟩ := lz_bound lzA
              refine lv_iconst (v := 0) hx hb dX9_link_94 (by decide) ?_
              refine lv_istore_n (lv' := [(3, .int 0), (2, .ref dA), (1, .int (nI i2)), (0, .ref pq)]) hx hb dX9_link_95 rfl hl (by decide) rfl (fun ls hl => ?_)
              have loop_4 : ∀ (n_4 : Nat) (i4 : Nat) (K4 : PK) (ab4 : Nat → Int64) (d4 : Nat) (lz4 : Int32) (H : Heap) (locs : List Loc) (ls : Array Slot) (w : va_W), i4 ≤ bA → bA + 1 ≤ i4 + n_4 → (LkX K K4) → (WPr G K4 g) → (PgT G K4 g (a 1) pq dr ml nd nm cp it s9) → (AbF K4 dr nd ab4) → (PaB K4 dr nd ab4) → (PaU K4 dr nd (i2 + 1)) → (Bi0 ab4 (i2 + 1)) → (K4.1 d4 = 4) → (¬ g 5 d4 = 2) → (K4.2.1 21 d4 = lz4) → (K4.2.2.2.2.1 dr i2 = some d4) → (∀ i : Nat, i < 2147483648 → nI i < lz4 → i < bA) → (i2 < 7 → lz4 = 0) → va_P G.1 pCl w H → va_D A w → va_S A s.heap H locs → OKP G h0 a (upd F 2 (nI sz)) R Z B J K4 w → lv_has ls 4 [(3, .int (nI i4)), (2, .ref d4), (1, .int (nI i2)), (0, .ref pq)] → W p l e (headSpec (Cond.code yX9_link cX9_link 4 none :: pw) ({ frames := 3, cells := 0, slots := 0, locals := 82 } : Room)).room s m ([.ref pq] : List Value).toArray below meth c H locs 0 0 (MQ below (pQ G A (fun (v : Option Value) (u : va_W × (PK × (Nat → Int64))) => v = none ∧ (LkX K u.2.1) ∧ (WPr G u.2.1 g) ∧ (PgT G u.2.1 g (a 1) pq dr ml nd nm cp it s9) ∧ (AbF u.2.1 dr nd u.2.2) ∧ (PaB u.2.1 dr nd u.2.2) ∧ (WCl u.2.2 nd nd) ∧ (Bi0 u.2.2 7) ∧ (OKP G h0 a (upd F 2 (nI sz)) R Z B J u.2.1 u.1)) (fun u => u.1)) ([.ref pq] : List Value).toArray s ({ frames := 3, cells := 0, slots := 0, locals := 82 } : Room).cells ({ frames := 3, cells := 0, slots := 0, locals := 82 } : Room).slots A) (F0 m 96 ls []) := by
                intro n_4
                induction n_4 with
                | zero => intro i4 K4 ab4 d4 lz4 H locs ls w hk_4 hn_4; omega
                | succ n_4 ih_4 =>
                  intro i4 K4 ab4 d4 lz4 H locs ls w hk_4 hn_4 hqx4 hqw4 hqp4 hqa4 hqb4 hpu4 hbi4 hT4 hg4 hlz4 he4 hlb4 h74 hP hD hS hO hl
                  have hpx := hqp4.1
                  have hp1 := hpx.1
                  have hp2 := hpx.2.1
                  have hp3 := hpx.2.2.1
                  have hp4 := hpx.2.2.2.1
                  have hp5 := hpx.2.2.2.2.1
                  have hp6 := hpx.2.2.2.2.2.1
                  have hp8 := hpx.2.2.2.2.2.2.2.1
                  have hp9 := hpx.2.2.2.2.2.2.2.2
                  refine lv_iload_n hx hb dX9_link_96 rfl (lv_at hl 0 rfl) ?_
                  refine lv_aload_n hx hb dX9_link_97 rfl (lv_at hl 1 rfl) ?_
                  refine p_get (v := .int lz4) (C := RX2) (Tc := TX2) (N := 13) (ci := 2) hx hb hq pin_wsX20 hown hE hP hO (by rw [hT4]; decide) (rep_4 hT4) rfl 6 (by decide) (hq _ pw_1106) (fun _ h9 => h9) (congrArg (fun z => some (Value.int z)) hlz4) dX9_link_98 ?_
                  refine lv_icmp_ge (tgt := 140) hx hb dX9_link_101 (by decide) (fun c331 => ?_) (fun c331 => ?_)
                  · refine lv_iinc (v := (nI (i2 + 1))) (lv' := [(1, .int (nI (i2 + 1))), (3, .int (nI i4)), (2, .ref d4), (0, .ref pq)]) hx hb dX9_link_140 hl (k := 2) rfl (nI_1 i2) (by decide) rfl (fun ls hl => ?_)
                    refine lv_goto (tgt := 2) hx hb dX9_link_143 (by decide) ?_
                    have hO : OKP G h0 a (upd F 2 (nI sz)) R Z B J K4 w := hO.to rfl
                    exact ih_2 (i2 + 1) K4 ab4 _ _ _ _ (by omega) (by omega) hqx4 hqw4 hqp4 hqa4 hqb4 hpu4 hbi4 (by omega) hP hD hS hO (lv_sub hl [0, 3] rfl)
                  · have hi9 := hlb4 i4 (by omega) (Int32.not_le.mp c331)
                    have h79 : 7 ≤ i2 := Nat.le_of_not_lt (fun z => by rw [h74 z] at c331; exact c331 (nI_leI (a := 0) (b := i4) (by omega) (by omega) |>.mpr (by omega)))
                    refine lv_aload_n hx hb dX9_link_104 rfl (lv_at hl 1 rfl) ?_
                    refine lv_dup hx hb dX9_link_105 rfl ?_
                    refine p_get (v := .long (K4.2.2.2.1 d4)) (C := RX2) (Tc := TX2) (N := 13) (ci := 2) hx hb hq pin_wsX20 hown hE hP hO (by rw [hT4]; decide) (rep_4 hT4) rfl 10 (by decide) (hq _ pw_102) (fun _ h9 => h9) rfl dX9_link_106 ?_
                    refine lv_lconst (v := 1) hx hb dX9_link_109 (by decide) ?_
                    refine lv_aload_n hx hb dX9_link_110 rfl (lv_at hl 3 rfl) ?_
                    refine lv_aload_n hx hb dX9_link_111 rfl (lv_at hl 3 rfl) ?_
                    refine p_get (v := .ref (a 1)) (C := RX9) (Tc := TX9) (N := 5) (ci := 6) hx hb hq pin_wsX90 hown hE hP hO (by rw [hp1]; decide) (rep_7 hp1) rfl 0 (by decide) (hq _ pw_784) (fun _ h9 => h9) (congrArg (fun z => some (va_rf z)) hp2) dX9_link_112 ?_
                    refine lv_aload_n hx hb dX9_link_115 rfl (lv_at hl 1 rfl) ?_
                    refine p_get (v := .int (K4.2.1 20 d4)) (C := RX2) (Tc := TX2) (N := 13) (ci := 2) hx hb hq pin_wsX20 hown hE hP hO (by rw [hT4]; decide) (rep_4 hT4) rfl 5 (by decide) (hq _ pw_1107) (fun _ h9 => h9) rfl dX9_link_116 ?_
                    refine lv_iconst (v := 2) hx hb dX9_link_119 (by decide) ?_
                    refine lv_iload_n hx hb dX9_link_120 rfl (lv_at hl 0 rfl) ?_
                    refine lv_imul hx hb dX9_link_121 ?_
                    refine lv_topi (fun x332 e333 => ?_)
                    obtain rfl : x332 = nI (2 * i4) := e333.trans (nI_mulN (2) (i4))
                    refine lv_iadd hx hb dX9_link_122 ?_
                    refine lv_topi (fun x334 e335 => ?_)
                    have hO : OKW G h0 a (upd (upd F 2 (nI sz)) 2 (nI sz)) R Z B J K4.1 (fun q99 x99 => x99 = rep G a K4 q99) w := hO.to rfl
                    obtain ⟨_, qr339, hqr340⟩ := hO.2.1 2 _ (sg_2 G h0 a _ _ _ _ _)
                    refine pc_V0 (G := G) (As := [.int x334]) (rest := [.ref pq, .long 1, .long (K4.2.2.2.1 d4), .ref d4]) hx hb hml hown hq hE hX pX0_al hP hD hS hA hl.1 (K_valueAt l G h0 a (upd F 2 (nI sz)) R Z B J K4.1 (fun q99 x99 => x99 = rep G a K4 q99) w x334 sz (by omega) hO) (gV pw_785 pw_57 pw_58 pw_59 pw_39) hV_X10_valueAt qr339 7 hqr340 rfl rfl rfl (Nat.le_of_ble_eq_true rfl) dX9_link_123 ⟨Nat.le_of_ble_eq_true rfl, Nat.le_of_ble_eq_true rfl⟩ ⟨Nat.le_of_ble_eq_true rfl, Nat.le_of_ble_eq_true rfl⟩ (fun v338 u336 H locs hw337 hP hD hS => ?_)
                    obtain ⟨w, r341⟩ := u336
                    obtain ⟨hw337, hO⟩ := hw337
                    obtain rfl : v338 = some (.int r341) := hw337
                    have hO : OKP G h0 a (upd F 2 (nI sz)) R Z B J K4 w := hO.to rfl
                    refine W.widen (k := 0) (n := 0) (Nat.le_of_ble_eq_true rfl) (Nat.le_of_ble_eq_true rfl) ?_
                    refine W.eq (g2 := F0 m 126 ls [.int r341, .ref pq, .long 1, .long (K4.2.2.2.1 d4), .ref d4]) rfl ?_
                    have hO : OKP G h0 a (upd F 2 (nI sz)) R Z B J K4 w := hO.to rfl
                    obtain ⟨qr345, hqr346⟩ := p_recv hO (by rw [hp1]; decide) (rep_7 hp1)
                    refine pc_V0 (G := G) (As := [.int r341]) (rest := [.long 1, .long (K4.2.2.2.1 d4), .ref d4]) hx hb hml hown hq hE hX pX0_al hP hD hS hA hl.1 (G_find l G h0 a (upd F 2 (nI sz)) R Z B J K4 w pq dr ml nd r341 g hqp4.1 hqp4.2.1 hO) (gV pw_1102 pw_585 pw_586 pw_106 pw_509) hV_X9_find qr345 6 hqr346 rfl rfl rfl (Nat.le_of_ble_eq_true rfl) dX9_link_126 ⟨Nat.le_of_ble_eq_true rfl, Nat.le_of_ble_eq_true rfl⟩ ⟨Nat.le_of_ble_eq_true rfl, Nat.le_of_ble_eq_true rfl⟩ (fun v344 u342 H locs hw343 hP hD hS => ?_)
                    obtain ⟨w, r347⟩ := u342
                    obtain ⟨hw343, h348, hO⟩ := hw343
                    have h348 : FnQ r347 nd := h348
                    obtain rfl : v344 = some (.int r347) := hw343
                    have hO : OKP G h0 a (upd F 2 (nI sz)) R Z B J K4 w := hO.to rfl
                    refine W.widen (k := 0) (n := 0) (Nat.le_of_ble_eq_true rfl) (Nat.le_of_ble_eq_true rfl) ?_
                    refine W.eq (g2 := F0 m 129 ls [.int r347, .long 1, .long (K4.2.2.2.1 d4), .ref d4]) rfl ?_
                    refine lv_lshl hx hb dX9_link_129 rfl ?_
                    refine lv_topl (fun x349 e350 => ?_)
                    refine lv_lor hx hb dX9_link_130 ?_
                    refine lv_topl (fun x351 e352 => ?_)
                    refine p_put (v := .long x351) (ty := .long) (C := RX2) (Tc := TX2) (N := 13) (ci := 2) (K' := (kL K4 d4 x351)) hx hb hq pin_wsX20 tyX2 tyX2_ok nmX2 hown hE hP hD hS hO (by rw [hT4]; decide) (rep_4 hT4) rfl 10 (by decide) (hq _ pw_102) (fun _ h9 => h9) rfl (by decide +kernel) rfl rfl (Nat.le_of_ble_eq_true rfl) rfl (by rw [rep_4 (show (kL K4 d4 x351).1 d4 = 4 from hT4), pl_0] <;> rfl) (fun p9 hp9 => rep_kL hp9) dX9_link_131 (fun H locs w hP hD hS hO => ?_)
                    obtain ⟨K353, hK354⟩ : ∃ z : PK, z = (kL K4 d4 x351) := ⟨_, rfl⟩
                    rw [← hK354] at hO
                    have hf355 : K353.1 pq = 7 := (by rw [hK354]; exact hp1)
                    have hf356 : K353.2.2.1 18 pq = some (a 1) := (by rw [hK354]; exact hp2)
                    have hf357 : K353.2.2.1 14 pq = some dr := (by rw [hK354]; exact hp3)
                    have hf358 : K353.1 dr = 8 := (by rw [hK354]; exact hp4)
                    have hf359 : K353.2.2.1 15 pq = some ml := (by rw [hK354]; exact hp5)
                    have hf360 : K353.1 ml = 5 := (by rw [hK354]; exact hp6)
                    have hf361 : K353.2.1 24 pq = (nI nd) := (by rw [hK354]; exact hp8)
                    have hf362 : K353.1 d4 = 4 := (by rw [hK354]; exact hT4)
                    have hf363 : K353.2.1 21 d4 = lz4 := (by rw [hK354]; exact hlz4)
                    have hx9 : LkX K K353 := by rw [hK354]; exact LkX.kL hqx4
                    have hw9 : WPr G K353 g := by rw [hK354]; exact WPr.kL hqw4 hg4
                    have hp9 : PgT G K353 g (a 1) pq dr ml nd nm cp it s9 := by rw [hK354]; exact PgT.kL hqp4
                    have ha9 : AbF K353 dr nd (upL ab4 i2 x351) := by rw [hK354]; exact AbF.kL hqa4 hqp4.2.1 (by omega) (by omega) he4
                    have hb9 : PaB K353 dr nd (upL ab4 i2 x351) := by rw [hK354]; exact PaB.or hqb4 (Or.inl (fun b hb => by rw [e352, bitL_or]; exact Or.inl (by rw [hqa4 i2 (by omega) d4 he4]; exact hb)))
                    have hu9 : PaU K353 dr nd (i2 + 1) := by rw [hK354]; exact PaU.kL hpu4
                    have hz9 := Bi0.or (v := x351) hbi4 h79
                    have he9 : K353.2.2.2.2.1 dr i2 = some d4 := by rw [hK354]; exact he4
                    refine lv_iinc (v := (nI (i4 + 1))) (lv' := [(3, .int (nI (i4 + 1))), (2, .ref d4), (1, .int (nI i2)), (0, .ref pq)]) hx hb dX9_link_134 hl (k := 0) rfl (nI_1 i4) (by decide) rfl (fun ls hl => ?_)
                    refine lv_goto (tgt := 96) hx hb dX9_link_137 (by decide) ?_
                    have hO : OKP G h0 a (upd F 2 (nI sz)) R Z B J K353 w := hO.to rfl
                    exact ih_4 (i4 + 1) K353 (upL ab4 i2 x351) d4 lz4 _ _ _ _ (by omega) (by omega) hx9 hw9 hp9 ha9 hb9 hu9 hz9 hf362 hg4 hf363 he9 hlb4 h74 hP hD hS hO (lv_sub hl [0, 1, 2, 3] rfl)
              have hO : OKP G h0 a (upd F 2 (nI sz)) R Z B J K316 w := hO.to rfl
              exact loop_4 (bA + 1) 0 K316 (upL (upL ab2 i2 1) i2 x314) dA lzA _ _ _ _ (by omega) (by omega) hx5 hw5 hp5 ha5 hb5 hu5 hz5 hf325 hgA2 hf327 (by rw [hK317, hK298]; exact heA3) hbB (fun z => absurd z h7) hP hD hS hO (lv_sub hl [0, 1, 2, 3] rfl)
  have hO : OKP G h0 a (upd F 2 (nI sz)) R Z B J K w := hO.to rfl
  exact loop_2 (nd + 1) 1 K (abK K dr) _ _ _ _ (by omega) (by omega) LkX.rfl hwp hps.t AbF.start (PaB.start hps.pn) (PaU.start hps.pn) (Bi0.start hwp hps.2.1 (by omega)) (by omega) hP hD hS hO (lv_sub hl [0, 1] rfl)
