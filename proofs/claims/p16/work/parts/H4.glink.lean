def abK (K : PK) (dr : Nat) : Nat → Int64 := fun k => match K.2.2.2.2.1 dr k with
  | none => 0
  | some d => K.2.2.2.1 d
def LkX (K K1 : PK) : Prop := (∀ p : Nat, K1.1 p = K.1 p) ∧ (∀ f p : Nat, K1.2.1 f p = K.2.1 f p) ∧ (∀ f p : Nat, ¬ f = 10 → K1.2.2.1 f p = K.2.2.1 f p) ∧ (∀ p : Nat, K1.2.2.2.2.1 p = K.2.2.2.2.1 p) ∧ ∀ p : Nat, K1.2.2.2.2.2 p = K.2.2.2.2.2 p
theorem LkX.rfl {K : PK} : LkX K K := ⟨fun _ => Eq.refl _, fun _ _ => Eq.refl _, fun _ _ _ => Eq.refl _, fun _ => Eq.refl _, fun _ => Eq.refl _⟩
theorem LkX.kL {K K1 : PK} {q : Nat} {v : Int64} (h : LkX K K1) : LkX K (_root_.Jvm.Pilot.@@N@@.kL K1 q v) := h
theorem LkX.kC {K K1 : PK} {q : Nat} {w : Option Nat} (h : LkX K K1) : LkX K (_root_.Jvm.Pilot.@@N@@.kC K1 10 q w) := ⟨h.1, h.2.1, fun f p hf => (kC_of hf).trans (h.2.2.1 f p hf), h.2.2.2⟩
section LK2
variable {G : pT} {K K1 : PK} {g : Nat → Nat → Nat} {q d p o ax pq dr ml nd nm cp s k m j i : Nat} {it : Nat → Nat} {ab ab2 ab0 : Nat → Int64} {v y : Int64}
theorem AbF.start : AbF K dr nd (abK K dr) := fun k _ d he => by
  unfold abK
  rw [he]
theorem Bi0.start (hw : WPr G K g) (hr : DcR K g dr nd) (h : 1 ≤ nd) : Bi0 (abK K dr) 1 := ⟨by
  obtain ⟨d, e1, e2, _, e4⟩ := hr 0 (by omega)
  unfold abK
  rw [e1]
  exact ((hw.2.2.1 d e2).2.2.2.2.2.2 e4).1, fun j b h1 h2 h3 => absurd h3 (by omega)⟩
theorem PaB.start (h : PaN K dr nd) : PaB K dr nd ab := fun j hj d p he hp => by rw [(h j hj d he).1] at hp; cases hp
theorem PaU.start (h : PaN K dr nd) : PaU K dr nd k := fun j hj _ d he => (h j hj d he).1
theorem Bi0.at (h : Bi0 ab k) (hk : 1 ≤ k) : Bi0 (upL ab k v) k := ⟨(upL_ne (by omega)).trans h.1, fun j b h1 h2 h3 hb => by rw [upL_ne (by omega)] at hb; exact h.2 j b h1 h2 h3 hb⟩
theorem Bi0.all (h : Bi0 ab k) (hk : 7 ≤ k) : Bi0 ab 7 := ⟨h.1, fun j b h1 h2 h3 => h.2 j b h1 h2 (by omega)⟩
theorem WCl.start : WCl ab nd 0 := fun j _ _ hj => absurd hj (by omega)
theorem WCl.all (h : WCl ab nd m) (hm : nd ≤ m) : WCl ab nd nd := fun j a b hj => h j a b (by omega)
theorem bitL_one {b : Nat} (h : bitL 1 b) : b = 0 := by
  unfold bitL at h
  have e : (1 : Int64).toBitVec = 1#64 := rfl
  rw [e, BitVec.getLsbD_one] at h
  simp at h
  exact h
theorem shl_0 : (1 : Int64) <<< ((nI 0).toInt64 &&& 63) = 1 := by decide +kernel
theorem bti_ne (h : 1 ≤ k) : ¬ bti k = 2 := by
  unfold bti
  rw [if_neg (by omega)]
  split <;> decide
theorem bti_1 (h : 1 ≤ k) (h7 : k < 7) : 1 ≤ bti k := by
  unfold bti
  rw [if_neg (by omega), if_pos h7]; exact Nat.le_refl _
end LK2
theorem Bi0.up2 {ab : Nat → Int64} {k : Nat} {v : Int64} (h : Bi0 ab k) (hk : 1 ≤ k) (hv : k < 7 → ∀ b : Nat, bitL v b → b = 0) : Bi0 (upL ab k v) (k + 1) := Bi0.up h hk hv
theorem lz_bound (lz : Int32) : ∃ k : Nat, k < 2147483648 ∧ (∀ i : Nat, i < 2147483648 → nI i < lz → i < k) := by
  rcases i32_cases lz with h | ⟨k, h1, h2⟩
  · exact ⟨0, by decide, fun i hi h9 => absurd (Int32.lt_trans h9 h) (nI_pos hi)⟩
  · exact ⟨k, h2, fun i hi h9 => by rw [h1] at h9; exact (nI_ltI (a := i) (b := k) hi h2).mp h9⟩
theorem WMd.all {ab ab2 : Nat → Int64} {nd m k : Nat} (h : WMd ab ab2 nd m k) (hk : nd ≤ k) : WMd ab ab2 nd m nd := fun a b ha hb => by
  rw [h a b ha hb]
  exact ⟨fun z => z.imp id (fun z => ⟨ha, z.2⟩), fun z => z.imp id (fun z => ⟨by omega, z.2⟩)⟩
theorem dX9_link_0 : decode cX9_link 0 = .ok (.iconst 1, 1) := by decide +kernel
theorem dX9_link_1 : decode cX9_link 1 = .ok (.istore_n 1, 1) := by decide +kernel
theorem dX9_link_2 : decode cX9_link 2 = .ok (.iload_n 1, 1) := by decide +kernel
theorem dX9_link_3 : decode cX9_link 3 = .ok (.aload_n 0, 1) := by decide +kernel
theorem dX9_link_4 : decode cX9_link 4 = .ok (.getfield 33, 3) := by decide +kernel
theorem dX9_link_7 : decode cX9_link 7 = .ok (.if_icmp .ge 139, 3) := by decide +kernel
theorem dX9_link_146 : decode cX9_link 146 = .ok (.iconst 0, 1) := by decide +kernel
theorem dX9_link_147 : decode cX9_link 147 = .ok (.istore_n 1, 1) := by decide +kernel
theorem dX9_link_148 : decode cX9_link 148 = .ok (.iload_n 1, 1) := by decide +kernel
theorem dX9_link_149 : decode cX9_link 149 = .ok (.aload_n 0, 1) := by decide +kernel
theorem dX9_link_150 : decode cX9_link 150 = .ok (.getfield 33, 3) := by decide +kernel
theorem dX9_link_153 : decode cX9_link 153 = .ok (.if_icmp .ge 57, 3) := by decide +kernel
theorem dX9_link_210 : decode cX9_link 210 = .ok (.return_, 1) := by decide +kernel
theorem dX9_link_156 : decode cX9_link 156 = .ok (.iconst 0, 1) := by decide +kernel
theorem dX9_link_157 : decode cX9_link 157 = .ok (.istore_n 2, 1) := by decide +kernel
theorem dX9_link_158 : decode cX9_link 158 = .ok (.iload_n 2, 1) := by decide +kernel
theorem dX9_link_159 : decode cX9_link 159 = .ok (.aload_n 0, 1) := by decide +kernel
theorem dX9_link_160 : decode cX9_link 160 = .ok (.getfield 33, 3) := by decide +kernel
theorem dX9_link_163 : decode cX9_link 163 = .ok (.if_icmp .ge 41, 3) := by decide +kernel
theorem dX9_link_204 : decode cX9_link 204 = .ok (.iinc 1 1, 3) := by decide +kernel
theorem dX9_link_207 : decode cX9_link 207 = .ok (.goto (-59), 3) := by decide +kernel
theorem dX9_link_166 : decode cX9_link 166 = .ok (.aload_n 0, 1) := by decide +kernel
theorem dX9_link_167 : decode cX9_link 167 = .ok (.iload_n 1, 1) := by decide +kernel
theorem dX9_link_168 : decode cX9_link 168 = .ok (.iload_n 2, 1) := by decide +kernel
theorem dX9_link_169 : decode cX9_link 169 = .ok (.invokevirtual 65, 3) := by decide +kernel
theorem dX9_link_172 : decode cX9_link 172 = .ok (.ifCond .eq 26, 3) := by decide +kernel
theorem dX9_link_198 : decode cX9_link 198 = .ok (.iinc 2 1, 3) := by decide +kernel
theorem dX9_link_201 : decode cX9_link 201 = .ok (.goto (-43), 3) := by decide +kernel
theorem dX9_link_175 : decode cX9_link 175 = .ok (.aload_n 0, 1) := by decide +kernel
theorem dX9_link_176 : decode cX9_link 176 = .ok (.getfield 17, 3) := by decide +kernel
theorem dX9_link_179 : decode cX9_link 179 = .ok (.iload_n 2, 1) := by decide +kernel
theorem dX9_link_180 : decode cX9_link 180 = .ok (.aaload, 1) := by decide +kernel
theorem dX9_link_181 : decode cX9_link 181 = .ok (.dup, 1) := by decide +kernel
theorem dX9_link_182 : decode cX9_link 182 = .ok (.getfield 57, 3) := by decide +kernel
theorem dX9_link_185 : decode cX9_link 185 = .ok (.aload_n 0, 1) := by decide +kernel
theorem dX9_link_186 : decode cX9_link 186 = .ok (.getfield 17, 3) := by decide +kernel
theorem dX9_link_189 : decode cX9_link 189 = .ok (.iload_n 1, 1) := by decide +kernel
theorem dX9_link_190 : decode cX9_link 190 = .ok (.aaload, 1) := by decide +kernel
theorem dX9_link_191 : decode cX9_link 191 = .ok (.getfield 57, 3) := by decide +kernel
theorem dX9_link_194 : decode cX9_link 194 = .ok (.lor, 1) := by decide +kernel
theorem dX9_link_195 : decode cX9_link 195 = .ok (.putfield 57, 3) := by decide +kernel
theorem dX9_link_10 : decode cX9_link 10 = .ok (.aload_n 0, 1) := by decide +kernel
theorem dX9_link_11 : decode cX9_link 11 = .ok (.getfield 17, 3) := by decide +kernel
theorem dX9_link_14 : decode cX9_link 14 = .ok (.iload_n 1, 1) := by decide +kernel
theorem dX9_link_15 : decode cX9_link 15 = .ok (.aaload, 1) := by decide +kernel
theorem dX9_link_16 : decode cX9_link 16 = .ok (.astore_n 2, 1) := by decide +kernel
theorem dX9_link_17 : decode cX9_link 17 = .ok (.aload_n 2, 1) := by decide +kernel
theorem dX9_link_18 : decode cX9_link 18 = .ok (.lconst 1, 1) := by decide +kernel
theorem dX9_link_19 : decode cX9_link 19 = .ok (.putfield 57, 3) := by decide +kernel
theorem dX9_link_22 : decode cX9_link 22 = .ok (.aload_n 2, 1) := by decide +kernel
theorem dX9_link_23 : decode cX9_link 23 = .ok (.getfield 164, 3) := by decide +kernel
theorem dX9_link_26 : decode cX9_link 26 = .ok (.ifCond .ne 43, 3) := by decide +kernel
theorem dX9_link_29 : decode cX9_link 29 = .ok (.aload_n 2, 1) := by decide +kernel
theorem dX9_link_30 : decode cX9_link 30 = .ok (.aload_n 2, 1) := by decide +kernel
theorem dX9_link_31 : decode cX9_link 31 = .ok (.getfield 148, 3) := by decide +kernel
theorem dX9_link_34 : decode cX9_link 34 = .ok (.iconst (-1), 1) := by decide +kernel
theorem dX9_link_35 : decode cX9_link 35 = .ok (.if_icmp .ne 12, 3) := by decide +kernel
theorem dX9_link_38 : decode cX9_link 38 = .ok (.aload_n 0, 1) := by decide +kernel
theorem dX9_link_39 : decode cX9_link 39 = .ok (.getfield 17, 3) := by decide +kernel
theorem dX9_link_42 : decode cX9_link 42 = .ok (.iconst 0, 1) := by decide +kernel
theorem dX9_link_43 : decode cX9_link 43 = .ok (.aaload, 1) := by decide +kernel
theorem dX9_link_44 : decode cX9_link 44 = .ok (.goto 22, 3) := by decide +kernel
theorem dX9_link_66 : decode cX9_link 66 = .ok (.putfield 174, 3) := by decide +kernel
theorem dX9_link_69 : decode cX9_link 69 = .ok (.aload_n 2, 1) := by decide +kernel
theorem dX9_link_70 : decode cX9_link 70 = .ok (.getfield 174, 3) := by decide +kernel
theorem dX9_link_73 : decode cX9_link 73 = .ok (.ifnull 21, 3) := by decide +kernel
theorem dX9_link_76 : decode cX9_link 76 = .ok (.aload_n 2, 1) := by decide +kernel
theorem dX9_link_77 : decode cX9_link 77 = .ok (.dup, 1) := by decide +kernel
theorem dX9_link_78 : decode cX9_link 78 = .ok (.getfield 57, 3) := by decide +kernel
theorem dX9_link_81 : decode cX9_link 81 = .ok (.lconst 1, 1) := by decide +kernel
theorem dX9_link_82 : decode cX9_link 82 = .ok (.aload_n 2, 1) := by decide +kernel
theorem dX9_link_83 : decode cX9_link 83 = .ok (.getfield 174, 3) := by decide +kernel
theorem dX9_link_86 : decode cX9_link 86 = .ok (.getfield 178, 3) := by decide +kernel
theorem dX9_link_89 : decode cX9_link 89 = .ok (.lshl, 1) := by decide +kernel
theorem dX9_link_90 : decode cX9_link 90 = .ok (.lor, 1) := by decide +kernel
theorem dX9_link_91 : decode cX9_link 91 = .ok (.putfield 57, 3) := by decide +kernel
theorem dX9_link_94 : decode cX9_link 94 = .ok (.iconst 0, 1) := by decide +kernel
theorem dX9_link_95 : decode cX9_link 95 = .ok (.istore_n 3, 1) := by decide +kernel
theorem dX9_link_96 : decode cX9_link 96 = .ok (.iload_n 3, 1) := by decide +kernel
theorem dX9_link_97 : decode cX9_link 97 = .ok (.aload_n 2, 1) := by decide +kernel
theorem dX9_link_98 : decode cX9_link 98 = .ok (.getfield 154, 3) := by decide +kernel
theorem dX9_link_101 : decode cX9_link 101 = .ok (.if_icmp .ge 39, 3) := by decide +kernel
theorem dX9_link_140 : decode cX9_link 140 = .ok (.iinc 1 1, 3) := by decide +kernel
theorem dX9_link_143 : decode cX9_link 143 = .ok (.goto (-141), 3) := by decide +kernel
theorem dX9_link_104 : decode cX9_link 104 = .ok (.aload_n 2, 1) := by decide +kernel
theorem dX9_link_105 : decode cX9_link 105 = .ok (.dup, 1) := by decide +kernel
theorem dX9_link_106 : decode cX9_link 106 = .ok (.getfield 57, 3) := by decide +kernel
theorem dX9_link_109 : decode cX9_link 109 = .ok (.lconst 1, 1) := by decide +kernel
theorem dX9_link_110 : decode cX9_link 110 = .ok (.aload_n 0, 1) := by decide +kernel
theorem dX9_link_111 : decode cX9_link 111 = .ok (.aload_n 0, 1) := by decide +kernel
theorem dX9_link_112 : decode cX9_link 112 = .ok (.getfield 9, 3) := by decide +kernel
theorem dX9_link_115 : decode cX9_link 115 = .ok (.aload_n 2, 1) := by decide +kernel
theorem dX9_link_116 : decode cX9_link 116 = .ok (.getfield 157, 3) := by decide +kernel
theorem dX9_link_119 : decode cX9_link 119 = .ok (.iconst 2, 1) := by decide +kernel
theorem dX9_link_120 : decode cX9_link 120 = .ok (.iload_n 3, 1) := by decide +kernel
theorem dX9_link_121 : decode cX9_link 121 = .ok (.imul, 1) := by decide +kernel
theorem dX9_link_122 : decode cX9_link 122 = .ok (.iadd, 1) := by decide +kernel
theorem dX9_link_123 : decode cX9_link 123 = .ok (.invokevirtual 41, 3) := by decide +kernel
theorem dX9_link_126 : decode cX9_link 126 = .ok (.invokevirtual 116, 3) := by decide +kernel
theorem dX9_link_129 : decode cX9_link 129 = .ok (.lshl, 1) := by decide +kernel
theorem dX9_link_130 : decode cX9_link 130 = .ok (.lor, 1) := by decide +kernel
theorem dX9_link_131 : decode cX9_link 131 = .ok (.putfield 57, 3) := by decide +kernel
theorem dX9_link_134 : decode cX9_link 134 = .ok (.iinc 3 1, 3) := by decide +kernel
theorem dX9_link_137 : decode cX9_link 137 = .ok (.goto (-41), 3) := by decide +kernel
theorem dX9_link_47 : decode cX9_link 47 = .ok (.aload_n 0, 1) := by decide +kernel
theorem dX9_link_48 : decode cX9_link 48 = .ok (.aload_n 0, 1) := by decide +kernel
theorem dX9_link_49 : decode cX9_link 49 = .ok (.aload_n 0, 1) := by decide +kernel
theorem dX9_link_50 : decode cX9_link 50 = .ok (.getfield 9, 3) := by decide +kernel
theorem dX9_link_53 : decode cX9_link 53 = .ok (.aload_n 2, 1) := by decide +kernel
theorem dX9_link_54 : decode cX9_link 54 = .ok (.getfield 148, 3) := by decide +kernel
theorem dX9_link_57 : decode cX9_link 57 = .ok (.invokevirtual 41, 3) := by decide +kernel
theorem dX9_link_60 : decode cX9_link 60 = .ok (.invokevirtual 116, 3) := by decide +kernel
theorem dX9_link_63 : decode cX9_link 63 = .ok (.invokevirtual 160, 3) := by decide +kernel