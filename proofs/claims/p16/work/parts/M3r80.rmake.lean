theorem n64_i2l {n : Nat} (h : n < 2 ^ 31) : (nI n).toInt64 = n64 n := by
  apply Int64.toInt_inj.mp
  rw [n64_toInt (by omega), Int32.toInt_toInt64, nI_toInt h]
theorem n64_l2i {n : Nat} (h : n < 2 ^ 31) : (n64 n).toInt32 = nI n := by
  apply Int32.toInt_inj.mp
  rw [nI_toInt h, Int64.toInt_toInt32, n64_toInt (by omega)]
  rw [Int.bmod_eq_of_le (by omega) (by omega)]
theorem n64_lt {a b : Nat} (ha : a < 2 ^ 63) (hb : b < 2 ^ 63) : n64 a < n64 b ↔ a < b := by
  rw [Int64.lt_iff_toInt_lt, n64_toInt ha, n64_toInt hb]; omega
theorem n64_eq {a b : Nat} (ha : a < 2 ^ 63) (hb : b < 2 ^ 63) : n64 a = n64 b ↔ a = b := by
  rw [← Int64.toInt_inj, n64_toInt ha, n64_toInt hb]; omega
theorem n64_gt {a b : Nat} (ha : a < 2 ^ 63) (hb : b < 2 ^ 63) (h : b < a) : lg_cmp (n64 a) (n64 b) = 1 := by
  unfold lg_cmp; rw [if_pos ((n64_lt hb ha).mpr h)]
theorem n64_same {a b : Nat} (ha : a < 2 ^ 63) (hb : b < 2 ^ 63) (h : a = b) : lg_cmp (n64 a) (n64 b) = 0 := by
  unfold lg_cmp; rw [if_neg (fun q => by have := (n64_lt hb ha).mp q; omega), if_pos ((n64_eq ha hb).mpr h)]
theorem n64_less {a b : Nat} (ha : a < 2 ^ 63) (hb : b < 2 ^ 63) (h : a < b) : lg_cmp (n64 a) (n64 b) = -1 := by
  unfold lg_cmp; rw [if_neg (fun q => by have := (n64_lt hb ha).mp q; omega), if_neg (fun q => by have := (n64_eq ha hb).mp q; omega)]
/-- a new thing at the end of the order -/
theorem HS.make {om oc od id oa : Nat → Int32} {on idn fl rm o q : Nat} {k : Int32} (h : HS om oc od id oa on (idn + 1) fl rm) (e : id idn = nI o) (ho : o < 3000) (hq : q ≤ 3000) (hf : fl + (q + (if k = -1 then 2 else 1)) ≤ rm) : HS (upd om o (nI q)) (upd oc o k) (upd od on (nI o)) id (upd oa o (nI (smF om od on))) (on + 1) idn (fl + (q + (if k = -1 then 2 else 1))) rm ∧ smF (upd om o (nI q)) (upd od on (nI o)) (on + 1) = smF om od on + q ∧ (∀ b : Nat, b < 3000 → (Lvd (upd od on (nI o)) (on + 1) b ↔ Lvd od on b ∨ b = o)) ∧ ¬ Lvd od on o := by
  obtain ⟨h1, h2, h3, h4, h5, h6, h7, h8⟩ := h
  have nl : ¬ Lvd od on o := by
    obtain ⟨b, z1, z2, z3⟩ := h3 idn (by omega)
    have : b = o := (nI_eq (by omega) (by omega)).mp (z2.symm.trans e)
    rw [← this]; exact z3
  have ne : ∀ j b : Nat, j < on → od j = nI b → b < 3000 → ¬ b = o := fun j b hj w hb z => nl (by rw [← z]; exact ⟨j, hj, w⟩)
  have us : ∀ n : Nat, n ≤ on → smF (upd om o (nI q)) (upd od on (nI o)) n = smF om od n := by
    intro n
    induction n with
    | zero => intro _; rfl
    | succ n ih =>
      intro hn
      obtain ⟨b, r, z1, z2, z3, z4, _⟩ := h1 n (by omega)
      show smF (upd om o (nI q)) (upd od on (nI o)) n + omN (upd om o (nI q)) (upd od on (nI o)) n = smF om od n + omN om od n
      rw [ih (by omega), omN_eq (om := om) z2 (by omega) z3 (by omega), omN_eq (o := b) (q := r) (by rw [show upd od on (nI o) n = od n from if_neg (by omega)]; exact z2) (by omega) (by rw [show upd om o (nI q) b = om b from if_neg (ne n b (by omega) z2 z1)]; exact z3) (by omega)]
  have uw : ∀ n : Nat, n ≤ on → wtF (upd om o (nI q)) (upd oc o k) (upd od on (nI o)) n = wtF om oc od n := by
    intro n
    induction n with
    | zero => intro _; rfl
    | succ n ih =>
      intro hn
      obtain ⟨b, r, z1, z2, z3, z4, _⟩ := h1 n (by omega)
      show wtF (upd om o (nI q)) (upd oc o k) (upd od on (nI o)) n + (omN (upd om o (nI q)) (upd od on (nI o)) n + (if upd oc o k ((upd od on (nI o)) n).toNatClampNeg = -1 then 2 else 1)) = wtF om oc od n + (omN om od n + (if oc (od n).toNatClampNeg = -1 then 2 else 1))
      rw [ih (by omega), omN_eq (om := om) z2 (by omega) z3 (by omega), omN_eq (o := b) (q := r) (by rw [show upd od on (nI o) n = od n from if_neg (by omega)]; exact z2) (by omega) (by rw [show upd om o (nI q) b = om b from if_neg (ne n b (by omega) z2 z1)]; exact z3) (by omega), show upd od on (nI o) n = od n from if_neg (by omega), z2, nI_cl (by omega), show upd oc o k b = oc b from if_neg (ne n b (by omega) z2 z1)]
  have lo : omN (upd om o (nI q)) (upd od on (nI o)) on = q := omN_eq (if_pos rfl) (by omega) (if_pos rfl) (by omega)
  have lv : ∀ b : Nat, b < 3000 → (Lvd (upd od on (nI o)) (on + 1) b ↔ Lvd od on b ∨ b = o) := fun b hb => ⟨fun ⟨j, j1, j2⟩ => by
      by_cases w : j = on
      · rw [w, show upd od on (nI o) on = nI o from if_pos rfl] at j2
        exact Or.inr ((nI_eq (by omega) (by omega)).mp j2).symm
      · rw [show upd od on (nI o) j = od j from if_neg w] at j2
        exact Or.inl ⟨j, by omega, j2⟩, fun z => by
      rcases z with ⟨j, j1, j2⟩ | z
      · exact ⟨j, by omega, by rw [show upd od on (nI o) j = od j from if_neg (by omega)]; exact j2⟩
      · rw [z]; exact ⟨on, by omega, if_pos rfl⟩⟩
  refine ⟨⟨fun j hj => ?_, fun i j hi hj w => ?_, fun j hj => ?_, fun i j hi hj w => h4 i j (by omega) (by omega) w, by omega, ?_, by omega, h8⟩, ?_, lv, nl⟩
  · by_cases w : j = on
    · subst w
      exact ⟨o, q, ho, if_pos rfl, if_pos rfl, hq, by rw [us j (Nat.le_refl _)]; exact if_pos rfl⟩
    · obtain ⟨b, r, z1, z2, z3, z4, z5⟩ := h1 j (by omega)
      have nb := ne j b (by omega) z2 z1
      exact ⟨b, r, z1, by rw [show upd od on (nI o) j = od j from if_neg w]; exact z2, by rw [show upd om o (nI q) b = om b from if_neg nb]; exact z3, z4, by rw [us j (by omega), show upd oa o (nI (smF om od on)) b = oa b from if_neg nb]; exact z5⟩
  · have key : ∀ j : Nat, j < on → ¬ od j = nI o := fun j hj w => nl ⟨j, hj, w⟩
    unfold upd at w
    by_cases q1 : i = on
    · by_cases q2 : j = on
      · omega
      · rw [if_pos q1, if_neg q2] at w; exact absurd w.symm (key j (by omega))
    · by_cases q2 : j = on
      · rw [if_neg q1, if_pos q2] at w; exact absurd w (key i (by omega))
      · rw [if_neg q1, if_neg q2] at w; exact h2 i j (by omega) (by omega) w
  · obtain ⟨b, z1, z2, z3⟩ := h3 j (by omega)
    refine ⟨b, z1, z2, fun w => ?_⟩
    rcases (lv b z1).mp w with y | y
    · exact z3 y
    · rw [y] at z2
      have := h4 j idn (by omega) (by omega) (z2.trans e.symm); omega
  · show fl + _ = wtF (upd om o (nI q)) (upd oc o k) (upd od on (nI o)) on + (omN (upd om o (nI q)) (upd od on (nI o)) on + (if upd oc o k ((upd od on (nI o)) on).toNatClampNeg = -1 then 2 else 1))
    rw [uw on (Nat.le_refl _), lo, show upd od on (nI o) on = nI o from if_pos rfl, nI_cl (by omega), show upd oc o k o = k from if_pos rfl, h6]
  · show smF (upd om o (nI q)) (upd od on (nI o)) on + omN (upd om o (nI q)) (upd od on (nI o)) on = _
    rw [us on (Nat.le_refl _), lo]
/-- what a sweep, or none, leaves of the things that there were -/
def Kept (om od oa cl od2 oa2 cl2 sn : Nat → Int32) (on on2 : Nat) : Prop := (∀ o : Nat, o < 3000 → (Lvd od2 on2 o ↔ Lvd od on o ∧ ¬ sn o = 0)) ∧ ∀ o : Nat, o < 3000 → Lvd od2 on2 o → ∀ i q p p1 : Nat, om o = nI q → oa o = nI p → oa2 o = nI p1 → i < q → q ≤ 3000 → p ≤ 3000 → p1 ≤ 3000 → cl2 (p1 + i) = cl (p + i)
theorem Kept.all {om od oa cl : Nat → Int32} {on : Nat} : Kept om od oa cl od oa cl (fun _ => 1) on on := ⟨fun o _ => ⟨fun h => ⟨h, by show ¬ (1 : Int32) = 0; decide⟩, fun h => h.1⟩, fun o _ _ i q p p1 _ e1 e2 _ _ h1 h2 => by
  have : p = p1 := (nI_eq (by omega) (by omega)).mp (e1.symm.trans e2)
  rw [this]⟩
theorem RfS.all {v : Int32} : RfS (fun _ => 1) v := fun _ _ _ _ => by show ¬ (1 : Int32) = 0; decide
/-- cells of a new thing -/
def Zrd (cl2 cl3 : Nat → Int32) (ct i : Nat) : Prop := (∀ j : Nat, j < i → cl3 (ct + j) = 0) ∧ ∀ a : Nat, a < ct → cl3 a = cl2 a
theorem Zrd.zero {cl2 : Nat → Int32} {ct : Nat} : Zrd cl2 cl2 ct 0 := ⟨fun j h => absurd h (by omega), fun _ _ => rfl⟩
theorem Zrd.succ {cl2 cl3 : Nat → Int32} {ct i : Nat} (h : Zrd cl2 cl3 ct i) : Zrd cl2 (upd cl3 (ct + i) 0) ct (i + 1) := by
  refine ⟨fun j hj => ?_, fun a ha => ?_⟩ <;> unfold upd
  · by_cases e : j = i
    · rw [if_pos (by omega)]
    · rw [if_neg (by omega)]; exact h.1 j (by omega)
  · rw [if_neg (by omega)]; exact h.2 a ha
theorem HS.below {om oc od id oa : Nat → Int32} {on idn fl rm o q p : Nat} (h : HS om oc od id oa on idn fl rm) (l : Lvd od on o) (ho : o < 3000) (g : om o = nI q) (hq : q ≤ 3000) (e : oa o = nI p) (hp : p ≤ 3000) : p + q ≤ smF om od on ∧ smF om od on ≤ 3000 := by
  obtain ⟨k, k1, k2⟩ := l
  obtain ⟨b, r, z1, z2, z3, z4, z5⟩ := h.1 k k1
  have : b = o := (nI_eq (by omega) (by omega)).mp (z2.symm.trans k2)
  subst this
  have h1 := smF_le (om := om) (oc := oc) (od := od) on
  have h2 := smF_mono (om := om) (od := od) (k + 1) on (by omega)
  have h3 : smF om od (k + 1) = smF om od k + omN om od k := rfl
  have h4 : omN om od k = q := omN_eq k2 (by omega) g (by omega)
  have h6 := h.2.2.2.2.2
  have h5 := smF_mono (om := om) (od := od) k on (by omega)
  have : p = smF om od k := (nI_eq (by omega) (by omega)).mp (e.symm.trans z5)
  omega
theorem dX12_make_0 : decode cX12_make 0 = .ok (.iload_n 3, 1) := by decide +kernel
theorem dX12_make_1 : decode cX12_make 1 = .ok (.i2l, 1) := by decide +kernel
theorem dX12_make_2 : decode cX12_make 2 = .ok (.iload_n 1, 1) := by decide +kernel
theorem dX12_make_3 : decode cX12_make 3 = .ok (.iconst (-1), 1) := by decide +kernel
theorem dX12_make_4 : decode cX12_make 4 = .ok (.if_icmp .ne 9, 3) := by decide +kernel
theorem dX12_make_13 : decode cX12_make 13 = .ok (.lconst 1, 1) := by decide +kernel
theorem dX12_make_14 : decode cX12_make 14 = .ok (.ladd, 1) := by decide +kernel
theorem dX12_make_15 : decode cX12_make 15 = .ok (.lstore 4, 2) := by decide +kernel
theorem dX12_make_38 : decode cX12_make 38 = .ok (.aload_n 0, 1) := by decide +kernel
theorem dX12_make_39 : decode cX12_make 39 = .ok (.getfield 719, 3) := by decide +kernel
theorem dX12_make_42 : decode cX12_make 42 = .ok (.i2l, 1) := by decide +kernel
theorem dX12_make_43 : decode cX12_make 43 = .ok (.lload 4, 2) := by decide +kernel
theorem dX12_make_45 : decode cX12_make 45 = .ok (.ladd, 1) := by decide +kernel
theorem dX12_make_46 : decode cX12_make 46 = .ok (.aload_n 0, 1) := by decide +kernel
theorem dX12_make_47 : decode cX12_make 47 = .ok (.getfield 733, 3) := by decide +kernel
theorem dX12_make_50 : decode cX12_make 50 = .ok (.i2l, 1) := by decide +kernel
theorem dX12_make_51 : decode cX12_make 51 = .ok (.lcmp, 1) := by decide +kernel
theorem dX12_make_52 : decode cX12_make 52 = .ok (.ifCond .le 10, 3) := by decide +kernel
theorem dX12_make_62 : decode cX12_make 62 = .ok (.aload_n 0, 1) := by decide +kernel
theorem dX12_make_63 : decode cX12_make 63 = .ok (.dup, 1) := by decide +kernel
theorem dX12_make_64 : decode cX12_make 64 = .ok (.getfield 725, 3) := by decide +kernel
theorem dX12_make_67 : decode cX12_make 67 = .ok (.iconst 1, 1) := by decide +kernel
theorem dX12_make_68 : decode cX12_make 68 = .ok (.isub, 1) := by decide +kernel
theorem dX12_make_69 : decode cX12_make 69 = .ok (.putfield 725, 3) := by decide +kernel
theorem dX12_make_72 : decode cX12_make 72 = .ok (.aload_n 0, 1) := by decide +kernel
theorem dX12_make_73 : decode cX12_make 73 = .ok (.getfield 240, 3) := by decide +kernel
theorem dX12_make_76 : decode cX12_make 76 = .ok (.aload_n 0, 1) := by decide +kernel
theorem dX12_make_77 : decode cX12_make 77 = .ok (.getfield 725, 3) := by decide +kernel
theorem dX12_make_80 : decode cX12_make 80 = .ok (.iaload, 1) := by decide +kernel
theorem dX12_make_81 : decode cX12_make 81 = .ok (.istore 6, 2) := by decide +kernel
theorem dX12_make_83 : decode cX12_make 83 = .ok (.aload_n 0, 1) := by decide +kernel
theorem dX12_make_84 : decode cX12_make 84 = .ok (.getfield 237, 3) := by decide +kernel
theorem dX12_make_87 : decode cX12_make 87 = .ok (.aload_n 0, 1) := by decide +kernel
theorem dX12_make_88 : decode cX12_make 88 = .ok (.getfield 704, 3) := by decide +kernel
theorem dX12_make_91 : decode cX12_make 91 = .ok (.iload 6, 2) := by decide +kernel
theorem dX12_make_93 : decode cX12_make 93 = .ok (.iastore, 1) := by decide +kernel
theorem dX12_make_94 : decode cX12_make 94 = .ok (.aload_n 0, 1) := by decide +kernel
theorem dX12_make_95 : decode cX12_make 95 = .ok (.dup, 1) := by decide +kernel
theorem dX12_make_96 : decode cX12_make 96 = .ok (.getfield 704, 3) := by decide +kernel
theorem dX12_make_99 : decode cX12_make 99 = .ok (.iconst 1, 1) := by decide +kernel
theorem dX12_make_100 : decode cX12_make 100 = .ok (.iadd, 1) := by decide +kernel
theorem dX12_make_101 : decode cX12_make 101 = .ok (.putfield 704, 3) := by decide +kernel
theorem dX12_make_104 : decode cX12_make 104 = .ok (.aload_n 0, 1) := by decide +kernel
theorem dX12_make_105 : decode cX12_make 105 = .ok (.getfield 178, 3) := by decide +kernel
theorem dX12_make_108 : decode cX12_make 108 = .ok (.iload 6, 2) := by decide +kernel
theorem dX12_make_110 : decode cX12_make 110 = .ok (.iload_n 1, 1) := by decide +kernel
theorem dX12_make_111 : decode cX12_make 111 = .ok (.iastore, 1) := by decide +kernel
theorem dX12_make_112 : decode cX12_make 112 = .ok (.aload_n 0, 1) := by decide +kernel
theorem dX12_make_113 : decode cX12_make 113 = .ok (.getfield 181, 3) := by decide +kernel
theorem dX12_make_116 : decode cX12_make 116 = .ok (.iload 6, 2) := by decide +kernel
theorem dX12_make_118 : decode cX12_make 118 = .ok (.iload_n 2, 1) := by decide +kernel
theorem dX12_make_119 : decode cX12_make 119 = .ok (.iastore, 1) := by decide +kernel
theorem dX12_make_120 : decode cX12_make 120 = .ok (.aload_n 0, 1) := by decide +kernel
theorem dX12_make_121 : decode cX12_make 121 = .ok (.getfield 184, 3) := by decide +kernel
theorem dX12_make_124 : decode cX12_make 124 = .ok (.iload 6, 2) := by decide +kernel
theorem dX12_make_126 : decode cX12_make 126 = .ok (.iload_n 3, 1) := by decide +kernel
theorem dX12_make_127 : decode cX12_make 127 = .ok (.iastore, 1) := by decide +kernel
theorem dX12_make_128 : decode cX12_make 128 = .ok (.aload_n 0, 1) := by decide +kernel
theorem dX12_make_129 : decode cX12_make 129 = .ok (.getfield 187, 3) := by decide +kernel
theorem dX12_make_132 : decode cX12_make 132 = .ok (.iload 6, 2) := by decide +kernel
theorem dX12_make_134 : decode cX12_make 134 = .ok (.aload_n 0, 1) := by decide +kernel
theorem dX12_make_135 : decode cX12_make 135 = .ok (.getfield 722, 3) := by decide +kernel
theorem dX12_make_138 : decode cX12_make 138 = .ok (.iastore, 1) := by decide +kernel
theorem dX12_make_139 : decode cX12_make 139 = .ok (.iconst 0, 1) := by decide +kernel
theorem dX12_make_140 : decode cX12_make 140 = .ok (.istore 7, 2) := by decide +kernel
theorem dX12_make_142 : decode cX12_make 142 = .ok (.iload 7, 2) := by decide +kernel
theorem dX12_make_144 : decode cX12_make 144 = .ok (.iload_n 3, 1) := by decide +kernel
theorem dX12_make_145 : decode cX12_make 145 = .ok (.if_icmp .ge 29, 3) := by decide +kernel
theorem dX12_make_174 : decode cX12_make 174 = .ok (.aload_n 0, 1) := by decide +kernel
theorem dX12_make_175 : decode cX12_make 175 = .ok (.dup, 1) := by decide +kernel
theorem dX12_make_176 : decode cX12_make 176 = .ok (.getfield 719, 3) := by decide +kernel
theorem dX12_make_179 : decode cX12_make 179 = .ok (.lload 4, 2) := by decide +kernel
theorem dX12_make_181 : decode cX12_make 181 = .ok (.l2i, 1) := by decide +kernel
theorem dX12_make_182 : decode cX12_make 182 = .ok (.iadd, 1) := by decide +kernel
theorem dX12_make_183 : decode cX12_make 183 = .ok (.putfield 719, 3) := by decide +kernel
theorem dX12_make_186 : decode cX12_make 186 = .ok (.aload_n 0, 1) := by decide +kernel
theorem dX12_make_187 : decode cX12_make 187 = .ok (.dup, 1) := by decide +kernel
theorem dX12_make_188 : decode cX12_make 188 = .ok (.getfield 739, 3) := by decide +kernel
theorem dX12_make_191 : decode cX12_make 191 = .ok (.iconst 1, 1) := by decide +kernel
theorem dX12_make_192 : decode cX12_make 192 = .ok (.iadd, 1) := by decide +kernel
theorem dX12_make_193 : decode cX12_make 193 = .ok (.putfield 739, 3) := by decide +kernel
theorem dX12_make_196 : decode cX12_make 196 = .ok (.aload_n 0, 1) := by decide +kernel
theorem dX12_make_197 : decode cX12_make 197 = .ok (.dup, 1) := by decide +kernel
theorem dX12_make_198 : decode cX12_make 198 = .ok (.getfield 742, 3) := by decide +kernel
theorem dX12_make_201 : decode cX12_make 201 = .ok (.lload 4, 2) := by decide +kernel
theorem dX12_make_203 : decode cX12_make 203 = .ok (.l2i, 1) := by decide +kernel
theorem dX12_make_204 : decode cX12_make 204 = .ok (.iadd, 1) := by decide +kernel
theorem dX12_make_205 : decode cX12_make 205 = .ok (.putfield 742, 3) := by decide +kernel
theorem dX12_make_208 : decode cX12_make 208 = .ok (.iload 6, 2) := by decide +kernel
theorem dX12_make_210 : decode cX12_make 210 = .ok (.iconst 1, 1) := by decide +kernel
theorem dX12_make_211 : decode cX12_make 211 = .ok (.iadd, 1) := by decide +kernel
theorem dX12_make_212 : decode cX12_make 212 = .ok (.ireturn, 1) := by decide +kernel
theorem dX12_make_148 : decode cX12_make 148 = .ok (.aload_n 0, 1) := by decide +kernel
theorem dX12_make_149 : decode cX12_make 149 = .ok (.getfield 193, 3) := by decide +kernel
theorem dX12_make_152 : decode cX12_make 152 = .ok (.aload_n 0, 1) := by decide +kernel
theorem dX12_make_153 : decode cX12_make 153 = .ok (.getfield 722, 3) := by decide +kernel
theorem dX12_make_156 : decode cX12_make 156 = .ok (.iconst 0, 1) := by decide +kernel
theorem dX12_make_157 : decode cX12_make 157 = .ok (.iastore, 1) := by decide +kernel
theorem dX12_make_158 : decode cX12_make 158 = .ok (.aload_n 0, 1) := by decide +kernel
theorem dX12_make_159 : decode cX12_make 159 = .ok (.dup, 1) := by decide +kernel
theorem dX12_make_160 : decode cX12_make 160 = .ok (.getfield 722, 3) := by decide +kernel
theorem dX12_make_163 : decode cX12_make 163 = .ok (.iconst 1, 1) := by decide +kernel
theorem dX12_make_164 : decode cX12_make 164 = .ok (.iadd, 1) := by decide +kernel
theorem dX12_make_165 : decode cX12_make 165 = .ok (.putfield 722, 3) := by decide +kernel
theorem dX12_make_168 : decode cX12_make 168 = .ok (.iinc 7 1, 3) := by decide +kernel
theorem dX12_make_171 : decode cX12_make 171 = .ok (.goto (-29), 3) := by decide +kernel
theorem dX12_make_55 : decode cX12_make 55 = .ok (.aload_n 0, 1) := by decide +kernel
theorem dX12_make_56 : decode cX12_make 56 = .ok (.iconst 3, 1) := by decide +kernel
theorem dX12_make_57 : decode cX12_make 57 = .ok (.putfield 233, 3) := by decide +kernel
theorem dX12_make_60 : decode cX12_make 60 = .ok (.iconst 0, 1) := by decide +kernel
theorem dX12_make_61 : decode cX12_make 61 = .ok (.ireturn, 1) := by decide +kernel
theorem dX12_make_17 : decode cX12_make 17 = .ok (.aload_n 0, 1) := by decide +kernel
theorem dX12_make_18 : decode cX12_make 18 = .ok (.getfield 719, 3) := by decide +kernel
theorem dX12_make_21 : decode cX12_make 21 = .ok (.i2l, 1) := by decide +kernel
theorem dX12_make_22 : decode cX12_make 22 = .ok (.lload 4, 2) := by decide +kernel
theorem dX12_make_24 : decode cX12_make 24 = .ok (.ladd, 1) := by decide +kernel
theorem dX12_make_25 : decode cX12_make 25 = .ok (.aload_n 0, 1) := by decide +kernel
theorem dX12_make_26 : decode cX12_make 26 = .ok (.getfield 733, 3) := by decide +kernel
theorem dX12_make_29 : decode cX12_make 29 = .ok (.i2l, 1) := by decide +kernel
theorem dX12_make_30 : decode cX12_make 30 = .ok (.lcmp, 1) := by decide +kernel
theorem dX12_make_31 : decode cX12_make 31 = .ok (.ifCond .le 7, 3) := by decide +kernel
theorem dX12_make_34 : decode cX12_make 34 = .ok (.aload_n 0, 1) := by decide +kernel
theorem dX12_make_35 : decode cX12_make 35 = .ok (.invokevirtual 736, 3) := by decide +kernel
theorem dX12_make_7 : decode cX12_make 7 = .ok (.ldc2_w 731, 3) := by decide +kernel
theorem dX12_make_10 : decode cX12_make 10 = .ok (.goto 4, 3) := by decide +kernel
theorem hV_X12_sweep : yX12_sweep.cls = RX12 ∧ yX12_sweep.cls ≠ "java/lang/invoke/MethodHandle" ∧ yX12_sweep.cls ≠ "java/lang/invoke/VarHandle" ∧ (parseMethodDescriptor yX12_sweep.desc).map (fun d => d.parameters.length) = some 0 := by decide +kernel
set_option maxHeartbeats 12000000 in
set_option maxRecDepth 100000 in
/-- make(of, sort, many) -/
theorem R_make (l : Launch) (G : pT) (h0 : Nat) (a : Nat → Nat) (F : Nat → Int32) (B : Nat → Nat → Int32) (mq : Nat) (kk : Int32) (so : Int32) (en : Int32) (on : Nat) (op : Nat) (tp : Nat) (wn : Nat) (idn : Nat) (fl : Nat) (rmm : Nat) (sn : Nat → Int32) (td : Nat → Int32) (od : Nat → Int32) (ido : Nat → Int32) (oa : Nat → Int32) (cl : Nat → Int32) (ct : Nat) (oc : Nat → Int32) (os : Nat → Int32) (om : Nat → Int32) (hon : on ≤ 3000) (hop : op ≤ 100) (htp : tp ≤ 40000) (hwn : wn ≤ 2100) (hth : ∀ c : Nat, c < op → RfV od on (B 62 c)) (hscp : ∀ c : Nat, c < op → ∃ s : Nat, s ≤ 30 ∧ B 63 c = nI s ∧ ∀ v : Nat, v < s → ¬ B 67 (32 * c + v) = 0 → RfV od on (B 66 (32 * c + v))) (hstk : ∀ k : Nat, k < tp → ¬ B 69 k = 0 → RfV od on (B 68 k)) (hwt : ∀ k : Nat, k < wn → ¬ B 72 k = 0 → RfV od on (B 71 k)) (hob : ∀ o : Nat, o < 3000 → Lvd od on o → ObR od on oc os om oa cl (B 75) (B 76) (B 77) o) (hHS : HS om oc od ido oa on idn fl rmm) (hct : ct = smF om od on) (hmq : mq < 2147483648) : PM l G pX0 yX12_make cX12_make 8 (some .int) ({ frames := 5, cells := 0, slots := 0, locals := 128 }) [.ref h0, .int kk, .int so, .int (nI mq)] (mW G h0 a (upd (upd (upd (upd (upd (upd (upd (upd (upd F 97 (nI ct)) 98 (nI fl)) 99 (nI rmm)) 102 (nI op)) 111 (nI tp)) 115 (nI wn)) 116 en) 128 (nI on)) 130 (nI idn)) (updA (updA (updA (updA (updA (updA (updA (updA (updA B 55 oc) 56 os) 57 om) 58 oa) 59 sn) 60 cl) 61 td) 73 od) 74 ido)) (fun (v : Option Value) (u : Nat × Nat × Nat × Nat × Nat × Int32 × Int32 × Int32 × Int32 × (Nat → Int32) × (Nat → Int32) × (Nat → Int32) × (Nat → Int32) × (Nat → Int32) × (Nat → Int32) × (Nat → Int32) × (Nat → Int32) × (Nat → Int32) × (Nat → Int32)) => v = some (.int (nI u.1)) ∧ (HS u.2.2.2.2.2.2.2.2.2.2.2.2.2.2.2.2.2.1 u.2.2.2.2.2.2.2.2.2.2.2.2.2.2.2.1 u.2.2.2.2.2.2.2.2.2.1 u.2.2.2.2.2.2.2.2.2.2.1 u.2.2.2.2.2.2.2.2.2.2.2.1 u.2.1 u.2.2.1 u.2.2.2.1 rmm) ∧ (u.2.2.2.2.1 = smF u.2.2.2.2.2.2.2.2.2.2.2.2.2.2.2.2.2.1 u.2.2.2.2.2.2.2.2.2.1 u.2.1) ∧ (((∀ c : Nat, c < op → RfS u.2.2.2.2.2.2.2.2.2.2.2.2.2.2.2.2.2.2 (B 62 c)) ∧ (∀ c s v : Nat, c < op → B 63 c = nI s → s ≤ 30 → v < s → ¬ B 67 (32 * c + v) = 0 → RfS u.2.2.2.2.2.2.2.2.2.2.2.2.2.2.2.2.2.2 (B 66 (32 * c + v))) ∧ (∀ k : Nat, k < tp → ¬ B 69 k = 0 → RfS u.2.2.2.2.2.2.2.2.2.2.2.2.2.2.2.2.2.2 (B 68 k)) ∧ (∀ k : Nat, k < wn → ¬ B 72 k = 0 → RfS u.2.2.2.2.2.2.2.2.2.2.2.2.2.2.2.2.2.2 (B 71 k)) ∧ (∀ o : Nat, o < 3000 → Lvd od on o → ¬ u.2.2.2.2.2.2.2.2.2.2.2.2.2.2.2.2.2.2 o = 0 → ∀ v : Int32, (Chd oc os om oa cl (B 75) (B 76) (B 77)) o v → RfS u.2.2.2.2.2.2.2.2.2.2.2.2.2.2.2.2.2.2 v))) ∧ (u.1 ≤ 3000) ∧ (If (u.1 = 0) (u.2.2.2.2.2.1 = 3 ∧ u.2.2.2.2.2.2.2.2.2.2.2.2.2.2.2.1 = oc ∧ u.2.2.2.2.2.2.2.2.2.2.2.2.2.2.2.2.1 = os ∧ u.2.2.2.2.2.2.2.2.2.2.2.2.2.2.2.2.2.1 = om)) ∧ (If (0 < u.1) (u.2.2.2.2.2.1 = en ∧ u.2.2.2.2.2.2.2.2.2.2.2.2.2.2.2.1 = upd oc (u.1 - 1) kk ∧ u.2.2.2.2.2.2.2.2.2.2.2.2.2.2.2.2.1 = upd os (u.1 - 1) so ∧ u.2.2.2.2.2.2.2.2.2.2.2.2.2.2.2.2.2.1 = upd om (u.1 - 1) (nI mq) ∧ mq ≤ 3000 ∧ (¬ Lvd od on (u.1 - 1) ∨ u.2.2.2.2.2.2.2.2.2.2.2.2.2.2.2.2.2.2 (u.1 - 1) = 0) ∧ ∃ p : Nat, u.2.2.2.2.2.2.2.2.2.2.2.1 (u.1 - 1) = nI p ∧ p + mq ≤ 3000 ∧ ∀ i : Nat, i < mq → u.2.2.2.2.2.2.2.2.2.2.2.2.1 (p + i) = 0)) ∧ (∀ o : Nat, o < 3000 → (Lvd u.2.2.2.2.2.2.2.2.2.1 u.2.1 o ↔ (Lvd od on o ∧ ¬ u.2.2.2.2.2.2.2.2.2.2.2.2.2.2.2.2.2.2 o = 0) ∨ (0 < u.1 ∧ o = u.1 - 1))) ∧ (∀ o : Nat, o < 3000 → Lvd od on o → ¬ u.2.2.2.2.2.2.2.2.2.2.2.2.2.2.2.2.2.2 o = 0 → ∀ i q p p1 : Nat, om o = nI q → oa o = nI p → u.2.2.2.2.2.2.2.2.2.2.2.1 o = nI p1 → i < q → q ≤ 3000 → p ≤ 3000 → p1 ≤ 3000 → u.2.2.2.2.2.2.2.2.2.2.2.2.1 (p1 + i) = cl (p + i))) (fun u => (mW G h0 a (upd (upd (upd (upd (upd (upd (upd (upd (upd (upd (upd (upd F 97 (nI u.2.2.2.2.1)) 98 (nI u.2.2.2.1)) 99 (nI rmm)) 101 u.2.2.2.2.2.2.1) 102 (nI op)) 111 (nI tp)) 115 (nI wn)) 116 u.2.2.2.2.2.1) 121 u.2.2.2.2.2.2.2.1) 122 u.2.2.2.2.2.2.2.2.1) 128 (nI u.2.1)) 130 (nI u.2.2.1)) (updA (updA (updA (updA (updA (updA (updA (updA (updA B 55 u.2.2.2.2.2.2.2.2.2.2.2.2.2.2.2.1) 56 u.2.2.2.2.2.2.2.2.2.2.2.2.2.2.2.2.1) 57 u.2.2.2.2.2.2.2.2.2.2.2.2.2.2.2.2.2.1) 58 u.2.2.2.2.2.2.2.2.2.2.2.1) 59 u.2.2.2.2.2.2.2.2.2.2.2.2.2.1) 60 u.2.2.2.2.2.2.2.2.2.2.2.2.1) 61 u.2.2.2.2.2.2.2.2.2.2.2.2.2.2.1) 73 u.2.2.2.2.2.2.2.2.2.1) 74 u.2.2.2.2.2.2.2.2.2.2.1))) := by
  intro sz
  refine Met.ofW (cc := cX12_make) (maxL := 8) (ret := (some .int)) (by decide) rfl ?_
  intro p e s m args below meth c s₁ B9 hml hv
  obtain ⟨rfl, hsz, hP, hD0, hE, hX⟩ := hv
  have hx := B9.exec
  have hb := B9.bytes
  have hr := B9.returns
  have hts := atoms_spec (ws := Cond.code yX12_make cX12_make 8 (some .int) :: pw) B9.pre
  have hq : ∀ w ∈ pw, w.before _ s = true := fun w h => hts w (List.mem_cons_of_mem _ h)
  have hown : s.vm.findClass RX12 = some m.cls := findClass_of_methodNamed B9.named
  have hlocks := B9.notSynchronized
  subst hsz
  have hD := hD0.self (sz := s.heap.size)
  have hA : ∀ q : Nat, s.heap.size ≤ q → va_A (mW G h0 a (upd (upd (upd (upd (upd (upd (upd (upd (upd F 97 (nI ct)) 98 (nI fl)) 99 (nI rmm)) 102 (nI op)) 111 (nI tp)) 115 (nI wn)) 116 en) 128 (nI on)) 130 (nI idn)) (updA (updA (updA (updA (updA (updA (updA (updA (updA B 55 oc) 56 os) 57 om) 58 oa) 59 sn) 60 cl) 61 td) 73 od) 74 ido)) s.heap.size q := fun q h => Or.inr h
  have hP : va_P G.1 pCl (mW G h0 a (upd (upd (upd (upd (upd (upd (upd (upd (upd F 97 (nI ct)) 98 (nI fl)) 99 (nI rmm)) 102 (nI op)) 111 (nI tp)) 115 (nI wn)) 116 en) 128 (nI on)) 130 (nI idn)) (updA (updA (updA (updA (updA (updA (updA (updA (updA B 55 oc) 56 os) 57 om) 58 oa) 59 sn) 60 cl) 61 td) 73 od) 74 ido)) s.heap := hP
  generalize va_A (mW G h0 a (upd (upd (upd (upd (upd (upd (upd (upd (upd F 97 (nI ct)) 98 (nI fl)) 99 (nI rmm)) 102 (nI op)) 111 (nI tp)) 115 (nI wn)) 116 en) 128 (nI on)) 130 (nI idn)) (updA (updA (updA (updA (updA (updA (updA (updA (updA B 55 oc) 56 os) 57 om) 58 oa) 59 sn) 60 cl) 61 td) 73 od) 74 ido)) s.heap.size = A at hD hE hA ⊢
  have hS : va_S A s.heap s.heap [] := va_S.rf
  have hl := lv_entry ([.ref h0, .int kk, .int so, .int (nI mq)]) (n := 8) (Nat.le_of_ble_eq_true rfl)
  rw [lg_entry_eq]
  generalize (lg_sl ([.ref h0, .int kk, .int so, .int (nI mq)]) ++ List.replicate (8 - (lg_sl ([.ref h0, .int kk, .int so, .int (nI mq)])).length) Slot.unset).toArray = ls at hl ⊢
  have hl : lv_has ls 8 [(0, .ref h0), (1, .int kk), (2, .int so), (3, .int (nI mq))] := hl
  have hon3 : on + idn = 3000 ∧ fl ≤ rmm ∧ rmm ≤ 3000 := ⟨hHS.2.2.2.2.1, hHS.2.2.2.2.2.2.1, hHS.2.2.2.2.2.2.2⟩
  refine lv_iload_n hx hb dX12_make_0 rfl (lv_at hl 3 rfl) ?_
  refine lv_i2l hx hb dX12_make_1 rfl ?_
  refine lv_topl (fun x1 e2 => ?_)
  obtain rfl : x1 = n64 mq := e2.trans (n64_i2l (by omega))
  refine lv_iload_n hx hb dX12_make_2 rfl (lv_at hl 1 rfl) ?_
  refine lv_iconst (v := (-1)) hx hb dX12_make_3 (by decide) ?_
  refine lv_icmp_ne (tgt := 13) hx hb dX12_make_4 (by decide) (fun c3 => ?_) (fun c3 => ?_)
  · refine lv_lconst (v := 1) hx hb dX12_make_13 (by decide) ?_
    refine lv_ladd hx hb dX12_make_14 ?_
    refine lv_topl (fun x4 e5 => ?_)
    obtain rfl : x4 = n64 (mq + 1) := e5.trans (n64_add mq 1)
    refine lv_lstore (lv' := [(4, .long (n64 (mq + 1))), (0, .ref h0), (1, .int kk), (2, .int so), (3, .int (nI mq))]) hx hb dX12_make_15 hl (by decide) rfl (fun ls hl => ?_)
    have cut_s : ∀ (on2 : Nat) (idn2 : Nat) (fl2 : Nat) (ct2 : Nat) (tds2 : Int32) (od2 : Nat → Int32) (id2 : Nat → Int32) (oa2 : Nat → Int32) (cl2 : Nat → Int32) (sn2 : Nat → Int32) (td2 : Nat → Int32) (snk : Nat → Int32) (H : Heap) (locs : List Loc) (ls : Array Slot), (on2 + idn2 = 3000 ∧ fl2 ≤ rmm ∧ on2 ≤ fl2 ∧ ct2 + on2 ≤ fl2) → (HS om oc od2 id2 oa2 on2 idn2 fl2 rmm) → (ct2 = smF om od2 on2) → (Kept om od oa cl od2 oa2 cl2 snk on on2) → (((∀ c : Nat, c < op → RfS snk (B 62 c)) ∧ (∀ c s v : Nat, c < op → B 63 c = nI s → s ≤ 30 → v < s → ¬ B 67 (32 * c + v) = 0 → RfS snk (B 66 (32 * c + v))) ∧ (∀ k : Nat, k < tp → ¬ B 69 k = 0 → RfS snk (B 68 k)) ∧ (∀ k : Nat, k < wn → ¬ B 72 k = 0 → RfS snk (B 71 k)) ∧ (∀ o : Nat, o < 3000 → Lvd od on o → ¬ snk o = 0 → ∀ v : Int32, (Chd oc os om oa cl (B 75) (B 76) (B 77)) o v → RfS snk v))) → va_P G.1 pCl (mW G h0 a (upd (upd (upd (upd (upd (upd (upd (upd (upd (upd F 97 (nI ct2)) 98 (nI fl2)) 99 (nI rmm)) 101 tds2) 102 (nI op)) 111 (nI tp)) 115 (nI wn)) 116 en) 128 (nI on2)) 130 (nI idn2)) (updA (updA (updA (updA (updA (updA (updA (updA (updA B 55 oc) 56 os) 57 om) 58 oa2) 59 sn2) 60 cl2) 61 td2) 73 od2) 74 id2)) H → va_D A (mW G h0 a (upd (upd (upd (upd (upd (upd (upd (upd (upd (upd F 97 (nI ct2)) 98 (nI fl2)) 99 (nI rmm)) 101 tds2) 102 (nI op)) 111 (nI tp)) 115 (nI wn)) 116 en) 128 (nI on2)) 130 (nI idn2)) (updA (updA (updA (updA (updA (updA (updA (updA (updA B 55 oc) 56 os) 57 om) 58 oa2) 59 sn2) 60 cl2) 61 td2) 73 od2) 74 id2)) → va_S A s.heap H locs → lv_has ls 8 [(4, .long (n64 (mq + 1))), (3, .int (nI mq)), (2, .int so), (1, .int kk), (0, .ref h0)] → W p l e (headSpec (Cond.code yX12_make cX12_make 8 (some .int) :: pw) ({ frames := 5, cells := 0, slots := 0, locals := 128 } : Room)).room s m ([.ref h0, .int kk, .int so, .int (nI mq)] : List Value).toArray below meth c H locs 0 0 (MQ below (pQ G A (fun (v : Option Value) (u : Nat × Nat × Nat × Nat × Nat × Int32 × Int32 × Int32 × Int32 × (Nat → Int32) × (Nat → Int32) × (Nat → Int32) × (Nat → Int32) × (Nat → Int32) × (Nat → Int32) × (Nat → Int32) × (Nat → Int32) × (Nat → Int32) × (Nat → Int32)) => v = some (.int (nI u.1)) ∧ (HS u.2.2.2.2.2.2.2.2.2.2.2.2.2.2.2.2.2.1 u.2.2.2.2.2.2.2.2.2.2.2.2.2.2.2.1 u.2.2.2.2.2.2.2.2.2.1 u.2.2.2.2.2.2.2.2.2.2.1 u.2.2.2.2.2.2.2.2.2.2.2.1 u.2.1 u.2.2.1 u.2.2.2.1 rmm) ∧ (u.2.2.2.2.1 = smF u.2.2.2.2.2.2.2.2.2.2.2.2.2.2.2.2.2.1 u.2.2.2.2.2.2.2.2.2.1 u.2.1) ∧ (((∀ c : Nat, c < op → RfS u.2.2.2.2.2.2.2.2.2.2.2.2.2.2.2.2.2.2 (B 62 c)) ∧ (∀ c s v : Nat, c < op → B 63 c = nI s → s ≤ 30 → v < s → ¬ B 67 (32 * c + v) = 0 → RfS u.2.2.2.2.2.2.2.2.2.2.2.2.2.2.2.2.2.2 (B 66 (32 * c + v))) ∧ (∀ k : Nat, k < tp → ¬ B 69 k = 0 → RfS u.2.2.2.2.2.2.2.2.2.2.2.2.2.2.2.2.2.2 (B 68 k)) ∧ (∀ k : Nat, k < wn → ¬ B 72 k = 0 → RfS u.2.2.2.2.2.2.2.2.2.2.2.2.2.2.2.2.2.2 (B 71 k)) ∧ (∀ o : Nat, o < 3000 → Lvd od on o → ¬ u.2.2.2.2.2.2.2.2.2.2.2.2.2.2.2.2.2.2 o = 0 → ∀ v : Int32, (Chd oc os om oa cl (B 75) (B 76) (B 77)) o v → RfS u.2.2.2.2.2.2.2.2.2.2.2.2.2.2.2.2.2.2 v))) ∧ (u.1 ≤ 3000) ∧ (If (u.1 = 0) (u.2.2.2.2.2.1 = 3 ∧ u.2.2.2.2.2.2.2.2.2.2.2.2.2.2.2.1 = oc ∧ u.2.2.2.2.2.2.2.2.2.2.2.2.2.2.2.2.1 = os ∧ u.2.2.2.2.2.2.2.2.2.2.2.2.2.2.2.2.2.1 = om)) ∧ (If (0 < u.1) (u.2.2.2.2.2.1 = en ∧ u.2.2.2.2.2.2.2.2.2.2.2.2.2.2.2.1 = upd oc (u.1 - 1) kk ∧ u.2.2.2.2.2.2.2.2.2.2.2.2.2.2.2.2.1 = upd os (u.1 - 1) so ∧ u.2.2.2.2.2.2.2.2.2.2.2.2.2.2.2.2.2.1 = upd om (u.1 - 1) (nI mq) ∧ mq ≤ 3000 ∧ (¬ Lvd od on (u.1 - 1) ∨ u.2.2.2.2.2.2.2.2.2.2.2.2.2.2.2.2.2.2 (u.1 - 1) = 0) ∧ ∃ p : Nat, u.2.2.2.2.2.2.2.2.2.2.2.1 (u.1 - 1) = nI p ∧ p + mq ≤ 3000 ∧ ∀ i : Nat, i < mq → u.2.2.2.2.2.2.2.2.2.2.2.2.1 (p + i) = 0)) ∧ (∀ o : Nat, o < 3000 → (Lvd u.2.2.2.2.2.2.2.2.2.1 u.2.1 o ↔ (Lvd od on o ∧ ¬ u.2.2.2.2.2.2.2.2.2.2.2.2.2.2.2.2.2.2 o = 0) ∨ (0 < u.1 ∧ o = u.1 - 1))) ∧ (∀ o : Nat, o < 3000 → Lvd od on o → ¬ u.2.2.2.2.2.2.2.2.2.2.2.2.2.2.2.2.2.2 o = 0 → ∀ i q p p1 : Nat, om o = nI q → oa o = nI p → u.2.2.2.2.2.2.2.2.2.2.2.1 o = nI p1 → i < q → q ≤ 3000 → p ≤ 3000 → p1 ≤ 3000 → u.2.2.2.2.2.2.2.2.2.2.2.2.1 (p1 + i) = cl (p + i))) (fun u => (mW G h0 a (upd (upd (upd (upd (upd (upd (upd (upd (upd (upd (upd (upd F 97 (nI u.2.2.2.2.1)) 98 (nI u.2.2.2.1)) 99 (nI rmm)) 101 u.2.2.2.2.2.2.1) 102 (nI op)) 111 (nI tp)) 115 (nI wn)) 116 u.2.2.2.2.2.1) 121 u.2.2.2.2.2.2.2.1) 122 u.2.2.2.2.2.2.2.2.1) 128 (nI u.2.1)) 130 (nI u.2.2.1)) (updA (updA (updA (updA (updA (updA (updA (updA (updA B 55 u.2.2.2.2.2.2.2.2.2.2.2.2.2.2.2.1) 56 u.2.2.2.2.2.2.2.2.2.2.2.2.2.2.2.2.1) 57 u.2.2.2.2.2.2.2.2.2.2.2.2.2.2.2.2.2.1) 58 u.2.2.2.2.2.2.2.2.2.2.2.1) 59 u.2.2.2.2.2.2.2.2.2.2.2.2.2.1) 60 u.2.2.2.2.2.2.2.2.2.2.2.2.1) 61 u.2.2.2.2.2.2.2.2.2.2.2.2.2.2.1) 73 u.2.2.2.2.2.2.2.2.2.1) 74 u.2.2.2.2.2.2.2.2.2.2.1)))) ([.ref h0, .int kk, .int so, .int (nI mq)] : List Value).toArray s ({ frames := 5, cells := 0, slots := 0, locals := 128 } : Room).cells ({ frames := 5, cells := 0, slots := 0, locals := 128 } : Room).slots A) (F0 m 38 ls []) := by
      intro on2 idn2 fl2 ct2 tds2 od2 id2 oa2 cl2 sn2 td2 snk H locs ls hn2 hH2 hct2 hK2 hR2 hP hD hS hl
      refine lv_aload_n hx hb dX12_make_38 rfl (lv_at hl 4 rfl) ?_
      refine r_get (v := .int (nI fl2)) hx hb hown hq hE hP 98 719 tFX12_98 (by decide) pw_1976 rfl dX12_make_39 ?_
      refine lv_i2l hx hb dX12_make_42 rfl ?_
      refine lv_topl (fun x6 e7 => ?_)
      obtain rfl : x6 = n64 fl2 := e7.trans (n64_i2l (by omega))
      refine lv_lload hx hb dX12_make_43 (lv_at hl 0 rfl) ?_
      refine lv_ladd hx hb dX12_make_45 ?_
      refine lv_topl (fun x8 e9 => ?_)
      obtain rfl : x8 = n64 (fl2 + (mq + 1)) := e9.trans (n64_add fl2 (mq + 1))
      refine lv_aload_n hx hb dX12_make_46 rfl (lv_at hl 4 rfl) ?_
      refine r_get (v := .int (nI rmm)) hx hb hown hq hE hP 99 733 tFX12_99 (by decide) pw_1987 rfl dX12_make_47 ?_
      refine lv_i2l hx hb dX12_make_50 rfl ?_
      refine lv_topl (fun x10 e11 => ?_)
      obtain rfl : x10 = n64 rmm := e11.trans (n64_i2l (by omega))
      refine W.lcmp hx hb dX12_make_51 ?_
      rcases Nat.lt_trichotomy (fl2 + (mq + 1)) rmm with h12 | h12 | h12
      · refine lv_topi (fun x13 e14 => ?_)
        obtain rfl : x13 = -1 := e14.trans (n64_less (by omega) (by omega) h12)
        refine lv_if_le (tgt := 62) hx hb dX12_make_52 (by decide) (fun c15 => ?_) (fun c15 => absurd c15 (by decide))
        refine lv_aload_n hx hb dX12_make_62 rfl (lv_at hl 4 rfl) ?_
        refine lv_dup hx hb dX12_make_63 rfl ?_
        refine r_get (v := .int (nI idn2)) hx hb hown hq hE hP 130 725 tFX12_130 (by decide) pw_1978 rfl dX12_make_64 ?_
        refine lv_iconst (v := 1) hx hb dX12_make_67 (by decide) ?_
        refine lv_isub hx hb dX12_make_68 ?_
        refine lv_topi (fun x16 e17 => ?_)
        obtain rfl : x16 = nI (idn2 - 1) := e17.trans (nI_subN (a := 1) (b := idn2) (by omega))
        refine r_put (v := (nI (idn2 - 1))) (ty := .int) hx hb hown hq hE hP hD hS 130 725 tFX12_130 (by decide) pw_1978 (by decide) rfl rfl (ms_130 a _ _) dX12_make_69 (fun H locs hP hD hS => ?_)
        refine lv_aload_n hx hb dX12_make_72 rfl (lv_at hl 4 rfl) ?_
        refine r_get (v := .ref (a 74)) hx hb hown hq hE hP 129 240 tFX12_129 (by decide) pw_1508 rfl dX12_make_73 ?_
        refine lv_aload_n hx hb dX12_make_76 rfl (lv_at hl 4 rfl) ?_
        refine r_get (v := .int (nI (idn2 - 1))) hx hb hown hq hE hP 130 725 tFX12_130 (by decide) pw_1978 rfl dX12_make_77 ?_
        refine r_ldi (f := id2) (j := (idn2 - 1)) hx hb hE hP 74 (ma_74 G a _) rfl (by omega) (by decide) dX12_make_80 ?_
        obtain ⟨o18, h19, e20, h21⟩ := hH2.2.2.1 (idn2 - 1) (by omega)
        refine lv_topi (fun x22 e23 => ?_)
        obtain rfl : x22 = nI o18 := e23.trans e20
        refine lv_istore (lv' := [(6, .int (nI o18)), (4, .long (n64 (mq + 1))), (3, .int (nI mq)), (2, .int so), (1, .int kk), (0, .ref h0)]) hx hb dX12_make_81 hl (by decide) rfl (fun ls hl => ?_)
        refine lv_aload_n hx hb dX12_make_83 rfl (lv_at hl 5 rfl) ?_
        refine r_get (v := .ref (a 73)) hx hb hown hq hE hP 127 237 tFX12_127 (by decide) pw_1507 rfl dX12_make_84 ?_
        refine lv_aload_n hx hb dX12_make_87 rfl (lv_at hl 5 rfl) ?_
        refine r_get (v := .int (nI on2)) hx hb hown hq hE hP 128 704 tFX12_128 (by decide) pw_1968 rfl dX12_make_88 ?_
        refine lv_iload hx hb dX12_make_91 (lv_at hl 0 rfl) ?_
        refine r_sti (f := od2) (j := on2) hx hb hE hP hD hS 73 (ma_73 G a _) rfl (mas_73 G a _) (by omega) (by decide) dX12_make_93 (fun H locs hP hD hS => ?_)
        refine lv_aload_n hx hb dX12_make_94 rfl (lv_at hl 5 rfl) ?_
        refine lv_dup hx hb dX12_make_95 rfl ?_
        refine r_get (v := .int (nI on2)) hx hb hown hq hE hP 128 704 tFX12_128 (by decide) pw_1968 rfl dX12_make_96 ?_
        refine lv_iconst (v := 1) hx hb dX12_make_99 (by decide) ?_
        refine lv_iadd hx hb dX12_make_100 ?_
        refine lv_topi (fun x24 e25 => ?_)
        obtain rfl : x24 = nI (on2 + 1) := e25.trans (nI_add (on2) (1))
        refine r_put (v := (nI (on2 + 1))) (ty := .int) hx hb hown hq hE hP hD hS 128 704 tFX12_128 (by decide) pw_1968 (by decide) rfl rfl (ms_128 a _ _) dX12_make_101 (fun H locs hP hD hS => ?_)
        refine lv_aload_n hx hb dX12_make_104 rfl (lv_at hl 5 rfl) ?_
        refine r_get (v := .ref (a 55)) hx hb hown hq hE hP 91 178 tFX12_91 (by decide) pw_1487 rfl dX12_make_105 ?_
        refine lv_iload hx hb dX12_make_108 (lv_at hl 0 rfl) ?_
        refine lv_iload_n hx hb dX12_make_110 rfl (lv_at hl 4 rfl) ?_
        refine r_sti (f := oc) (j := o18) hx hb hE hP hD hS 55 (ma_55 G a _) rfl (mas_55 G a _) (by omega) (by decide) dX12_make_111 (fun H locs hP hD hS => ?_)
        refine lv_aload_n hx hb dX12_make_112 rfl (lv_at hl 5 rfl) ?_
        refine r_get (v := .ref (a 56)) hx hb hown hq hE hP 92 181 tFX12_92 (by decide) pw_1488 rfl dX12_make_113 ?_
        refine lv_iload hx hb dX12_make_116 (lv_at hl 0 rfl) ?_
        refine lv_iload_n hx hb dX12_make_118 rfl (lv_at hl 3 rfl) ?_
        refine r_sti (f := os) (j := o18) hx hb hE hP hD hS 56 (ma_56 G a _) rfl (mas_56 G a _) (by omega) (by decide) dX12_make_119 (fun H locs hP hD hS => ?_)
        refine lv_aload_n hx hb dX12_make_120 rfl (lv_at hl 5 rfl) ?_
        refine r_get (v := .ref (a 57)) hx hb hown hq hE hP 93 184 tFX12_93 (by decide) pw_1489 rfl dX12_make_121 ?_
        refine lv_iload hx hb dX12_make_124 (lv_at hl 0 rfl) ?_
        refine lv_iload_n hx hb dX12_make_126 rfl (lv_at hl 2 rfl) ?_
        refine r_sti (f := om) (j := o18) hx hb hE hP hD hS 57 (ma_57 G a _) rfl (mas_57 G a _) (by omega) (by decide) dX12_make_127 (fun H locs hP hD hS => ?_)
        refine lv_aload_n hx hb dX12_make_128 rfl (lv_at hl 5 rfl) ?_
        refine r_get (v := .ref (a 58)) hx hb hown hq hE hP 94 187 tFX12_94 (by decide) pw_1490 rfl dX12_make_129 ?_
        refine lv_iload hx hb dX12_make_132 (lv_at hl 0 rfl) ?_
        refine lv_aload_n hx hb dX12_make_134 rfl (lv_at hl 5 rfl) ?_
        refine r_get (v := .int (nI ct2)) hx hb hown hq hE hP 97 722 tFX12_97 (by decide) pw_1977 rfl dX12_make_135 ?_
        refine r_sti (f := oa2) (j := o18) hx hb hE hP hD hS 58 (ma_58 G a _) rfl (mas_58 G a _) (by omega) (by decide) dX12_make_138 (fun H locs hP hD hS => ?_)
        refine lv_iconst (v := 0) hx hb dX12_make_139 (by decide) ?_
        refine lv_istore (lv' := [(7, .int 0), (6, .int (nI o18)), (4, .long (n64 (mq + 1))), (3, .int (nI mq)), (2, .int so), (1, .int kk), (0, .ref h0)]) hx hb dX12_make_140 hl (by decide) rfl (fun ls hl => ?_)
        have loop_z : ∀ (n_z : Nat) (iq4 : Nat) (cl4 : Nat → Int32) (H : Heap) (locs : List Loc) (ls : Array Slot), iq4 ≤ mq → mq + 1 ≤ iq4 + n_z → (Zrd cl2 cl4 ct2 iq4) → va_P G.1 pCl (mW G h0 a (upd (upd (upd (upd (upd (upd (upd (upd (upd (upd F 97 (nI (ct2 + iq4))) 98 (nI fl2)) 99 (nI rmm)) 101 tds2) 102 (nI op)) 111 (nI tp)) 115 (nI wn)) 116 en) 128 (nI (on2 + 1))) 130 (nI (idn2 - 1))) (updA (updA (updA (updA (updA (updA (updA (updA (updA B 55 (upd oc o18 kk)) 56 (upd os o18 so)) 57 (upd om o18 (nI mq))) 58 (upd oa2 o18 (nI ct2))) 59 sn2) 60 cl4) 61 td2) 73 (upd od2 on2 (nI o18))) 74 id2)) H → va_D A (mW G h0 a (upd (upd (upd (upd (upd (upd (upd (upd (upd (upd F 97 (nI (ct2 + iq4))) 98 (nI fl2)) 99 (nI rmm)) 101 tds2) 102 (nI op)) 111 (nI tp)) 115 (nI wn)) 116 en) 128 (nI (on2 + 1))) 130 (nI (idn2 - 1))) (updA (updA (updA (updA (updA (updA (updA (updA (updA B 55 (upd oc o18 kk)) 56 (upd os o18 so)) 57 (upd om o18 (nI mq))) 58 (upd oa2 o18 (nI ct2))) 59 sn2) 60 cl4) 61 td2) 73 (upd od2 on2 (nI o18))) 74 id2)) → va_S A s.heap H locs → lv_has ls 8 [(7, .int (nI iq4)), (6, .int (nI o18)), (4, .long (n64 (mq + 1))), (3, .int (nI mq)), (2, .int so), (1, .int kk), (0, .ref h0)] → W p l e (headSpec (Cond.code yX12_make cX12_make 8 (some .int) :: pw) ({ frames := 5, cells := 0, slots := 0, locals := 128 } : Room)).room s m ([.ref h0, .int kk, .int so, .int (nI mq)] : List Value).toArray below meth c H locs 0 0 (MQ below (pQ G A (fun (v : Option Value) (u : Nat × Nat × Nat × Nat × Nat × Int32 × Int32 × Int32 × Int32 × (Nat → Int32) × (Nat → Int32) × (Nat → Int32) × (Nat → Int32) × (Nat → Int32) × (Nat → Int32) × (Nat → Int32) × (Nat → Int32) × (Nat → Int32) × (Nat → Int32)) => v = some (.int (nI u.1)) ∧ (HS u.2.2.2.2.2.2.2.2.2.2.2.2.2.2.2.2.2.1 u.2.2.2.2.2.2.2.2.2.2.2.2.2.2.2.1 u.2.2.2.2.2.2.2.2.2.1 u.2.2.2.2.2.2.2.2.2.2.1 u.2.2.2.2.2.2.2.2.2.2.2.1 u.2.1 u.2.2.1 u.2.2.2.1 rmm) ∧ (u.2.2.2.2.1 = smF u.2.2.2.2.2.2.2.2.2.2.2.2.2.2.2.2.2.1 u.2.2.2.2.2.2.2.2.2.1 u.2.1) ∧ (((∀ c : Nat, c < op → RfS u.2.2.2.2.2.2.2.2.2.2.2.2.2.2.2.2.2.2 (B 62 c)) ∧ (∀ c s v : Nat, c < op → B 63 c = nI s → s ≤ 30 → v < s → ¬ B 67 (32 * c + v) = 0 → RfS u.2.2.2.2.2.2.2.2.2.2.2.2.2.2.2.2.2.2 (B 66 (32 * c + v))) ∧ (∀ k : Nat, k < tp → ¬ B 69 k = 0 → RfS u.2.2.2.2.2.2.2.2.2.2.2.2.2.2.2.2.2.2 (B 68 k)) ∧ (∀ k : Nat, k < wn → ¬ B 72 k = 0 → RfS u.2.2.2.2.2.2.2.2.2.2.2.2.2.2.2.2.2.2 (B 71 k)) ∧ (∀ o : Nat, o < 3000 → Lvd od on o → ¬ u.2.2.2.2.2.2.2.2.2.2.2.2.2.2.2.2.2.2 o = 0 → ∀ v : Int32, (Chd oc os om oa cl (B 75) (B 76) (B 77)) o v → RfS u.2.2.2.2.2.2.2.2.2.2.2.2.2.2.2.2.2.2 v))) ∧ (u.1 ≤ 3000) ∧ (If (u.1 = 0) (u.2.2.2.2.2.1 = 3 ∧ u.2.2.2.2.2.2.2.2.2.2.2.2.2.2.2.1 = oc ∧ u.2.2.2.2.2.2.2.2.2.2.2.2.2.2.2.2.1 = os ∧ u.2.2.2.2.2.2.2.2.2.2.2.2.2.2.2.2.2.1 = om)) ∧ (If (0 < u.1) (u.2.2.2.2.2.1 = en ∧ u.2.2.2.2.2.2.2.2.2.2.2.2.2.2.2.1 = upd oc (u.1 - 1) kk ∧ u.2.2.2.2.2.2.2.2.2.2.2.2.2.2.2.2.1 = upd os (u.1 - 1) so ∧ u.2.2.2.2.2.2.2.2.2.2.2.2.2.2.2.2.2.1 = upd om (u.1 - 1) (nI mq) ∧ mq ≤ 3000 ∧ (¬ Lvd od on (u.1 - 1) ∨ u.2.2.2.2.2.2.2.2.2.2.2.2.2.2.2.2.2.2 (u.1 - 1) = 0) ∧ ∃ p : Nat, u.2.2.2.2.2.2.2.2.2.2.2.1 (u.1 - 1) = nI p ∧ p + mq ≤ 3000 ∧ ∀ i : Nat, i < mq → u.2.2.2.2.2.2.2.2.2.2.2.2.1 (p + i) = 0)) ∧ (∀ o : Nat, o < 3000 → (Lvd u.2.2.2.2.2.2.2.2.2.1 u.2.1 o ↔ (Lvd od on o ∧ ¬ u.2.2.2.2.2.2.2.2.2.2.2.2.2.2.2.2.2.2 o = 0) ∨ (0 < u.1 ∧ o = u.1 - 1))) ∧ (∀ o : Nat, o < 3000 → Lvd od on o → ¬ u.2.2.2.2.2.2.2.2.2.2.2.2.2.2.2.2.2.2 o = 0 → ∀ i q p p1 : Nat, om o = nI q → oa o = nI p → u.2.2.2.2.2.2.2.2.2.2.2.1 o = nI p1 → i < q → q ≤ 3000 → p ≤ 3000 → p1 ≤ 3000 → u.2.2.2.2.2.2.2.2.2.2.2.2.1 (p1 + i) = cl (p + i))) (fun u => (mW G h0 a (upd (upd (upd (upd (upd (upd (upd (upd (upd (upd (upd (upd F 97 (nI u.2.2.2.2.1)) 98 (nI u.2.2.2.1)) 99 (nI rmm)) 101 u.2.2.2.2.2.2.1) 102 (nI op)) 111 (nI tp)) 115 (nI wn)) 116 u.2.2.2.2.2.1) 121 u.2.2.2.2.2.2.2.1) 122 u.2.2.2.2.2.2.2.2.1) 128 (nI u.2.1)) 130 (nI u.2.2.1)) (updA (updA (updA (updA (updA (updA (updA (updA (updA B 55 u.2.2.2.2.2.2.2.2.2.2.2.2.2.2.2.1) 56 u.2.2.2.2.2.2.2.2.2.2.2.2.2.2.2.2.1) 57 u.2.2.2.2.2.2.2.2.2.2.2.2.2.2.2.2.2.1) 58 u.2.2.2.2.2.2.2.2.2.2.2.1) 59 u.2.2.2.2.2.2.2.2.2.2.2.2.2.1) 60 u.2.2.2.2.2.2.2.2.2.2.2.2.1) 61 u.2.2.2.2.2.2.2.2.2.2.2.2.2.2.1) 73 u.2.2.2.2.2.2.2.2.2.1) 74 u.2.2.2.2.2.2.2.2.2.2.1)))) ([.ref h0, .int kk, .int so, .int (nI mq)] : List Value).toArray s ({ frames := 5, cells := 0, slots := 0, locals := 128 } : Room).cells ({ frames := 5, cells := 0, slots := 0, locals := 128 } : Room).slots A) (F0 m 142 ls []) := by
          intro n_z
          induction n_z with
          | zero => intro iq4 cl4 H locs ls hk_z hn_z; omega
          | succ n_z ih_z =>
            intro iq4 cl4 H locs ls hk_z hn_z hz4 hP hD hS hl
            refine lv_iload hx hb dX12_make_142 (lv_at hl 0 rfl) ?_
            refine lv_iload_n hx hb dX12_make_144 rfl (lv_at hl 3 rfl) ?_
            refine lv_icmp_ge (tgt := 174) hx hb dX12_make_145 (by decide) (fun c26 => ?_) (fun c26 => ?_)
            · have n27 : mq ≤ iq4 := (nI_leI (a := mq) (b := iq4) (by omega) (by omega)).mp c26
              obtain rfl : mq = iq4 := (by omega)
              have hP : va_P G.1 pCl (mW G h0 a (upd (upd (upd (upd (upd (upd (upd (upd (upd (upd F 97 (nI (ct2 + mq))) 98 (nI fl2)) 99 (nI rmm)) 101 tds2) 102 (nI op)) 111 (nI tp)) 115 (nI wn)) 116 en) 128 (nI (on2 + 1))) 130 (nI (idn2 - 1))) (updA (updA (updA (updA (updA (updA (updA (updA (updA B 55 (upd oc o18 kk)) 56 (upd os o18 so)) 57 (upd om o18 (nI mq))) 58 (upd oa2 o18 (nI ct2))) 59 sn2) 60 cl4) 61 td2) 73 (upd od2 on2 (nI o18))) 74 id2)) _ := hP
              have hD : va_D A (mW G h0 a (upd (upd (upd (upd (upd (upd (upd (upd (upd (upd F 97 (nI (ct2 + mq))) 98 (nI fl2)) 99 (nI rmm)) 101 tds2) 102 (nI op)) 111 (nI tp)) 115 (nI wn)) 116 en) 128 (nI (on2 + 1))) 130 (nI (idn2 - 1))) (updA (updA (updA (updA (updA (updA (updA (updA (updA B 55 (upd oc o18 kk)) 56 (upd os o18 so)) 57 (upd om o18 (nI mq))) 58 (upd oa2 o18 (nI ct2))) 59 sn2) 60 cl4) 61 td2) 73 (upd od2 on2 (nI o18))) 74 id2)) := mW_D hD
              have hl : lv_has ls 8 [(7, .int (nI mq)), (6, .int (nI o18)), (4, .long (n64 (mq + 1))), (3, .int (nI mq)), (2, .int so), (1, .int kk), (0, .ref h0)] := hl
              refine lv_aload_n hx hb dX12_make_174 rfl (lv_at hl 6 rfl) ?_
              refine lv_dup hx hb dX12_make_175 rfl ?_
              refine r_get (v := .int (nI fl2)) hx hb hown hq hE hP 98 719 tFX12_98 (by decide) pw_1976 rfl dX12_make_176 ?_
              refine lv_lload hx hb dX12_make_179 (lv_at hl 2 rfl) ?_
              refine lv_l2i hx hb dX12_make_181 rfl ?_
              refine lv_topi (fun x28 e29 => ?_)
              obtain rfl : x28 = nI (mq + 1) := e29.trans (n64_l2i (by omega))
              refine lv_iadd hx hb dX12_make_182 ?_
              refine lv_topi (fun x30 e31 => ?_)
              obtain rfl : x30 = nI (fl2 + (mq + 1)) := e31.trans (nI_add (fl2) ((mq + 1)))
              refine r_put (v := (nI (fl2 + (mq + 1)))) (ty := .int) hx hb hown hq hE hP hD hS 98 719 tFX12_98 (by decide) pw_1976 (by decide) rfl rfl (ms_98 a _ _) dX12_make_183 (fun H locs hP hD hS => ?_)
              refine lv_aload_n hx hb dX12_make_186 rfl (lv_at hl 6 rfl) ?_
              refine lv_dup hx hb dX12_make_187 rfl ?_
              refine r_get (v := .int (F 121)) hx hb hown hq hE hP 121 739 tFX12_121 (by decide) pw_1988 rfl dX12_make_188 ?_
              refine lv_iconst (v := 1) hx hb dX12_make_191 (by decide) ?_
              refine lv_iadd hx hb dX12_make_192 ?_
              refine lv_topi (fun x32 e33 => ?_)
              refine r_put (v := x32) (ty := .int) hx hb hown hq hE hP hD hS 121 739 tFX12_121 (by decide) pw_1988 (by decide) rfl rfl (ms_121 a _ _) dX12_make_193 (fun H locs hP hD hS => ?_)
              refine lv_aload_n hx hb dX12_make_196 rfl (lv_at hl 6 rfl) ?_
              refine lv_dup hx hb dX12_make_197 rfl ?_
              refine r_get (v := .int (F 122)) hx hb hown hq hE hP 122 742 tFX12_122 (by decide) pw_1989 rfl dX12_make_198 ?_
              refine lv_lload hx hb dX12_make_201 (lv_at hl 2 rfl) ?_
              refine lv_l2i hx hb dX12_make_203 rfl ?_
              refine lv_topi (fun x34 e35 => ?_)
              obtain rfl : x34 = nI (mq + 1) := e35.trans (n64_l2i (by omega))
              refine lv_iadd hx hb dX12_make_204 ?_
              refine lv_topi (fun x36 e37 => ?_)
              refine r_put (v := x36) (ty := .int) hx hb hown hq hE hP hD hS 122 742 tFX12_122 (by decide) pw_1989 (by decide) rfl rfl (ms_122 a _ _) dX12_make_205 (fun H locs hP hD hS => ?_)
              refine lv_iload hx hb dX12_make_208 (lv_at hl 1 rfl) ?_
              refine lv_iconst (v := 1) hx hb dX12_make_210 (by decide) ?_
              refine lv_iadd hx hb dX12_make_211 ?_
              refine lv_topi (fun x38 e39 => ?_)
              obtain rfl : x38 = nI (o18 + 1) := e39.trans (nI_add (o18) (1))
              have hmk := HS.make (k := kk) (q := mq) (by rw [show idn2 - 1 + 1 = idn2 by omega]; exact hH2) e20 h19 (by omega) (by rw [(if_neg c3)]; omega)
              rw [(if_neg c3), ← hct2] at hmk
              obtain ⟨hk1, hk2, hk3, hk4⟩ := hmk
              have hr1 : o18 + 1 - 1 = o18 := by omega
              have hz40 : HS (upd om o18 (nI mq)) (upd oc o18 kk) (upd od2 on2 (nI o18)) id2 (upd oa2 o18 (nI ct2)) (on2 + 1) (idn2 - 1) (fl2 + (mq + 1)) rmm := hk1
              have hz41 : (ct2 + mq) = smF (upd om o18 (nI mq)) (upd od2 on2 (nI o18)) (on2 + 1) := hk2.symm
              have hz42 : ((∀ c : Nat, c < op → RfS snk (B 62 c)) ∧ (∀ c s v : Nat, c < op → B 63 c = nI s → s ≤ 30 → v < s → ¬ B 67 (32 * c + v) = 0 → RfS snk (B 66 (32 * c + v))) ∧ (∀ k : Nat, k < tp → ¬ B 69 k = 0 → RfS snk (B 68 k)) ∧ (∀ k : Nat, k < wn → ¬ B 72 k = 0 → RfS snk (B 71 k)) ∧ (∀ o : Nat, o < 3000 → Lvd od on o → ¬ snk o = 0 → ∀ v : Int32, (Chd oc os om oa cl (B 75) (B 76) (B 77)) o v → RfS snk v)) := hR2
              have hz43 : (o18 + 1) ≤ 3000 := (by omega)
              have hz44 : If ((o18 + 1) = 0) (en = 3 ∧ (upd oc o18 kk) = oc ∧ (upd os o18 so) = os ∧ (upd om o18 (nI mq)) = om) := (fun e => absurd e (by omega))
              have hz45 : If (0 < (o18 + 1)) (en = en ∧ (upd oc o18 kk) = upd oc ((o18 + 1) - 1) kk ∧ (upd os o18 so) = upd os ((o18 + 1) - 1) so ∧ (upd om o18 (nI mq)) = upd om ((o18 + 1) - 1) (nI mq) ∧ mq ≤ 3000 ∧ (¬ Lvd od on ((o18 + 1) - 1) ∨ snk ((o18 + 1) - 1) = 0) ∧ ∃ p : Nat, (upd oa2 o18 (nI ct2)) ((o18 + 1) - 1) = nI p ∧ p + mq ≤ 3000 ∧ ∀ i : Nat, i < mq → cl4 (p + i) = 0) := (fun _ => by rw [hr1]; exact ⟨rfl, rfl, rfl, rfl, by omega, by by_cases z : Lvd od on o18; exact Or.inr (Classical.byContradiction (fun y => hk4 ((hK2.1 o18 h19).mpr ⟨z, y⟩))); exact Or.inl z, ct2, upd_eq, by omega, fun i h => hz4.1 i (by omega)⟩)
              have hz46 : ∀ o : Nat, o < 3000 → (Lvd (upd od2 on2 (nI o18)) (on2 + 1) o ↔ (Lvd od on o ∧ ¬ snk o = 0) ∨ (0 < (o18 + 1) ∧ o = (o18 + 1) - 1)) := (fun o ho => by rw [hr1]; exact ⟨fun z => ((hk3 o ho).mp z).elim (fun y => Or.inl ((hK2.1 o ho).mp y)) (fun y => Or.inr ⟨by omega, y⟩), fun z => (hk3 o ho).mpr (z.elim (fun y => Or.inl ((hK2.1 o ho).mpr y)) (fun y => Or.inr y.2))⟩)
              have hz47 : ∀ o : Nat, o < 3000 → Lvd od on o → ¬ snk o = 0 → ∀ i q p p1 : Nat, om o = nI q → oa o = nI p → (upd oa2 o18 (nI ct2)) o = nI p1 → i < q → q ≤ 3000 → p ≤ 3000 → p1 ≤ 3000 → cl4 (p1 + i) = cl (p + i) := (fun o ho h1 h2 i q p p1 e1 e2 e3 l1 l2 l3 l4 => by have lv := (hK2.1 o ho).mpr ⟨h1, h2⟩; have ne : o ≠ o18 := (fun z => hk4 (by rw [← z]; exact lv)); rw [show upd oa2 o18 (nI ct2) o = oa2 o from if_neg ne] at e3; have hb := HS.below hH2 lv ho e1 l2 e3 l4; rw [hz4.2 (p1 + i) (by omega)]; exact hK2.2 o ho lv i q p p1 e1 e2 e3 l1 l2 l3 l4)
              have hP : va_P G.1 pCl (mW G h0 a (upd (upd (upd (upd (upd (upd (upd (upd (upd (upd (upd (upd F 97 (nI (ct2 + mq))) 98 (nI (fl2 + (mq + 1)))) 99 (nI rmm)) 101 tds2) 102 (nI op)) 111 (nI tp)) 115 (nI wn)) 116 en) 121 x32) 122 x36) 128 (nI (on2 + 1))) 130 (nI (idn2 - 1))) (updA (updA (updA (updA (updA (updA (updA (updA (updA B 55 (upd oc o18 kk)) 56 (upd os o18 so)) 57 (upd om o18 (nI mq))) 58 (upd oa2 o18 (nI ct2))) 59 sn2) 60 cl4) 61 td2) 73 (upd od2 on2 (nI o18))) 74 id2)) _ := mW_to (F := F) (l1 := [(97, (nI (ct2 + mq))), (98, (nI fl2)), (99, (nI rmm)), (101, tds2), (102, (nI op)), (111, (nI tp)), (115, (nI wn)), (116, en), (128, (nI (on2 + 1))), (130, (nI (idn2 - 1))), (98, (nI (fl2 + (mq + 1)))), (121, x32), (122, x36)]) (l2 := [(97, (nI (ct2 + mq))), (98, (nI (fl2 + (mq + 1)))), (99, (nI rmm)), (101, tds2), (102, (nI op)), (111, (nI tp)), (115, (nI wn)), (116, en), (121, x32), (122, x36), (128, (nI (on2 + 1))), (130, (nI (idn2 - 1)))]) (V := [(nI (ct2 + mq)), (nI (fl2 + (mq + 1))), (nI rmm), tds2, (nI op), (nI tp), (nI wn), en, (nI (on2 + 1)), (nI (idn2 - 1)), (nI (fl2 + (mq + 1))), x32, x36, (nI (ct2 + mq)), (nI (fl2 + (mq + 1))), (nI rmm), tds2, (nI op), (nI tp), (nI wn), en, x32, x36, (nI (on2 + 1)), (nI (idn2 - 1))]) rfl rfl rfl hP
              have hD : va_D A (mW G h0 a (upd (upd (upd (upd (upd (upd (upd (upd (upd (upd (upd (upd F 97 (nI (ct2 + mq))) 98 (nI (fl2 + (mq + 1)))) 99 (nI rmm)) 101 tds2) 102 (nI op)) 111 (nI tp)) 115 (nI wn)) 116 en) 121 x32) 122 x36) 128 (nI (on2 + 1))) 130 (nI (idn2 - 1))) (updA (updA (updA (updA (updA (updA (updA (updA (updA B 55 (upd oc o18 kk)) 56 (upd os o18 so)) 57 (upd om o18 (nI mq))) 58 (upd oa2 o18 (nI ct2))) 59 sn2) 60 cl4) 61 td2) 73 (upd od2 on2 (nI o18))) 74 id2)) := mW_D hD
              exact W.iret (v := (nI (o18 + 1))) hx hb hr (fun t9 ht9 hW9 => ⟨⟨_, ((o18 + 1), (on2 + 1), (idn2 - 1), (fl2 + (mq + 1)), (ct2 + mq), en, tds2, x32, x36, (upd od2 on2 (nI o18)), id2, (upd oa2 o18 (nI ct2)), cl4, sn2, td2, (upd oc o18 kk), (upd os o18 so), (upd om o18 (nI mq)), snk), rfl, ⟨rfl, hz40, hz41, hz42, hz43, hz44, hz45, hz46, hz47⟩, by rw [ht9]; exact hP, hD⟩, hS.F ht9⟩) hS.2.2 dX12_make_212
            · have n48 : ¬ (mq ≤ iq4) := fun h9 => c26 ((nI_leI (a := mq) (b := iq4) (by omega) (by omega)).mpr h9)
              refine lv_aload_n hx hb dX12_make_148 rfl (lv_at hl 6 rfl) ?_
              refine r_get (v := .ref (a 60)) hx hb hown hq hE hP 96 193 tFX12_96 (by decide) pw_1492 rfl dX12_make_149 ?_
              refine lv_aload_n hx hb dX12_make_152 rfl (lv_at hl 6 rfl) ?_
              refine r_get (v := .int (nI (ct2 + iq4))) hx hb hown hq hE hP 97 722 tFX12_97 (by decide) pw_1977 rfl dX12_make_153 ?_
              refine lv_iconst (v := 0) hx hb dX12_make_156 (by decide) ?_
              refine r_sti (f := cl4) (j := (ct2 + iq4)) hx hb hE hP hD hS 60 (ma_60 G a _) rfl (mas_60 G a _) (by omega) (by decide) dX12_make_157 (fun H locs hP hD hS => ?_)
              refine lv_aload_n hx hb dX12_make_158 rfl (lv_at hl 6 rfl) ?_
              refine lv_dup hx hb dX12_make_159 rfl ?_
              refine r_get (v := .int (nI (ct2 + iq4))) hx hb hown hq hE hP 97 722 tFX12_97 (by decide) pw_1977 rfl dX12_make_160 ?_
              refine lv_iconst (v := 1) hx hb dX12_make_163 (by decide) ?_
              refine lv_iadd hx hb dX12_make_164 ?_
              refine lv_topi (fun x49 e50 => ?_)
              obtain rfl : x49 = nI ((ct2 + iq4) + 1) := e50.trans (nI_add ((ct2 + iq4)) (1))
              refine r_put (v := (nI ((ct2 + iq4) + 1))) (ty := .int) hx hb hown hq hE hP hD hS 97 722 tFX12_97 (by decide) pw_1977 (by decide) rfl rfl (ms_97 a _ _) dX12_make_165 (fun H locs hP hD hS => ?_)
              refine lv_iinc (v := (nI (iq4 + 1))) (lv' := [(7, .int (nI (iq4 + 1))), (6, .int (nI o18)), (4, .long (n64 (mq + 1))), (3, .int (nI mq)), (2, .int so), (1, .int kk), (0, .ref h0)]) hx hb dX12_make_168 hl (k := 0) rfl (nI_1 iq4) (by decide) rfl (fun ls hl => ?_)
              refine lv_goto (tgt := 142) hx hb dX12_make_171 (by decide) ?_
              have hP : va_P G.1 pCl (mW G h0 a (upd (upd (upd (upd (upd (upd (upd (upd (upd (upd F 97 (nI (ct2 + (iq4 + 1)))) 98 (nI fl2)) 99 (nI rmm)) 101 tds2) 102 (nI op)) 111 (nI tp)) 115 (nI wn)) 116 en) 128 (nI (on2 + 1))) 130 (nI (idn2 - 1))) (updA (updA (updA (updA (updA (updA (updA (updA (updA B 55 (upd oc o18 kk)) 56 (upd os o18 so)) 57 (upd om o18 (nI mq))) 58 (upd oa2 o18 (nI ct2))) 59 sn2) 60 (upd cl4 (ct2 + iq4) 0)) 61 td2) 73 (upd od2 on2 (nI o18))) 74 id2)) _ := mW_to (F := F) (l1 := [(97, (nI (ct2 + iq4))), (98, (nI fl2)), (99, (nI rmm)), (101, tds2), (102, (nI op)), (111, (nI tp)), (115, (nI wn)), (116, en), (128, (nI (on2 + 1))), (130, (nI (idn2 - 1))), (97, (nI ((ct2 + iq4) + 1)))]) (l2 := [(97, (nI (ct2 + (iq4 + 1)))), (98, (nI fl2)), (99, (nI rmm)), (101, tds2), (102, (nI op)), (111, (nI tp)), (115, (nI wn)), (116, en), (128, (nI (on2 + 1))), (130, (nI (idn2 - 1)))]) (V := [(nI (ct2 + (iq4 + 1))), (nI fl2), (nI rmm), tds2, (nI op), (nI tp), (nI wn), en, (nI (on2 + 1)), (nI (idn2 - 1)), (nI (ct2 + (iq4 + 1))), (nI (ct2 + (iq4 + 1))), (nI fl2), (nI rmm), tds2, (nI op), (nI tp), (nI wn), en, (nI (on2 + 1)), (nI (idn2 - 1))]) rfl rfl (show (updA (updA (updA (updA (updA (updA (updA (updA (updA (updA B 55 (upd oc o18 kk)) 56 (upd os o18 so)) 57 (upd om o18 (nI mq))) 58 (upd oa2 o18 (nI ct2))) 59 sn2) 60 cl4) 61 td2) 73 (upd od2 on2 (nI o18))) 74 id2) 60 (upd cl4 (ct2 + iq4) 0)) = (updA (updA (updA (updA (updA (updA (updA (updA (updA B 55 (upd oc o18 kk)) 56 (upd os o18 so)) 57 (upd om o18 (nI mq))) 58 (upd oa2 o18 (nI ct2))) 59 sn2) 60 (upd cl4 (ct2 + iq4) 0)) 61 td2) 73 (upd od2 on2 (nI o18))) 74 id2) from updsA_eq2 (F := B) (l1 := [(55, (upd oc o18 kk)), (56, (upd os o18 so)), (57, (upd om o18 (nI mq))), (58, (upd oa2 o18 (nI ct2))), (59, sn2), (60, cl4), (61, td2), (73, (upd od2 on2 (nI o18))), (74, id2), (60, (upd cl4 (ct2 + iq4) 0))]) (l2 := [(55, (upd oc o18 kk)), (56, (upd os o18 so)), (57, (upd om o18 (nI mq))), (58, (upd oa2 o18 (nI ct2))), (59, sn2), (60, (upd cl4 (ct2 + iq4) 0)), (61, td2), (73, (upd od2 on2 (nI o18))), (74, id2)]) (V := [(upd oc o18 kk), (upd os o18 so), (upd om o18 (nI mq)), (upd oa2 o18 (nI ct2)), sn2, (upd cl4 (ct2 + iq4) 0), td2, (upd od2 on2 (nI o18)), id2, (upd cl4 (ct2 + iq4) 0), (upd oc o18 kk), (upd os o18 so), (upd om o18 (nI mq)), (upd oa2 o18 (nI ct2)), sn2, (upd cl4 (ct2 + iq4) 0), td2, (upd od2 on2 (nI o18)), id2]) rfl rfl) hP
              have hD : va_D A (mW G h0 a (upd (upd (upd (upd (upd (upd (upd (upd (upd (upd F 97 (nI (ct2 + (iq4 + 1)))) 98 (nI fl2)) 99 (nI rmm)) 101 tds2) 102 (nI op)) 111 (nI tp)) 115 (nI wn)) 116 en) 128 (nI (on2 + 1))) 130 (nI (idn2 - 1))) (updA (updA (updA (updA (updA (updA (updA (updA (updA B 55 (upd oc o18 kk)) 56 (upd os o18 so)) 57 (upd om o18 (nI mq))) 58 (upd oa2 o18 (nI ct2))) 59 sn2) 60 (upd cl4 (ct2 + iq4) 0)) 61 td2) 73 (upd od2 on2 (nI o18))) 74 id2)) := mW_D hD
              exact ih_z (iq4 + 1) (upd cl4 (ct2 + iq4) 0) _ _ _ (by omega) (by omega) (Zrd.succ hz4) hP hD hS (lv_sub hl [0, 1, 2, 3, 4, 5, 6] rfl)
        have hP : va_P G.1 pCl (mW G h0 a (upd (upd (upd (upd (upd (upd (upd (upd (upd (upd F 97 (nI (ct2 + 0))) 98 (nI fl2)) 99 (nI rmm)) 101 tds2) 102 (nI op)) 111 (nI tp)) 115 (nI wn)) 116 en) 128 (nI (on2 + 1))) 130 (nI (idn2 - 1))) (updA (updA (updA (updA (updA (updA (updA (updA (updA B 55 (upd oc o18 kk)) 56 (upd os o18 so)) 57 (upd om o18 (nI mq))) 58 (upd oa2 o18 (nI ct2))) 59 sn2) 60 cl2) 61 td2) 73 (upd od2 on2 (nI o18))) 74 id2)) _ := mW_to (F := F) (l1 := [(97, (nI ct2)), (98, (nI fl2)), (99, (nI rmm)), (101, tds2), (102, (nI op)), (111, (nI tp)), (115, (nI wn)), (116, en), (128, (nI on2)), (130, (nI idn2)), (130, (nI (idn2 - 1))), (128, (nI (on2 + 1)))]) (l2 := [(97, (nI (ct2 + 0))), (98, (nI fl2)), (99, (nI rmm)), (101, tds2), (102, (nI op)), (111, (nI tp)), (115, (nI wn)), (116, en), (128, (nI (on2 + 1))), (130, (nI (idn2 - 1)))]) (V := [(nI (ct2 + 0)), (nI fl2), (nI rmm), tds2, (nI op), (nI tp), (nI wn), en, (nI (on2 + 1)), (nI (idn2 - 1)), (nI (idn2 - 1)), (nI (on2 + 1)), (nI (ct2 + 0)), (nI fl2), (nI rmm), tds2, (nI op), (nI tp), (nI wn), en, (nI (on2 + 1)), (nI (idn2 - 1))]) rfl rfl (show (updA (updA (updA (updA (updA (updA (updA (updA (updA (updA (updA (updA (updA (updA B 55 oc) 56 os) 57 om) 58 oa2) 59 sn2) 60 cl2) 61 td2) 73 od2) 74 id2) 73 (upd od2 on2 (nI o18))) 55 (upd oc o18 kk)) 56 (upd os o18 so)) 57 (upd om o18 (nI mq))) 58 (upd oa2 o18 (nI ct2))) = (updA (updA (updA (updA (updA (updA (updA (updA (updA B 55 (upd oc o18 kk)) 56 (upd os o18 so)) 57 (upd om o18 (nI mq))) 58 (upd oa2 o18 (nI ct2))) 59 sn2) 60 cl2) 61 td2) 73 (upd od2 on2 (nI o18))) 74 id2) from updsA_eq2 (F := B) (l1 := [(55, oc), (56, os), (57, om), (58, oa2), (59, sn2), (60, cl2), (61, td2), (73, od2), (74, id2), (73, (upd od2 on2 (nI o18))), (55, (upd oc o18 kk)), (56, (upd os o18 so)), (57, (upd om o18 (nI mq))), (58, (upd oa2 o18 (nI ct2)))]) (l2 := [(55, (upd oc o18 kk)), (56, (upd os o18 so)), (57, (upd om o18 (nI mq))), (58, (upd oa2 o18 (nI ct2))), (59, sn2), (60, cl2), (61, td2), (73, (upd od2 on2 (nI o18))), (74, id2)]) (V := [(upd oc o18 kk), (upd os o18 so), (upd om o18 (nI mq)), (upd oa2 o18 (nI ct2)), sn2, cl2, td2, (upd od2 on2 (nI o18)), id2, (upd od2 on2 (nI o18)), (upd oc o18 kk), (upd os o18 so), (upd om o18 (nI mq)), (upd oa2 o18 (nI ct2)), (upd oc o18 kk), (upd os o18 so), (upd om o18 (nI mq)), (upd oa2 o18 (nI ct2)), sn2, cl2, td2, (upd od2 on2 (nI o18)), id2]) rfl rfl) hP
        have hD : va_D A (mW G h0 a (upd (upd (upd (upd (upd (upd (upd (upd (upd (upd F 97 (nI (ct2 + 0))) 98 (nI fl2)) 99 (nI rmm)) 101 tds2) 102 (nI op)) 111 (nI tp)) 115 (nI wn)) 116 en) 128 (nI (on2 + 1))) 130 (nI (idn2 - 1))) (updA (updA (updA (updA (updA (updA (updA (updA (updA B 55 (upd oc o18 kk)) 56 (upd os o18 so)) 57 (upd om o18 (nI mq))) 58 (upd oa2 o18 (nI ct2))) 59 sn2) 60 cl2) 61 td2) 73 (upd od2 on2 (nI o18))) 74 id2)) := mW_D hD
        exact loop_z (mq + 1) 0 cl2 _ _ _ (by omega) (by omega) Zrd.zero hP hD hS (lv_sub hl [0, 1, 2, 3, 4, 5, 6] rfl)
      · refine lv_topi (fun x51 e52 => ?_)
        obtain rfl : x51 = 0 := e52.trans (n64_same (by omega) (by omega) h12)
        refine lv_if_le (tgt := 62) hx hb dX12_make_52 (by decide) (fun c53 => ?_) (fun c53 => absurd c53 (by decide))
        refine lv_aload_n hx hb dX12_make_62 rfl (lv_at hl 4 rfl) ?_
        refine lv_dup hx hb dX12_make_63 rfl ?_
        refine r_get (v := .int (nI idn2)) hx hb hown hq hE hP 130 725 tFX12_130 (by decide) pw_1978 rfl dX12_make_64 ?_
        refine lv_iconst (v := 1) hx hb dX12_make_67 (by decide) ?_
        refine lv_isub hx hb dX12_make_68 ?_
        refine lv_topi (fun x54 e55 => ?_)
        obtain rfl : x54 = nI (idn2 - 1) := e55.trans (nI_subN (a := 1) (b := idn2) (by omega))
        refine r_put (v := (nI (idn2 - 1))) (ty := .int) hx hb hown hq hE hP hD hS 130 725 tFX12_130 (by decide) pw_1978 (by decide) rfl rfl (ms_130 a _ _) dX12_make_69 (fun H locs hP hD hS => ?_)
        refine lv_aload_n hx hb dX12_make_72 rfl (lv_at hl 4 rfl) ?_
        refine r_get (v := .ref (a 74)) hx hb hown hq hE hP 129 240 tFX12_129 (by decide) pw_1508 rfl dX12_make_73 ?_
        refine lv_aload_n hx hb dX12_make_76 rfl (lv_at hl 4 rfl) ?_
        refine r_get (v := .int (nI (idn2 - 1))) hx hb hown hq hE hP 130 725 tFX12_130 (by decide) pw_1978 rfl dX12_make_77 ?_
        refine r_ldi (f := id2) (j := (idn2 - 1)) hx hb hE hP 74 (ma_74 G a _) rfl (by omega) (by decide) dX12_make_80 ?_
        obtain ⟨o56, h57, e58, h59⟩ := hH2.2.2.1 (idn2 - 1) (by omega)
        refine lv_topi (fun x60 e61 => ?_)
        obtain rfl : x60 = nI o56 := e61.trans e58
        refine lv_istore (lv' := [(6, .int (nI o56)), (4, .long (n64 (mq + 1))), (3, .int (nI mq)), (2, .int so), (1, .int kk), (0, .ref h0)]) hx hb dX12_make_81 hl (by decide) rfl (fun ls hl => ?_)
        refine lv_aload_n hx hb dX12_make_83 rfl (lv_at hl 5 rfl) ?_
        refine r_get (v := .ref (a 73)) hx hb hown hq hE hP 127 237 tFX12_127 (by decide) pw_1507 rfl dX12_make_84 ?_
        refine lv_aload_n hx hb dX12_make_87 rfl (lv_at hl 5 rfl) ?_
        refine r_get (v := .int (nI on2)) hx hb hown hq hE hP 128 704 tFX12_128 (by decide) pw_1968 rfl dX12_make_88 ?_
        refine lv_iload hx hb dX12_make_91 (lv_at hl 0 rfl) ?_
        refine r_sti (f := od2) (j := on2) hx hb hE hP hD hS 73 (ma_73 G a _) rfl (mas_73 G a _) (by omega) (by decide) dX12_make_93 (fun H locs hP hD hS => ?_)
        refine lv_aload_n hx hb dX12_make_94 rfl (lv_at hl 5 rfl) ?_
        refine lv_dup hx hb dX12_make_95 rfl ?_
        refine r_get (v := .int (nI on2)) hx hb hown hq hE hP 128 704 tFX12_128 (by decide) pw_1968 rfl dX12_make_96 ?_
        refine lv_iconst (v := 1) hx hb dX12_make_99 (by decide) ?_
        refine lv_iadd hx hb dX12_make_100 ?_
        refine lv_topi (fun x62 e63 => ?_)
        obtain rfl : x62 = nI (on2 + 1) := e63.trans (nI_add (on2) (1))
        refine r_put (v := (nI (on2 + 1))) (ty := .int) hx hb hown hq hE hP hD hS 128 704 tFX12_128 (by decide) pw_1968 (by decide) rfl rfl (ms_128 a _ _) dX12_make_101 (fun H locs hP hD hS => ?_)
        refine lv_aload_n hx hb dX12_make_104 rfl (lv_at hl 5 rfl) ?_
        refine r_get (v := .ref (a 55)) hx hb hown hq hE hP 91 178 tFX12_91 (by decide) pw_1487 rfl dX12_make_105 ?_
        refine lv_iload hx hb dX12_make_108 (lv_at hl 0 rfl) ?_
        refine lv_iload_n hx hb dX12_make_110 rfl (lv_at hl 4 rfl) ?_
        refine r_sti (f := oc) (j := o56) hx hb hE hP hD hS 55 (ma_55 G a _) rfl (mas_55 G a _) (by omega) (by decide) dX12_make_111 (fun H locs hP hD hS => ?_)
        refine lv_aload_n hx hb dX12_make_112 rfl (lv_at hl 5 rfl) ?_
        refine r_get (v := .ref (a 56)) hx hb hown hq hE hP 92 181 tFX12_92 (by decide) pw_1488 rfl dX12_make_113 ?_
        refine lv_iload hx hb dX12_make_116 (lv_at hl 0 rfl) ?_
        refine lv_iload_n hx hb dX12_make_118 rfl (lv_at hl 3 rfl) ?_
        refine r_sti (f := os) (j := o56) hx hb hE hP hD hS 56 (ma_56 G a _) rfl (mas_56 G a _) (by omega) (by decide) dX12_make_119 (fun H locs hP hD hS => ?_)
        refine lv_aload_n hx hb dX12_make_120 rfl (lv_at hl 5 rfl) ?_
        refine r_get (v := .ref (a 57)) hx hb hown hq hE hP 93 184 tFX12_93 (by decide) pw_1489 rfl dX12_make_121 ?_
        refine lv_iload hx hb dX12_make_124 (lv_at hl 0 rfl) ?_
        refine lv_iload_n hx hb dX12_make_126 rfl (lv_at hl 2 rfl) ?_
        refine r_sti (f := om) (j := o56) hx hb hE hP hD hS 57 (ma_57 G a _) rfl (mas_57 G a _) (by omega) (by decide) dX12_make_127 (fun H locs hP hD hS => ?_)
        refine lv_aload_n hx hb dX12_make_128 rfl (lv_at hl 5 rfl) ?_
        refine r_get (v := .ref (a 58)) hx hb hown hq hE hP 94 187 tFX12_94 (by decide) pw_1490 rfl dX12_make_129 ?_
        refine lv_iload hx hb dX12_make_132 (lv_at hl 0 rfl) ?_
        refine lv_aload_n hx hb dX12_make_134 rfl (lv_at hl 5 rfl) ?_
        refine r_get (v := .int (nI ct2)) hx hb hown hq hE hP 97 722 tFX12_97 (by decide) pw_1977 rfl dX12_make_135 ?_
        refine r_sti (f := oa2) (j := o56) hx hb hE hP hD hS 58 (ma_58 G a _) rfl (mas_58 G a _) (by omega) (by decide) dX12_make_138 (fun H locs hP hD hS => ?_)
        refine lv_iconst (v := 0) hx hb dX12_make_139 (by decide) ?_
        refine lv_istore (lv' := [(7, .int 0), (6, .int (nI o56)), (4, .long (n64 (mq + 1))), (3, .int (nI mq)), (2, .int so), (1, .int kk), (0, .ref h0)]) hx hb dX12_make_140 hl (by decide) rfl (fun ls hl => ?_)
        have loop_z : ∀ (n_z : Nat) (iq4 : Nat) (cl4 : Nat → Int32) (H : Heap) (locs : List Loc) (ls : Array Slot), iq4 ≤ mq → mq + 1 ≤ iq4 + n_z → (Zrd cl2 cl4 ct2 iq4) → va_P G.1 pCl (mW G h0 a (upd (upd (upd (upd (upd (upd (upd (upd (upd (upd F 97 (nI (ct2 + iq4))) 98 (nI fl2)) 99 (nI rmm)) 101 tds2) 102 (nI op)) 111 (nI tp)) 115 (nI wn)) 116 en) 128 (nI (on2 + 1))) 130 (nI (idn2 - 1))) (updA (updA (updA (updA (updA (updA (updA (updA (updA B 55 (upd oc o56 kk)) 56 (upd os o56 so)) 57 (upd om o56 (nI mq))) 58 (upd oa2 o56 (nI ct2))) 59 sn2) 60 cl4) 61 td2) 73 (upd od2 on2 (nI o56))) 74 id2)) H → va_D A (mW G h0 a (upd (upd (upd (upd (upd (upd (upd (upd (upd (upd F 97 (nI (ct2 + iq4))) 98 (nI fl2)) 99 (nI rmm)) 101 tds2) 102 (nI op)) 111 (nI tp)) 115 (nI wn)) 116 en) 128 (nI (on2 + 1))) 130 (nI (idn2 - 1))) (updA (updA (updA (updA (updA (updA (updA (updA (updA B 55 (upd oc o56 kk)) 56 (upd os o56 so)) 57 (upd om o56 (nI mq))) 58 (upd oa2 o56 (nI ct2))) 59 sn2) 60 cl4) 61 td2) 73 (upd od2 on2 (nI o56))) 74 id2)) → va_S A s.heap H locs → lv_has ls 8 [(7, .int (nI iq4)), (6, .int (nI o56)), (4, .long (n64 (mq + 1))), (3, .int (nI mq)), (2, .int so), (1, .int kk), (0, .ref h0)] → W p l e (headSpec (Cond.code yX12_make cX12_make 8 (some .int) :: pw) ({ frames := 5, cells := 0, slots := 0, locals := 128 } : Room)).room s m ([.ref h0, .int kk, .int so, .int (nI mq)] : List Value).toArray below meth c H locs 0 0 (MQ below (pQ G A (fun (v : Option Value) (u : Nat × Nat × Nat × Nat × Nat × Int32 × Int32 × Int32 × Int32 × (Nat → Int32) × (Nat → Int32) × (Nat → Int32) × (Nat → Int32) × (Nat → Int32) × (Nat → Int32) × (Nat → Int32) × (Nat → Int32) × (Nat → Int32) × (Nat → Int32)) => v = some (.int (nI u.1)) ∧ (HS u.2.2.2.2.2.2.2.2.2.2.2.2.2.2.2.2.2.1 u.2.2.2.2.2.2.2.2.2.2.2.2.2.2.2.1 u.2.2.2.2.2.2.2.2.2.1 u.2.2.2.2.2.2.2.2.2.2.1 u.2.2.2.2.2.2.2.2.2.2.2.1 u.2.1 u.2.2.1 u.2.2.2.1 rmm) ∧ (u.2.2.2.2.1 = smF u.2.2.2.2.2.2.2.2.2.2.2.2.2.2.2.2.2.1 u.2.2.2.2.2.2.2.2.2.1 u.2.1) ∧ (((∀ c : Nat, c < op → RfS u.2.2.2.2.2.2.2.2.2.2.2.2.2.2.2.2.2.2 (B 62 c)) ∧ (∀ c s v : Nat, c < op → B 63 c = nI s → s ≤ 30 → v < s → ¬ B 67 (32 * c + v) = 0 → RfS u.2.2.2.2.2.2.2.2.2.2.2.2.2.2.2.2.2.2 (B 66 (32 * c + v))) ∧ (∀ k : Nat, k < tp → ¬ B 69 k = 0 → RfS u.2.2.2.2.2.2.2.2.2.2.2.2.2.2.2.2.2.2 (B 68 k)) ∧ (∀ k : Nat, k < wn → ¬ B 72 k = 0 → RfS u.2.2.2.2.2.2.2.2.2.2.2.2.2.2.2.2.2.2 (B 71 k)) ∧ (∀ o : Nat, o < 3000 → Lvd od on o → ¬ u.2.2.2.2.2.2.2.2.2.2.2.2.2.2.2.2.2.2 o = 0 → ∀ v : Int32, (Chd oc os om oa cl (B 75) (B 76) (B 77)) o v → RfS u.2.2.2.2.2.2.2.2.2.2.2.2.2.2.2.2.2.2 v))) ∧ (u.1 ≤ 3000) ∧ (If (u.1 = 0) (u.2.2.2.2.2.1 = 3 ∧ u.2.2.2.2.2.2.2.2.2.2.2.2.2.2.2.1 = oc ∧ u.2.2.2.2.2.2.2.2.2.2.2.2.2.2.2.2.1 = os ∧ u.2.2.2.2.2.2.2.2.2.2.2.2.2.2.2.2.2.1 = om)) ∧ (If (0 < u.1) (u.2.2.2.2.2.1 = en ∧ u.2.2.2.2.2.2.2.2.2.2.2.2.2.2.2.1 = upd oc (u.1 - 1) kk ∧ u.2.2.2.2.2.2.2.2.2.2.2.2.2.2.2.2.1 = upd os (u.1 - 1) so ∧ u.2.2.2.2.2.2.2.2.2.2.2.2.2.2.2.2.2.1 = upd om (u.1 - 1) (nI mq) ∧ mq ≤ 3000 ∧ (¬ Lvd od on (u.1 - 1) ∨ u.2.2.2.2.2.2.2.2.2.2.2.2.2.2.2.2.2.2 (u.1 - 1) = 0) ∧ ∃ p : Nat, u.2.2.2.2.2.2.2.2.2.2.2.1 (u.1 - 1) = nI p ∧ p + mq ≤ 3000 ∧ ∀ i : Nat, i < mq → u.2.2.2.2.2.2.2.2.2.2.2.2.1 (p + i) = 0)) ∧ (∀ o : Nat, o < 3000 → (Lvd u.2.2.2.2.2.2.2.2.2.1 u.2.1 o ↔ (Lvd od on o ∧ ¬ u.2.2.2.2.2.2.2.2.2.2.2.2.2.2.2.2.2.2 o = 0) ∨ (0 < u.1 ∧ o = u.1 - 1))) ∧ (∀ o : Nat, o < 3000 → Lvd od on o → ¬ u.2.2.2.2.2.2.2.2.2.2.2.2.2.2.2.2.2.2 o = 0 → ∀ i q p p1 : Nat, om o = nI q → oa o = nI p → u.2.2.2.2.2.2.2.2.2.2.2.1 o = nI p1 → i < q → q ≤ 3000 → p ≤ 3000 → p1 ≤ 3000 → u.2.2.2.2.2.2.2.2.2.2.2.2.1 (p1 + i) = cl (p + i))) (fun u => (mW G h0 a (upd (upd (upd (upd (upd (upd (upd (upd (upd (upd (upd (upd F 97 (nI u.2.2.2.2.1)) 98 (nI u.2.2.2.1)) 99 (nI rmm)) 101 u.2.2.2.2.2.2.1) 102 (nI op)) 111 (nI tp)) 115 (nI wn)) 116 u.2.2.2.2.2.1) 121 u.2.2.2.2.2.2.2.1) 122 u.2.2.2.2.2.2.2.2.1) 128 (nI u.2.1)) 130 (nI u.2.2.1)) (updA (updA (updA (updA (updA (updA (updA (updA (updA B 55 u.2.2.2.2.2.2.2.2.2.2.2.2.2.2.2.1) 56 u.2.2.2.2.2.2.2.2.2.2.2.2.2.2.2.2.1) 57 u.2.2.2.2.2.2.2.2.2.2.2.2.2.2.2.2.2.1) 58 u.2.2.2.2.2.2.2.2.2.2.2.1) 59 u.2.2.2.2.2.2.2.2.2.2.2.2.2.1) 60 u.2.2.2.2.2.2.2.2.2.2.2.2.1) 61 u.2.2.2.2.2.2.2.2.2.2.2.2.2.2.1) 73 u.2.2.2.2.2.2.2.2.2.1) 74 u.2.2.2.2.2.2.2.2.2.2.1)))) ([.ref h0, .int kk, .int so, .int (nI mq)] : List Value).toArray s ({ frames := 5, cells := 0, slots := 0, locals := 128 } : Room).cells ({ frames := 5, cells := 0, slots := 0, locals := 128 } : Room).slots A) (F0 m 142 ls []) := by
          intro n_z
          induction n_z with
          | zero => intro iq4 cl4 H locs ls hk_z hn_z; omega
          | succ n_z ih_z =>
            intro iq4 cl4 H locs ls hk_z hn_z hz4 hP hD hS hl
            refine lv_iload hx hb dX12_make_142 (lv_at hl 0 rfl) ?_
            refine lv_iload_n hx hb dX12_make_144 rfl (lv_at hl 3 rfl) ?_
            refine lv_icmp_ge (tgt := 174) hx hb dX12_make_145 (by decide) (fun c64 => ?_) (fun c64 => ?_)
            · have n65 : mq ≤ iq4 := (nI_leI (a := mq) (b := iq4) (by omega) (by omega)).mp c64
              obtain rfl : mq = iq4 := (by omega)
              have hP : va_P G.1 pCl (mW G h0 a (upd (upd (upd (upd (upd (upd (upd (upd (upd (upd F 97 (nI (ct2 + mq))) 98 (nI fl2)) 99 (nI rmm)) 101 tds2) 102 (nI op)) 111 (nI tp)) 115 (nI wn)) 116 en) 128 (nI (on2 + 1))) 130 (nI (idn2 - 1))) (updA (updA (updA (updA (updA (updA (updA (updA (updA B 55 (upd oc o56 kk)) 56 (upd os o56 so)) 57 (upd om o56 (nI mq))) 58 (upd oa2 o56 (nI ct2))) 59 sn2) 60 cl4) 61 td2) 73 (upd od2 on2 (nI o56))) 74 id2)) _ := hP
              have hD : va_D A (mW G h0 a (upd (upd (upd (upd (upd (upd (upd (upd (upd (upd F 97 (nI (ct2 + mq))) 98 (nI fl2)) 99 (nI rmm)) 101 tds2) 102 (nI op)) 111 (nI tp)) 115 (nI wn)) 116 en) 128 (nI (on2 + 1))) 130 (nI (idn2 - 1))) (updA (updA (updA (updA (updA (updA (updA (updA (updA B 55 (upd oc o56 kk)) 56 (upd os o56 so)) 57 (upd om o56 (nI mq))) 58 (upd oa2 o56 (nI ct2))) 59 sn2) 60 cl4) 61 td2) 73 (upd od2 on2 (nI o56))) 74 id2)) := mW_D hD
              have hl : lv_has ls 8 [(7, .int (nI mq)), (6, .int (nI o56)), (4, .long (n64 (mq + 1))), (3, .int (nI mq)), (2, .int so), (1, .int kk), (0, .ref h0)] := hl
              refine lv_aload_n hx hb dX12_make_174 rfl (lv_at hl 6 rfl) ?_
              refine lv_dup hx hb dX12_make_175 rfl ?_
              refine r_get (v := .int (nI fl2)) hx hb hown hq hE hP 98 719 tFX12_98 (by decide) pw_1976 rfl dX12_make_176 ?_
              refine lv_lload hx hb dX12_make_179 (lv_at hl 2 rfl) ?_
              refine lv_l2i hx hb dX12_make_181 rfl ?_
              refine lv_topi (fun x66 e67 => ?_)
              obtain rfl : x66 = nI (mq + 1) := e67.trans (n64_l2i (by omega))
              refine lv_iadd hx hb dX12_make_182 ?_
              refine lv_topi (fun x68 e69 => ?_)
              obtain rfl : x68 = nI (fl2 + (mq + 1)) := e69.trans (nI_add (fl2) ((mq + 1)))
              refine r_put (v := (nI (fl2 + (mq + 1)))) (ty := .int) hx hb hown hq hE hP hD hS 98 719 tFX12_98 (by decide) pw_1976 (by decide) rfl rfl (ms_98 a _ _) dX12_make_183 (fun H locs hP hD hS => ?_)
              refine lv_aload_n hx hb dX12_make_186 rfl (lv_at hl 6 rfl) ?_
              refine lv_dup hx hb dX12_make_187 rfl ?_
              refine r_get (v := .int (F 121)) hx hb hown hq hE hP 121 739 tFX12_121 (by decide) pw_1988 rfl dX12_make_188 ?_
              refine lv_iconst (v := 1) hx hb dX12_make_191 (by decide) ?_
              refine lv_iadd hx hb dX12_make_192 ?_
              refine lv_topi (fun x70 e71 => ?_)
              refine r_put (v := x70) (ty := .int) hx hb hown hq hE hP hD hS 121 739 tFX12_121 (by decide) pw_1988 (by decide) rfl rfl (ms_121 a _ _) dX12_make_193 (fun H locs hP hD hS => ?_)
              refine lv_aload_n hx hb dX12_make_196 rfl (lv_at hl 6 rfl) ?_
              refine lv_dup hx hb dX12_make_197 rfl ?_
              refine r_get (v := .int (F 122)) hx hb hown hq hE hP 122 742 tFX12_122 (by decide) pw_1989 rfl dX12_make_198 ?_
              refine lv_lload hx hb dX12_make_201 (lv_at hl 2 rfl) ?_
              refine lv_l2i hx hb dX12_make_203 rfl ?_
              refine lv_topi (fun x72 e73 => ?_)
              obtain rfl : x72 = nI (mq + 1) := e73.trans (n64_l2i (by omega))
              refine lv_iadd hx hb dX12_make_204 ?_
              refine lv_topi (fun x74 e75 => ?_)
              refine r_put (v := x74) (ty := .int) hx hb hown hq hE hP hD hS 122 742 tFX12_122 (by decide) pw_1989 (by decide) rfl rfl (ms_122 a _ _) dX12_make_205 (fun H locs hP hD hS => ?_)
              refine lv_iload hx hb dX12_make_208 (lv_at hl 1 rfl) ?_
              refine lv_iconst (v := 1) hx hb dX12_make_210 (by decide) ?_
              refine lv_iadd hx hb dX12_make_211 ?_
              refine lv_topi (fun x76 e77 => ?_)
              obtain rfl : x76 = nI (o56 + 1) := e77.trans (nI_add (o56) (1))
              have hmk := HS.make (k := kk) (q := mq) (by rw [show idn2 - 1 + 1 = idn2 by omega]; exact hH2) e58 h57 (by omega) (by rw [(if_neg c3)]; omega)
              rw [(if_neg c3), ← hct2] at hmk
              obtain ⟨hk1, hk2, hk3, hk4⟩ := hmk
              have hr1 : o56 + 1 - 1 = o56 := by omega
              have hz78 : HS (upd om o56 (nI mq)) (upd oc o56 kk) (upd od2 on2 (nI o56)) id2 (upd oa2 o56 (nI ct2)) (on2 + 1) (idn2 - 1) (fl2 + (mq + 1)) rmm := hk1
              have hz79 : (ct2 + mq) = smF (upd om o56 (nI mq)) (upd od2 on2 (nI o56)) (on2 + 1) := hk2.symm
              have hz80 : ((∀ c : Nat, c < op → RfS snk (B 62 c)) ∧ (∀ c s v : Nat, c < op → B 63 c = nI s → s ≤ 30 → v < s → ¬ B 67 (32 * c + v) = 0 → RfS snk (B 66 (32 * c + v))) ∧ (∀ k : Nat, k < tp → ¬ B 69 k = 0 → RfS snk (B 68 k)) ∧ (∀ k : Nat, k < wn → ¬ B 72 k = 0 → RfS snk (B 71 k)) ∧ (∀ o : Nat, o < 3000 → Lvd od on o → ¬ snk o = 0 → ∀ v : Int32, (Chd oc os om oa cl (B 75) (B 76) (B 77)) o v → RfS snk v)) := hR2
              have hz81 : (o56 + 1) ≤ 3000 := (by omega)
              have hz82 : If ((o56 + 1) = 0) (en = 3 ∧ (upd oc o56 kk) = oc ∧ (upd os o56 so) = os ∧ (upd om o56 (nI mq)) = om) := (fun e => absurd e (by omega))
              have hz83 : If (0 < (o56 + 1)) (en = en ∧ (upd oc o56 kk) = upd oc ((o56 + 1) - 1) kk ∧ (upd os o56 so) = upd os ((o56 + 1) - 1) so ∧ (upd om o56 (nI mq)) = upd om ((o56 + 1) - 1) (nI mq) ∧ mq ≤ 3000 ∧ (¬ Lvd od on ((o56 + 1) - 1) ∨ snk ((o56 + 1) - 1) = 0) ∧ ∃ p : Nat, (upd oa2 o56 (nI ct2)) ((o56 + 1) - 1) = nI p ∧ p + mq ≤ 3000 ∧ ∀ i : Nat, i < mq → cl4 (p + i) = 0) := (fun _ => by rw [hr1]; exact ⟨rfl, rfl, rfl, rfl, by omega, by by_cases z : Lvd od on o56; exact Or.inr (Classical.byContradiction (fun y => hk4 ((hK2.1 o56 h57).mpr ⟨z, y⟩))); exact Or.inl z, ct2, upd_eq, by omega, fun i h => hz4.1 i (by omega)⟩)
              have hz84 : ∀ o : Nat, o < 3000 → (Lvd (upd od2 on2 (nI o56)) (on2 + 1) o ↔ (Lvd od on o ∧ ¬ snk o = 0) ∨ (0 < (o56 + 1) ∧ o = (o56 + 1) - 1)) := (fun o ho => by rw [hr1]; exact ⟨fun z => ((hk3 o ho).mp z).elim (fun y => Or.inl ((hK2.1 o ho).mp y)) (fun y => Or.inr ⟨by omega, y⟩), fun z => (hk3 o ho).mpr (z.elim (fun y => Or.inl ((hK2.1 o ho).mpr y)) (fun y => Or.inr y.2))⟩)
              have hz85 : ∀ o : Nat, o < 3000 → Lvd od on o → ¬ snk o = 0 → ∀ i q p p1 : Nat, om o = nI q → oa o = nI p → (upd oa2 o56 (nI ct2)) o = nI p1 → i < q → q ≤ 3000 → p ≤ 3000 → p1 ≤ 3000 → cl4 (p1 + i) = cl (p + i) := (fun o ho h1 h2 i q p p1 e1 e2 e3 l1 l2 l3 l4 => by have lv := (hK2.1 o ho).mpr ⟨h1, h2⟩; have ne : o ≠ o56 := (fun z => hk4 (by rw [← z]; exact lv)); rw [show upd oa2 o56 (nI ct2) o = oa2 o from if_neg ne] at e3; have hb := HS.below hH2 lv ho e1 l2 e3 l4; rw [hz4.2 (p1 + i) (by omega)]; exact hK2.2 o ho lv i q p p1 e1 e2 e3 l1 l2 l3 l4)
              have hP : va_P G.1 pCl (mW G h0 a (upd (upd (upd (upd (upd (upd (upd (upd (upd (upd (upd (upd F 97 (nI (ct2 + mq))) 98 (nI (fl2 + (mq + 1)))) 99 (nI rmm)) 101 tds2) 102 (nI op)) 111 (nI tp)) 115 (nI wn)) 116 en) 121 x70) 122 x74) 128 (nI (on2 + 1))) 130 (nI (idn2 - 1))) (updA (updA (updA (updA (updA (updA (updA (updA (updA B 55 (upd oc o56 kk)) 56 (upd os o56 so)) 57 (upd om o56 (nI mq))) 58 (upd oa2 o56 (nI ct2))) 59 sn2) 60 cl4) 61 td2) 73 (upd od2 on2 (nI o56))) 74 id2)) _ := mW_to (F := F) (l1 := [(97, (nI (ct2 + mq))), (98, (nI fl2)), (99, (nI rmm)), (101, tds2), (102, (nI op)), (111, (nI tp)), (115, (nI wn)), (116, en), (128, (nI (on2 + 1))), (130, (nI (idn2 - 1))), (98, (nI (fl2 + (mq + 1)))), (121, x70), (122, x74)]) (l2 := [(97, (nI (ct2 + mq))), (98, (nI (fl2 + (mq + 1)))), (99, (nI rmm)), (101, tds2), (102, (nI op)), (111, (nI tp)), (115, (nI wn)), (116, en), (121, x70), (122, x74), (128, (nI (on2 + 1))), (130, (nI (idn2 - 1)))]) (V := [(nI (ct2 + mq)), (nI (fl2 + (mq + 1))), (nI rmm), tds2, (nI op), (nI tp), (nI wn), en, (nI (on2 + 1)), (nI (idn2 - 1)), (nI (fl2 + (mq + 1))), x70, x74, (nI (ct2 + mq)), (nI (fl2 + (mq + 1))), (nI rmm), tds2, (nI op), (nI tp), (nI wn), en, x70, x74, (nI (on2 + 1)), (nI (idn2 - 1))]) rfl rfl rfl hP
              have hD : va_D A (mW G h0 a (upd (upd (upd (upd (upd (upd (upd (upd (upd (upd (upd (upd F 97 (nI (ct2 + mq))) 98 (nI (fl2 + (mq + 1)))) 99 (nI rmm)) 101 tds2) 102 (nI op)) 111 (nI tp)) 115 (nI wn)) 116 en) 121 x70) 122 x74) 128 (nI (on2 + 1))) 130 (nI (idn2 - 1))) (updA (updA (updA (updA (updA (updA (updA (updA (updA B 55 (upd oc o56 kk)) 56 (upd os o56 so)) 57 (upd om o56 (nI mq))) 58 (upd oa2 o56 (nI ct2))) 59 sn2) 60 cl4) 61 td2) 73 (upd od2 on2 (nI o56))) 74 id2)) := mW_D hD
              exact W.iret (v := (nI (o56 + 1))) hx hb hr (fun t9 ht9 hW9 => ⟨⟨_, ((o56 + 1), (on2 + 1), (idn2 - 1), (fl2 + (mq + 1)), (ct2 + mq), en, tds2, x70, x74, (upd od2 on2 (nI o56)), id2, (upd oa2 o56 (nI ct2)), cl4, sn2, td2, (upd oc o56 kk), (upd os o56 so), (upd om o56 (nI mq)), snk), rfl, ⟨rfl, hz78, hz79, hz80, hz81, hz82, hz83, hz84, hz85⟩, by rw [ht9]; exact hP, hD⟩, hS.F ht9⟩) hS.2.2 dX12_make_212
            · have n86 : ¬ (mq ≤ iq4) := fun h9 => c64 ((nI_leI (a := mq) (b := iq4) (by omega) (by omega)).mpr h9)
              refine lv_aload_n hx hb dX12_make_148 rfl (lv_at hl 6 rfl) ?_
              refine r_get (v := .ref (a 60)) hx hb hown hq hE hP 96 193 tFX12_96 (by decide) pw_1492 rfl dX12_make_149 ?_
              refine lv_aload_n hx hb dX12_make_152 rfl (lv_at hl 6 rfl) ?_
              refine r_get (v := .int (nI (ct2 + iq4))) hx hb hown hq hE hP 97 722 tFX12_97 (by decide) pw_1977 rfl dX12_make_153 ?_
              refine lv_iconst (v := 0) hx hb dX12_make_156 (by decide) ?_
              refine r_sti (f := cl4) (j := (ct2 + iq4)) hx hb hE hP hD hS 60 (ma_60 G a _) rfl (mas_60 G a _) (by omega) (by decide) dX12_make_157 (fun H locs hP hD hS => ?_)
              refine lv_aload_n hx hb dX12_make_158 rfl (lv_at hl 6 rfl) ?_
              refine lv_dup hx hb dX12_make_159 rfl ?_
              refine r_get (v := .int (nI (ct2 + iq4))) hx hb hown hq hE hP 97 722 tFX12_97 (by decide) pw_1977 rfl dX12_make_160 ?_
              refine lv_iconst (v := 1) hx hb dX12_make_163 (by decide) ?_
              refine lv_iadd hx hb dX12_make_164 ?_
              refine lv_topi (fun x87 e88 => ?_)
              obtain rfl : x87 = nI ((ct2 + iq4) + 1) := e88.trans (nI_add ((ct2 + iq4)) (1))
              refine r_put (v := (nI ((ct2 + iq4) + 1))) (ty := .int) hx hb hown hq hE hP hD hS 97 722 tFX12_97 (by decide) pw_1977 (by decide) rfl rfl (ms_97 a _ _) dX12_make_165 (fun H locs hP hD hS => ?_)
              refine lv_iinc (v := (nI (iq4 + 1))) (lv' := [(7, .int (nI (iq4 + 1))), (6, .int (nI o56)), (4, .long (n64 (mq + 1))), (3, .int (nI mq)), (2, .int so), (1, .int kk), (0, .ref h0)]) hx hb dX12_make_168 hl (k := 0) rfl (nI_1 iq4) (by decide) rfl (fun ls hl => ?_)
              refine lv_goto (tgt := 142) hx hb dX12_make_171 (by decide) ?_
              have hP : va_P G.1 pCl (mW G h0 a (upd (upd (upd (upd (upd (upd (upd (upd (upd (upd F 97 (nI (ct2 + (iq4 + 1)))) 98 (nI fl2)) 99 (nI rmm)) 101 tds2) 102 (nI op)) 111 (nI tp)) 115 (nI wn)) 116 en) 128 (nI (on2 + 1))) 130 (nI (idn2 - 1))) (updA (updA (updA (updA (updA (updA (updA (updA (updA B 55 (upd oc o56 kk)) 56 (upd os o56 so)) 57 (upd om o56 (nI mq))) 58 (upd oa2 o56 (nI ct2))) 59 sn2) 60 (upd cl4 (ct2 + iq4) 0)) 61 td2) 73 (upd od2 on2 (nI o56))) 74 id2)) _ := mW_to (F := F) (l1 := [(97, (nI (ct2 + iq4))), (98, (nI fl2)), (99, (nI rmm)), (101, tds2), (102, (nI op)), (111, (nI tp)), (115, (nI wn)), (116, en), (128, (nI (on2 + 1))), (130, (nI (idn2 - 1))), (97, (nI ((ct2 + iq4) + 1)))]) (l2 := [(97, (nI (ct2 + (iq4 + 1)))), (98, (nI fl2)), (99, (nI rmm)), (101, tds2), (102, (nI op)), (111, (nI tp)), (115, (nI wn)), (116, en), (128, (nI (on2 + 1))), (130, (nI (idn2 - 1)))]) (V := [(nI (ct2 + (iq4 + 1))), (nI fl2), (nI rmm), tds2, (nI op), (nI tp), (nI wn), en, (nI (on2 + 1)), (nI (idn2 - 1)), (nI (ct2 + (iq4 + 1))), (nI (ct2 + (iq4 + 1))), (nI fl2), (nI rmm), tds2, (nI op), (nI tp), (nI wn), en, (nI (on2 + 1)), (nI (idn2 - 1))]) rfl rfl (show (updA (updA (updA (updA (updA (updA (updA (updA (updA (updA B 55 (upd oc o56 kk)) 56 (upd os o56 so)) 57 (upd om o56 (nI mq))) 58 (upd oa2 o56 (nI ct2))) 59 sn2) 60 cl4) 61 td2) 73 (upd od2 on2 (nI o56))) 74 id2) 60 (upd cl4 (ct2 + iq4) 0)) = (updA (updA (updA (updA (updA (updA (updA (updA (updA B 55 (upd oc o56 kk)) 56 (upd os o56 so)) 57 (upd om o56 (nI mq))) 58 (upd oa2 o56 (nI ct2))) 59 sn2) 60 (upd cl4 (ct2 + iq4) 0)) 61 td2) 73 (upd od2 on2 (nI o56))) 74 id2) from updsA_eq2 (F := B) (l1 := [(55, (upd oc o56 kk)), (56, (upd os o56 so)), (57, (upd om o56 (nI mq))), (58, (upd oa2 o56 (nI ct2))), (59, sn2), (60, cl4), (61, td2), (73, (upd od2 on2 (nI o56))), (74, id2), (60, (upd cl4 (ct2 + iq4) 0))]) (l2 := [(55, (upd oc o56 kk)), (56, (upd os o56 so)), (57, (upd om o56 (nI mq))), (58, (upd oa2 o56 (nI ct2))), (59, sn2), (60, (upd cl4 (ct2 + iq4) 0)), (61, td2), (73, (upd od2 on2 (nI o56))), (74, id2)]) (V := [(upd oc o56 kk), (upd os o56 so), (upd om o56 (nI mq)), (upd oa2 o56 (nI ct2)), sn2, (upd cl4 (ct2 + iq4) 0), td2, (upd od2 on2 (nI o56)), id2, (upd cl4 (ct2 + iq4) 0), (upd oc o56 kk), (upd os o56 so), (upd om o56 (nI mq)), (upd oa2 o56 (nI ct2)), sn2, (upd cl4 (ct2 + iq4) 0), td2, (upd od2 on2 (nI o56)), id2]) rfl rfl) hP
              have hD : va_D A (mW G h0 a (upd (upd (upd (upd (upd (upd (upd (upd (upd (upd F 97 (nI (ct2 + (iq4 + 1)))) 98 (nI fl2)) 99 (nI rmm)) 101 tds2) 102 (nI op)) 111 (nI tp)) 115 (nI wn)) 116 en) 128 (nI (on2 + 1))) 130 (nI (idn2 - 1))) (updA (updA (updA (updA (updA (updA (updA (updA (updA B 55 (upd oc o56 kk)) 56 (upd os o56 so)) 57 (upd om o56 (nI mq))) 58 (upd oa2 o56 (nI ct2))) 59 sn2) 60 (upd cl4 (ct2 + iq4) 0)) 61 td2) 73 (upd od2 on2 (nI o56))) 74 id2)) := mW_D hD
              exact ih_z (iq4 + 1) (upd cl4 (ct2 + iq4) 0) _ _ _ (by omega) (by omega) (Zrd.succ hz4) hP hD hS (lv_sub hl [0, 1, 2, 3, 4, 5, 6] rfl)
        have hP : va_P G.1 pCl (mW G h0 a (upd (upd (upd (upd (upd (upd (upd (upd (upd (upd F 97 (nI (ct2 + 0))) 98 (nI fl2)) 99 (nI rmm)) 101 tds2) 102 (nI op)) 111 (nI tp)) 115 (nI wn)) 116 en) 128 (nI (on2 + 1))) 130 (nI (idn2 - 1))) (updA (updA (updA (updA (updA (updA (updA (updA (updA B 55 (upd oc o56 kk)) 56 (upd os o56 so)) 57 (upd om o56 (nI mq))) 58 (upd oa2 o56 (nI ct2))) 59 sn2) 60 cl2) 61 td2) 73 (upd od2 on2 (nI o56))) 74 id2)) _ := mW_to (F := F) (l1 := [(97, (nI ct2)), (98, (nI fl2)), (99, (nI rmm)), (101, tds2), (102, (nI op)), (111, (nI tp)), (115, (nI wn)), (116, en), (128, (nI on2)), (130, (nI idn2)), (130, (nI (idn2 - 1))), (128, (nI (on2 + 1)))]) (l2 := [(97, (nI (ct2 + 0))), (98, (nI fl2)), (99, (nI rmm)), (101, tds2), (102, (nI op)), (111, (nI tp)), (115, (nI wn)), (116, en), (128, (nI (on2 + 1))), (130, (nI (idn2 - 1)))]) (V := [(nI (ct2 + 0)), (nI fl2), (nI rmm), tds2, (nI op), (nI tp), (nI wn), en, (nI (on2 + 1)), (nI (idn2 - 1)), (nI (idn2 - 1)), (nI (on2 + 1)), (nI (ct2 + 0)), (nI fl2), (nI rmm), tds2, (nI op), (nI tp), (nI wn), en, (nI (on2 + 1)), (nI (idn2 - 1))]) rfl rfl (show (updA (updA (updA (updA (updA (updA (updA (updA (updA (updA (updA (updA (updA (updA B 55 oc) 56 os) 57 om) 58 oa2) 59 sn2) 60 cl2) 61 td2) 73 od2) 74 id2) 73 (upd od2 on2 (nI o56))) 55 (upd oc o56 kk)) 56 (upd os o56 so)) 57 (upd om o56 (nI mq))) 58 (upd oa2 o56 (nI ct2))) = (updA (updA (updA (updA (updA (updA (updA (updA (updA B 55 (upd oc o56 kk)) 56 (upd os o56 so)) 57 (upd om o56 (nI mq))) 58 (upd oa2 o56 (nI ct2))) 59 sn2) 60 cl2) 61 td2) 73 (upd od2 on2 (nI o56))) 74 id2) from updsA_eq2 (F := B) (l1 := [(55, oc), (56, os), (57, om), (58, oa2), (59, sn2), (60, cl2), (61, td2), (73, od2), (74, id2), (73, (upd od2 on2 (nI o56))), (55, (upd oc o56 kk)), (56, (upd os o56 so)), (57, (upd om o56 (nI mq))), (58, (upd oa2 o56 (nI ct2)))]) (l2 := [(55, (upd oc o56 kk)), (56, (upd os o56 so)), (57, (upd om o56 (nI mq))), (58, (upd oa2 o56 (nI ct2))), (59, sn2), (60, cl2), (61, td2), (73, (upd od2 on2 (nI o56))), (74, id2)]) (V := [(upd oc o56 kk), (upd os o56 so), (upd om o56 (nI mq)), (upd oa2 o56 (nI ct2)), sn2, cl2, td2, (upd od2 on2 (nI o56)), id2, (upd od2 on2 (nI o56)), (upd oc o56 kk), (upd os o56 so), (upd om o56 (nI mq)), (upd oa2 o56 (nI ct2)), (upd oc o56 kk), (upd os o56 so), (upd om o56 (nI mq)), (upd oa2 o56 (nI ct2)), sn2, cl2, td2, (upd od2 on2 (nI o56)), id2]) rfl rfl) hP
        have hD : va_D A (mW G h0 a (upd (upd (upd (upd (upd (upd (upd (upd (upd (upd F 97 (nI (ct2 + 0))) 98 (nI fl2)) 99 (nI rmm)) 101 tds2) 102 (nI op)) 111 (nI tp)) 115 (nI wn)) 116 en) 128 (nI (on2 + 1))) 130 (nI (idn2 - 1))) (updA (updA (updA (updA (updA (updA (updA (updA (updA B 55 (upd oc o56 kk)) 56 (upd os o56 so)) 57 (upd om o56 (nI mq))) 58 (upd oa2 o56 (nI ct2))) 59 sn2) 60 cl2) 61 td2) 73 (upd od2 on2 (nI o56))) 74 id2)) := mW_D hD
        exact loop_z (mq + 1) 0 cl2 _ _ _ (by omega) (by omega) Zrd.zero hP hD hS (lv_sub hl [0, 1, 2, 3, 4, 5, 6] rfl)
      · refine lv_topi (fun x89 e90 => ?_)
        obtain rfl : x89 = 1 := e90.trans (n64_gt (by omega) (by omega) h12)
        refine lv_if_le (tgt := 62) hx hb dX12_make_52 (by decide) (fun c91 => absurd c91 (by decide)) (fun c91 => ?_)
        refine lv_aload_n hx hb dX12_make_55 rfl (lv_at hl 4 rfl) ?_
        refine lv_iconst (v := 3) hx hb dX12_make_56 (by decide) ?_
        refine r_put (v := 3) (ty := .int) hx hb hown hq hE hP hD hS 116 233 tFX12_116 (by decide) pw_1506 (by decide) rfl rfl (ms_116 a _ _) dX12_make_57 (fun H locs hP hD hS => ?_)
        refine lv_iconst (v := 0) hx hb dX12_make_60 (by decide) ?_
        have hz92 : HS om oc od2 id2 oa2 on2 idn2 fl2 rmm := hH2
        have hz93 : ct2 = smF om od2 on2 := hct2
        have hz94 : ((∀ c : Nat, c < op → RfS snk (B 62 c)) ∧ (∀ c s v : Nat, c < op → B 63 c = nI s → s ≤ 30 → v < s → ¬ B 67 (32 * c + v) = 0 → RfS snk (B 66 (32 * c + v))) ∧ (∀ k : Nat, k < tp → ¬ B 69 k = 0 → RfS snk (B 68 k)) ∧ (∀ k : Nat, k < wn → ¬ B 72 k = 0 → RfS snk (B 71 k)) ∧ (∀ o : Nat, o < 3000 → Lvd od on o → ¬ snk o = 0 → ∀ v : Int32, (Chd oc os om oa cl (B 75) (B 76) (B 77)) o v → RfS snk v)) := hR2
        have hz95 : 0 ≤ 3000 := (by omega)
        have hz96 : If (0 = 0) ((3 : Int32) = 3 ∧ oc = oc ∧ os = os ∧ om = om) := (fun _ => ⟨rfl, rfl, rfl, rfl⟩)
        have hz97 : If (0 < 0) ((3 : Int32) = en ∧ oc = upd oc (0 - 1) kk ∧ os = upd os (0 - 1) so ∧ om = upd om (0 - 1) (nI mq) ∧ mq ≤ 3000 ∧ (¬ Lvd od on (0 - 1) ∨ snk (0 - 1) = 0) ∧ ∃ p : Nat, oa2 (0 - 1) = nI p ∧ p + mq ≤ 3000 ∧ ∀ i : Nat, i < mq → cl2 (p + i) = 0) := (fun e => absurd e (by omega))
        have hz98 : ∀ o : Nat, o < 3000 → (Lvd od2 on2 o ↔ (Lvd od on o ∧ ¬ snk o = 0) ∨ (0 < 0 ∧ o = 0 - 1)) := (fun o ho => ⟨fun z => Or.inl ((hK2.1 o ho).mp z), fun z => (hK2.1 o ho).mpr (z.elim id (fun y => absurd y.1 (by omega)))⟩)
        have hz99 : ∀ o : Nat, o < 3000 → Lvd od on o → ¬ snk o = 0 → ∀ i q p p1 : Nat, om o = nI q → oa o = nI p → oa2 o = nI p1 → i < q → q ≤ 3000 → p ≤ 3000 → p1 ≤ 3000 → cl2 (p1 + i) = cl (p + i) := (fun o ho h1 h2 => hK2.2 o ho ((hK2.1 o ho).mpr ⟨h1, h2⟩))
        have hP : va_P G.1 pCl (mW G h0 a (upd (upd (upd (upd (upd (upd (upd (upd (upd (upd (upd (upd F 97 (nI ct2)) 98 (nI fl2)) 99 (nI rmm)) 101 tds2) 102 (nI op)) 111 (nI tp)) 115 (nI wn)) 116 (3 : Int32)) 121 (F 121)) 122 (F 122)) 128 (nI on2)) 130 (nI idn2)) (updA (updA (updA (updA (updA (updA (updA (updA (updA B 55 oc) 56 os) 57 om) 58 oa2) 59 sn2) 60 cl2) 61 td2) 73 od2) 74 id2)) _ := mW_to (F := F) (l1 := [(97, (nI ct2)), (98, (nI fl2)), (99, (nI rmm)), (101, tds2), (102, (nI op)), (111, (nI tp)), (115, (nI wn)), (116, en), (128, (nI on2)), (130, (nI idn2)), (116, 3)]) (l2 := [(97, (nI ct2)), (98, (nI fl2)), (99, (nI rmm)), (101, tds2), (102, (nI op)), (111, (nI tp)), (115, (nI wn)), (116, (3 : Int32)), (121, (F 121)), (122, (F 122)), (128, (nI on2)), (130, (nI idn2))]) (V := [(nI ct2), (nI fl2), (nI rmm), tds2, (nI op), (nI tp), (nI wn), (3 : Int32), (nI on2), (nI idn2), (3 : Int32), (nI ct2), (nI fl2), (nI rmm), tds2, (nI op), (nI tp), (nI wn), (3 : Int32), (F 121), (F 122), (nI on2), (nI idn2)]) rfl rfl rfl hP
        have hD : va_D A (mW G h0 a (upd (upd (upd (upd (upd (upd (upd (upd (upd (upd (upd (upd F 97 (nI ct2)) 98 (nI fl2)) 99 (nI rmm)) 101 tds2) 102 (nI op)) 111 (nI tp)) 115 (nI wn)) 116 (3 : Int32)) 121 (F 121)) 122 (F 122)) 128 (nI on2)) 130 (nI idn2)) (updA (updA (updA (updA (updA (updA (updA (updA (updA B 55 oc) 56 os) 57 om) 58 oa2) 59 sn2) 60 cl2) 61 td2) 73 od2) 74 id2)) := mW_D hD
        exact W.iret (v := 0) hx hb hr (fun t9 ht9 hW9 => ⟨⟨_, (0, on2, idn2, fl2, ct2, (3 : Int32), tds2, (F 121), (F 122), od2, id2, oa2, cl2, sn2, td2, oc, os, om, snk), rfl, ⟨rfl, hz92, hz93, hz94, hz95, hz96, hz97, hz98, hz99⟩, by rw [ht9]; exact hP, hD⟩, hS.F ht9⟩) hS.2.2 dX12_make_61
    refine lv_aload_n hx hb dX12_make_17 rfl (lv_at hl 1 rfl) ?_
    refine r_get (v := .int (nI fl)) hx hb hown hq hE hP 98 719 tFX12_98 (by decide) pw_1976 rfl dX12_make_18 ?_
    refine lv_i2l hx hb dX12_make_21 rfl ?_
    refine lv_topl (fun x100 e101 => ?_)
    obtain rfl : x100 = n64 fl := e101.trans (n64_i2l (by omega))
    refine lv_lload hx hb dX12_make_22 (lv_at hl 0 rfl) ?_
    refine lv_ladd hx hb dX12_make_24 ?_
    refine lv_topl (fun x102 e103 => ?_)
    obtain rfl : x102 = n64 (fl + (mq + 1)) := e103.trans (n64_add fl (mq + 1))
    refine lv_aload_n hx hb dX12_make_25 rfl (lv_at hl 1 rfl) ?_
    refine r_get (v := .int (nI rmm)) hx hb hown hq hE hP 99 733 tFX12_99 (by decide) pw_1987 rfl dX12_make_26 ?_
    refine lv_i2l hx hb dX12_make_29 rfl ?_
    refine lv_topl (fun x104 e105 => ?_)
    obtain rfl : x104 = n64 rmm := e105.trans (n64_i2l (by omega))
    refine W.lcmp hx hb dX12_make_30 ?_
    rcases Nat.lt_trichotomy (fl + (mq + 1)) rmm with h106 | h106 | h106
    · refine lv_topi (fun x107 e108 => ?_)
      obtain rfl : x107 = -1 := e108.trans (n64_less (by omega) (by omega) h106)
      refine lv_if_le (tgt := 38) hx hb dX12_make_31 (by decide) (fun c109 => ?_) (fun c109 => absurd c109 (by decide))
      have hP : va_P G.1 pCl (mW G h0 a (upd (upd (upd (upd (upd (upd (upd (upd (upd (upd F 97 (nI ct)) 98 (nI fl)) 99 (nI rmm)) 101 (F 101)) 102 (nI op)) 111 (nI tp)) 115 (nI wn)) 116 en) 128 (nI on)) 130 (nI idn)) (updA (updA (updA (updA (updA (updA (updA (updA (updA B 55 oc) 56 os) 57 om) 58 oa) 59 sn) 60 cl) 61 td) 73 od) 74 ido)) _ := mW_to (F := F) (l1 := [(97, (nI ct)), (98, (nI fl)), (99, (nI rmm)), (102, (nI op)), (111, (nI tp)), (115, (nI wn)), (116, en), (128, (nI on)), (130, (nI idn))]) (l2 := [(97, (nI ct)), (98, (nI fl)), (99, (nI rmm)), (101, (F 101)), (102, (nI op)), (111, (nI tp)), (115, (nI wn)), (116, en), (128, (nI on)), (130, (nI idn))]) (V := [(nI ct), (nI fl), (nI rmm), (nI op), (nI tp), (nI wn), en, (nI on), (nI idn), (nI ct), (nI fl), (nI rmm), (F 101), (nI op), (nI tp), (nI wn), en, (nI on), (nI idn)]) rfl rfl rfl hP
      have hD : va_D A (mW G h0 a (upd (upd (upd (upd (upd (upd (upd (upd (upd (upd F 97 (nI ct)) 98 (nI fl)) 99 (nI rmm)) 101 (F 101)) 102 (nI op)) 111 (nI tp)) 115 (nI wn)) 116 en) 128 (nI on)) 130 (nI idn)) (updA (updA (updA (updA (updA (updA (updA (updA (updA B 55 oc) 56 os) 57 om) 58 oa) 59 sn) 60 cl) 61 td) 73 od) 74 ido)) := mW_D hD
      exact cut_s on idn fl ct (F 101) od ido oa cl sn td (fun _ => 1) _ _ _ (by have z2 := smF_le (om := om) (oc := oc) (od := od) on; have z3 := hHS.2.2.2.2; omega) hHS hct Kept.all ⟨fun _ _ => RfS.all, fun _ _ _ _ _ _ _ _ => RfS.all, fun _ _ _ => RfS.all, fun _ _ _ => RfS.all, fun _ _ _ _ _ _ => RfS.all⟩ hP hD hS (lv_sub hl [0, 4, 3, 2, 1] rfl)
    · refine lv_topi (fun x110 e111 => ?_)
      obtain rfl : x110 = 0 := e111.trans (n64_same (by omega) (by omega) h106)
      refine lv_if_le (tgt := 38) hx hb dX12_make_31 (by decide) (fun c112 => ?_) (fun c112 => absurd c112 (by decide))
      have hP : va_P G.1 pCl (mW G h0 a (upd (upd (upd (upd (upd (upd (upd (upd (upd (upd F 97 (nI ct)) 98 (nI fl)) 99 (nI rmm)) 101 (F 101)) 102 (nI op)) 111 (nI tp)) 115 (nI wn)) 116 en) 128 (nI on)) 130 (nI idn)) (updA (updA (updA (updA (updA (updA (updA (updA (updA B 55 oc) 56 os) 57 om) 58 oa) 59 sn) 60 cl) 61 td) 73 od) 74 ido)) _ := mW_to (F := F) (l1 := [(97, (nI ct)), (98, (nI fl)), (99, (nI rmm)), (102, (nI op)), (111, (nI tp)), (115, (nI wn)), (116, en), (128, (nI on)), (130, (nI idn))]) (l2 := [(97, (nI ct)), (98, (nI fl)), (99, (nI rmm)), (101, (F 101)), (102, (nI op)), (111, (nI tp)), (115, (nI wn)), (116, en), (128, (nI on)), (130, (nI idn))]) (V := [(nI ct), (nI fl), (nI rmm), (nI op), (nI tp), (nI wn), en, (nI on), (nI idn), (nI ct), (nI fl), (nI rmm), (F 101), (nI op), (nI tp), (nI wn), en, (nI on), (nI idn)]) rfl rfl rfl hP
      have hD : va_D A (mW G h0 a (upd (upd (upd (upd (upd (upd (upd (upd (upd (upd F 97 (nI ct)) 98 (nI fl)) 99 (nI rmm)) 101 (F 101)) 102 (nI op)) 111 (nI tp)) 115 (nI wn)) 116 en) 128 (nI on)) 130 (nI idn)) (updA (updA (updA (updA (updA (updA (updA (updA (updA B 55 oc) 56 os) 57 om) 58 oa) 59 sn) 60 cl) 61 td) 73 od) 74 ido)) := mW_D hD
      exact cut_s on idn fl ct (F 101) od ido oa cl sn td (fun _ => 1) _ _ _ (by have z2 := smF_le (om := om) (oc := oc) (od := od) on; have z3 := hHS.2.2.2.2; omega) hHS hct Kept.all ⟨fun _ _ => RfS.all, fun _ _ _ _ _ _ _ _ => RfS.all, fun _ _ _ => RfS.all, fun _ _ _ => RfS.all, fun _ _ _ _ _ _ => RfS.all⟩ hP hD hS (lv_sub hl [0, 4, 3, 2, 1] rfl)
    · refine lv_topi (fun x113 e114 => ?_)
      obtain rfl : x113 = 1 := e114.trans (n64_gt (by omega) (by omega) h106)
      refine lv_if_le (tgt := 38) hx hb dX12_make_31 (by decide) (fun c115 => absurd c115 (by decide)) (fun c115 => ?_)
      refine lv_aload_n hx hb dX12_make_34 rfl (lv_at hl 1 rfl) ?_
      have hP : va_P G.1 pCl (mW G h0 a (upd (upd (upd (upd (upd (upd (upd (upd (upd (upd (upd (upd (upd (upd (upd F 97 (nI ct)) 98 (nI fl)) 99 (nI rmm)) 102 (nI op)) 111 (nI tp)) 115 (nI wn)) 116 en) 128 (nI on)) 130 (nI idn)) 98 (nI fl)) 102 (nI op)) 111 (nI tp)) 115 (nI wn)) 128 (nI on)) 130 (nI idn)) (updA (updA (updA (updA (updA (updA (updA (updA (updA (updA (updA (updA (updA (updA (updA B 55 oc) 56 os) 57 om) 58 oa) 59 sn) 60 cl) 61 td) 73 od) 74 ido) 58 oa) 59 sn) 60 cl) 61 td) 73 od) 74 ido)) _ := mW_to (F := F) (l1 := [(97, (nI ct)), (98, (nI fl)), (99, (nI rmm)), (102, (nI op)), (111, (nI tp)), (115, (nI wn)), (116, en), (128, (nI on)), (130, (nI idn))]) (l2 := [(97, (nI ct)), (98, (nI fl)), (99, (nI rmm)), (102, (nI op)), (111, (nI tp)), (115, (nI wn)), (116, en), (128, (nI on)), (130, (nI idn)), (98, (nI fl)), (102, (nI op)), (111, (nI tp)), (115, (nI wn)), (128, (nI on)), (130, (nI idn))]) (V := [(nI ct), (nI fl), (nI rmm), (nI op), (nI tp), (nI wn), en, (nI on), (nI idn), (nI ct), (nI fl), (nI rmm), (nI op), (nI tp), (nI wn), en, (nI on), (nI idn), (nI fl), (nI op), (nI tp), (nI wn), (nI on), (nI idn)]) rfl rfl (show (updA (updA (updA (updA (updA (updA (updA (updA (updA B 55 oc) 56 os) 57 om) 58 oa) 59 sn) 60 cl) 61 td) 73 od) 74 ido) = (updA (updA (updA (updA (updA (updA (updA (updA (updA (updA (updA (updA (updA (updA (updA B 55 oc) 56 os) 57 om) 58 oa) 59 sn) 60 cl) 61 td) 73 od) 74 ido) 58 oa) 59 sn) 60 cl) 61 td) 73 od) 74 ido) from updsA_eq2 (F := B) (l1 := [(55, oc), (56, os), (57, om), (58, oa), (59, sn), (60, cl), (61, td), (73, od), (74, ido)]) (l2 := [(55, oc), (56, os), (57, om), (58, oa), (59, sn), (60, cl), (61, td), (73, od), (74, ido), (58, oa), (59, sn), (60, cl), (61, td), (73, od), (74, ido)]) (V := [oc, os, om, oa, sn, cl, td, od, ido, oc, os, om, oa, sn, cl, td, od, ido, oa, sn, cl, td, od, ido]) rfl rfl) hP
      have hD : va_D A (mW G h0 a (upd (upd (upd (upd (upd (upd (upd (upd (upd (upd (upd (upd (upd (upd (upd F 97 (nI ct)) 98 (nI fl)) 99 (nI rmm)) 102 (nI op)) 111 (nI tp)) 115 (nI wn)) 116 en) 128 (nI on)) 130 (nI idn)) 98 (nI fl)) 102 (nI op)) 111 (nI tp)) 115 (nI wn)) 128 (nI on)) 130 (nI idn)) (updA (updA (updA (updA (updA (updA (updA (updA (updA (updA (updA (updA (updA (updA (updA B 55 oc) 56 os) 57 om) 58 oa) 59 sn) 60 cl) 61 td) 73 od) 74 ido) 58 oa) 59 sn) 60 cl) 61 td) 73 od) 74 ido)) := mW_D hD
      refine pc_V0 (G := G) (As := []) (rest := []) hx hb hml hown hq hE hX pX0_al hP hD hS hA hl.1 (R_sweep l G h0 a (upd (upd (upd (upd (upd (upd (upd (upd (upd F 97 (nI ct)) 98 (nI fl)) 99 (nI rmm)) 102 (nI op)) 111 (nI tp)) 115 (nI wn)) 116 en) 128 (nI on)) 130 (nI idn)) (updA (updA (updA (updA (updA (updA (updA (updA (updA B 55 oc) 56 os) 57 om) 58 oa) 59 sn) 60 cl) 61 td) 73 od) 74 ido) on op tp wn idn fl rmm sn td od ido oa cl (by omega) (by omega) (by omega) (by omega) hth hscp hstk hwt hob hHS) (gV pw_1990 pw_1991 pw_1992 pw_1523 pw_1985) hV_X12_sweep 0 9 rfl rfl rfl rfl (Nat.le_of_ble_eq_true rfl) dX12_make_35 ⟨Nat.le_of_ble_eq_true rfl, Nat.le_of_ble_eq_true rfl⟩ ⟨Nat.le_of_ble_eq_true rfl, Nat.le_of_ble_eq_true rfl⟩ (fun v118 u116 H locs hw117 hP hD hS => ?_)
      obtain ⟨on119, idn120, fl121, ct122, tn123, od124, id125, oa126, cl127, sn128, td129⟩ := u116
      obtain ⟨hw117, h130, h131, h132, h133, h134, h135, h136, h137, h138, h139⟩ := hw117
      replace h130 : HS (om) (oc) od124 id125 oa126 on119 idn120 fl121 rmm := h130
      replace h131 : fl121 ≤ fl := h131
      replace h132 : ct122 = smF (om) od124 on119 := h132
      replace h133 : ∀ o : Nat, o < 3000 → (Lvd od124 on119 o ↔ Lvd od on o ∧ ¬ sn128 o = 0) := h133
      replace h134 : ∀ o : Nat, o < 3000 → Lvd od124 on119 o → ∀ i q p p1 : Nat, om o = nI q → oa o = nI p → oa126 o = nI p1 → i < q → q ≤ 3000 → p ≤ 3000 → p1 ≤ 3000 → cl127 (p1 + i) = cl (p + i) := h134
      replace h135 : ∀ c : Nat, c < op → RfS sn128 ((B 62) c) := h135
      replace h136 : ∀ c s v : Nat, c < op → (B 63) c = nI s → s ≤ 30 → v < s → ¬ (B 67) (32 * c + v) = 0 → RfS sn128 ((B 66) (32 * c + v)) := h136
      replace h137 : ∀ k : Nat, k < tp → ¬ (B 69) k = 0 → RfS sn128 ((B 68) k) := h137
      replace h138 : ∀ k : Nat, k < wn → ¬ (B 72) k = 0 → RfS sn128 ((B 71) k) := h138
      replace h139 : ∀ o : Nat, o < 3000 → Lvd od on o → ¬ sn128 o = 0 → ∀ v : Int32, (Chd (oc) (os) (om) oa cl ((B 75)) ((B 76)) ((B 77))) o v → RfS sn128 v := h139
      obtain rfl : v118 = none := hw117
      have hP : va_P G.1 pCl (mW G h0 a (upd (upd (upd (upd (upd (upd (upd (upd (upd (upd F 97 (nI ct122)) 98 (nI fl121)) 99 (nI rmm)) 101 (nI tn123)) 102 (nI op)) 111 (nI tp)) 115 (nI wn)) 116 en) 128 (nI on119)) 130 (nI idn120)) (updA (updA (updA (updA (updA (updA (updA (updA (updA B 55 oc) 56 os) 57 om) 58 oa126) 59 sn128) 60 cl127) 61 td129) 73 od124) 74 id125)) _ := mW_to (F := F) (l1 := [(97, (nI ct)), (98, (nI fl)), (99, (nI rmm)), (102, (nI op)), (111, (nI tp)), (115, (nI wn)), (116, en), (128, (nI on)), (130, (nI idn)), (97, (nI ct122)), (98, (nI fl121)), (101, (nI tn123)), (102, (nI op)), (111, (nI tp)), (115, (nI wn)), (128, (nI on119)), (130, (nI idn120))]) (l2 := [(97, (nI ct122)), (98, (nI fl121)), (99, (nI rmm)), (101, (nI tn123)), (102, (nI op)), (111, (nI tp)), (115, (nI wn)), (116, en), (128, (nI on119)), (130, (nI idn120))]) (V := [(nI ct122), (nI fl121), (nI rmm), (nI op), (nI tp), (nI wn), en, (nI on119), (nI idn120), (nI ct122), (nI fl121), (nI tn123), (nI op), (nI tp), (nI wn), (nI on119), (nI idn120), (nI ct122), (nI fl121), (nI rmm), (nI tn123), (nI op), (nI tp), (nI wn), en, (nI on119), (nI idn120)]) rfl rfl (show (updA (updA (updA (updA (updA (updA (updA (updA (updA (updA (updA (updA (updA (updA (updA B 55 oc) 56 os) 57 om) 58 oa) 59 sn) 60 cl) 61 td) 73 od) 74 ido) 58 oa126) 59 sn128) 60 cl127) 61 td129) 73 od124) 74 id125) = (updA (updA (updA (updA (updA (updA (updA (updA (updA B 55 oc) 56 os) 57 om) 58 oa126) 59 sn128) 60 cl127) 61 td129) 73 od124) 74 id125) from updsA_eq2 (F := B) (l1 := [(55, oc), (56, os), (57, om), (58, oa), (59, sn), (60, cl), (61, td), (73, od), (74, ido), (58, oa126), (59, sn128), (60, cl127), (61, td129), (73, od124), (74, id125)]) (l2 := [(55, oc), (56, os), (57, om), (58, oa126), (59, sn128), (60, cl127), (61, td129), (73, od124), (74, id125)]) (V := [oc, os, om, oa126, sn128, cl127, td129, od124, id125, oa126, sn128, cl127, td129, od124, id125, oc, os, om, oa126, sn128, cl127, td129, od124, id125]) rfl rfl) hP
      have hD : va_D A (mW G h0 a (upd (upd (upd (upd (upd (upd (upd (upd (upd (upd F 97 (nI ct122)) 98 (nI fl121)) 99 (nI rmm)) 101 (nI tn123)) 102 (nI op)) 111 (nI tp)) 115 (nI wn)) 116 en) 128 (nI on119)) 130 (nI idn120)) (updA (updA (updA (updA (updA (updA (updA (updA (updA B 55 oc) 56 os) 57 om) 58 oa126) 59 sn128) 60 cl127) 61 td129) 73 od124) 74 id125)) := mW_D hD
      refine W.widen (k := 0) (n := 0) (Nat.le_of_ble_eq_true rfl) (Nat.le_of_ble_eq_true rfl) ?_
      refine W.eq (g2 := F0 m 38 ls []) rfl ?_
      have hP : va_P G.1 pCl (mW G h0 a (upd (upd (upd (upd (upd (upd (upd (upd (upd (upd F 97 (nI ct122)) 98 (nI fl121)) 99 (nI rmm)) 101 (nI tn123)) 102 (nI op)) 111 (nI tp)) 115 (nI wn)) 116 en) 128 (nI on119)) 130 (nI idn120)) (updA (updA (updA (updA (updA (updA (updA (updA (updA B 55 oc) 56 os) 57 om) 58 oa126) 59 sn128) 60 cl127) 61 td129) 73 od124) 74 id125)) _ := hP
      have hD : va_D A (mW G h0 a (upd (upd (upd (upd (upd (upd (upd (upd (upd (upd F 97 (nI ct122)) 98 (nI fl121)) 99 (nI rmm)) 101 (nI tn123)) 102 (nI op)) 111 (nI tp)) 115 (nI wn)) 116 en) 128 (nI on119)) 130 (nI idn120)) (updA (updA (updA (updA (updA (updA (updA (updA (updA B 55 oc) 56 os) 57 om) 58 oa126) 59 sn128) 60 cl127) 61 td129) 73 od124) 74 id125)) := mW_D hD
      exact cut_s on119 idn120 fl121 ct122 (nI tn123) od124 id125 oa126 cl127 sn128 td129 sn128 _ _ _ (by have z1 := h130; have z2 := smF_le (om := om) (oc := oc) (od := od124) on119; have z3 := z1.2.2.2.2; omega) h130 h132 ⟨h133, h134⟩ ⟨h135, h136, h137, h138, h139⟩ hP hD hS (lv_sub hl [0, 4, 3, 2, 1] rfl)
  · refine lv_ldc2 (v := 2) hx hb hown (hq _ pw_1986) dX12_make_7 ?_
    refine lv_goto (tgt := 14) hx hb dX12_make_10 (by decide) ?_
    refine lv_ladd hx hb dX12_make_14 ?_
    refine lv_topl (fun x140 e141 => ?_)
    obtain rfl : x140 = n64 (mq + 2) := e141.trans (n64_add mq 2)
    refine lv_lstore (lv' := [(4, .long (n64 (mq + 2))), (0, .ref h0), (1, .int kk), (2, .int so), (3, .int (nI mq))]) hx hb dX12_make_15 hl (by decide) rfl (fun ls hl => ?_)
    have cut_s : ∀ (on2 : Nat) (idn2 : Nat) (fl2 : Nat) (ct2 : Nat) (tds2 : Int32) (od2 : Nat → Int32) (id2 : Nat → Int32) (oa2 : Nat → Int32) (cl2 : Nat → Int32) (sn2 : Nat → Int32) (td2 : Nat → Int32) (snk : Nat → Int32) (H : Heap) (locs : List Loc) (ls : Array Slot), (on2 + idn2 = 3000 ∧ fl2 ≤ rmm ∧ on2 ≤ fl2 ∧ ct2 + on2 ≤ fl2) → (HS om oc od2 id2 oa2 on2 idn2 fl2 rmm) → (ct2 = smF om od2 on2) → (Kept om od oa cl od2 oa2 cl2 snk on on2) → (((∀ c : Nat, c < op → RfS snk (B 62 c)) ∧ (∀ c s v : Nat, c < op → B 63 c = nI s → s ≤ 30 → v < s → ¬ B 67 (32 * c + v) = 0 → RfS snk (B 66 (32 * c + v))) ∧ (∀ k : Nat, k < tp → ¬ B 69 k = 0 → RfS snk (B 68 k)) ∧ (∀ k : Nat, k < wn → ¬ B 72 k = 0 → RfS snk (B 71 k)) ∧ (∀ o : Nat, o < 3000 → Lvd od on o → ¬ snk o = 0 → ∀ v : Int32, (Chd oc os om oa cl (B 75) (B 76) (B 77)) o v → RfS snk v))) → va_P G.1 pCl (mW G h0 a (upd (upd (upd (upd (upd (upd (upd (upd (upd (upd F 97 (nI ct2)) 98 (nI fl2)) 99 (nI rmm)) 101 tds2) 102 (nI op)) 111 (nI tp)) 115 (nI wn)) 116 en) 128 (nI on2)) 130 (nI idn2)) (updA (updA (updA (updA (updA (updA (updA (updA (updA B 55 oc) 56 os) 57 om) 58 oa2) 59 sn2) 60 cl2) 61 td2) 73 od2) 74 id2)) H → va_D A (mW G h0 a (upd (upd (upd (upd (upd (upd (upd (upd (upd (upd F 97 (nI ct2)) 98 (nI fl2)) 99 (nI rmm)) 101 tds2) 102 (nI op)) 111 (nI tp)) 115 (nI wn)) 116 en) 128 (nI on2)) 130 (nI idn2)) (updA (updA (updA (updA (updA (updA (updA (updA (updA B 55 oc) 56 os) 57 om) 58 oa2) 59 sn2) 60 cl2) 61 td2) 73 od2) 74 id2)) → va_S A s.heap H locs → lv_has ls 8 [(4, .long (n64 (mq + 2))), (3, .int (nI mq)), (2, .int so), (1, .int kk), (0, .ref h0)] → W p l e (headSpec (Cond.code yX12_make cX12_make 8 (some .int) :: pw) ({ frames := 5, cells := 0, slots := 0, locals := 128 } : Room)).room s m ([.ref h0, .int kk, .int so, .int (nI mq)] : List Value).toArray below meth c H locs 0 0 (MQ below (pQ G A (fun (v : Option Value) (u : Nat × Nat × Nat × Nat × Nat × Int32 × Int32 × Int32 × Int32 × (Nat → Int32) × (Nat → Int32) × (Nat → Int32) × (Nat → Int32) × (Nat → Int32) × (Nat → Int32) × (Nat → Int32) × (Nat → Int32) × (Nat → Int32) × (Nat → Int32)) => v = some (.int (nI u.1)) ∧ (HS u.2.2.2.2.2.2.2.2.2.2.2.2.2.2.2.2.2.1 u.2.2.2.2.2.2.2.2.2.2.2.2.2.2.2.1 u.2.2.2.2.2.2.2.2.2.1 u.2.2.2.2.2.2.2.2.2.2.1 u.2.2.2.2.2.2.2.2.2.2.2.1 u.2.1 u.2.2.1 u.2.2.2.1 rmm) ∧ (u.2.2.2.2.1 = smF u.2.2.2.2.2.2.2.2.2.2.2.2.2.2.2.2.2.1 u.2.2.2.2.2.2.2.2.2.1 u.2.1) ∧ (((∀ c : Nat, c < op → RfS u.2.2.2.2.2.2.2.2.2.2.2.2.2.2.2.2.2.2 (B 62 c)) ∧ (∀ c s v : Nat, c < op → B 63 c = nI s → s ≤ 30 → v < s → ¬ B 67 (32 * c + v) = 0 → RfS u.2.2.2.2.2.2.2.2.2.2.2.2.2.2.2.2.2.2 (B 66 (32 * c + v))) ∧ (∀ k : Nat, k < tp → ¬ B 69 k = 0 → RfS u.2.2.2.2.2.2.2.2.2.2.2.2.2.2.2.2.2.2 (B 68 k)) ∧ (∀ k : Nat, k < wn → ¬ B 72 k = 0 → RfS u.2.2.2.2.2.2.2.2.2.2.2.2.2.2.2.2.2.2 (B 71 k)) ∧ (∀ o : Nat, o < 3000 → Lvd od on o → ¬ u.2.2.2.2.2.2.2.2.2.2.2.2.2.2.2.2.2.2 o = 0 → ∀ v : Int32, (Chd oc os om oa cl (B 75) (B 76) (B 77)) o v → RfS u.2.2.2.2.2.2.2.2.2.2.2.2.2.2.2.2.2.2 v))) ∧ (u.1 ≤ 3000) ∧ (If (u.1 = 0) (u.2.2.2.2.2.1 = 3 ∧ u.2.2.2.2.2.2.2.2.2.2.2.2.2.2.2.1 = oc ∧ u.2.2.2.2.2.2.2.2.2.2.2.2.2.2.2.2.1 = os ∧ u.2.2.2.2.2.2.2.2.2.2.2.2.2.2.2.2.2.1 = om)) ∧ (If (0 < u.1) (u.2.2.2.2.2.1 = en ∧ u.2.2.2.2.2.2.2.2.2.2.2.2.2.2.2.1 = upd oc (u.1 - 1) kk ∧ u.2.2.2.2.2.2.2.2.2.2.2.2.2.2.2.2.1 = upd os (u.1 - 1) so ∧ u.2.2.2.2.2.2.2.2.2.2.2.2.2.2.2.2.2.1 = upd om (u.1 - 1) (nI mq) ∧ mq ≤ 3000 ∧ (¬ Lvd od on (u.1 - 1) ∨ u.2.2.2.2.2.2.2.2.2.2.2.2.2.2.2.2.2.2 (u.1 - 1) = 0) ∧ ∃ p : Nat, u.2.2.2.2.2.2.2.2.2.2.2.1 (u.1 - 1) = nI p ∧ p + mq ≤ 3000 ∧ ∀ i : Nat, i < mq → u.2.2.2.2.2.2.2.2.2.2.2.2.1 (p + i) = 0)) ∧ (∀ o : Nat, o < 3000 → (Lvd u.2.2.2.2.2.2.2.2.2.1 u.2.1 o ↔ (Lvd od on o ∧ ¬ u.2.2.2.2.2.2.2.2.2.2.2.2.2.2.2.2.2.2 o = 0) ∨ (0 < u.1 ∧ o = u.1 - 1))) ∧ (∀ o : Nat, o < 3000 → Lvd od on o → ¬ u.2.2.2.2.2.2.2.2.2.2.2.2.2.2.2.2.2.2 o = 0 → ∀ i q p p1 : Nat, om o = nI q → oa o = nI p → u.2.2.2.2.2.2.2.2.2.2.2.1 o = nI p1 → i < q → q ≤ 3000 → p ≤ 3000 → p1 ≤ 3000 → u.2.2.2.2.2.2.2.2.2.2.2.2.1 (p1 + i) = cl (p + i))) (fun u => (mW G h0 a (upd (upd (upd (upd (upd (upd (upd (upd (upd (upd (upd (upd F 97 (nI u.2.2.2.2.1)) 98 (nI u.2.2.2.1)) 99 (nI rmm)) 101 u.2.2.2.2.2.2.1) 102 (nI op)) 111 (nI tp)) 115 (nI wn)) 116 u.2.2.2.2.2.1) 121 u.2.2.2.2.2.2.2.1) 122 u.2.2.2.2.2.2.2.2.1) 128 (nI u.2.1)) 130 (nI u.2.2.1)) (updA (updA (updA (updA (updA (updA (updA (updA (updA B 55 u.2.2.2.2.2.2.2.2.2.2.2.2.2.2.2.1) 56 u.2.2.2.2.2.2.2.2.2.2.2.2.2.2.2.2.1) 57 u.2.2.2.2.2.2.2.2.2.2.2.2.2.2.2.2.2.1) 58 u.2.2.2.2.2.2.2.2.2.2.2.1) 59 u.2.2.2.2.2.2.2.2.2.2.2.2.2.1) 60 u.2.2.2.2.2.2.2.2.2.2.2.2.1) 61 u.2.2.2.2.2.2.2.2.2.2.2.2.2.2.1) 73 u.2.2.2.2.2.2.2.2.2.1) 74 u.2.2.2.2.2.2.2.2.2.2.1)))) ([.ref h0, .int kk, .int so, .int (nI mq)] : List Value).toArray s ({ frames := 5, cells := 0, slots := 0, locals := 128 } : Room).cells ({ frames := 5, cells := 0, slots := 0, locals := 128 } : Room).slots A) (F0 m 38 ls []) := by
      intro on2 idn2 fl2 ct2 tds2 od2 id2 oa2 cl2 sn2 td2 snk H locs ls hn2 hH2 hct2 hK2 hR2 hP hD hS hl
      refine lv_aload_n hx hb dX12_make_38 rfl (lv_at hl 4 rfl) ?_
      refine r_get (v := .int (nI fl2)) hx hb hown hq hE hP 98 719 tFX12_98 (by decide) pw_1976 rfl dX12_make_39 ?_
      refine lv_i2l hx hb dX12_make_42 rfl ?_
      refine lv_topl (fun x142 e143 => ?_)
      obtain rfl : x142 = n64 fl2 := e143.trans (n64_i2l (by omega))
      refine lv_lload hx hb dX12_make_43 (lv_at hl 0 rfl) ?_
      refine lv_ladd hx hb dX12_make_45 ?_
      refine lv_topl (fun x144 e145 => ?_)
      obtain rfl : x144 = n64 (fl2 + (mq + 2)) := e145.trans (n64_add fl2 (mq + 2))
      refine lv_aload_n hx hb dX12_make_46 rfl (lv_at hl 4 rfl) ?_
      refine r_get (v := .int (nI rmm)) hx hb hown hq hE hP 99 733 tFX12_99 (by decide) pw_1987 rfl dX12_make_47 ?_
      refine lv_i2l hx hb dX12_make_50 rfl ?_
      refine lv_topl (fun x146 e147 => ?_)
      obtain rfl : x146 = n64 rmm := e147.trans (n64_i2l (by omega))
      refine W.lcmp hx hb dX12_make_51 ?_
      rcases Nat.lt_trichotomy (fl2 + (mq + 2)) rmm with h148 | h148 | h148
      · refine lv_topi (fun x149 e150 => ?_)
        obtain rfl : x149 = -1 := e150.trans (n64_less (by omega) (by omega) h148)
        refine lv_if_le (tgt := 62) hx hb dX12_make_52 (by decide) (fun c151 => ?_) (fun c151 => absurd c151 (by decide))
        refine lv_aload_n hx hb dX12_make_62 rfl (lv_at hl 4 rfl) ?_
        refine lv_dup hx hb dX12_make_63 rfl ?_
        refine r_get (v := .int (nI idn2)) hx hb hown hq hE hP 130 725 tFX12_130 (by decide) pw_1978 rfl dX12_make_64 ?_
        refine lv_iconst (v := 1) hx hb dX12_make_67 (by decide) ?_
        refine lv_isub hx hb dX12_make_68 ?_
        refine lv_topi (fun x152 e153 => ?_)
        obtain rfl : x152 = nI (idn2 - 1) := e153.trans (nI_subN (a := 1) (b := idn2) (by omega))
        refine r_put (v := (nI (idn2 - 1))) (ty := .int) hx hb hown hq hE hP hD hS 130 725 tFX12_130 (by decide) pw_1978 (by decide) rfl rfl (ms_130 a _ _) dX12_make_69 (fun H locs hP hD hS => ?_)
        refine lv_aload_n hx hb dX12_make_72 rfl (lv_at hl 4 rfl) ?_
        refine r_get (v := .ref (a 74)) hx hb hown hq hE hP 129 240 tFX12_129 (by decide) pw_1508 rfl dX12_make_73 ?_
        refine lv_aload_n hx hb dX12_make_76 rfl (lv_at hl 4 rfl) ?_
        refine r_get (v := .int (nI (idn2 - 1))) hx hb hown hq hE hP 130 725 tFX12_130 (by decide) pw_1978 rfl dX12_make_77 ?_
        refine r_ldi (f := id2) (j := (idn2 - 1)) hx hb hE hP 74 (ma_74 G a _) rfl (by omega) (by decide) dX12_make_80 ?_
        obtain ⟨o154, h155, e156, h157⟩ := hH2.2.2.1 (idn2 - 1) (by omega)
        refine lv_topi (fun x158 e159 => ?_)
        obtain rfl : x158 = nI o154 := e159.trans e156
        refine lv_istore (lv' := [(6, .int (nI o154)), (4, .long (n64 (mq + 2))), (3, .int (nI mq)), (2, .int so), (1, .int kk), (0, .ref h0)]) hx hb dX12_make_81 hl (by decide) rfl (fun ls hl => ?_)
        refine lv_aload_n hx hb dX12_make_83 rfl (lv_at hl 5 rfl) ?_
        refine r_get (v := .ref (a 73)) hx hb hown hq hE hP 127 237 tFX12_127 (by decide) pw_1507 rfl dX12_make_84 ?_
        refine lv_aload_n hx hb dX12_make_87 rfl (lv_at hl 5 rfl) ?_
        refine r_get (v := .int (nI on2)) hx hb hown hq hE hP 128 704 tFX12_128 (by decide) pw_1968 rfl dX12_make_88 ?_
        refine lv_iload hx hb dX12_make_91 (lv_at hl 0 rfl) ?_
        refine r_sti (f := od2) (j := on2) hx hb hE hP hD hS 73 (ma_73 G a _) rfl (mas_73 G a _) (by omega) (by decide) dX12_make_93 (fun H locs hP hD hS => ?_)
        refine lv_aload_n hx hb dX12_make_94 rfl (lv_at hl 5 rfl) ?_
        refine lv_dup hx hb dX12_make_95 rfl ?_
        refine r_get (v := .int (nI on2)) hx hb hown hq hE hP 128 704 tFX12_128 (by decide) pw_1968 rfl dX12_make_96 ?_
        refine lv_iconst (v := 1) hx hb dX12_make_99 (by decide) ?_
        refine lv_iadd hx hb dX12_make_100 ?_
        refine lv_topi (fun x160 e161 => ?_)
        obtain rfl : x160 = nI (on2 + 1) := e161.trans (nI_add (on2) (1))
        refine r_put (v := (nI (on2 + 1))) (ty := .int) hx hb hown hq hE hP hD hS 128 704 tFX12_128 (by decide) pw_1968 (by decide) rfl rfl (ms_128 a _ _) dX12_make_101 (fun H locs hP hD hS => ?_)
        refine lv_aload_n hx hb dX12_make_104 rfl (lv_at hl 5 rfl) ?_
        refine r_get (v := .ref (a 55)) hx hb hown hq hE hP 91 178 tFX12_91 (by decide) pw_1487 rfl dX12_make_105 ?_
        refine lv_iload hx hb dX12_make_108 (lv_at hl 0 rfl) ?_
        refine lv_iload_n hx hb dX12_make_110 rfl (lv_at hl 4 rfl) ?_
        refine r_sti (f := oc) (j := o154) hx hb hE hP hD hS 55 (ma_55 G a _) rfl (mas_55 G a _) (by omega) (by decide) dX12_make_111 (fun H locs hP hD hS => ?_)
        refine lv_aload_n hx hb dX12_make_112 rfl (lv_at hl 5 rfl) ?_
        refine r_get (v := .ref (a 56)) hx hb hown hq hE hP 92 181 tFX12_92 (by decide) pw_1488 rfl dX12_make_113 ?_
        refine lv_iload hx hb dX12_make_116 (lv_at hl 0 rfl) ?_
        refine lv_iload_n hx hb dX12_make_118 rfl (lv_at hl 3 rfl) ?_
        refine r_sti (f := os) (j := o154) hx hb hE hP hD hS 56 (ma_56 G a _) rfl (mas_56 G a _) (by omega) (by decide) dX12_make_119 (fun H locs hP hD hS => ?_)
        refine lv_aload_n hx hb dX12_make_120 rfl (lv_at hl 5 rfl) ?_
        refine r_get (v := .ref (a 57)) hx hb hown hq hE hP 93 184 tFX12_93 (by decide) pw_1489 rfl dX12_make_121 ?_
        refine lv_iload hx hb dX12_make_124 (lv_at hl 0 rfl) ?_
        refine lv_iload_n hx hb dX12_make_126 rfl (lv_at hl 2 rfl) ?_
        refine r_sti (f := om) (j := o154) hx hb hE hP hD hS 57 (ma_57 G a _) rfl (mas_57 G a _) (by omega) (by decide) dX12_make_127 (fun H locs hP hD hS => ?_)
        refine lv_aload_n hx hb dX12_make_128 rfl (lv_at hl 5 rfl) ?_
        refine r_get (v := .ref (a 58)) hx hb hown hq hE hP 94 187 tFX12_94 (by decide) pw_1490 rfl dX12_make_129 ?_
        refine lv_iload hx hb dX12_make_132 (lv_at hl 0 rfl) ?_
        refine lv_aload_n hx hb dX12_make_134 rfl (lv_at hl 5 rfl) ?_
        refine r_get (v := .int (nI ct2)) hx hb hown hq hE hP 97 722 tFX12_97 (by decide) pw_1977 rfl dX12_make_135 ?_
        refine r_sti (f := oa2) (j := o154) hx hb hE hP hD hS 58 (ma_58 G a _) rfl (mas_58 G a _) (by omega) (by decide) dX12_make_138 (fun H locs hP hD hS => ?_)
        refine lv_iconst (v := 0) hx hb dX12_make_139 (by decide) ?_
        refine lv_istore (lv' := [(7, .int 0), (6, .int (nI o154)), (4, .long (n64 (mq + 2))), (3, .int (nI mq)), (2, .int so), (1, .int kk), (0, .ref h0)]) hx hb dX12_make_140 hl (by decide) rfl (fun ls hl => ?_)
        have loop_z : ∀ (n_z : Nat) (iq4 : Nat) (cl4 : Nat → Int32) (H : Heap) (locs : List Loc) (ls : Array Slot), iq4 ≤ mq → mq + 1 ≤ iq4 + n_z → (Zrd cl2 cl4 ct2 iq4) → va_P G.1 pCl (mW G h0 a (upd (upd (upd (upd (upd (upd (upd (upd (upd (upd F 97 (nI (ct2 + iq4))) 98 (nI fl2)) 99 (nI rmm)) 101 tds2) 102 (nI op)) 111 (nI tp)) 115 (nI wn)) 116 en) 128 (nI (on2 + 1))) 130 (nI (idn2 - 1))) (updA (updA (updA (updA (updA (updA (updA (updA (updA B 55 (upd oc o154 kk)) 56 (upd os o154 so)) 57 (upd om o154 (nI mq))) 58 (upd oa2 o154 (nI ct2))) 59 sn2) 60 cl4) 61 td2) 73 (upd od2 on2 (nI o154))) 74 id2)) H → va_D A (mW G h0 a (upd (upd (upd (upd (upd (upd (upd (upd (upd (upd F 97 (nI (ct2 + iq4))) 98 (nI fl2)) 99 (nI rmm)) 101 tds2) 102 (nI op)) 111 (nI tp)) 115 (nI wn)) 116 en) 128 (nI (on2 + 1))) 130 (nI (idn2 - 1))) (updA (updA (updA (updA (updA (updA (updA (updA (updA B 55 (upd oc o154 kk)) 56 (upd os o154 so)) 57 (upd om o154 (nI mq))) 58 (upd oa2 o154 (nI ct2))) 59 sn2) 60 cl4) 61 td2) 73 (upd od2 on2 (nI o154))) 74 id2)) → va_S A s.heap H locs → lv_has ls 8 [(7, .int (nI iq4)), (6, .int (nI o154)), (4, .long (n64 (mq + 2))), (3, .int (nI mq)), (2, .int so), (1, .int kk), (0, .ref h0)] → W p l e (headSpec (Cond.code yX12_make cX12_make 8 (some .int) :: pw) ({ frames := 5, cells := 0, slots := 0, locals := 128 } : Room)).room s m ([.ref h0, .int kk, .int so, .int (nI mq)] : List Value).toArray below meth c H locs 0 0 (MQ below (pQ G A (fun (v : Option Value) (u : Nat × Nat × Nat × Nat × Nat × Int32 × Int32 × Int32 × Int32 × (Nat → Int32) × (Nat → Int32) × (Nat → Int32) × (Nat → Int32) × (Nat → Int32) × (Nat → Int32) × (Nat → Int32) × (Nat → Int32) × (Nat → Int32) × (Nat → Int32)) => v = some (.int (nI u.1)) ∧ (HS u.2.2.2.2.2.2.2.2.2.2.2.2.2.2.2.2.2.1 u.2.2.2.2.2.2.2.2.2.2.2.2.2.2.2.1 u.2.2.2.2.2.2.2.2.2.1 u.2.2.2.2.2.2.2.2.2.2.1 u.2.2.2.2.2.2.2.2.2.2.2.1 u.2.1 u.2.2.1 u.2.2.2.1 rmm) ∧ (u.2.2.2.2.1 = smF u.2.2.2.2.2.2.2.2.2.2.2.2.2.2.2.2.2.1 u.2.2.2.2.2.2.2.2.2.1 u.2.1) ∧ (((∀ c : Nat, c < op → RfS u.2.2.2.2.2.2.2.2.2.2.2.2.2.2.2.2.2.2 (B 62 c)) ∧ (∀ c s v : Nat, c < op → B 63 c = nI s → s ≤ 30 → v < s → ¬ B 67 (32 * c + v) = 0 → RfS u.2.2.2.2.2.2.2.2.2.2.2.2.2.2.2.2.2.2 (B 66 (32 * c + v))) ∧ (∀ k : Nat, k < tp → ¬ B 69 k = 0 → RfS u.2.2.2.2.2.2.2.2.2.2.2.2.2.2.2.2.2.2 (B 68 k)) ∧ (∀ k : Nat, k < wn → ¬ B 72 k = 0 → RfS u.2.2.2.2.2.2.2.2.2.2.2.2.2.2.2.2.2.2 (B 71 k)) ∧ (∀ o : Nat, o < 3000 → Lvd od on o → ¬ u.2.2.2.2.2.2.2.2.2.2.2.2.2.2.2.2.2.2 o = 0 → ∀ v : Int32, (Chd oc os om oa cl (B 75) (B 76) (B 77)) o v → RfS u.2.2.2.2.2.2.2.2.2.2.2.2.2.2.2.2.2.2 v))) ∧ (u.1 ≤ 3000) ∧ (If (u.1 = 0) (u.2.2.2.2.2.1 = 3 ∧ u.2.2.2.2.2.2.2.2.2.2.2.2.2.2.2.1 = oc ∧ u.2.2.2.2.2.2.2.2.2.2.2.2.2.2.2.2.1 = os ∧ u.2.2.2.2.2.2.2.2.2.2.2.2.2.2.2.2.2.1 = om)) ∧ (If (0 < u.1) (u.2.2.2.2.2.1 = en ∧ u.2.2.2.2.2.2.2.2.2.2.2.2.2.2.2.1 = upd oc (u.1 - 1) kk ∧ u.2.2.2.2.2.2.2.2.2.2.2.2.2.2.2.2.1 = upd os (u.1 - 1) so ∧ u.2.2.2.2.2.2.2.2.2.2.2.2.2.2.2.2.2.1 = upd om (u.1 - 1) (nI mq) ∧ mq ≤ 3000 ∧ (¬ Lvd od on (u.1 - 1) ∨ u.2.2.2.2.2.2.2.2.2.2.2.2.2.2.2.2.2.2 (u.1 - 1) = 0) ∧ ∃ p : Nat, u.2.2.2.2.2.2.2.2.2.2.2.1 (u.1 - 1) = nI p ∧ p + mq ≤ 3000 ∧ ∀ i : Nat, i < mq → u.2.2.2.2.2.2.2.2.2.2.2.2.1 (p + i) = 0)) ∧ (∀ o : Nat, o < 3000 → (Lvd u.2.2.2.2.2.2.2.2.2.1 u.2.1 o ↔ (Lvd od on o ∧ ¬ u.2.2.2.2.2.2.2.2.2.2.2.2.2.2.2.2.2.2 o = 0) ∨ (0 < u.1 ∧ o = u.1 - 1))) ∧ (∀ o : Nat, o < 3000 → Lvd od on o → ¬ u.2.2.2.2.2.2.2.2.2.2.2.2.2.2.2.2.2.2 o = 0 → ∀ i q p p1 : Nat, om o = nI q → oa o = nI p → u.2.2.2.2.2.2.2.2.2.2.2.1 o = nI p1 → i < q → q ≤ 3000 → p ≤ 3000 → p1 ≤ 3000 → u.2.2.2.2.2.2.2.2.2.2.2.2.1 (p1 + i) = cl (p + i))) (fun u => (mW G h0 a (upd (upd (upd (upd (upd (upd (upd (upd (upd (upd (upd (upd F 97 (nI u.2.2.2.2.1)) 98 (nI u.2.2.2.1)) 99 (nI rmm)) 101 u.2.2.2.2.2.2.1) 102 (nI op)) 111 (nI tp)) 115 (nI wn)) 116 u.2.2.2.2.2.1) 121 u.2.2.2.2.2.2.2.1) 122 u.2.2.2.2.2.2.2.2.1) 128 (nI u.2.1)) 130 (nI u.2.2.1)) (updA (updA (updA (updA (updA (updA (updA (updA (updA B 55 u.2.2.2.2.2.2.2.2.2.2.2.2.2.2.2.1) 56 u.2.2.2.2.2.2.2.2.2.2.2.2.2.2.2.2.1) 57 u.2.2.2.2.2.2.2.2.2.2.2.2.2.2.2.2.2.1) 58 u.2.2.2.2.2.2.2.2.2.2.2.1) 59 u.2.2.2.2.2.2.2.2.2.2.2.2.2.1) 60 u.2.2.2.2.2.2.2.2.2.2.2.2.1) 61 u.2.2.2.2.2.2.2.2.2.2.2.2.2.2.1) 73 u.2.2.2.2.2.2.2.2.2.1) 74 u.2.2.2.2.2.2.2.2.2.2.1)))) ([.ref h0, .int kk, .int so, .int (nI mq)] : List Value).toArray s ({ frames := 5, cells := 0, slots := 0, locals := 128 } : Room).cells ({ frames := 5, cells := 0, slots := 0, locals := 128 } : Room).slots A) (F0 m 142 ls []) := by
          intro n_z
          induction n_z with
          | zero => intro iq4 cl4 H locs ls hk_z hn_z; omega
          | succ n_z ih_z =>
            intro iq4 cl4 H locs ls hk_z hn_z hz4 hP hD hS hl
            refine lv_iload hx hb dX12_make_142 (lv_at hl 0 rfl) ?_
            refine lv_iload_n hx hb dX12_make_144 rfl (lv_at hl 3 rfl) ?_
            refine lv_icmp_ge (tgt := 174) hx hb dX12_make_145 (by decide) (fun c162 => ?_) (fun c162 => ?_)
            · have n163 : mq ≤ iq4 := (nI_leI (a := mq) (b := iq4) (by omega) (by omega)).mp c162
              obtain rfl : mq = iq4 := (by omega)
              have hP : va_P G.1 pCl (mW G h0 a (upd (upd (upd (upd (upd (upd (upd (upd (upd (upd F 97 (nI (ct2 + mq))) 98 (nI fl2)) 99 (nI rmm)) 101 tds2) 102 (nI op)) 111 (nI tp)) 115 (nI wn)) 116 en) 128 (nI (on2 + 1))) 130 (nI (idn2 - 1))) (updA (updA (updA (updA (updA (updA (updA (updA (updA B 55 (upd oc o154 kk)) 56 (upd os o154 so)) 57 (upd om o154 (nI mq))) 58 (upd oa2 o154 (nI ct2))) 59 sn2) 60 cl4) 61 td2) 73 (upd od2 on2 (nI o154))) 74 id2)) _ := hP
              have hD : va_D A (mW G h0 a (upd (upd (upd (upd (upd (upd (upd (upd (upd (upd F 97 (nI (ct2 + mq))) 98 (nI fl2)) 99 (nI rmm)) 101 tds2) 102 (nI op)) 111 (nI tp)) 115 (nI wn)) 116 en) 128 (nI (on2 + 1))) 130 (nI (idn2 - 1))) (updA (updA (updA (updA (updA (updA (updA (updA (updA B 55 (upd oc o154 kk)) 56 (upd os o154 so)) 57 (upd om o154 (nI mq))) 58 (upd oa2 o154 (nI ct2))) 59 sn2) 60 cl4) 61 td2) 73 (upd od2 on2 (nI o154))) 74 id2)) := mW_D hD
              have hl : lv_has ls 8 [(7, .int (nI mq)), (6, .int (nI o154)), (4, .long (n64 (mq + 2))), (3, .int (nI mq)), (2, .int so), (1, .int kk), (0, .ref h0)] := hl
              refine lv_aload_n hx hb dX12_make_174 rfl (lv_at hl 6 rfl) ?_
              refine lv_dup hx hb dX12_make_175 rfl ?_
              refine r_get (v := .int (nI fl2)) hx hb hown hq hE hP 98 719 tFX12_98 (by decide) pw_1976 rfl dX12_make_176 ?_
              refine lv_lload hx hb dX12_make_179 (lv_at hl 2 rfl) ?_
              refine lv_l2i hx hb dX12_make_181 rfl ?_
              refine lv_topi (fun x164 e165 => ?_)
              obtain rfl : x164 = nI (mq + 2) := e165.trans (n64_l2i (by omega))
              refine lv_iadd hx hb dX12_make_182 ?_
              refine lv_topi (fun x166 e167 => ?_)
              obtain rfl : x166 = nI (fl2 + (mq + 2)) := e167.trans (nI_add (fl2) ((mq + 2)))
              refine r_put (v := (nI (fl2 + (mq + 2)))) (ty := .int) hx hb hown hq hE hP hD hS 98 719 tFX12_98 (by decide) pw_1976 (by decide) rfl rfl (ms_98 a _ _) dX12_make_183 (fun H locs hP hD hS => ?_)
              refine lv_aload_n hx hb dX12_make_186 rfl (lv_at hl 6 rfl) ?_
              refine lv_dup hx hb dX12_make_187 rfl ?_
              refine r_get (v := .int (F 121)) hx hb hown hq hE hP 121 739 tFX12_121 (by decide) pw_1988 rfl dX12_make_188 ?_
              refine lv_iconst (v := 1) hx hb dX12_make_191 (by decide) ?_
              refine lv_iadd hx hb dX12_make_192 ?_
              refine lv_topi (fun x168 e169 => ?_)
              refine r_put (v := x168) (ty := .int) hx hb hown hq hE hP hD hS 121 739 tFX12_121 (by decide) pw_1988 (by decide) rfl rfl (ms_121 a _ _) dX12_make_193 (fun H locs hP hD hS => ?_)
              refine lv_aload_n hx hb dX12_make_196 rfl (lv_at hl 6 rfl) ?_
              refine lv_dup hx hb dX12_make_197 rfl ?_
              refine r_get (v := .int (F 122)) hx hb hown hq hE hP 122 742 tFX12_122 (by decide) pw_1989 rfl dX12_make_198 ?_
              refine lv_lload hx hb dX12_make_201 (lv_at hl 2 rfl) ?_
              refine lv_l2i hx hb dX12_make_203 rfl ?_
              refine lv_topi (fun x170 e171 => ?_)
              obtain rfl : x170 = nI (mq + 2) := e171.trans (n64_l2i (by omega))
              refine lv_iadd hx hb dX12_make_204 ?_
              refine lv_topi (fun x172 e173 => ?_)
              refine r_put (v := x172) (ty := .int) hx hb hown hq hE hP hD hS 122 742 tFX12_122 (by decide) pw_1989 (by decide) rfl rfl (ms_122 a _ _) dX12_make_205 (fun H locs hP hD hS => ?_)
              refine lv_iload hx hb dX12_make_208 (lv_at hl 1 rfl) ?_
              refine lv_iconst (v := 1) hx hb dX12_make_210 (by decide) ?_
              refine lv_iadd hx hb dX12_make_211 ?_
              refine lv_topi (fun x174 e175 => ?_)
              obtain rfl : x174 = nI (o154 + 1) := e175.trans (nI_add (o154) (1))
              have hmk := HS.make (k := kk) (q := mq) (by rw [show idn2 - 1 + 1 = idn2 by omega]; exact hH2) e156 h155 (by omega) (by rw [(if_pos c3)]; omega)
              rw [(if_pos c3), ← hct2] at hmk
              obtain ⟨hk1, hk2, hk3, hk4⟩ := hmk
              have hr1 : o154 + 1 - 1 = o154 := by omega
              have hz176 : HS (upd om o154 (nI mq)) (upd oc o154 kk) (upd od2 on2 (nI o154)) id2 (upd oa2 o154 (nI ct2)) (on2 + 1) (idn2 - 1) (fl2 + (mq + 2)) rmm := hk1
              have hz177 : (ct2 + mq) = smF (upd om o154 (nI mq)) (upd od2 on2 (nI o154)) (on2 + 1) := hk2.symm
              have hz178 : ((∀ c : Nat, c < op → RfS snk (B 62 c)) ∧ (∀ c s v : Nat, c < op → B 63 c = nI s → s ≤ 30 → v < s → ¬ B 67 (32 * c + v) = 0 → RfS snk (B 66 (32 * c + v))) ∧ (∀ k : Nat, k < tp → ¬ B 69 k = 0 → RfS snk (B 68 k)) ∧ (∀ k : Nat, k < wn → ¬ B 72 k = 0 → RfS snk (B 71 k)) ∧ (∀ o : Nat, o < 3000 → Lvd od on o → ¬ snk o = 0 → ∀ v : Int32, (Chd oc os om oa cl (B 75) (B 76) (B 77)) o v → RfS snk v)) := hR2
              have hz179 : (o154 + 1) ≤ 3000 := (by omega)
              have hz180 : If ((o154 + 1) = 0) (en = 3 ∧ (upd oc o154 kk) = oc ∧ (upd os o154 so) = os ∧ (upd om o154 (nI mq)) = om) := (fun e => absurd e (by omega))
              have hz181 : If (0 < (o154 + 1)) (en = en ∧ (upd oc o154 kk) = upd oc ((o154 + 1) - 1) kk ∧ (upd os o154 so) = upd os ((o154 + 1) - 1) so ∧ (upd om o154 (nI mq)) = upd om ((o154 + 1) - 1) (nI mq) ∧ mq ≤ 3000 ∧ (¬ Lvd od on ((o154 + 1) - 1) ∨ snk ((o154 + 1) - 1) = 0) ∧ ∃ p : Nat, (upd oa2 o154 (nI ct2)) ((o154 + 1) - 1) = nI p ∧ p + mq ≤ 3000 ∧ ∀ i : Nat, i < mq → cl4 (p + i) = 0) := (fun _ => by rw [hr1]; exact ⟨rfl, rfl, rfl, rfl, by omega, by by_cases z : Lvd od on o154; exact Or.inr (Classical.byContradiction (fun y => hk4 ((hK2.1 o154 h155).mpr ⟨z, y⟩))); exact Or.inl z, ct2, upd_eq, by omega, fun i h => hz4.1 i (by omega)⟩)
              have hz182 : ∀ o : Nat, o < 3000 → (Lvd (upd od2 on2 (nI o154)) (on2 + 1) o ↔ (Lvd od on o ∧ ¬ snk o = 0) ∨ (0 < (o154 + 1) ∧ o = (o154 + 1) - 1)) := (fun o ho => by rw [hr1]; exact ⟨fun z => ((hk3 o ho).mp z).elim (fun y => Or.inl ((hK2.1 o ho).mp y)) (fun y => Or.inr ⟨by omega, y⟩), fun z => (hk3 o ho).mpr (z.elim (fun y => Or.inl ((hK2.1 o ho).mpr y)) (fun y => Or.inr y.2))⟩)
              have hz183 : ∀ o : Nat, o < 3000 → Lvd od on o → ¬ snk o = 0 → ∀ i q p p1 : Nat, om o = nI q → oa o = nI p → (upd oa2 o154 (nI ct2)) o = nI p1 → i < q → q ≤ 3000 → p ≤ 3000 → p1 ≤ 3000 → cl4 (p1 + i) = cl (p + i) := (fun o ho h1 h2 i q p p1 e1 e2 e3 l1 l2 l3 l4 => by have lv := (hK2.1 o ho).mpr ⟨h1, h2⟩; have ne : o ≠ o154 := (fun z => hk4 (by rw [← z]; exact lv)); rw [show upd oa2 o154 (nI ct2) o = oa2 o from if_neg ne] at e3; have hb := HS.below hH2 lv ho e1 l2 e3 l4; rw [hz4.2 (p1 + i) (by omega)]; exact hK2.2 o ho lv i q p p1 e1 e2 e3 l1 l2 l3 l4)
              have hP : va_P G.1 pCl (mW G h0 a (upd (upd (upd (upd (upd (upd (upd (upd (upd (upd (upd (upd F 97 (nI (ct2 + mq))) 98 (nI (fl2 + (mq + 2)))) 99 (nI rmm)) 101 tds2) 102 (nI op)) 111 (nI tp)) 115 (nI wn)) 116 en) 121 x168) 122 x172) 128 (nI (on2 + 1))) 130 (nI (idn2 - 1))) (updA (updA (updA (updA (updA (updA (updA (updA (updA B 55 (upd oc o154 kk)) 56 (upd os o154 so)) 57 (upd om o154 (nI mq))) 58 (upd oa2 o154 (nI ct2))) 59 sn2) 60 cl4) 61 td2) 73 (upd od2 on2 (nI o154))) 74 id2)) _ := mW_to (F := F) (l1 := [(97, (nI (ct2 + mq))), (98, (nI fl2)), (99, (nI rmm)), (101, tds2), (102, (nI op)), (111, (nI tp)), (115, (nI wn)), (116, en), (128, (nI (on2 + 1))), (130, (nI (idn2 - 1))), (98, (nI (fl2 + (mq + 2)))), (121, x168), (122, x172)]) (l2 := [(97, (nI (ct2 + mq))), (98, (nI (fl2 + (mq + 2)))), (99, (nI rmm)), (101, tds2), (102, (nI op)), (111, (nI tp)), (115, (nI wn)), (116, en), (121, x168), (122, x172), (128, (nI (on2 + 1))), (130, (nI (idn2 - 1)))]) (V := [(nI (ct2 + mq)), (nI (fl2 + (mq + 2))), (nI rmm), tds2, (nI op), (nI tp), (nI wn), en, (nI (on2 + 1)), (nI (idn2 - 1)), (nI (fl2 + (mq + 2))), x168, x172, (nI (ct2 + mq)), (nI (fl2 + (mq + 2))), (nI rmm), tds2, (nI op), (nI tp), (nI wn), en, x168, x172, (nI (on2 + 1)), (nI (idn2 - 1))]) rfl rfl rfl hP
              have hD : va_D A (mW G h0 a (upd (upd (upd (upd (upd (upd (upd (upd (upd (upd (upd (upd F 97 (nI (ct2 + mq))) 98 (nI (fl2 + (mq + 2)))) 99 (nI rmm)) 101 tds2) 102 (nI op)) 111 (nI tp)) 115 (nI wn)) 116 en) 121 x168) 122 x172) 128 (nI (on2 + 1))) 130 (nI (idn2 - 1))) (updA (updA (updA (updA (updA (updA (updA (updA (updA B 55 (upd oc o154 kk)) 56 (upd os o154 so)) 57 (upd om o154 (nI mq))) 58 (upd oa2 o154 (nI ct2))) 59 sn2) 60 cl4) 61 td2) 73 (upd od2 on2 (nI o154))) 74 id2)) := mW_D hD
              exact W.iret (v := (nI (o154 + 1))) hx hb hr (fun t9 ht9 hW9 => ⟨⟨_, ((o154 + 1), (on2 + 1), (idn2 - 1), (fl2 + (mq + 2)), (ct2 + mq), en, tds2, x168, x172, (upd od2 on2 (nI o154)), id2, (upd oa2 o154 (nI ct2)), cl4, sn2, td2, (upd oc o154 kk), (upd os o154 so), (upd om o154 (nI mq)), snk), rfl, ⟨rfl, hz176, hz177, hz178, hz179, hz180, hz181, hz182, hz183⟩, by rw [ht9]; exact hP, hD⟩, hS.F ht9⟩) hS.2.2 dX12_make_212
            · have n184 : ¬ (mq ≤ iq4) := fun h9 => c162 ((nI_leI (a := mq) (b := iq4) (by omega) (by omega)).mpr h9)
              refine lv_aload_n hx hb dX12_make_148 rfl (lv_at hl 6 rfl) ?_
              refine r_get (v := .ref (a 60)) hx hb hown hq hE hP 96 193 tFX12_96 (by decide) pw_1492 rfl dX12_make_149 ?_
              refine lv_aload_n hx hb dX12_make_152 rfl (lv_at hl 6 rfl) ?_
              refine r_get (v := .int (nI (ct2 + iq4))) hx hb hown hq hE hP 97 722 tFX12_97 (by decide) pw_1977 rfl dX12_make_153 ?_
              refine lv_iconst (v := 0) hx hb dX12_make_156 (by decide) ?_
              refine r_sti (f := cl4) (j := (ct2 + iq4)) hx hb hE hP hD hS 60 (ma_60 G a _) rfl (mas_60 G a _) (by omega) (by decide) dX12_make_157 (fun H locs hP hD hS => ?_)
              refine lv_aload_n hx hb dX12_make_158 rfl (lv_at hl 6 rfl) ?_
              refine lv_dup hx hb dX12_make_159 rfl ?_
              refine r_get (v := .int (nI (ct2 + iq4))) hx hb hown hq hE hP 97 722 tFX12_97 (by decide) pw_1977 rfl dX12_make_160 ?_
              refine lv_iconst (v := 1) hx hb dX12_make_163 (by decide) ?_
              refine lv_iadd hx hb dX12_make_164 ?_
              refine lv_topi (fun x185 e186 => ?_)
              obtain rfl : x185 = nI ((ct2 + iq4) + 1) := e186.trans (nI_add ((ct2 + iq4)) (1))
              refine r_put (v := (nI ((ct2 + iq4) + 1))) (ty := .int) hx hb hown hq hE hP hD hS 97 722 tFX12_97 (by decide) pw_1977 (by decide) rfl rfl (ms_97 a _ _) dX12_make_165 (fun H locs hP hD hS => ?_)
              refine lv_iinc (v := (nI (iq4 + 1))) (lv' := [(7, .int (nI (iq4 + 1))), (6, .int (nI o154)), (4, .long (n64 (mq + 2))), (3, .int (nI mq)), (2, .int so), (1, .int kk), (0, .ref h0)]) hx hb dX12_make_168 hl (k := 0) rfl (nI_1 iq4) (by decide) rfl (fun ls hl => ?_)
              refine lv_goto (tgt := 142) hx hb dX12_make_171 (by decide) ?_
              have hP : va_P G.1 pCl (mW G h0 a (upd (upd (upd (upd (upd (upd (upd (upd (upd (upd F 97 (nI (ct2 + (iq4 + 1)))) 98 (nI fl2)) 99 (nI rmm)) 101 tds2) 102 (nI op)) 111 (nI tp)) 115 (nI wn)) 116 en) 128 (nI (on2 + 1))) 130 (nI (idn2 - 1))) (updA (updA (updA (updA (updA (updA (updA (updA (updA B 55 (upd oc o154 kk)) 56 (upd os o154 so)) 57 (upd om o154 (nI mq))) 58 (upd oa2 o154 (nI ct2))) 59 sn2) 60 (upd cl4 (ct2 + iq4) 0)) 61 td2) 73 (upd od2 on2 (nI o154))) 74 id2)) _ := mW_to (F := F) (l1 := [(97, (nI (ct2 + iq4))), (98, (nI fl2)), (99, (nI rmm)), (101, tds2), (102, (nI op)), (111, (nI tp)), (115, (nI wn)), (116, en), (128, (nI (on2 + 1))), (130, (nI (idn2 - 1))), (97, (nI ((ct2 + iq4) + 1)))]) (l2 := [(97, (nI (ct2 + (iq4 + 1)))), (98, (nI fl2)), (99, (nI rmm)), (101, tds2), (102, (nI op)), (111, (nI tp)), (115, (nI wn)), (116, en), (128, (nI (on2 + 1))), (130, (nI (idn2 - 1)))]) (V := [(nI (ct2 + (iq4 + 1))), (nI fl2), (nI rmm), tds2, (nI op), (nI tp), (nI wn), en, (nI (on2 + 1)), (nI (idn2 - 1)), (nI (ct2 + (iq4 + 1))), (nI (ct2 + (iq4 + 1))), (nI fl2), (nI rmm), tds2, (nI op), (nI tp), (nI wn), en, (nI (on2 + 1)), (nI (idn2 - 1))]) rfl rfl (show (updA (updA (updA (updA (updA (updA (updA (updA (updA (updA B 55 (upd oc o154 kk)) 56 (upd os o154 so)) 57 (upd om o154 (nI mq))) 58 (upd oa2 o154 (nI ct2))) 59 sn2) 60 cl4) 61 td2) 73 (upd od2 on2 (nI o154))) 74 id2) 60 (upd cl4 (ct2 + iq4) 0)) = (updA (updA (updA (updA (updA (updA (updA (updA (updA B 55 (upd oc o154 kk)) 56 (upd os o154 so)) 57 (upd om o154 (nI mq))) 58 (upd oa2 o154 (nI ct2))) 59 sn2) 60 (upd cl4 (ct2 + iq4) 0)) 61 td2) 73 (upd od2 on2 (nI o154))) 74 id2) from updsA_eq2 (F := B) (l1 := [(55, (upd oc o154 kk)), (56, (upd os o154 so)), (57, (upd om o154 (nI mq))), (58, (upd oa2 o154 (nI ct2))), (59, sn2), (60, cl4), (61, td2), (73, (upd od2 on2 (nI o154))), (74, id2), (60, (upd cl4 (ct2 + iq4) 0))]) (l2 := [(55, (upd oc o154 kk)), (56, (upd os o154 so)), (57, (upd om o154 (nI mq))), (58, (upd oa2 o154 (nI ct2))), (59, sn2), (60, (upd cl4 (ct2 + iq4) 0)), (61, td2), (73, (upd od2 on2 (nI o154))), (74, id2)]) (V := [(upd oc o154 kk), (upd os o154 so), (upd om o154 (nI mq)), (upd oa2 o154 (nI ct2)), sn2, (upd cl4 (ct2 + iq4) 0), td2, (upd od2 on2 (nI o154)), id2, (upd cl4 (ct2 + iq4) 0), (upd oc o154 kk), (upd os o154 so), (upd om o154 (nI mq)), (upd oa2 o154 (nI ct2)), sn2, (upd cl4 (ct2 + iq4) 0), td2, (upd od2 on2 (nI o154)), id2]) rfl rfl) hP
              have hD : va_D A (mW G h0 a (upd (upd (upd (upd (upd (upd (upd (upd (upd (upd F 97 (nI (ct2 + (iq4 + 1)))) 98 (nI fl2)) 99 (nI rmm)) 101 tds2) 102 (nI op)) 111 (nI tp)) 115 (nI wn)) 116 en) 128 (nI (on2 + 1))) 130 (nI (idn2 - 1))) (updA (updA (updA (updA (updA (updA (updA (updA (updA B 55 (upd oc o154 kk)) 56 (upd os o154 so)) 57 (upd om o154 (nI mq))) 58 (upd oa2 o154 (nI ct2))) 59 sn2) 60 (upd cl4 (ct2 + iq4) 0)) 61 td2) 73 (upd od2 on2 (nI o154))) 74 id2)) := mW_D hD
              exact ih_z (iq4 + 1) (upd cl4 (ct2 + iq4) 0) _ _ _ (by omega) (by omega) (Zrd.succ hz4) hP hD hS (lv_sub hl [0, 1, 2, 3, 4, 5, 6] rfl)
        have hP : va_P G.1 pCl (mW G h0 a (upd (upd (upd (upd (upd (upd (upd (upd (upd (upd F 97 (nI (ct2 + 0))) 98 (nI fl2)) 99 (nI rmm)) 101 tds2) 102 (nI op)) 111 (nI tp)) 115 (nI wn)) 116 en) 128 (nI (on2 + 1))) 130 (nI (idn2 - 1))) (updA (updA (updA (updA (updA (updA (updA (updA (updA B 55 (upd oc o154 kk)) 56 (upd os o154 so)) 57 (upd om o154 (nI mq))) 58 (upd oa2 o154 (nI ct2))) 59 sn2) 60 cl2) 61 td2) 73 (upd od2 on2 (nI o154))) 74 id2)) _ := mW_to (F := F) (l1 := [(97, (nI ct2)), (98, (nI fl2)), (99, (nI rmm)), (101, tds2), (102, (nI op)), (111, (nI tp)), (115, (nI wn)), (116, en), (128, (nI on2)), (130, (nI idn2)), (130, (nI (idn2 - 1))), (128, (nI (on2 + 1)))]) (l2 := [(97, (nI (ct2 + 0))), (98, (nI fl2)), (99, (nI rmm)), (101, tds2), (102, (nI op)), (111, (nI tp)), (115, (nI wn)), (116, en), (128, (nI (on2 + 1))), (130, (nI (idn2 - 1)))]) (V := [(nI (ct2 + 0)), (nI fl2), (nI rmm), tds2, (nI op), (nI tp), (nI wn), en, (nI (on2 + 1)), (nI (idn2 - 1)), (nI (idn2 - 1)), (nI (on2 + 1)), (nI (ct2 + 0)), (nI fl2), (nI rmm), tds2, (nI op), (nI tp), (nI wn), en, (nI (on2 + 1)), (nI (idn2 - 1))]) rfl rfl (show (updA (updA (updA (updA (updA (updA (updA (updA (updA (updA (updA (updA (updA (updA B 55 oc) 56 os) 57 om) 58 oa2) 59 sn2) 60 cl2) 61 td2) 73 od2) 74 id2) 73 (upd od2 on2 (nI o154))) 55 (upd oc o154 kk)) 56 (upd os o154 so)) 57 (upd om o154 (nI mq))) 58 (upd oa2 o154 (nI ct2))) = (updA (updA (updA (updA (updA (updA (updA (updA (updA B 55 (upd oc o154 kk)) 56 (upd os o154 so)) 57 (upd om o154 (nI mq))) 58 (upd oa2 o154 (nI ct2))) 59 sn2) 60 cl2) 61 td2) 73 (upd od2 on2 (nI o154))) 74 id2) from updsA_eq2 (F := B) (l1 := [(55, oc), (56, os), (57, om), (58, oa2), (59, sn2), (60, cl2), (61, td2), (73, od2), (74, id2), (73, (upd od2 on2 (nI o154))), (55, (upd oc o154 kk)), (56, (upd os o154 so)), (57, (upd om o154 (nI mq))), (58, (upd oa2 o154 (nI ct2)))]) (l2 := [(55, (upd oc o154 kk)), (56, (upd os o154 so)), (57, (upd om o154 (nI mq))), (58, (upd oa2 o154 (nI ct2))), (59, sn2), (60, cl2), (61, td2), (73, (upd od2 on2 (nI o154))), (74, id2)]) (V := [(upd oc o154 kk), (upd os o154 so), (upd om o154 (nI mq)), (upd oa2 o154 (nI ct2)), sn2, cl2, td2, (upd od2 on2 (nI o154)), id2, (upd od2 on2 (nI o154)), (upd oc o154 kk), (upd os o154 so), (upd om o154 (nI mq)), (upd oa2 o154 (nI ct2)), (upd oc o154 kk), (upd os o154 so), (upd om o154 (nI mq)), (upd oa2 o154 (nI ct2)), sn2, cl2, td2, (upd od2 on2 (nI o154)), id2]) rfl rfl) hP
        have hD : va_D A (mW G h0 a (upd (upd (upd (upd (upd (upd (upd (upd (upd (upd F 97 (nI (ct2 + 0))) 98 (nI fl2)) 99 (nI rmm)) 101 tds2) 102 (nI op)) 111 (nI tp)) 115 (nI wn)) 116 en) 128 (nI (on2 + 1))) 130 (nI (idn2 - 1))) (updA (updA (updA (updA (updA (updA (updA (updA (updA B 55 (upd oc o154 kk)) 56 (upd os o154 so)) 57 (upd om o154 (nI mq))) 58 (upd oa2 o154 (nI ct2))) 59 sn2) 60 cl2) 61 td2) 73 (upd od2 on2 (nI o154))) 74 id2)) := mW_D hD
        exact loop_z (mq + 1) 0 cl2 _ _ _ (by omega) (by omega) Zrd.zero hP hD hS (lv_sub hl [0, 1, 2, 3, 4, 5, 6] rfl)
      · refine lv_topi (fun x187 e188 => ?_)
        obtain rfl : x187 = 0 := e188.trans (n64_same (by omega) (by omega) h148)
        refine lv_if_le (tgt := 62) hx hb dX12_make_52 (by decide) (fun c189 => ?_) (fun c189 => absurd c189 (by decide))
        refine lv_aload_n hx hb dX12_make_62 rfl (lv_at hl 4 rfl) ?_
        refine lv_dup hx hb dX12_make_63 rfl ?_
        refine r_get (v := .int (nI idn2)) hx hb hown hq hE hP 130 725 tFX12_130 (by decide) pw_1978 rfl dX12_make_64 ?_
        refine lv_iconst (v := 1) hx hb dX12_make_67 (by decide) ?_
        refine lv_isub hx hb dX12_make_68 ?_
        refine lv_topi (fun x190 e191 => ?_)
        obtain rfl : x190 = nI (idn2 - 1) := e191.trans (nI_subN (a := 1) (b := idn2) (by omega))
        refine r_put (v := (nI (idn2 - 1))) (ty := .int) hx hb hown hq hE hP hD hS 130 725 tFX12_130 (by decide) pw_1978 (by decide) rfl rfl (ms_130 a _ _) dX12_make_69 (fun H locs hP hD hS => ?_)
        refine lv_aload_n hx hb dX12_make_72 rfl (lv_at hl 4 rfl) ?_
        refine r_get (v := .ref (a 74)) hx hb hown hq hE hP 129 240 tFX12_129 (by decide) pw_1508 rfl dX12_make_73 ?_
        refine lv_aload_n hx hb dX12_make_76 rfl (lv_at hl 4 rfl) ?_
        refine r_get (v := .int (nI (idn2 - 1))) hx hb hown hq hE hP 130 725 tFX12_130 (by decide) pw_1978 rfl dX12_make_77 ?_
        refine r_ldi (f := id2) (j := (idn2 - 1)) hx hb hE hP 74 (ma_74 G a _) rfl (by omega) (by decide) dX12_make_80 ?_
        obtain ⟨o192, h193, e194, h195⟩ := hH2.2.2.1 (idn2 - 1) (by omega)
        refine lv_topi (fun x196 e197 => ?_)
        obtain rfl : x196 = nI o192 := e197.trans e194
        refine lv_istore (lv' := [(6, .int (nI o192)), (4, .long (n64 (mq + 2))), (3, .int (nI mq)), (2, .int so), (1, .int kk), (0, .ref h0)]) hx hb dX12_make_81 hl (by decide) rfl (fun ls hl => ?_)
        refine lv_aload_n hx hb dX12_make_83 rfl (lv_at hl 5 rfl) ?_
        refine r_get (v := .ref (a 73)) hx hb hown hq hE hP 127 237 tFX12_127 (by decide) pw_1507 rfl dX12_make_84 ?_
        refine lv_aload_n hx hb dX12_make_87 rfl (lv_at hl 5 rfl) ?_
        refine r_get (v := .int (nI on2)) hx hb hown hq hE hP 128 704 tFX12_128 (by decide) pw_1968 rfl dX12_make_88 ?_
        refine lv_iload hx hb dX12_make_91 (lv_at hl 0 rfl) ?_
        refine r_sti (f := od2) (j := on2) hx hb hE hP hD hS 73 (ma_73 G a _) rfl (mas_73 G a _) (by omega) (by decide) dX12_make_93 (fun H locs hP hD hS => ?_)
        refine lv_aload_n hx hb dX12_make_94 rfl (lv_at hl 5 rfl) ?_
        refine lv_dup hx hb dX12_make_95 rfl ?_
        refine r_get (v := .int (nI on2)) hx hb hown hq hE hP 128 704 tFX12_128 (by decide) pw_1968 rfl dX12_make_96 ?_
        refine lv_iconst (v := 1) hx hb dX12_make_99 (by decide) ?_
        refine lv_iadd hx hb dX12_make_100 ?_
        refine lv_topi (fun x198 e199 => ?_)
        obtain rfl : x198 = nI (on2 + 1) := e199.trans (nI_add (on2) (1))
        refine r_put (v := (nI (on2 + 1))) (ty := .int) hx hb hown hq hE hP hD hS 128 704 tFX12_128 (by decide) pw_1968 (by decide) rfl rfl (ms_128 a _ _) dX12_make_101 (fun H locs hP hD hS => ?_)
        refine lv_aload_n hx hb dX12_make_104 rfl (lv_at hl 5 rfl) ?_
        refine r_get (v := .ref (a 55)) hx hb hown hq hE hP 91 178 tFX12_91 (by decide) pw_1487 rfl dX12_make_105 ?_
        refine lv_iload hx hb dX12_make_108 (lv_at hl 0 rfl) ?_
        refine lv_iload_n hx hb dX12_make_110 rfl (lv_at hl 4 rfl) ?_
        refine r_sti (f := oc) (j := o192) hx hb hE hP hD hS 55 (ma_55 G a _) rfl (mas_55 G a _) (by omega) (by decide) dX12_make_111 (fun H locs hP hD hS => ?_)
        refine lv_aload_n hx hb dX12_make_112 rfl (lv_at hl 5 rfl) ?_
        refine r_get (v := .ref (a 56)) hx hb hown hq hE hP 92 181 tFX12_92 (by decide) pw_1488 rfl dX12_make_113 ?_
        refine lv_iload hx hb dX12_make_116 (lv_at hl 0 rfl) ?_
        refine lv_iload_n hx hb dX12_make_118 rfl (lv_at hl 3 rfl) ?_
        refine r_sti (f := os) (j := o192) hx hb hE hP hD hS 56 (ma_56 G a _) rfl (mas_56 G a _) (by omega) (by decide) dX12_make_119 (fun H locs hP hD hS => ?_)
        refine lv_aload_n hx hb dX12_make_120 rfl (lv_at hl 5 rfl) ?_
        refine r_get (v := .ref (a 57)) hx hb hown hq hE hP 93 184 tFX12_93 (by decide) pw_1489 rfl dX12_make_121 ?_
        refine lv_iload hx hb dX12_make_124 (lv_at hl 0 rfl) ?_
        refine lv_iload_n hx hb dX12_make_126 rfl (lv_at hl 2 rfl) ?_
        refine r_sti (f := om) (j := o192) hx hb hE hP hD hS 57 (ma_57 G a _) rfl (mas_57 G a _) (by omega) (by decide) dX12_make_127 (fun H locs hP hD hS => ?_)
        refine lv_aload_n hx hb dX12_make_128 rfl (lv_at hl 5 rfl) ?_
        refine r_get (v := .ref (a 58)) hx hb hown hq hE hP 94 187 tFX12_94 (by decide) pw_1490 rfl dX12_make_129 ?_
        refine lv_iload hx hb dX12_make_132 (lv_at hl 0 rfl) ?_
        refine lv_aload_n hx hb dX12_make_134 rfl (lv_at hl 5 rfl) ?_
        refine r_get (v := .int (nI ct2)) hx hb hown hq hE hP 97 722 tFX12_97 (by decide) pw_1977 rfl dX12_make_135 ?_
        refine r_sti (f := oa2) (j := o192) hx hb hE hP hD hS 58 (ma_58 G a _) rfl (mas_58 G a _) (by omega) (by decide) dX12_make_138 (fun H locs hP hD hS => ?_)
        refine lv_iconst (v := 0) hx hb dX12_make_139 (by decide) ?_
        refine lv_istore (lv' := [(7, .int 0), (6, .int (nI o192)), (4, .long (n64 (mq + 2))), (3, .int (nI mq)), (2, .int so), (1, .int kk), (0, .ref h0)]) hx hb dX12_make_140 hl (by decide) rfl (fun ls hl => ?_)
        have loop_z : ∀ (n_z : Nat) (iq4 : Nat) (cl4 : Nat → Int32) (H : Heap) (locs : List Loc) (ls : Array Slot), iq4 ≤ mq → mq + 1 ≤ iq4 + n_z → (Zrd cl2 cl4 ct2 iq4) → va_P G.1 pCl (mW G h0 a (upd (upd (upd (upd (upd (upd (upd (upd (upd (upd F 97 (nI (ct2 + iq4))) 98 (nI fl2)) 99 (nI rmm)) 101 tds2) 102 (nI op)) 111 (nI tp)) 115 (nI wn)) 116 en) 128 (nI (on2 + 1))) 130 (nI (idn2 - 1))) (updA (updA (updA (updA (updA (updA (updA (updA (updA B 55 (upd oc o192 kk)) 56 (upd os o192 so)) 57 (upd om o192 (nI mq))) 58 (upd oa2 o192 (nI ct2))) 59 sn2) 60 cl4) 61 td2) 73 (upd od2 on2 (nI o192))) 74 id2)) H → va_D A (mW G h0 a (upd (upd (upd (upd (upd (upd (upd (upd (upd (upd F 97 (nI (ct2 + iq4))) 98 (nI fl2)) 99 (nI rmm)) 101 tds2) 102 (nI op)) 111 (nI tp)) 115 (nI wn)) 116 en) 128 (nI (on2 + 1))) 130 (nI (idn2 - 1))) (updA (updA (updA (updA (updA (updA (updA (updA (updA B 55 (upd oc o192 kk)) 56 (upd os o192 so)) 57 (upd om o192 (nI mq))) 58 (upd oa2 o192 (nI ct2))) 59 sn2) 60 cl4) 61 td2) 73 (upd od2 on2 (nI o192))) 74 id2)) → va_S A s.heap H locs → lv_has ls 8 [(7, .int (nI iq4)), (6, .int (nI o192)), (4, .long (n64 (mq + 2))), (3, .int (nI mq)), (2, .int so), (1, .int kk), (0, .ref h0)] → W p l e (headSpec (Cond.code yX12_make cX12_make 8 (some .int) :: pw) ({ frames := 5, cells := 0, slots := 0, locals := 128 } : Room)).room s m ([.ref h0, .int kk, .int so, .int (nI mq)] : List Value).toArray below meth c H locs 0 0 (MQ below (pQ G A (fun (v : Option Value) (u : Nat × Nat × Nat × Nat × Nat × Int32 × Int32 × Int32 × Int32 × (Nat → Int32) × (Nat → Int32) × (Nat → Int32) × (Nat → Int32) × (Nat → Int32) × (Nat → Int32) × (Nat → Int32) × (Nat → Int32) × (Nat → Int32) × (Nat → Int32)) => v = some (.int (nI u.1)) ∧ (HS u.2.2.2.2.2.2.2.2.2.2.2.2.2.2.2.2.2.1 u.2.2.2.2.2.2.2.2.2.2.2.2.2.2.2.1 u.2.2.2.2.2.2.2.2.2.1 u.2.2.2.2.2.2.2.2.2.2.1 u.2.2.2.2.2.2.2.2.2.2.2.1 u.2.1 u.2.2.1 u.2.2.2.1 rmm) ∧ (u.2.2.2.2.1 = smF u.2.2.2.2.2.2.2.2.2.2.2.2.2.2.2.2.2.1 u.2.2.2.2.2.2.2.2.2.1 u.2.1) ∧ (((∀ c : Nat, c < op → RfS u.2.2.2.2.2.2.2.2.2.2.2.2.2.2.2.2.2.2 (B 62 c)) ∧ (∀ c s v : Nat, c < op → B 63 c = nI s → s ≤ 30 → v < s → ¬ B 67 (32 * c + v) = 0 → RfS u.2.2.2.2.2.2.2.2.2.2.2.2.2.2.2.2.2.2 (B 66 (32 * c + v))) ∧ (∀ k : Nat, k < tp → ¬ B 69 k = 0 → RfS u.2.2.2.2.2.2.2.2.2.2.2.2.2.2.2.2.2.2 (B 68 k)) ∧ (∀ k : Nat, k < wn → ¬ B 72 k = 0 → RfS u.2.2.2.2.2.2.2.2.2.2.2.2.2.2.2.2.2.2 (B 71 k)) ∧ (∀ o : Nat, o < 3000 → Lvd od on o → ¬ u.2.2.2.2.2.2.2.2.2.2.2.2.2.2.2.2.2.2 o = 0 → ∀ v : Int32, (Chd oc os om oa cl (B 75) (B 76) (B 77)) o v → RfS u.2.2.2.2.2.2.2.2.2.2.2.2.2.2.2.2.2.2 v))) ∧ (u.1 ≤ 3000) ∧ (If (u.1 = 0) (u.2.2.2.2.2.1 = 3 ∧ u.2.2.2.2.2.2.2.2.2.2.2.2.2.2.2.1 = oc ∧ u.2.2.2.2.2.2.2.2.2.2.2.2.2.2.2.2.1 = os ∧ u.2.2.2.2.2.2.2.2.2.2.2.2.2.2.2.2.2.1 = om)) ∧ (If (0 < u.1) (u.2.2.2.2.2.1 = en ∧ u.2.2.2.2.2.2.2.2.2.2.2.2.2.2.2.1 = upd oc (u.1 - 1) kk ∧ u.2.2.2.2.2.2.2.2.2.2.2.2.2.2.2.2.1 = upd os (u.1 - 1) so ∧ u.2.2.2.2.2.2.2.2.2.2.2.2.2.2.2.2.2.1 = upd om (u.1 - 1) (nI mq) ∧ mq ≤ 3000 ∧ (¬ Lvd od on (u.1 - 1) ∨ u.2.2.2.2.2.2.2.2.2.2.2.2.2.2.2.2.2.2 (u.1 - 1) = 0) ∧ ∃ p : Nat, u.2.2.2.2.2.2.2.2.2.2.2.1 (u.1 - 1) = nI p ∧ p + mq ≤ 3000 ∧ ∀ i : Nat, i < mq → u.2.2.2.2.2.2.2.2.2.2.2.2.1 (p + i) = 0)) ∧ (∀ o : Nat, o < 3000 → (Lvd u.2.2.2.2.2.2.2.2.2.1 u.2.1 o ↔ (Lvd od on o ∧ ¬ u.2.2.2.2.2.2.2.2.2.2.2.2.2.2.2.2.2.2 o = 0) ∨ (0 < u.1 ∧ o = u.1 - 1))) ∧ (∀ o : Nat, o < 3000 → Lvd od on o → ¬ u.2.2.2.2.2.2.2.2.2.2.2.2.2.2.2.2.2.2 o = 0 → ∀ i q p p1 : Nat, om o = nI q → oa o = nI p → u.2.2.2.2.2.2.2.2.2.2.2.1 o = nI p1 → i < q → q ≤ 3000 → p ≤ 3000 → p1 ≤ 3000 → u.2.2.2.2.2.2.2.2.2.2.2.2.1 (p1 + i) = cl (p + i))) (fun u => (mW G h0 a (upd (upd (upd (upd (upd (upd (upd (upd (upd (upd (upd (upd F 97 (nI u.2.2.2.2.1)) 98 (nI u.2.2.2.1)) 99 (nI rmm)) 101 u.2.2.2.2.2.2.1) 102 (nI op)) 111 (nI tp)) 115 (nI wn)) 116 u.2.2.2.2.2.1) 121 u.2.2.2.2.2.2.2.1) 122 u.2.2.2.2.2.2.2.2.1) 128 (nI u.2.1)) 130 (nI u.2.2.1)) (updA (updA (updA (updA (updA (updA (updA (updA (updA B 55 u.2.2.2.2.2.2.2.2.2.2.2.2.2.2.2.1) 56 u.2.2.2.2.2.2.2.2.2.2.2.2.2.2.2.2.1) 57 u.2.2.2.2.2.2.2.2.2.2.2.2.2.2.2.2.2.1) 58 u.2.2.2.2.2.2.2.2.2.2.2.1) 59 u.2.2.2.2.2.2.2.2.2.2.2.2.2.1) 60 u.2.2.2.2.2.2.2.2.2.2.2.2.1) 61 u.2.2.2.2.2.2.2.2.2.2.2.2.2.2.1) 73 u.2.2.2.2.2.2.2.2.2.1) 74 u.2.2.2.2.2.2.2.2.2.2.1)))) ([.ref h0, .int kk, .int so, .int (nI mq)] : List Value).toArray s ({ frames := 5, cells := 0, slots := 0, locals := 128 } : Room).cells ({ frames := 5, cells := 0, slots := 0, locals := 128 } : Room).slots A) (F0 m 142 ls []) := by
          intro n_z
          induction n_z with
          | zero => intro iq4 cl4 H locs ls hk_z hn_z; omega
          | succ n_z ih_z =>
            intro iq4 cl4 H locs ls hk_z hn_z hz4 hP hD hS hl
            refine lv_iload hx hb dX12_make_142 (lv_at hl 0 rfl) ?_
            refine lv_iload_n hx hb dX12_make_144 rfl (lv_at hl 3 rfl) ?_
            refine lv_icmp_ge (tgt := 174) hx hb dX12_make_145 (by decide) (fun c200 => ?_) (fun c200 => ?_)
            · have n201 : mq ≤ iq4 := (nI_leI (a := mq) (b := iq4) (by omega) (by omega)).mp c200
              obtain rfl : mq = iq4 := (by omega)
              have hP : va_P G.1 pCl (mW G h0 a (upd (upd (upd (upd (upd (upd (upd (upd (upd (upd F 97 (nI (ct2 + mq))) 98 (nI fl2)) 99 (nI rmm)) 101 tds2) 102 (nI op)) 111 (nI tp)) 115 (nI wn)) 116 en) 128 (nI (on2 + 1))) 130 (nI (idn2 - 1))) (updA (updA (updA (updA (updA (updA (updA (updA (updA B 55 (upd oc o192 kk)) 56 (upd os o192 so)) 57 (upd om o192 (nI mq))) 58 (upd oa2 o192 (nI ct2))) 59 sn2) 60 cl4) 61 td2) 73 (upd od2 on2 (nI o192))) 74 id2)) _ := hP
              have hD : va_D A (mW G h0 a (upd (upd (upd (upd (upd (upd (upd (upd (upd (upd F 97 (nI (ct2 + mq))) 98 (nI fl2)) 99 (nI rmm)) 101 tds2) 102 (nI op)) 111 (nI tp)) 115 (nI wn)) 116 en) 128 (nI (on2 + 1))) 130 (nI (idn2 - 1))) (updA (updA (updA (updA (updA (updA (updA (updA (updA B 55 (upd oc o192 kk)) 56 (upd os o192 so)) 57 (upd om o192 (nI mq))) 58 (upd oa2 o192 (nI ct2))) 59 sn2) 60 cl4) 61 td2) 73 (upd od2 on2 (nI o192))) 74 id2)) := mW_D hD
              have hl : lv_has ls 8 [(7, .int (nI mq)), (6, .int (nI o192)), (4, .long (n64 (mq + 2))), (3, .int (nI mq)), (2, .int so), (1, .int kk), (0, .ref h0)] := hl
              refine lv_aload_n hx hb dX12_make_174 rfl (lv_at hl 6 rfl) ?_
              refine lv_dup hx hb dX12_make_175 rfl ?_
              refine r_get (v := .int (nI fl2)) hx hb hown hq hE hP 98 719 tFX12_98 (by decide) pw_1976 rfl dX12_make_176 ?_
              refine lv_lload hx hb dX12_make_179 (lv_at hl 2 rfl) ?_
              refine lv_l2i hx hb dX12_make_181 rfl ?_
              refine lv_topi (fun x202 e203 => ?_)
              obtain rfl : x202 = nI (mq + 2) := e203.trans (n64_l2i (by omega))
              refine lv_iadd hx hb dX12_make_182 ?_
              refine lv_topi (fun x204 e205 => ?_)
              obtain rfl : x204 = nI (fl2 + (mq + 2)) := e205.trans (nI_add (fl2) ((mq + 2)))
              refine r_put (v := (nI (fl2 + (mq + 2)))) (ty := .int) hx hb hown hq hE hP hD hS 98 719 tFX12_98 (by decide) pw_1976 (by decide) rfl rfl (ms_98 a _ _) dX12_make_183 (fun H locs hP hD hS => ?_)
              refine lv_aload_n hx hb dX12_make_186 rfl (lv_at hl 6 rfl) ?_
              refine lv_dup hx hb dX12_make_187 rfl ?_
              refine r_get (v := .int (F 121)) hx hb hown hq hE hP 121 739 tFX12_121 (by decide) pw_1988 rfl dX12_make_188 ?_
              refine lv_iconst (v := 1) hx hb dX12_make_191 (by decide) ?_
              refine lv_iadd hx hb dX12_make_192 ?_
              refine lv_topi (fun x206 e207 => ?_)
              refine r_put (v := x206) (ty := .int) hx hb hown hq hE hP hD hS 121 739 tFX12_121 (by decide) pw_1988 (by decide) rfl rfl (ms_121 a _ _) dX12_make_193 (fun H locs hP hD hS => ?_)
              refine lv_aload_n hx hb dX12_make_196 rfl (lv_at hl 6 rfl) ?_
              refine lv_dup hx hb dX12_make_197 rfl ?_
              refine r_get (v := .int (F 122)) hx hb hown hq hE hP 122 742 tFX12_122 (by decide) pw_1989 rfl dX12_make_198 ?_
              refine lv_lload hx hb dX12_make_201 (lv_at hl 2 rfl) ?_
              refine lv_l2i hx hb dX12_make_203 rfl ?_
              refine lv_topi (fun x208 e209 => ?_)
              obtain rfl : x208 = nI (mq + 2) := e209.trans (n64_l2i (by omega))
              refine lv_iadd hx hb dX12_make_204 ?_
              refine lv_topi (fun x210 e211 => ?_)
              refine r_put (v := x210) (ty := .int) hx hb hown hq hE hP hD hS 122 742 tFX12_122 (by decide) pw_1989 (by decide) rfl rfl (ms_122 a _ _) dX12_make_205 (fun H locs hP hD hS => ?_)
              refine lv_iload hx hb dX12_make_208 (lv_at hl 1 rfl) ?_
              refine lv_iconst (v := 1) hx hb dX12_make_210 (by decide) ?_
              refine lv_iadd hx hb dX12_make_211 ?_
              refine lv_topi (fun x212 e213 => ?_)
              obtain rfl : x212 = nI (o192 + 1) := e213.trans (nI_add (o192) (1))
              have hmk := HS.make (k := kk) (q := mq) (by rw [show idn2 - 1 + 1 = idn2 by omega]; exact hH2) e194 h193 (by omega) (by rw [(if_pos c3)]; omega)
              rw [(if_pos c3), ← hct2] at hmk
              obtain ⟨hk1, hk2, hk3, hk4⟩ := hmk
              have hr1 : o192 + 1 - 1 = o192 := by omega
              have hz214 : HS (upd om o192 (nI mq)) (upd oc o192 kk) (upd od2 on2 (nI o192)) id2 (upd oa2 o192 (nI ct2)) (on2 + 1) (idn2 - 1) (fl2 + (mq + 2)) rmm := hk1
              have hz215 : (ct2 + mq) = smF (upd om o192 (nI mq)) (upd od2 on2 (nI o192)) (on2 + 1) := hk2.symm
              have hz216 : ((∀ c : Nat, c < op → RfS snk (B 62 c)) ∧ (∀ c s v : Nat, c < op → B 63 c = nI s → s ≤ 30 → v < s → ¬ B 67 (32 * c + v) = 0 → RfS snk (B 66 (32 * c + v))) ∧ (∀ k : Nat, k < tp → ¬ B 69 k = 0 → RfS snk (B 68 k)) ∧ (∀ k : Nat, k < wn → ¬ B 72 k = 0 → RfS snk (B 71 k)) ∧ (∀ o : Nat, o < 3000 → Lvd od on o → ¬ snk o = 0 → ∀ v : Int32, (Chd oc os om oa cl (B 75) (B 76) (B 77)) o v → RfS snk v)) := hR2
              have hz217 : (o192 + 1) ≤ 3000 := (by omega)
              have hz218 : If ((o192 + 1) = 0) (en = 3 ∧ (upd oc o192 kk) = oc ∧ (upd os o192 so) = os ∧ (upd om o192 (nI mq)) = om) := (fun e => absurd e (by omega))
              have hz219 : If (0 < (o192 + 1)) (en = en ∧ (upd oc o192 kk) = upd oc ((o192 + 1) - 1) kk ∧ (upd os o192 so) = upd os ((o192 + 1) - 1) so ∧ (upd om o192 (nI mq)) = upd om ((o192 + 1) - 1) (nI mq) ∧ mq ≤ 3000 ∧ (¬ Lvd od on ((o192 + 1) - 1) ∨ snk ((o192 + 1) - 1) = 0) ∧ ∃ p : Nat, (upd oa2 o192 (nI ct2)) ((o192 + 1) - 1) = nI p ∧ p + mq ≤ 3000 ∧ ∀ i : Nat, i < mq → cl4 (p + i) = 0) := (fun _ => by rw [hr1]; exact ⟨rfl, rfl, rfl, rfl, by omega, by by_cases z : Lvd od on o192; exact Or.inr (Classical.byContradiction (fun y => hk4 ((hK2.1 o192 h193).mpr ⟨z, y⟩))); exact Or.inl z, ct2, upd_eq, by omega, fun i h => hz4.1 i (by omega)⟩)
              have hz220 : ∀ o : Nat, o < 3000 → (Lvd (upd od2 on2 (nI o192)) (on2 + 1) o ↔ (Lvd od on o ∧ ¬ snk o = 0) ∨ (0 < (o192 + 1) ∧ o = (o192 + 1) - 1)) := (fun o ho => by rw [hr1]; exact ⟨fun z => ((hk3 o ho).mp z).elim (fun y => Or.inl ((hK2.1 o ho).mp y)) (fun y => Or.inr ⟨by omega, y⟩), fun z => (hk3 o ho).mpr (z.elim (fun y => Or.inl ((hK2.1 o ho).mpr y)) (fun y => Or.inr y.2))⟩)
              have hz221 : ∀ o : Nat, o < 3000 → Lvd od on o → ¬ snk o = 0 → ∀ i q p p1 : Nat, om o = nI q → oa o = nI p → (upd oa2 o192 (nI ct2)) o = nI p1 → i < q → q ≤ 3000 → p ≤ 3000 → p1 ≤ 3000 → cl4 (p1 + i) = cl (p + i) := (fun o ho h1 h2 i q p p1 e1 e2 e3 l1 l2 l3 l4 => by have lv := (hK2.1 o ho).mpr ⟨h1, h2⟩; have ne : o ≠ o192 := (fun z => hk4 (by rw [← z]; exact lv)); rw [show upd oa2 o192 (nI ct2) o = oa2 o from if_neg ne] at e3; have hb := HS.below hH2 lv ho e1 l2 e3 l4; rw [hz4.2 (p1 + i) (by omega)]; exact hK2.2 o ho lv i q p p1 e1 e2 e3 l1 l2 l3 l4)
              have hP : va_P G.1 pCl (mW G h0 a (upd (upd (upd (upd (upd (upd (upd (upd (upd (upd (upd (upd F 97 (nI (ct2 + mq))) 98 (nI (fl2 + (mq + 2)))) 99 (nI rmm)) 101 tds2) 102 (nI op)) 111 (nI tp)) 115 (nI wn)) 116 en) 121 x206) 122 x210) 128 (nI (on2 + 1))) 130 (nI (idn2 - 1))) (updA (updA (updA (updA (updA (updA (updA (updA (updA B 55 (upd oc o192 kk)) 56 (upd os o192 so)) 57 (upd om o192 (nI mq))) 58 (upd oa2 o192 (nI ct2))) 59 sn2) 60 cl4) 61 td2) 73 (upd od2 on2 (nI o192))) 74 id2)) _ := mW_to (F := F) (l1 := [(97, (nI (ct2 + mq))), (98, (nI fl2)), (99, (nI rmm)), (101, tds2), (102, (nI op)), (111, (nI tp)), (115, (nI wn)), (116, en), (128, (nI (on2 + 1))), (130, (nI (idn2 - 1))), (98, (nI (fl2 + (mq + 2)))), (121, x206), (122, x210)]) (l2 := [(97, (nI (ct2 + mq))), (98, (nI (fl2 + (mq + 2)))), (99, (nI rmm)), (101, tds2), (102, (nI op)), (111, (nI tp)), (115, (nI wn)), (116, en), (121, x206), (122, x210), (128, (nI (on2 + 1))), (130, (nI (idn2 - 1)))]) (V := [(nI (ct2 + mq)), (nI (fl2 + (mq + 2))), (nI rmm), tds2, (nI op), (nI tp), (nI wn), en, (nI (on2 + 1)), (nI (idn2 - 1)), (nI (fl2 + (mq + 2))), x206, x210, (nI (ct2 + mq)), (nI (fl2 + (mq + 2))), (nI rmm), tds2, (nI op), (nI tp), (nI wn), en, x206, x210, (nI (on2 + 1)), (nI (idn2 - 1))]) rfl rfl rfl hP
              have hD : va_D A (mW G h0 a (upd (upd (upd (upd (upd (upd (upd (upd (upd (upd (upd (upd F 97 (nI (ct2 + mq))) 98 (nI (fl2 + (mq + 2)))) 99 (nI rmm)) 101 tds2) 102 (nI op)) 111 (nI tp)) 115 (nI wn)) 116 en) 121 x206) 122 x210) 128 (nI (on2 + 1))) 130 (nI (idn2 - 1))) (updA (updA (updA (updA (updA (updA (updA (updA (updA B 55 (upd oc o192 kk)) 56 (upd os o192 so)) 57 (upd om o192 (nI mq))) 58 (upd oa2 o192 (nI ct2))) 59 sn2) 60 cl4) 61 td2) 73 (upd od2 on2 (nI o192))) 74 id2)) := mW_D hD
              exact W.iret (v := (nI (o192 + 1))) hx hb hr (fun t9 ht9 hW9 => ⟨⟨_, ((o192 + 1), (on2 + 1), (idn2 - 1), (fl2 + (mq + 2)), (ct2 + mq), en, tds2, x206, x210, (upd od2 on2 (nI o192)), id2, (upd oa2 o192 (nI ct2)), cl4, sn2, td2, (upd oc o192 kk), (upd os o192 so), (upd om o192 (nI mq)), snk), rfl, ⟨rfl, hz214, hz215, hz216, hz217, hz218, hz219, hz220, hz221⟩, by rw [ht9]; exact hP, hD⟩, hS.F ht9⟩) hS.2.2 dX12_make_212
            · have n222 : ¬ (mq ≤ iq4) := fun h9 => c200 ((nI_leI (a := mq) (b := iq4) (by omega) (by omega)).mpr h9)
              refine lv_aload_n hx hb dX12_make_148 rfl (lv_at hl 6 rfl) ?_
              refine r_get (v := .ref (a 60)) hx hb hown hq hE hP 96 193 tFX12_96 (by decide) pw_1492 rfl dX12_make_149 ?_
              refine lv_aload_n hx hb dX12_make_152 rfl (lv_at hl 6 rfl) ?_
              refine r_get (v := .int (nI (ct2 + iq4))) hx hb hown hq hE hP 97 722 tFX12_97 (by decide) pw_1977 rfl dX12_make_153 ?_
              refine lv_iconst (v := 0) hx hb dX12_make_156 (by decide) ?_
              refine r_sti (f := cl4) (j := (ct2 + iq4)) hx hb hE hP hD hS 60 (ma_60 G a _) rfl (mas_60 G a _) (by omega) (by decide) dX12_make_157 (fun H locs hP hD hS => ?_)
              refine lv_aload_n hx hb dX12_make_158 rfl (lv_at hl 6 rfl) ?_
              refine lv_dup hx hb dX12_make_159 rfl ?_
              refine r_get (v := .int (nI (ct2 + iq4))) hx hb hown hq hE hP 97 722 tFX12_97 (by decide) pw_1977 rfl dX12_make_160 ?_
              refine lv_iconst (v := 1) hx hb dX12_make_163 (by decide) ?_
              refine lv_iadd hx hb dX12_make_164 ?_
              refine lv_topi (fun x223 e224 => ?_)
              obtain rfl : x223 = nI ((ct2 + iq4) + 1) := e224.trans (nI_add ((ct2 + iq4)) (1))
              refine r_put (v := (nI ((ct2 + iq4) + 1))) (ty := .int) hx hb hown hq hE hP hD hS 97 722 tFX12_97 (by decide) pw_1977 (by decide) rfl rfl (ms_97 a _ _) dX12_make_165 (fun H locs hP hD hS => ?_)
              refine lv_iinc (v := (nI (iq4 + 1))) (lv' := [(7, .int (nI (iq4 + 1))), (6, .int (nI o192)), (4, .long (n64 (mq + 2))), (3, .int (nI mq)), (2, .int so), (1, .int kk), (0, .ref h0)]) hx hb dX12_make_168 hl (k := 0) rfl (nI_1 iq4) (by decide) rfl (fun ls hl => ?_)
              refine lv_goto (tgt := 142) hx hb dX12_make_171 (by decide) ?_
              have hP : va_P G.1 pCl (mW G h0 a (upd (upd (upd (upd (upd (upd (upd (upd (upd (upd F 97 (nI (ct2 + (iq4 + 1)))) 98 (nI fl2)) 99 (nI rmm)) 101 tds2) 102 (nI op)) 111 (nI tp)) 115 (nI wn)) 116 en) 128 (nI (on2 + 1))) 130 (nI (idn2 - 1))) (updA (updA (updA (updA (updA (updA (updA (updA (updA B 55 (upd oc o192 kk)) 56 (upd os o192 so)) 57 (upd om o192 (nI mq))) 58 (upd oa2 o192 (nI ct2))) 59 sn2) 60 (upd cl4 (ct2 + iq4) 0)) 61 td2) 73 (upd od2 on2 (nI o192))) 74 id2)) _ := mW_to (F := F) (l1 := [(97, (nI (ct2 + iq4))), (98, (nI fl2)), (99, (nI rmm)), (101, tds2), (102, (nI op)), (111, (nI tp)), (115, (nI wn)), (116, en), (128, (nI (on2 + 1))), (130, (nI (idn2 - 1))), (97, (nI ((ct2 + iq4) + 1)))]) (l2 := [(97, (nI (ct2 + (iq4 + 1)))), (98, (nI fl2)), (99, (nI rmm)), (101, tds2), (102, (nI op)), (111, (nI tp)), (115, (nI wn)), (116, en), (128, (nI (on2 + 1))), (130, (nI (idn2 - 1)))]) (V := [(nI (ct2 + (iq4 + 1))), (nI fl2), (nI rmm), tds2, (nI op), (nI tp), (nI wn), en, (nI (on2 + 1)), (nI (idn2 - 1)), (nI (ct2 + (iq4 + 1))), (nI (ct2 + (iq4 + 1))), (nI fl2), (nI rmm), tds2, (nI op), (nI tp), (nI wn), en, (nI (on2 + 1)), (nI (idn2 - 1))]) rfl rfl (show (updA (updA (updA (updA (updA (updA (updA (updA (updA (updA B 55 (upd oc o192 kk)) 56 (upd os o192 so)) 57 (upd om o192 (nI mq))) 58 (upd oa2 o192 (nI ct2))) 59 sn2) 60 cl4) 61 td2) 73 (upd od2 on2 (nI o192))) 74 id2) 60 (upd cl4 (ct2 + iq4) 0)) = (updA (updA (updA (updA (updA (updA (updA (updA (updA B 55 (upd oc o192 kk)) 56 (upd os o192 so)) 57 (upd om o192 (nI mq))) 58 (upd oa2 o192 (nI ct2))) 59 sn2) 60 (upd cl4 (ct2 + iq4) 0)) 61 td2) 73 (upd od2 on2 (nI o192))) 74 id2) from updsA_eq2 (F := B) (l1 := [(55, (upd oc o192 kk)), (56, (upd os o192 so)), (57, (upd om o192 (nI mq))), (58, (upd oa2 o192 (nI ct2))), (59, sn2), (60, cl4), (61, td2), (73, (upd od2 on2 (nI o192))), (74, id2), (60, (upd cl4 (ct2 + iq4) 0))]) (l2 := [(55, (upd oc o192 kk)), (56, (upd os o192 so)), (57, (upd om o192 (nI mq))), (58, (upd oa2 o192 (nI ct2))), (59, sn2), (60, (upd cl4 (ct2 + iq4) 0)), (61, td2), (73, (upd od2 on2 (nI o192))), (74, id2)]) (V := [(upd oc o192 kk), (upd os o192 so), (upd om o192 (nI mq)), (upd oa2 o192 (nI ct2)), sn2, (upd cl4 (ct2 + iq4) 0), td2, (upd od2 on2 (nI o192)), id2, (upd cl4 (ct2 + iq4) 0), (upd oc o192 kk), (upd os o192 so), (upd om o192 (nI mq)), (upd oa2 o192 (nI ct2)), sn2, (upd cl4 (ct2 + iq4) 0), td2, (upd od2 on2 (nI o192)), id2]) rfl rfl) hP
              have hD : va_D A (mW G h0 a (upd (upd (upd (upd (upd (upd (upd (upd (upd (upd F 97 (nI (ct2 + (iq4 + 1)))) 98 (nI fl2)) 99 (nI rmm)) 101 tds2) 102 (nI op)) 111 (nI tp)) 115 (nI wn)) 116 en) 128 (nI (on2 + 1))) 130 (nI (idn2 - 1))) (updA (updA (updA (updA (updA (updA (updA (updA (updA B 55 (upd oc o192 kk)) 56 (upd os o192 so)) 57 (upd om o192 (nI mq))) 58 (upd oa2 o192 (nI ct2))) 59 sn2) 60 (upd cl4 (ct2 + iq4) 0)) 61 td2) 73 (upd od2 on2 (nI o192))) 74 id2)) := mW_D hD
              exact ih_z (iq4 + 1) (upd cl4 (ct2 + iq4) 0) _ _ _ (by omega) (by omega) (Zrd.succ hz4) hP hD hS (lv_sub hl [0, 1, 2, 3, 4, 5, 6] rfl)
        have hP : va_P G.1 pCl (mW G h0 a (upd (upd (upd (upd (upd (upd (upd (upd (upd (upd F 97 (nI (ct2 + 0))) 98 (nI fl2)) 99 (nI rmm)) 101 tds2) 102 (nI op)) 111 (nI tp)) 115 (nI wn)) 116 en) 128 (nI (on2 + 1))) 130 (nI (idn2 - 1))) (updA (updA (updA (updA (updA (updA (updA (updA (updA B 55 (upd oc o192 kk)) 56 (upd os o192 so)) 57 (upd om o192 (nI mq))) 58 (upd oa2 o192 (nI ct2))) 59 sn2) 60 cl2) 61 td2) 73 (upd od2 on2 (nI o192))) 74 id2)) _ := mW_to (F := F) (l1 := [(97, (nI ct2)), (98, (nI fl2)), (99, (nI rmm)), (101, tds2), (102, (nI op)), (111, (nI tp)), (115, (nI wn)), (116, en), (128, (nI on2)), (130, (nI idn2)), (130, (nI (idn2 - 1))), (128, (nI (on2 + 1)))]) (l2 := [(97, (nI (ct2 + 0))), (98, (nI fl2)), (99, (nI rmm)), (101, tds2), (102, (nI op)), (111, (nI tp)), (115, (nI wn)), (116, en), (128, (nI (on2 + 1))), (130, (nI (idn2 - 1)))]) (V := [(nI (ct2 + 0)), (nI fl2), (nI rmm), tds2, (nI op), (nI tp), (nI wn), en, (nI (on2 + 1)), (nI (idn2 - 1)), (nI (idn2 - 1)), (nI (on2 + 1)), (nI (ct2 + 0)), (nI fl2), (nI rmm), tds2, (nI op), (nI tp), (nI wn), en, (nI (on2 + 1)), (nI (idn2 - 1))]) rfl rfl (show (updA (updA (updA (updA (updA (updA (updA (updA (updA (updA (updA (updA (updA (updA B 55 oc) 56 os) 57 om) 58 oa2) 59 sn2) 60 cl2) 61 td2) 73 od2) 74 id2) 73 (upd od2 on2 (nI o192))) 55 (upd oc o192 kk)) 56 (upd os o192 so)) 57 (upd om o192 (nI mq))) 58 (upd oa2 o192 (nI ct2))) = (updA (updA (updA (updA (updA (updA (updA (updA (updA B 55 (upd oc o192 kk)) 56 (upd os o192 so)) 57 (upd om o192 (nI mq))) 58 (upd oa2 o192 (nI ct2))) 59 sn2) 60 cl2) 61 td2) 73 (upd od2 on2 (nI o192))) 74 id2) from updsA_eq2 (F := B) (l1 := [(55, oc), (56, os), (57, om), (58, oa2), (59, sn2), (60, cl2), (61, td2), (73, od2), (74, id2), (73, (upd od2 on2 (nI o192))), (55, (upd oc o192 kk)), (56, (upd os o192 so)), (57, (upd om o192 (nI mq))), (58, (upd oa2 o192 (nI ct2)))]) (l2 := [(55, (upd oc o192 kk)), (56, (upd os o192 so)), (57, (upd om o192 (nI mq))), (58, (upd oa2 o192 (nI ct2))), (59, sn2), (60, cl2), (61, td2), (73, (upd od2 on2 (nI o192))), (74, id2)]) (V := [(upd oc o192 kk), (upd os o192 so), (upd om o192 (nI mq)), (upd oa2 o192 (nI ct2)), sn2, cl2, td2, (upd od2 on2 (nI o192)), id2, (upd od2 on2 (nI o192)), (upd oc o192 kk), (upd os o192 so), (upd om o192 (nI mq)), (upd oa2 o192 (nI ct2)), (upd oc o192 kk), (upd os o192 so), (upd om o192 (nI mq)), (upd oa2 o192 (nI ct2)), sn2, cl2, td2, (upd od2 on2 (nI o192)), id2]) rfl rfl) hP
        have hD : va_D A (mW G h0 a (upd (upd (upd (upd (upd (upd (upd (upd (upd (upd F 97 (nI (ct2 + 0))) 98 (nI fl2)) 99 (nI rmm)) 101 tds2) 102 (nI op)) 111 (nI tp)) 115 (nI wn)) 116 en) 128 (nI (on2 + 1))) 130 (nI (idn2 - 1))) (updA (updA (updA (updA (updA (updA (updA (updA (updA B 55 (upd oc o192 kk)) 56 (upd os o192 so)) 57 (upd om o192 (nI mq))) 58 (upd oa2 o192 (nI ct2))) 59 sn2) 60 cl2) 61 td2) 73 (upd od2 on2 (nI o192))) 74 id2)) := mW_D hD
        exact loop_z (mq + 1) 0 cl2 _ _ _ (by omega) (by omega) Zrd.zero hP hD hS (lv_sub hl [0, 1, 2, 3, 4, 5, 6] rfl)
      · refine lv_topi (fun x225 e226 => ?_)
        obtain rfl : x225 = 1 := e226.trans (n64_gt (by omega) (by omega) h148)
        refine lv_if_le (tgt := 62) hx hb dX12_make_52 (by decide) (fun c227 => absurd c227 (by decide)) (fun c227 => ?_)
        refine lv_aload_n hx hb dX12_make_55 rfl (lv_at hl 4 rfl) ?_
        refine lv_iconst (v := 3) hx hb dX12_make_56 (by decide) ?_
        refine r_put (v := 3) (ty := .int) hx hb hown hq hE hP hD hS 116 233 tFX12_116 (by decide) pw_1506 (by decide) rfl rfl (ms_116 a _ _) dX12_make_57 (fun H locs hP hD hS => ?_)
        refine lv_iconst (v := 0) hx hb dX12_make_60 (by decide) ?_
        have hz228 : HS om oc od2 id2 oa2 on2 idn2 fl2 rmm := hH2
        have hz229 : ct2 = smF om od2 on2 := hct2
        have hz230 : ((∀ c : Nat, c < op → RfS snk (B 62 c)) ∧ (∀ c s v : Nat, c < op → B 63 c = nI s → s ≤ 30 → v < s → ¬ B 67 (32 * c + v) = 0 → RfS snk (B 66 (32 * c + v))) ∧ (∀ k : Nat, k < tp → ¬ B 69 k = 0 → RfS snk (B 68 k)) ∧ (∀ k : Nat, k < wn → ¬ B 72 k = 0 → RfS snk (B 71 k)) ∧ (∀ o : Nat, o < 3000 → Lvd od on o → ¬ snk o = 0 → ∀ v : Int32, (Chd oc os om oa cl (B 75) (B 76) (B 77)) o v → RfS snk v)) := hR2
        have hz231 : 0 ≤ 3000 := (by omega)
        have hz232 : If (0 = 0) ((3 : Int32) = 3 ∧ oc = oc ∧ os = os ∧ om = om) := (fun _ => ⟨rfl, rfl, rfl, rfl⟩)
        have hz233 : If (0 < 0) ((3 : Int32) = en ∧ oc = upd oc (0 - 1) kk ∧ os = upd os (0 - 1) so ∧ om = upd om (0 - 1) (nI mq) ∧ mq ≤ 3000 ∧ (¬ Lvd od on (0 - 1) ∨ snk (0 - 1) = 0) ∧ ∃ p : Nat, oa2 (0 - 1) = nI p ∧ p + mq ≤ 3000 ∧ ∀ i : Nat, i < mq → cl2 (p + i) = 0) := (fun e => absurd e (by omega))
        have hz234 : ∀ o : Nat, o < 3000 → (Lvd od2 on2 o ↔ (Lvd od on o ∧ ¬ snk o = 0) ∨ (0 < 0 ∧ o = 0 - 1)) := (fun o ho => ⟨fun z => Or.inl ((hK2.1 o ho).mp z), fun z => (hK2.1 o ho).mpr (z.elim id (fun y => absurd y.1 (by omega)))⟩)
        have hz235 : ∀ o : Nat, o < 3000 → Lvd od on o → ¬ snk o = 0 → ∀ i q p p1 : Nat, om o = nI q → oa o = nI p → oa2 o = nI p1 → i < q → q ≤ 3000 → p ≤ 3000 → p1 ≤ 3000 → cl2 (p1 + i) = cl (p + i) := (fun o ho h1 h2 => hK2.2 o ho ((hK2.1 o ho).mpr ⟨h1, h2⟩))
        have hP : va_P G.1 pCl (mW G h0 a (upd (upd (upd (upd (upd (upd (upd (upd (upd (upd (upd (upd F 97 (nI ct2)) 98 (nI fl2)) 99 (nI rmm)) 101 tds2) 102 (nI op)) 111 (nI tp)) 115 (nI wn)) 116 (3 : Int32)) 121 (F 121)) 122 (F 122)) 128 (nI on2)) 130 (nI idn2)) (updA (updA (updA (updA (updA (updA (updA (updA (updA B 55 oc) 56 os) 57 om) 58 oa2) 59 sn2) 60 cl2) 61 td2) 73 od2) 74 id2)) _ := mW_to (F := F) (l1 := [(97, (nI ct2)), (98, (nI fl2)), (99, (nI rmm)), (101, tds2), (102, (nI op)), (111, (nI tp)), (115, (nI wn)), (116, en), (128, (nI on2)), (130, (nI idn2)), (116, 3)]) (l2 := [(97, (nI ct2)), (98, (nI fl2)), (99, (nI rmm)), (101, tds2), (102, (nI op)), (111, (nI tp)), (115, (nI wn)), (116, (3 : Int32)), (121, (F 121)), (122, (F 122)), (128, (nI on2)), (130, (nI idn2))]) (V := [(nI ct2), (nI fl2), (nI rmm), tds2, (nI op), (nI tp), (nI wn), (3 : Int32), (nI on2), (nI idn2), (3 : Int32), (nI ct2), (nI fl2), (nI rmm), tds2, (nI op), (nI tp), (nI wn), (3 : Int32), (F 121), (F 122), (nI on2), (nI idn2)]) rfl rfl rfl hP
        have hD : va_D A (mW G h0 a (upd (upd (upd (upd (upd (upd (upd (upd (upd (upd (upd (upd F 97 (nI ct2)) 98 (nI fl2)) 99 (nI rmm)) 101 tds2) 102 (nI op)) 111 (nI tp)) 115 (nI wn)) 116 (3 : Int32)) 121 (F 121)) 122 (F 122)) 128 (nI on2)) 130 (nI idn2)) (updA (updA (updA (updA (updA (updA (updA (updA (updA B 55 oc) 56 os) 57 om) 58 oa2) 59 sn2) 60 cl2) 61 td2) 73 od2) 74 id2)) := mW_D hD
        exact W.iret (v := 0) hx hb hr (fun t9 ht9 hW9 => ⟨⟨_, (0, on2, idn2, fl2, ct2, (3 : Int32), tds2, (F 121), (F 122), od2, id2, oa2, cl2, sn2, td2, oc, os, om, snk), rfl, ⟨rfl, hz228, hz229, hz230, hz231, hz232, hz233, hz234, hz235⟩, by rw [ht9]; exact hP, hD⟩, hS.F ht9⟩) hS.2.2 dX12_make_61
    refine lv_aload_n hx hb dX12_make_17 rfl (lv_at hl 1 rfl) ?_
    refine r_get (v := .int (nI fl)) hx hb hown hq hE hP 98 719 tFX12_98 (by decide) pw_1976 rfl dX12_make_18 ?_
    refine lv_i2l hx hb dX12_make_21 rfl ?_
    refine lv_topl (fun x236 e237 => ?_)
    obtain rfl : x236 = n64 fl := e237.trans (n64_i2l (by omega))
    refine lv_lload hx hb dX12_make_22 (lv_at hl 0 rfl) ?_
    refine lv_ladd hx hb dX12_make_24 ?_
    refine lv_topl (fun x238 e239 => ?_)
    obtain rfl : x238 = n64 (fl + (mq + 2)) := e239.trans (n64_add fl (mq + 2))
    refine lv_aload_n hx hb dX12_make_25 rfl (lv_at hl 1 rfl) ?_
    refine r_get (v := .int (nI rmm)) hx hb hown hq hE hP 99 733 tFX12_99 (by decide) pw_1987 rfl dX12_make_26 ?_
    refine lv_i2l hx hb dX12_make_29 rfl ?_
    refine lv_topl (fun x240 e241 => ?_)
    obtain rfl : x240 = n64 rmm := e241.trans (n64_i2l (by omega))
    refine W.lcmp hx hb dX12_make_30 ?_
    rcases Nat.lt_trichotomy (fl + (mq + 2)) rmm with h242 | h242 | h242
    · refine lv_topi (fun x243 e244 => ?_)
      obtain rfl : x243 = -1 := e244.trans (n64_less (by omega) (by omega) h242)
      refine lv_if_le (tgt := 38) hx hb dX12_make_31 (by decide) (fun c245 => ?_) (fun c245 => absurd c245 (by decide))
      have hP : va_P G.1 pCl (mW G h0 a (upd (upd (upd (upd (upd (upd (upd (upd (upd (upd F 97 (nI ct)) 98 (nI fl)) 99 (nI rmm)) 101 (F 101)) 102 (nI op)) 111 (nI tp)) 115 (nI wn)) 116 en) 128 (nI on)) 130 (nI idn)) (updA (updA (updA (updA (updA (updA (updA (updA (updA B 55 oc) 56 os) 57 om) 58 oa) 59 sn) 60 cl) 61 td) 73 od) 74 ido)) _ := mW_to (F := F) (l1 := [(97, (nI ct)), (98, (nI fl)), (99, (nI rmm)), (102, (nI op)), (111, (nI tp)), (115, (nI wn)), (116, en), (128, (nI on)), (130, (nI idn))]) (l2 := [(97, (nI ct)), (98, (nI fl)), (99, (nI rmm)), (101, (F 101)), (102, (nI op)), (111, (nI tp)), (115, (nI wn)), (116, en), (128, (nI on)), (130, (nI idn))]) (V := [(nI ct), (nI fl), (nI rmm), (nI op), (nI tp), (nI wn), en, (nI on), (nI idn), (nI ct), (nI fl), (nI rmm), (F 101), (nI op), (nI tp), (nI wn), en, (nI on), (nI idn)]) rfl rfl rfl hP
      have hD : va_D A (mW G h0 a (upd (upd (upd (upd (upd (upd (upd (upd (upd (upd F 97 (nI ct)) 98 (nI fl)) 99 (nI rmm)) 101 (F 101)) 102 (nI op)) 111 (nI tp)) 115 (nI wn)) 116 en) 128 (nI on)) 130 (nI idn)) (updA (updA (updA (updA (updA (updA (updA (updA (updA B 55 oc) 56 os) 57 om) 58 oa) 59 sn) 60 cl) 61 td) 73 od) 74 ido)) := mW_D hD
      exact cut_s on idn fl ct (F 101) od ido oa cl sn td (fun _ => 1) _ _ _ (by have z2 := smF_le (om := om) (oc := oc) (od := od) on; have z3 := hHS.2.2.2.2; omega) hHS hct Kept.all ⟨fun _ _ => RfS.all, fun _ _ _ _ _ _ _ _ => RfS.all, fun _ _ _ => RfS.all, fun _ _ _ => RfS.all, fun _ _ _ _ _ _ => RfS.all⟩ hP hD hS (lv_sub hl [0, 4, 3, 2, 1] rfl)
    · refine lv_topi (fun x246 e247 => ?_)
      obtain rfl : x246 = 0 := e247.trans (n64_same (by omega) (by omega) h242)
      refine lv_if_le (tgt := 38) hx hb dX12_make_31 (by decide) (fun c248 => ?_) (fun c248 => absurd c248 (by decide))
      have hP : va_P G.1 pCl (mW G h0 a (upd (upd (upd (upd (upd (upd (upd (upd (upd (upd F 97 (nI ct)) 98 (nI fl)) 99 (nI rmm)) 101 (F 101)) 102 (nI op)) 111 (nI tp)) 115 (nI wn)) 116 en) 128 (nI on)) 130 (nI idn)) (updA (updA (updA (updA (updA (updA (updA (updA (updA B 55 oc) 56 os) 57 om) 58 oa) 59 sn) 60 cl) 61 td) 73 od) 74 ido)) _ := mW_to (F := F) (l1 := [(97, (nI ct)), (98, (nI fl)), (99, (nI rmm)), (102, (nI op)), (111, (nI tp)), (115, (nI wn)), (116, en), (128, (nI on)), (130, (nI idn))]) (l2 := [(97, (nI ct)), (98, (nI fl)), (99, (nI rmm)), (101, (F 101)), (102, (nI op)), (111, (nI tp)), (115, (nI wn)), (116, en), (128, (nI on)), (130, (nI idn))]) (V := [(nI ct), (nI fl), (nI rmm), (nI op), (nI tp), (nI wn), en, (nI on), (nI idn), (nI ct), (nI fl), (nI rmm), (F 101), (nI op), (nI tp), (nI wn), en, (nI on), (nI idn)]) rfl rfl rfl hP
      have hD : va_D A (mW G h0 a (upd (upd (upd (upd (upd (upd (upd (upd (upd (upd F 97 (nI ct)) 98 (nI fl)) 99 (nI rmm)) 101 (F 101)) 102 (nI op)) 111 (nI tp)) 115 (nI wn)) 116 en) 128 (nI on)) 130 (nI idn)) (updA (updA (updA (updA (updA (updA (updA (updA (updA B 55 oc) 56 os) 57 om) 58 oa) 59 sn) 60 cl) 61 td) 73 od) 74 ido)) := mW_D hD
      exact cut_s on idn fl ct (F 101) od ido oa cl sn td (fun _ => 1) _ _ _ (by have z2 := smF_le (om := om) (oc := oc) (od := od) on; have z3 := hHS.2.2.2.2; omega) hHS hct Kept.all ⟨fun _ _ => RfS.all, fun _ _ _ _ _ _ _ _ => RfS.all, fun _ _ _ => RfS.all, fun _ _ _ => RfS.all, fun _ _ _ _ _ _ => RfS.all⟩ hP hD hS (lv_sub hl [0, 4, 3, 2, 1] rfl)
    · refine lv_topi (fun x249 e250 => ?_)
      obtain rfl : x249 = 1 := e250.trans (n64_gt (by omega) (by omega) h242)
      refine lv_if_le (tgt := 38) hx hb dX12_make_31 (by decide) (fun c251 => absurd c251 (by decide)) (fun c251 => ?_)
      refine lv_aload_n hx hb dX12_make_34 rfl (lv_at hl 1 rfl) ?_
      have hP : va_P G.1 pCl (mW G h0 a (upd (upd (upd (upd (upd (upd (upd (upd (upd (upd (upd (upd (upd (upd (upd F 97 (nI ct)) 98 (nI fl)) 99 (nI rmm)) 102 (nI op)) 111 (nI tp)) 115 (nI wn)) 116 en) 128 (nI on)) 130 (nI idn)) 98 (nI fl)) 102 (nI op)) 111 (nI tp)) 115 (nI wn)) 128 (nI on)) 130 (nI idn)) (updA (updA (updA (updA (updA (updA (updA (updA (updA (updA (updA (updA (updA (updA (updA B 55 oc) 56 os) 57 om) 58 oa) 59 sn) 60 cl) 61 td) 73 od) 74 ido) 58 oa) 59 sn) 60 cl) 61 td) 73 od) 74 ido)) _ := mW_to (F := F) (l1 := [(97, (nI ct)), (98, (nI fl)), (99, (nI rmm)), (102, (nI op)), (111, (nI tp)), (115, (nI wn)), (116, en), (128, (nI on)), (130, (nI idn))]) (l2 := [(97, (nI ct)), (98, (nI fl)), (99, (nI rmm)), (102, (nI op)), (111, (nI tp)), (115, (nI wn)), (116, en), (128, (nI on)), (130, (nI idn)), (98, (nI fl)), (102, (nI op)), (111, (nI tp)), (115, (nI wn)), (128, (nI on)), (130, (nI idn))]) (V := [(nI ct), (nI fl), (nI rmm), (nI op), (nI tp), (nI wn), en, (nI on), (nI idn), (nI ct), (nI fl), (nI rmm), (nI op), (nI tp), (nI wn), en, (nI on), (nI idn), (nI fl), (nI op), (nI tp), (nI wn), (nI on), (nI idn)]) rfl rfl (show (updA (updA (updA (updA (updA (updA (updA (updA (updA B 55 oc) 56 os) 57 om) 58 oa) 59 sn) 60 cl) 61 td) 73 od) 74 ido) = (updA (updA (updA (updA (updA (updA (updA (updA (updA (updA (updA (updA (updA (updA (updA B 55 oc) 56 os) 57 om) 58 oa) 59 sn) 60 cl) 61 td) 73 od) 74 ido) 58 oa) 59 sn) 60 cl) 61 td) 73 od) 74 ido) from updsA_eq2 (F := B) (l1 := [(55, oc), (56, os), (57, om), (58, oa), (59, sn), (60, cl), (61, td), (73, od), (74, ido)]) (l2 := [(55, oc), (56, os), (57, om), (58, oa), (59, sn), (60, cl), (61, td), (73, od), (74, ido), (58, oa), (59, sn), (60, cl), (61, td), (73, od), (74, ido)]) (V := [oc, os, om, oa, sn, cl, td, od, ido, oc, os, om, oa, sn, cl, td, od, ido, oa, sn, cl, td, od, ido]) rfl rfl) hP
      have hD : va_D A (mW G h0 a (upd (upd (upd (upd (upd (upd (upd (upd (upd (upd (upd (upd (upd (upd (upd F 97 (nI ct)) 98 (nI fl)) 99 (nI rmm)) 102 (nI op)) 111 (nI tp)) 115 (nI wn)) 116 en) 128 (nI on)) 130 (nI idn)) 98 (nI fl)) 102 (nI op)) 111 (nI tp)) 115 (nI wn)) 128 (nI on)) 130 (nI idn)) (updA (updA (updA (updA (updA (updA (updA (updA (updA (updA (updA (updA (updA (updA (updA B 55 oc) 56 os) 57 om) 58 oa) 59 sn) 60 cl) 61 td) 73 od) 74 ido) 58 oa) 59 sn) 60 cl) 61 td) 73 od) 74 ido)) := mW_D hD
      refine pc_V0 (G := G) (As := []) (rest := []) hx hb hml hown hq hE hX pX0_al hP hD hS hA hl.1 (R_sweep l G h0 a (upd (upd (upd (upd (upd (upd (upd (upd (upd F 97 (nI ct)) 98 (nI fl)) 99 (nI rmm)) 102 (nI op)) 111 (nI tp)) 115 (nI wn)) 116 en) 128 (nI on)) 130 (nI idn)) (updA (updA (updA (updA (updA (updA (updA (updA (updA B 55 oc) 56 os) 57 om) 58 oa) 59 sn) 60 cl) 61 td) 73 od) 74 ido) on op tp wn idn fl rmm sn td od ido oa cl (by omega) (by omega) (by omega) (by omega) hth hscp hstk hwt hob hHS) (gV pw_1990 pw_1991 pw_1992 pw_1523 pw_1985) hV_X12_sweep 0 9 rfl rfl rfl rfl (Nat.le_of_ble_eq_true rfl) dX12_make_35 ⟨Nat.le_of_ble_eq_true rfl, Nat.le_of_ble_eq_true rfl⟩ ⟨Nat.le_of_ble_eq_true rfl, Nat.le_of_ble_eq_true rfl⟩ (fun v254 u252 H locs hw253 hP hD hS => ?_)
      obtain ⟨on255, idn256, fl257, ct258, tn259, od260, id261, oa262, cl263, sn264, td265⟩ := u252
      obtain ⟨hw253, h266, h267, h268, h269, h270, h271, h272, h273, h274, h275⟩ := hw253
      replace h266 : HS (om) (oc) od260 id261 oa262 on255 idn256 fl257 rmm := h266
      replace h267 : fl257 ≤ fl := h267
      replace h268 : ct258 = smF (om) od260 on255 := h268
      replace h269 : ∀ o : Nat, o < 3000 → (Lvd od260 on255 o ↔ Lvd od on o ∧ ¬ sn264 o = 0) := h269
      replace h270 : ∀ o : Nat, o < 3000 → Lvd od260 on255 o → ∀ i q p p1 : Nat, om o = nI q → oa o = nI p → oa262 o = nI p1 → i < q → q ≤ 3000 → p ≤ 3000 → p1 ≤ 3000 → cl263 (p1 + i) = cl (p + i) := h270
      replace h271 : ∀ c : Nat, c < op → RfS sn264 ((B 62) c) := h271
      replace h272 : ∀ c s v : Nat, c < op → (B 63) c = nI s → s ≤ 30 → v < s → ¬ (B 67) (32 * c + v) = 0 → RfS sn264 ((B 66) (32 * c + v)) := h272
      replace h273 : ∀ k : Nat, k < tp → ¬ (B 69) k = 0 → RfS sn264 ((B 68) k) := h273
      replace h274 : ∀ k : Nat, k < wn → ¬ (B 72) k = 0 → RfS sn264 ((B 71) k) := h274
      replace h275 : ∀ o : Nat, o < 3000 → Lvd od on o → ¬ sn264 o = 0 → ∀ v : Int32, (Chd (oc) (os) (om) oa cl ((B 75)) ((B 76)) ((B 77))) o v → RfS sn264 v := h275
      obtain rfl : v254 = none := hw253
      have hP : va_P G.1 pCl (mW G h0 a (upd (upd (upd (upd (upd (upd (upd (upd (upd (upd F 97 (nI ct258)) 98 (nI fl257)) 99 (nI rmm)) 101 (nI tn259)) 102 (nI op)) 111 (nI tp)) 115 (nI wn)) 116 en) 128 (nI on255)) 130 (nI idn256)) (updA (updA (updA (updA (updA (updA (updA (updA (updA B 55 oc) 56 os) 57 om) 58 oa262) 59 sn264) 60 cl263) 61 td265) 73 od260) 74 id261)) _ := mW_to (F := F) (l1 := [(97, (nI ct)), (98, (nI fl)), (99, (nI rmm)), (102, (nI op)), (111, (nI tp)), (115, (nI wn)), (116, en), (128, (nI on)), (130, (nI idn)), (97, (nI ct258)), (98, (nI fl257)), (101, (nI tn259)), (102, (nI op)), (111, (nI tp)), (115, (nI wn)), (128, (nI on255)), (130, (nI idn256))]) (l2 := [(97, (nI ct258)), (98, (nI fl257)), (99, (nI rmm)), (101, (nI tn259)), (102, (nI op)), (111, (nI tp)), (115, (nI wn)), (116, en), (128, (nI on255)), (130, (nI idn256))]) (V := [(nI ct258), (nI fl257), (nI rmm), (nI op), (nI tp), (nI wn), en, (nI on255), (nI idn256), (nI ct258), (nI fl257), (nI tn259), (nI op), (nI tp), (nI wn), (nI on255), (nI idn256), (nI ct258), (nI fl257), (nI rmm), (nI tn259), (nI op), (nI tp), (nI wn), en, (nI on255), (nI idn256)]) rfl rfl (show (updA (updA (updA (updA (updA (updA (updA (updA (updA (updA (updA (updA (updA (updA (updA B 55 oc) 56 os) 57 om) 58 oa) 59 sn) 60 cl) 61 td) 73 od) 74 ido) 58 oa262) 59 sn264) 60 cl263) 61 td265) 73 od260) 74 id261) = (updA (updA (updA (updA (updA (updA (updA (updA (updA B 55 oc) 56 os) 57 om) 58 oa262) 59 sn264) 60 cl263) 61 td265) 73 od260) 74 id261) from updsA_eq2 (F := B) (l1 := [(55, oc), (56, os), (57, om), (58, oa), (59, sn), (60, cl), (61, td), (73, od), (74, ido), (58, oa262), (59, sn264), (60, cl263), (61, td265), (73, od260), (74, id261)]) (l2 := [(55, oc), (56, os), (57, om), (58, oa262), (59, sn264), (60, cl263), (61, td265), (73, od260), (74, id261)]) (V := [oc, os, om, oa262, sn264, cl263, td265, od260, id261, oa262, sn264, cl263, td265, od260, id261, oc, os, om, oa262, sn264, cl263, td265, od260, id261]) rfl rfl) hP
      have hD : va_D A (mW G h0 a (upd (upd (upd (upd (upd (upd (upd (upd (upd (upd F 97 (nI ct258)) 98 (nI fl257)) 99 (nI rmm)) 101 (nI tn259)) 102 (nI op)) 111 (nI tp)) 115 (nI wn)) 116 en) 128 (nI on255)) 130 (nI idn256)) (updA (updA (updA (updA (updA (updA (updA (updA (updA B 55 oc) 56 os) 57 om) 58 oa262) 59 sn264) 60 cl263) 61 td265) 73 od260) 74 id261)) := mW_D hD
      refine W.widen (k := 0) (n := 0) (Nat.le_of_ble_eq_true rfl) (Nat.le_of_ble_eq_true rfl) ?_
      refine W.eq (g2 := F0 m 38 ls []) rfl ?_
      have hP : va_P G.1 pCl (mW G h0 a (upd (upd (upd (upd (upd (upd (upd (upd (upd (upd F 97 (nI ct258)) 98 (nI fl257)) 99 (nI rmm)) 101 (nI tn259)) 102 (nI op)) 111 (nI tp)) 115 (nI wn)) 116 en) 128 (nI on255)) 130 (nI idn256)) (updA (updA (updA (updA (updA (updA (updA (updA (updA B 55 oc) 56 os) 57 om) 58 oa262) 59 sn264) 60 cl263) 61 td265) 73 od260) 74 id261)) _ := hP
      have hD : va_D A (mW G h0 a (upd (upd (upd (upd (upd (upd (upd (upd (upd (upd F 97 (nI ct258)) 98 (nI fl257)) 99 (nI rmm)) 101 (nI tn259)) 102 (nI op)) 111 (nI tp)) 115 (nI wn)) 116 en) 128 (nI on255)) 130 (nI idn256)) (updA (updA (updA (updA (updA (updA (updA (updA (updA B 55 oc) 56 os) 57 om) 58 oa262) 59 sn264) 60 cl263) 61 td265) 73 od260) 74 id261)) := mW_D hD
      exact cut_s on255 idn256 fl257 ct258 (nI tn259) od260 id261 oa262 cl263 sn264 td265 sn264 _ _ _ (by have z1 := h266; have z2 := smF_le (om := om) (oc := oc) (od := od260) on255; have z3 := z1.2.2.2.2; omega) h266 h268 ⟨h269, h270⟩ ⟨h271, h272, h273, h274, h275⟩ hP hD hS (lv_sub hl [0, 4, 3, 2, 1] rfl)
