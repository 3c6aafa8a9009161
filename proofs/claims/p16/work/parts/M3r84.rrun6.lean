/-- a flag tells whether type t is that of a reference -/
def FlgT (b t : Nat) : Prop := b ≤ 1 ∧ 3 * b ≤ t ∧ t ≤ 2 + 9000 * b
/-- values handed over, so far -/
def ArgV (stk vr vr2 : Nat → Int32) (z w i : Nat) : Prop := (∀ j : Nat, j < i → vr2 (z + j) = stk (w + j)) ∧ ∀ a : Nat, a < z → vr2 a = vr a
def ArgF (X : Nat → Nat → Int32) (vf vf2 : Nat → Int32) (z p i : Nat) : Prop := (∀ j : Nat, j < i → ∃ b y t : Nat, X 47 (p + j) = nI y ∧ y ≤ 5000 ∧ X 21 y = nI t ∧ t ≤ 2050 ∧ vf2 (z + j) = nI b ∧ FlgT b t) ∧ ∀ a : Nat, a < z → vf2 a = vf a
theorem ArgV.zero {stk vr : Nat → Int32} {z w : Nat} : ArgV stk vr vr z w 0 := ⟨fun j h => absurd h (by omega), fun _ _ => rfl⟩
theorem ArgV.succ {stk vr vr2 : Nat → Int32} {z w i : Nat} (h : ArgV stk vr vr2 z w i) : ArgV stk vr (upd vr2 (z + i) (stk (w + i))) z w (i + 1) := by
  refine ⟨fun j hj => ?_, fun a ha => ?_⟩ <;> unfold upd
  · by_cases e : j = i
    · rw [if_pos (by omega), e]
    · rw [if_neg (by omega)]; exact h.1 j (by omega)
  · rw [if_neg (by omega)]; exact h.2 a ha
theorem ArgF.zero {X : Nat → Nat → Int32} {vf : Nat → Int32} {z p : Nat} : ArgF X vf vf z p 0 := ⟨fun j h => absurd h (by omega), fun _ _ => rfl⟩
theorem ArgF.succ {X : Nat → Nat → Int32} {vf vf2 : Nat → Int32} {z p i b y t : Nat} (h : ArgF X vf vf2 z p i) (e1 : X 47 (p + i) = nI y) (hy : y ≤ 5000) (e2 : X 21 y = nI t) (ht : t ≤ 2050) (g : FlgT b t) : ArgF X vf (upd vf2 (z + i) (nI b)) z p (i + 1) := by
  refine ⟨fun j hj => ?_, fun a ha => ?_⟩ <;> unfold upd
  · by_cases e : j = i
    · subst e; exact ⟨b, y, t, e1, hy, e2, ht, if_pos rfl, g⟩
    · rw [if_neg (by omega)]; exact h.1 j (by omega)
  · rw [if_neg (by omega)]; exact h.2 a ha
theorem dX12_opens_0 : decode cX12_opens 0 = .ok (.aload_n 0, 1) := by decide +kernel
theorem dX12_opens_1 : decode cX12_opens 1 = .ok (.getfield 707, 3) := by decide +kernel
theorem dX12_opens_4 : decode cX12_opens 4 = .ok (.bipush 100, 2) := by decide +kernel
theorem dX12_opens_6 : decode cX12_opens 6 = .ok (.if_icmp .ne 9, 3) := by decide +kernel
theorem dX12_opens_15 : decode cX12_opens 15 = .ok (.aload_n 0, 1) := by decide +kernel
theorem dX12_opens_16 : decode cX12_opens 16 = .ok (.dup, 1) := by decide +kernel
theorem dX12_opens_17 : decode cX12_opens 17 = .ok (.getfield 698, 3) := by decide +kernel
theorem dX12_opens_20 : decode cX12_opens 20 = .ok (.aload_n 0, 1) := by decide +kernel
theorem dX12_opens_21 : decode cX12_opens 21 = .ok (.getfield 135, 3) := by decide +kernel
theorem dX12_opens_24 : decode cX12_opens 24 = .ok (.iload_n 1, 1) := by decide +kernel
theorem dX12_opens_25 : decode cX12_opens 25 = .ok (.iaload, 1) := by decide +kernel
theorem dX12_opens_26 : decode cX12_opens 26 = .ok (.isub, 1) := by decide +kernel
theorem dX12_opens_27 : decode cX12_opens 27 = .ok (.putfield 698, 3) := by decide +kernel
theorem dX12_opens_30 : decode cX12_opens 30 = .ok (.iconst 0, 1) := by decide +kernel
theorem dX12_opens_31 : decode cX12_opens 31 = .ok (.istore 4, 2) := by decide +kernel
theorem dX12_opens_33 : decode cX12_opens 33 = .ok (.iload 4, 2) := by decide +kernel
theorem dX12_opens_35 : decode cX12_opens 35 = .ok (.aload_n 0, 1) := by decide +kernel
theorem dX12_opens_36 : decode cX12_opens 36 = .ok (.getfield 135, 3) := by decide +kernel
theorem dX12_opens_39 : decode cX12_opens 39 = .ok (.iload_n 1, 1) := by decide +kernel
theorem dX12_opens_40 : decode cX12_opens 40 = .ok (.iaload, 1) := by decide +kernel
theorem dX12_opens_41 : decode cX12_opens 41 = .ok (.if_icmp .ge 74, 3) := by decide +kernel
theorem dX12_opens_115 : decode cX12_opens 115 = .ok (.aload_n 0, 1) := by decide +kernel
theorem dX12_opens_116 : decode cX12_opens 116 = .ok (.getfield 199, 3) := by decide +kernel
theorem dX12_opens_119 : decode cX12_opens 119 = .ok (.aload_n 0, 1) := by decide +kernel
theorem dX12_opens_120 : decode cX12_opens 120 = .ok (.getfield 707, 3) := by decide +kernel
theorem dX12_opens_123 : decode cX12_opens 123 = .ok (.iload_n 2, 1) := by decide +kernel
theorem dX12_opens_124 : decode cX12_opens 124 = .ok (.iastore, 1) := by decide +kernel
theorem dX12_opens_125 : decode cX12_opens 125 = .ok (.aload_n 0, 1) := by decide +kernel
theorem dX12_opens_126 : decode cX12_opens 126 = .ok (.getfield 202, 3) := by decide +kernel
theorem dX12_opens_129 : decode cX12_opens 129 = .ok (.aload_n 0, 1) := by decide +kernel
theorem dX12_opens_130 : decode cX12_opens 130 = .ok (.getfield 707, 3) := by decide +kernel
theorem dX12_opens_133 : decode cX12_opens 133 = .ok (.aload_n 0, 1) := by decide +kernel
theorem dX12_opens_134 : decode cX12_opens 134 = .ok (.getfield 135, 3) := by decide +kernel
theorem dX12_opens_137 : decode cX12_opens 137 = .ok (.iload_n 1, 1) := by decide +kernel
theorem dX12_opens_138 : decode cX12_opens 138 = .ok (.iaload, 1) := by decide +kernel
theorem dX12_opens_139 : decode cX12_opens 139 = .ok (.iastore, 1) := by decide +kernel
theorem dX12_opens_140 : decode cX12_opens 140 = .ok (.aload_n 0, 1) := by decide +kernel
theorem dX12_opens_141 : decode cX12_opens 141 = .ok (.getfield 205, 3) := by decide +kernel
theorem dX12_opens_144 : decode cX12_opens 144 = .ok (.aload_n 0, 1) := by decide +kernel
theorem dX12_opens_145 : decode cX12_opens 145 = .ok (.getfield 707, 3) := by decide +kernel
theorem dX12_opens_148 : decode cX12_opens 148 = .ok (.aload_n 0, 1) := by decide +kernel
theorem dX12_opens_149 : decode cX12_opens 149 = .ok (.getfield 698, 3) := by decide +kernel
theorem dX12_opens_152 : decode cX12_opens 152 = .ok (.iastore, 1) := by decide +kernel
theorem dX12_opens_153 : decode cX12_opens 153 = .ok (.aload_n 0, 1) := by decide +kernel
theorem dX12_opens_154 : decode cX12_opens 154 = .ok (.getfield 208, 3) := by decide +kernel
theorem dX12_opens_157 : decode cX12_opens 157 = .ok (.aload_n 0, 1) := by decide +kernel
theorem dX12_opens_158 : decode cX12_opens 158 = .ok (.getfield 707, 3) := by decide +kernel
theorem dX12_opens_161 : decode cX12_opens 161 = .ok (.iload_n 3, 1) := by decide +kernel
theorem dX12_opens_162 : decode cX12_opens 162 = .ok (.iastore, 1) := by decide +kernel
theorem dX12_opens_163 : decode cX12_opens 163 = .ok (.aload_n 0, 1) := by decide +kernel
theorem dX12_opens_164 : decode cX12_opens 164 = .ok (.dup, 1) := by decide +kernel
theorem dX12_opens_165 : decode cX12_opens 165 = .ok (.getfield 707, 3) := by decide +kernel
theorem dX12_opens_168 : decode cX12_opens 168 = .ok (.iconst 1, 1) := by decide +kernel
theorem dX12_opens_169 : decode cX12_opens 169 = .ok (.iadd, 1) := by decide +kernel
theorem dX12_opens_170 : decode cX12_opens 170 = .ok (.putfield 707, 3) := by decide +kernel
theorem dX12_opens_173 : decode cX12_opens 173 = .ok (.aload_n 0, 1) := by decide +kernel
theorem dX12_opens_174 : decode cX12_opens 174 = .ok (.dup, 1) := by decide +kernel
theorem dX12_opens_175 : decode cX12_opens 175 = .ok (.getfield 772, 3) := by decide +kernel
theorem dX12_opens_178 : decode cX12_opens 178 = .ok (.iconst 1, 1) := by decide +kernel
theorem dX12_opens_179 : decode cX12_opens 179 = .ok (.iadd, 1) := by decide +kernel
theorem dX12_opens_180 : decode cX12_opens 180 = .ok (.putfield 772, 3) := by decide +kernel
theorem dX12_opens_183 : decode cX12_opens 183 = .ok (.aload_n 0, 1) := by decide +kernel
theorem dX12_opens_184 : decode cX12_opens 184 = .ok (.aload_n 0, 1) := by decide +kernel
theorem dX12_opens_185 : decode cX12_opens 185 = .ok (.getfield 707, 3) := by decide +kernel
theorem dX12_opens_188 : decode cX12_opens 188 = .ok (.aload_n 0, 1) := by decide +kernel
theorem dX12_opens_189 : decode cX12_opens 189 = .ok (.getfield 775, 3) := by decide +kernel
theorem dX12_opens_192 : decode cX12_opens 192 = .ok (.if_icmp .le 10, 3) := by decide +kernel
theorem dX12_opens_202 : decode cX12_opens 202 = .ok (.aload_n 0, 1) := by decide +kernel
theorem dX12_opens_203 : decode cX12_opens 203 = .ok (.getfield 775, 3) := by decide +kernel
theorem dX12_opens_206 : decode cX12_opens 206 = .ok (.putfield 775, 3) := by decide +kernel
theorem dX12_opens_209 : decode cX12_opens 209 = .ok (.aload_n 0, 1) := by decide +kernel
theorem dX12_opens_210 : decode cX12_opens 210 = .ok (.aload_n 0, 1) := by decide +kernel
theorem dX12_opens_211 : decode cX12_opens 211 = .ok (.getfield 138, 3) := by decide +kernel
theorem dX12_opens_214 : decode cX12_opens 214 = .ok (.iload_n 1, 1) := by decide +kernel
theorem dX12_opens_215 : decode cX12_opens 215 = .ok (.iaload, 1) := by decide +kernel
theorem dX12_opens_216 : decode cX12_opens 216 = .ok (.invokevirtual 794, 3) := by decide +kernel
theorem dX12_opens_219 : decode cX12_opens 219 = .ok (.return_, 1) := by decide +kernel
theorem dX12_opens_195 : decode cX12_opens 195 = .ok (.aload_n 0, 1) := by decide +kernel
theorem dX12_opens_196 : decode cX12_opens 196 = .ok (.getfield 707, 3) := by decide +kernel
theorem dX12_opens_199 : decode cX12_opens 199 = .ok (.goto 7, 3) := by decide +kernel
theorem dX12_opens_44 : decode cX12_opens 44 = .ok (.aload_n 0, 1) := by decide +kernel
theorem dX12_opens_45 : decode cX12_opens 45 = .ok (.getfield 211, 3) := by decide +kernel
theorem dX12_opens_48 : decode cX12_opens 48 = .ok (.bipush 32, 2) := by decide +kernel
theorem dX12_opens_50 : decode cX12_opens 50 = .ok (.aload_n 0, 1) := by decide +kernel
theorem dX12_opens_51 : decode cX12_opens 51 = .ok (.getfield 707, 3) := by decide +kernel
theorem dX12_opens_54 : decode cX12_opens 54 = .ok (.imul, 1) := by decide +kernel
theorem dX12_opens_55 : decode cX12_opens 55 = .ok (.iload 4, 2) := by decide +kernel
theorem dX12_opens_57 : decode cX12_opens 57 = .ok (.iadd, 1) := by decide +kernel
theorem dX12_opens_58 : decode cX12_opens 58 = .ok (.aload_n 0, 1) := by decide +kernel
theorem dX12_opens_59 : decode cX12_opens 59 = .ok (.getfield 218, 3) := by decide +kernel
theorem dX12_opens_62 : decode cX12_opens 62 = .ok (.aload_n 0, 1) := by decide +kernel
theorem dX12_opens_63 : decode cX12_opens 63 = .ok (.getfield 698, 3) := by decide +kernel
theorem dX12_opens_66 : decode cX12_opens 66 = .ok (.iload 4, 2) := by decide +kernel
theorem dX12_opens_68 : decode cX12_opens 68 = .ok (.iadd, 1) := by decide +kernel
theorem dX12_opens_69 : decode cX12_opens 69 = .ok (.iaload, 1) := by decide +kernel
theorem dX12_opens_70 : decode cX12_opens 70 = .ok (.iastore, 1) := by decide +kernel
theorem dX12_opens_71 : decode cX12_opens 71 = .ok (.aload_n 0, 1) := by decide +kernel
theorem dX12_opens_72 : decode cX12_opens 72 = .ok (.getfield 214, 3) := by decide +kernel
theorem dX12_opens_75 : decode cX12_opens 75 = .ok (.bipush 32, 2) := by decide +kernel
theorem dX12_opens_77 : decode cX12_opens 77 = .ok (.aload_n 0, 1) := by decide +kernel
theorem dX12_opens_78 : decode cX12_opens 78 = .ok (.getfield 707, 3) := by decide +kernel
theorem dX12_opens_81 : decode cX12_opens 81 = .ok (.imul, 1) := by decide +kernel
theorem dX12_opens_82 : decode cX12_opens 82 = .ok (.iload 4, 2) := by decide +kernel
theorem dX12_opens_84 : decode cX12_opens 84 = .ok (.iadd, 1) := by decide +kernel
theorem dX12_opens_85 : decode cX12_opens 85 = .ok (.aload_n 0, 1) := by decide +kernel
theorem dX12_opens_86 : decode cX12_opens 86 = .ok (.aload_n 0, 1) := by decide +kernel
theorem dX12_opens_87 : decode cX12_opens 87 = .ok (.getfield 75, 3) := by decide +kernel
theorem dX12_opens_90 : decode cX12_opens 90 = .ok (.aload_n 0, 1) := by decide +kernel
theorem dX12_opens_91 : decode cX12_opens 91 = .ok (.getfield 153, 3) := by decide +kernel
theorem dX12_opens_94 : decode cX12_opens 94 = .ok (.aload_n 0, 1) := by decide +kernel
theorem dX12_opens_95 : decode cX12_opens 95 = .ok (.getfield 132, 3) := by decide +kernel
theorem dX12_opens_98 : decode cX12_opens 98 = .ok (.iload_n 1, 1) := by decide +kernel
theorem dX12_opens_99 : decode cX12_opens 99 = .ok (.iaload, 1) := by decide +kernel
theorem dX12_opens_100 : decode cX12_opens 100 = .ok (.iload 4, 2) := by decide +kernel
theorem dX12_opens_102 : decode cX12_opens 102 = .ok (.iadd, 1) := by decide +kernel
theorem dX12_opens_103 : decode cX12_opens 103 = .ok (.iaload, 1) := by decide +kernel
theorem dX12_opens_104 : decode cX12_opens 104 = .ok (.iaload, 1) := by decide +kernel
theorem dX12_opens_105 : decode cX12_opens 105 = .ok (.invokevirtual 525, 3) := by decide +kernel
theorem dX12_opens_108 : decode cX12_opens 108 = .ok (.bastore, 1) := by decide +kernel
theorem dX12_opens_109 : decode cX12_opens 109 = .ok (.iinc 4 1, 3) := by decide +kernel
theorem dX12_opens_112 : decode cX12_opens 112 = .ok (.goto (-79), 3) := by decide +kernel
theorem dX12_opens_9 : decode cX12_opens 9 = .ok (.aload_n 0, 1) := by decide +kernel
theorem dX12_opens_10 : decode cX12_opens 10 = .ok (.iconst 4, 1) := by decide +kernel
theorem dX12_opens_11 : decode cX12_opens 11 = .ok (.putfield 233, 3) := by decide +kernel
theorem dX12_opens_14 : decode cX12_opens 14 = .ok (.return_, 1) := by decide +kernel
set_option maxHeartbeats 6000000 in
set_option maxRecDepth 100000 in
/-- opens(m, self, node) -/
theorem R_opens (l : Launch) (G : pT) (h0 : Nat) (a : Nat → Nat) (F : Nat → Int32) (B : Nat → Nat → Int32) (m9 : Nat) (op : Nat) (tp : Nat) (q9 : Nat) (p0 : Nat) (x : Int32) (nd9 : Int32) (en : Int32) (nw : Int32) (isn : Int32) (ca : Int32) (mo : Int32) (vr : Nat → Int32) (vf : Nat → Int32) (cth : Nat → Int32) (csc : Nat → Int32) (cvl : Nat → Int32) (cnd : Nat → Int32) (hm9 : m9 < 920) (hop : op ≤ 100) (hq9 : B 41 m9 = nI q9) (hq8 : q9 ≤ 8 ∧ q9 ≤ tp ∧ tp ≤ 40000) (hp0 : B 40 m9 = nI p0) (hp5 : p0 + q9 ≤ 5000) (hpt : ∀ i : Nat, i < q9 → ∃ y t : Nat, B 47 (p0 + i) = nI y ∧ y < 5000 ∧ B 21 y = nI t ∧ t ≤ 2050) : PM l G pX0 yX12_opens cX12_opens 5 none ({ frames := 3, cells := 0, slots := 0, locals := 81 }) [.ref h0, .int (nI m9), .int x, .int nd9] (mW G h0 a (upd (upd (upd (upd (upd (upd (upd F 102 (nI op)) 111 (nI tp)) 116 en) 123 ca) 124 mo) 125 nw) 126 isn) (updA (updA (updA (updA (updA (updA B 62 cth) 63 csc) 64 cvl) 65 cnd) 66 vr) 67 vf)) (fun (v : Option Value) (u : Nat × Nat × Int32 × Int32 × Int32 × Int32 × Int32 × (Nat → Int32) × (Nat → Int32) × (Nat → Int32) × (Nat → Int32) × (Nat → Int32) × (Nat → Int32)) => v = none ∧ (If (op = 100) (u.2.2.1 = 4 ∧ u.1 = op ∧ u.2.1 = tp ∧ u.2.2.2.2.2.2.2.1 = vr ∧ u.2.2.2.2.2.2.2.2.1 = vf ∧ u.2.2.2.2.2.2.2.2.2.1 = cth ∧ u.2.2.2.2.2.2.2.2.2.2.1 = csc ∧ u.2.2.2.2.2.2.2.2.2.2.2.1 = cvl ∧ u.2.2.2.2.2.2.2.2.2.2.2.2 = cnd)) ∧ (If (op < 100) (u.2.2.1 = en ∧ u.1 = op + 1 ∧ u.2.1 = tp - q9 ∧ u.2.2.2.1 = B 42 m9 ∧ u.2.2.2.2.1 = 1 ∧ ArgV (B 68) vr u.2.2.2.2.2.2.2.1 (32 * op) (tp - q9) q9 ∧ ArgF B vf u.2.2.2.2.2.2.2.2.1 (32 * op) p0 q9 ∧ u.2.2.2.2.2.2.2.2.2.1 = upd cth op x ∧ u.2.2.2.2.2.2.2.2.2.2.1 = upd csc op (nI q9) ∧ u.2.2.2.2.2.2.2.2.2.2.2.1 = upd cvl op (nI (tp - q9)) ∧ u.2.2.2.2.2.2.2.2.2.2.2.2 = upd cnd op nd9))) (fun u => (mW G h0 a (upd (upd (upd (upd (upd (upd (upd F 102 (nI u.1)) 111 (nI u.2.1)) 116 u.2.2.1) 123 u.2.2.2.2.2.1) 124 u.2.2.2.2.2.2.1) 125 u.2.2.2.1) 126 u.2.2.2.2.1) (updA (updA (updA (updA (updA (updA B 62 u.2.2.2.2.2.2.2.2.2.1) 63 u.2.2.2.2.2.2.2.2.2.2.1) 64 u.2.2.2.2.2.2.2.2.2.2.2.1) 65 u.2.2.2.2.2.2.2.2.2.2.2.2) 66 u.2.2.2.2.2.2.2.1) 67 u.2.2.2.2.2.2.2.2.1))) := by
  intro sz
  refine Met.ofW (cc := cX12_opens) (maxL := 5) (ret := none) (by decide) rfl ?_
  intro p e s m args below meth c s₁ B9 hml hv
  obtain ⟨rfl, hsz, hP, hD0, hE, hX⟩ := hv
  have hx := B9.exec
  have hb := B9.bytes
  have hr := B9.returns
  have hts := atoms_spec (ws := Cond.code yX12_opens cX12_opens 5 none :: pw) B9.pre
  have hq : ∀ w ∈ pw, w.before _ s = true := fun w h => hts w (List.mem_cons_of_mem _ h)
  have hown : s.vm.findClass RX12 = some m.cls := findClass_of_methodNamed B9.named
  have hlocks := B9.notSynchronized
  subst hsz
  have hD := hD0.self (sz := s.heap.size)
  have hA : ∀ q : Nat, s.heap.size ≤ q → va_A (mW G h0 a (upd (upd (upd (upd (upd (upd (upd F 102 (nI op)) 111 (nI tp)) 116 en) 123 ca) 124 mo) 125 nw) 126 isn) (updA (updA (updA (updA (updA (updA B 62 cth) 63 csc) 64 cvl) 65 cnd) 66 vr) 67 vf)) s.heap.size q := fun q h => Or.inr h
  have hP : va_P G.1 pCl (mW G h0 a (upd (upd (upd (upd (upd (upd (upd F 102 (nI op)) 111 (nI tp)) 116 en) 123 ca) 124 mo) 125 nw) 126 isn) (updA (updA (updA (updA (updA (updA B 62 cth) 63 csc) 64 cvl) 65 cnd) 66 vr) 67 vf)) s.heap := hP
  generalize va_A (mW G h0 a (upd (upd (upd (upd (upd (upd (upd F 102 (nI op)) 111 (nI tp)) 116 en) 123 ca) 124 mo) 125 nw) 126 isn) (updA (updA (updA (updA (updA (updA B 62 cth) 63 csc) 64 cvl) 65 cnd) 66 vr) 67 vf)) s.heap.size = A at hD hE hA ⊢
  have hS : va_S A s.heap s.heap [] := va_S.rf
  have hl := lv_entry ([.ref h0, .int (nI m9), .int x, .int nd9]) (n := 5) (Nat.le_of_ble_eq_true rfl)
  rw [lg_entry_eq]
  generalize (lg_sl ([.ref h0, .int (nI m9), .int x, .int nd9]) ++ List.replicate (5 - (lg_sl ([.ref h0, .int (nI m9), .int x, .int nd9])).length) Slot.unset).toArray = ls at hl ⊢
  have hl : lv_has ls 5 [(0, .ref h0), (1, .int (nI m9)), (2, .int x), (3, .int nd9)] := hl
  refine lv_aload_n hx hb dX12_opens_0 rfl (lv_at hl 0 rfl) ?_
  refine r_get (v := .int (nI op)) hx hb hown hq hE hP 102 707 tFX12_102 (by decide) pw_1969 rfl dX12_opens_1 ?_
  refine lv_bipush (v := 100) hx hb dX12_opens_4 (by decide) ?_
  refine lv_icmp_ne (tgt := 15) hx hb dX12_opens_6 (by decide) (fun c1 => ?_) (fun c1 => ?_)
  · have n2 : ¬ (op = 100) := fun h9 => c1 ((nI_eq (a := op) (b := 100) (by omega) (by omega)).mpr h9)
    refine lv_aload_n hx hb dX12_opens_15 rfl (lv_at hl 0 rfl) ?_
    refine lv_dup hx hb dX12_opens_16 rfl ?_
    refine r_get (v := .int (nI tp)) hx hb hown hq hE hP 111 698 tFX12_111 (by decide) pw_1964 rfl dX12_opens_17 ?_
    refine lv_aload_n hx hb dX12_opens_20 rfl (lv_at hl 0 rfl) ?_
    refine r_get (v := .ref (a 41)) hx hb hown hq hE hP 55 135 tFX12_55 (by decide) pw_1472 rfl dX12_opens_21 ?_
    refine lv_iload_n hx hb dX12_opens_24 rfl (lv_at hl 1 rfl) ?_
    refine r_ldi (f := (B 41)) (j := m9) hx hb hE hP 41 (ma_41 G a _) rfl (by omega) (by decide) dX12_opens_25 ?_
    refine lv_topi (fun x3 e4 => ?_)
    obtain rfl : x3 = nI q9 := e4.trans hq9
    refine lv_isub hx hb dX12_opens_26 ?_
    refine lv_topi (fun x5 e6 => ?_)
    obtain rfl : x5 = nI (tp - q9) := e6.trans (nI_subN (a := q9) (b := tp) (by omega))
    refine r_put (v := (nI (tp - q9))) (ty := .int) hx hb hown hq hE hP hD hS 111 698 tFX12_111 (by decide) pw_1964 (by decide) rfl rfl (ms_111 a _ _) dX12_opens_27 (fun H locs hP hD hS => ?_)
    refine lv_iconst (v := 0) hx hb dX12_opens_30 (by decide) ?_
    refine lv_istore (lv' := [(4, .int 0), (0, .ref h0), (1, .int (nI m9)), (2, .int x), (3, .int nd9)]) hx hb dX12_opens_31 hl (by decide) rfl (fun ls hl => ?_)
    have loop_o : ∀ (n_o : Nat) (iq2 : Nat) (vr2 : Nat → Int32) (vf2 : Nat → Int32) (H : Heap) (locs : List Loc) (ls : Array Slot), iq2 ≤ q9 → q9 + 1 ≤ iq2 + n_o → (op < 100) → (ArgV (B 68) vr vr2 (32 * op) (tp - q9) iq2) → (ArgF B vf vf2 (32 * op) p0 iq2) → va_P G.1 pCl (mW G h0 a (upd (upd (upd (upd (upd (upd (upd F 102 (nI op)) 111 (nI (tp - q9))) 116 en) 123 ca) 124 mo) 125 nw) 126 isn) (updA (updA (updA (updA (updA (updA B 62 cth) 63 csc) 64 cvl) 65 cnd) 66 vr2) 67 vf2)) H → va_D A (mW G h0 a (upd (upd (upd (upd (upd (upd (upd F 102 (nI op)) 111 (nI (tp - q9))) 116 en) 123 ca) 124 mo) 125 nw) 126 isn) (updA (updA (updA (updA (updA (updA B 62 cth) 63 csc) 64 cvl) 65 cnd) 66 vr2) 67 vf2)) → va_S A s.heap H locs → lv_has ls 5 [(4, .int (nI iq2)), (3, .int nd9), (2, .int x), (1, .int (nI m9)), (0, .ref h0)] → W p l e (headSpec (Cond.code yX12_opens cX12_opens 5 none :: pw) ({ frames := 3, cells := 0, slots := 0, locals := 81 } : Room)).room s m ([.ref h0, .int (nI m9), .int x, .int nd9] : List Value).toArray below meth c H locs 0 0 (MQ below (pQ G A (fun (v : Option Value) (u : Nat × Nat × Int32 × Int32 × Int32 × Int32 × Int32 × (Nat → Int32) × (Nat → Int32) × (Nat → Int32) × (Nat → Int32) × (Nat → Int32) × (Nat → Int32)) => v = none ∧ (If (op = 100) (u.2.2.1 = 4 ∧ u.1 = op ∧ u.2.1 = tp ∧ u.2.2.2.2.2.2.2.1 = vr ∧ u.2.2.2.2.2.2.2.2.1 = vf ∧ u.2.2.2.2.2.2.2.2.2.1 = cth ∧ u.2.2.2.2.2.2.2.2.2.2.1 = csc ∧ u.2.2.2.2.2.2.2.2.2.2.2.1 = cvl ∧ u.2.2.2.2.2.2.2.2.2.2.2.2 = cnd)) ∧ (If (op < 100) (u.2.2.1 = en ∧ u.1 = op + 1 ∧ u.2.1 = tp - q9 ∧ u.2.2.2.1 = B 42 m9 ∧ u.2.2.2.2.1 = 1 ∧ ArgV (B 68) vr u.2.2.2.2.2.2.2.1 (32 * op) (tp - q9) q9 ∧ ArgF B vf u.2.2.2.2.2.2.2.2.1 (32 * op) p0 q9 ∧ u.2.2.2.2.2.2.2.2.2.1 = upd cth op x ∧ u.2.2.2.2.2.2.2.2.2.2.1 = upd csc op (nI q9) ∧ u.2.2.2.2.2.2.2.2.2.2.2.1 = upd cvl op (nI (tp - q9)) ∧ u.2.2.2.2.2.2.2.2.2.2.2.2 = upd cnd op nd9))) (fun u => (mW G h0 a (upd (upd (upd (upd (upd (upd (upd F 102 (nI u.1)) 111 (nI u.2.1)) 116 u.2.2.1) 123 u.2.2.2.2.2.1) 124 u.2.2.2.2.2.2.1) 125 u.2.2.2.1) 126 u.2.2.2.2.1) (updA (updA (updA (updA (updA (updA B 62 u.2.2.2.2.2.2.2.2.2.1) 63 u.2.2.2.2.2.2.2.2.2.2.1) 64 u.2.2.2.2.2.2.2.2.2.2.2.1) 65 u.2.2.2.2.2.2.2.2.2.2.2.2) 66 u.2.2.2.2.2.2.2.1) 67 u.2.2.2.2.2.2.2.2.1)))) ([.ref h0, .int (nI m9), .int x, .int nd9] : List Value).toArray s ({ frames := 3, cells := 0, slots := 0, locals := 81 } : Room).cells ({ frames := 3, cells := 0, slots := 0, locals := 81 } : Room).slots A) (F0 m 33 ls []) := by
      intro n_o
      induction n_o with
      | zero => intro iq2 vr2 vf2 H locs ls hk_o hn_o; omega
      | succ n_o ih_o =>
        intro iq2 vr2 vf2 H locs ls hk_o hn_o hop9 hv2 hw2 hP hD hS hl
        refine lv_iload hx hb dX12_opens_33 (lv_at hl 0 rfl) ?_
        refine lv_aload_n hx hb dX12_opens_35 rfl (lv_at hl 4 rfl) ?_
        refine r_get (v := .ref (a 41)) hx hb hown hq hE hP 55 135 tFX12_55 (by decide) pw_1472 rfl dX12_opens_36 ?_
        refine lv_iload_n hx hb dX12_opens_39 rfl (lv_at hl 3 rfl) ?_
        refine r_ldi (f := (B 41)) (j := m9) hx hb hE hP 41 (ma_41 G a _) rfl (by omega) (by decide) dX12_opens_40 ?_
        refine lv_topi (fun x7 e8 => ?_)
        obtain rfl : x7 = nI q9 := e8.trans hq9
        refine lv_icmp_ge (tgt := 115) hx hb dX12_opens_41 (by decide) (fun c9 => ?_) (fun c9 => ?_)
        · have n10 : q9 ≤ iq2 := (nI_leI (a := q9) (b := iq2) (by omega) (by omega)).mp c9
          refine lv_aload_n hx hb dX12_opens_115 rfl (lv_at hl 4 rfl) ?_
          refine r_get (v := .ref (a 62)) hx hb hown hq hE hP 103 199 tFX12_103 (by decide) pw_1494 rfl dX12_opens_116 ?_
          refine lv_aload_n hx hb dX12_opens_119 rfl (lv_at hl 4 rfl) ?_
          refine r_get (v := .int (nI op)) hx hb hown hq hE hP 102 707 tFX12_102 (by decide) pw_1969 rfl dX12_opens_120 ?_
          refine lv_iload_n hx hb dX12_opens_123 rfl (lv_at hl 2 rfl) ?_
          refine r_sti (f := cth) (j := op) hx hb hE hP hD hS 62 (ma_62 G a _) rfl (mas_62 G a _) (by omega) (by decide) dX12_opens_124 (fun H locs hP hD hS => ?_)
          refine lv_aload_n hx hb dX12_opens_125 rfl (lv_at hl 4 rfl) ?_
          refine r_get (v := .ref (a 63)) hx hb hown hq hE hP 104 202 tFX12_104 (by decide) pw_1495 rfl dX12_opens_126 ?_
          refine lv_aload_n hx hb dX12_opens_129 rfl (lv_at hl 4 rfl) ?_
          refine r_get (v := .int (nI op)) hx hb hown hq hE hP 102 707 tFX12_102 (by decide) pw_1969 rfl dX12_opens_130 ?_
          refine lv_aload_n hx hb dX12_opens_133 rfl (lv_at hl 4 rfl) ?_
          refine r_get (v := .ref (a 41)) hx hb hown hq hE hP 55 135 tFX12_55 (by decide) pw_1472 rfl dX12_opens_134 ?_
          refine lv_iload_n hx hb dX12_opens_137 rfl (lv_at hl 3 rfl) ?_
          refine r_ldi (f := (B 41)) (j := m9) hx hb hE hP 41 (ma_41 G a _) rfl (by omega) (by decide) dX12_opens_138 ?_
          refine lv_topi (fun x11 e12 => ?_)
          obtain rfl : x11 = nI q9 := e12.trans hq9
          refine r_sti (f := csc) (j := op) hx hb hE hP hD hS 63 (ma_63 G a _) rfl (mas_63 G a _) (by omega) (by decide) dX12_opens_139 (fun H locs hP hD hS => ?_)
          refine lv_aload_n hx hb dX12_opens_140 rfl (lv_at hl 4 rfl) ?_
          refine r_get (v := .ref (a 64)) hx hb hown hq hE hP 105 205 tFX12_105 (by decide) pw_1496 rfl dX12_opens_141 ?_
          refine lv_aload_n hx hb dX12_opens_144 rfl (lv_at hl 4 rfl) ?_
          refine r_get (v := .int (nI op)) hx hb hown hq hE hP 102 707 tFX12_102 (by decide) pw_1969 rfl dX12_opens_145 ?_
          refine lv_aload_n hx hb dX12_opens_148 rfl (lv_at hl 4 rfl) ?_
          refine r_get (v := .int (nI (tp - q9))) hx hb hown hq hE hP 111 698 tFX12_111 (by decide) pw_1964 rfl dX12_opens_149 ?_
          refine r_sti (f := cvl) (j := op) hx hb hE hP hD hS 64 (ma_64 G a _) rfl (mas_64 G a _) (by omega) (by decide) dX12_opens_152 (fun H locs hP hD hS => ?_)
          refine lv_aload_n hx hb dX12_opens_153 rfl (lv_at hl 4 rfl) ?_
          refine r_get (v := .ref (a 65)) hx hb hown hq hE hP 106 208 tFX12_106 (by decide) pw_1497 rfl dX12_opens_154 ?_
          refine lv_aload_n hx hb dX12_opens_157 rfl (lv_at hl 4 rfl) ?_
          refine r_get (v := .int (nI op)) hx hb hown hq hE hP 102 707 tFX12_102 (by decide) pw_1969 rfl dX12_opens_158 ?_
          refine lv_iload_n hx hb dX12_opens_161 rfl (lv_at hl 1 rfl) ?_
          refine r_sti (f := cnd) (j := op) hx hb hE hP hD hS 65 (ma_65 G a _) rfl (mas_65 G a _) (by omega) (by decide) dX12_opens_162 (fun H locs hP hD hS => ?_)
          refine lv_aload_n hx hb dX12_opens_163 rfl (lv_at hl 4 rfl) ?_
          refine lv_dup hx hb dX12_opens_164 rfl ?_
          refine r_get (v := .int (nI op)) hx hb hown hq hE hP 102 707 tFX12_102 (by decide) pw_1969 rfl dX12_opens_165 ?_
          refine lv_iconst (v := 1) hx hb dX12_opens_168 (by decide) ?_
          refine lv_iadd hx hb dX12_opens_169 ?_
          refine lv_topi (fun x13 e14 => ?_)
          obtain rfl : x13 = nI (op + 1) := e14.trans (nI_add (op) (1))
          refine r_put (v := (nI (op + 1))) (ty := .int) hx hb hown hq hE hP hD hS 102 707 tFX12_102 (by decide) pw_1969 (by decide) rfl rfl (ms_102 a _ _) dX12_opens_170 (fun H locs hP hD hS => ?_)
          refine lv_aload_n hx hb dX12_opens_173 rfl (lv_at hl 4 rfl) ?_
          refine lv_dup hx hb dX12_opens_174 rfl ?_
          refine r_get (v := .int ca) hx hb hown hq hE hP 123 772 tFX12_123 (by decide) pw_2014 rfl dX12_opens_175 ?_
          refine lv_iconst (v := 1) hx hb dX12_opens_178 (by decide) ?_
          refine lv_iadd hx hb dX12_opens_179 ?_
          refine lv_topi (fun x15 e16 => ?_)
          refine r_put (v := x15) (ty := .int) hx hb hown hq hE hP hD hS 123 772 tFX12_123 (by decide) pw_2014 (by decide) rfl rfl (ms_123 a _ _) dX12_opens_180 (fun H locs hP hD hS => ?_)
          refine lv_aload_n hx hb dX12_opens_183 rfl (lv_at hl 4 rfl) ?_
          refine lv_aload_n hx hb dX12_opens_184 rfl (lv_at hl 4 rfl) ?_
          refine r_get (v := .int (nI (op + 1))) hx hb hown hq hE hP 102 707 tFX12_102 (by decide) pw_1969 rfl dX12_opens_185 ?_
          refine lv_aload_n hx hb dX12_opens_188 rfl (lv_at hl 4 rfl) ?_
          refine r_get (v := .int mo) hx hb hown hq hE hP 124 775 tFX12_124 (by decide) pw_2015 rfl dX12_opens_189 ?_
          refine lv_icmp_le (tgt := 202) hx hb dX12_opens_192 (by decide) (fun c17 => ?_) (fun c17 => ?_)
          · refine lv_aload_n hx hb dX12_opens_202 rfl (lv_at hl 4 rfl) ?_
            refine r_get (v := .int mo) hx hb hown hq hE hP 124 775 tFX12_124 (by decide) pw_2015 rfl dX12_opens_203 ?_
            refine r_put (v := mo) (ty := .int) hx hb hown hq hE hP hD hS 124 775 tFX12_124 (by decide) pw_2015 (by decide) rfl rfl (ms_124 a _ _) dX12_opens_206 (fun H locs hP hD hS => ?_)
            refine lv_aload_n hx hb dX12_opens_209 rfl (lv_at hl 4 rfl) ?_
            refine lv_aload_n hx hb dX12_opens_210 rfl (lv_at hl 4 rfl) ?_
            refine r_get (v := .ref (a 42)) hx hb hown hq hE hP 56 138 tFX12_56 (by decide) pw_1473 rfl dX12_opens_211 ?_
            refine lv_iload_n hx hb dX12_opens_214 rfl (lv_at hl 3 rfl) ?_
            refine r_ldi (f := (B 42)) (j := m9) hx hb hE hP 42 (ma_42 G a _) rfl (by omega) (by decide) dX12_opens_215 ?_
            have hP : va_P G.1 pCl (mW G h0 a (upd (upd (upd (upd (upd (upd (upd F 102 (nI (op + 1))) 111 (nI (tp - q9))) 116 en) 123 x15) 124 mo) 125 nw) 126 isn) (updA (updA (updA (updA (updA (updA B 62 (upd cth op x)) 63 (upd csc op (nI q9))) 64 (upd cvl op (nI (tp - q9)))) 65 (upd cnd op nd9)) 66 vr2) 67 vf2)) _ := mW_to (F := F) (l1 := [(102, (nI op)), (111, (nI (tp - q9))), (116, en), (123, ca), (124, mo), (125, nw), (126, isn), (102, (nI (op + 1))), (123, x15), (124, mo)]) (l2 := [(102, (nI (op + 1))), (111, (nI (tp - q9))), (116, en), (123, x15), (124, mo), (125, nw), (126, isn)]) (V := [(nI (op + 1)), (nI (tp - q9)), en, x15, mo, nw, isn, (nI (op + 1)), x15, mo, (nI (op + 1)), (nI (tp - q9)), en, x15, mo, nw, isn]) rfl rfl (show (updA (updA (updA (updA (updA (updA (updA (updA (updA (updA B 62 cth) 63 csc) 64 cvl) 65 cnd) 66 vr2) 67 vf2) 62 (upd cth op x)) 63 (upd csc op (nI q9))) 64 (upd cvl op (nI (tp - q9)))) 65 (upd cnd op nd9)) = (updA (updA (updA (updA (updA (updA B 62 (upd cth op x)) 63 (upd csc op (nI q9))) 64 (upd cvl op (nI (tp - q9)))) 65 (upd cnd op nd9)) 66 vr2) 67 vf2) from updsA_eq2 (F := B) (l1 := [(62, cth), (63, csc), (64, cvl), (65, cnd), (66, vr2), (67, vf2), (62, (upd cth op x)), (63, (upd csc op (nI q9))), (64, (upd cvl op (nI (tp - q9)))), (65, (upd cnd op nd9))]) (l2 := [(62, (upd cth op x)), (63, (upd csc op (nI q9))), (64, (upd cvl op (nI (tp - q9)))), (65, (upd cnd op nd9)), (66, vr2), (67, vf2)]) (V := [(upd cth op x), (upd csc op (nI q9)), (upd cvl op (nI (tp - q9))), (upd cnd op nd9), vr2, vf2, (upd cth op x), (upd csc op (nI q9)), (upd cvl op (nI (tp - q9))), (upd cnd op nd9), (upd cth op x), (upd csc op (nI q9)), (upd cvl op (nI (tp - q9))), (upd cnd op nd9), vr2, vf2]) rfl rfl) hP
            have hD : va_D A (mW G h0 a (upd (upd (upd (upd (upd (upd (upd F 102 (nI (op + 1))) 111 (nI (tp - q9))) 116 en) 123 x15) 124 mo) 125 nw) 126 isn) (updA (updA (updA (updA (updA (updA B 62 (upd cth op x)) 63 (upd csc op (nI q9))) 64 (upd cvl op (nI (tp - q9)))) 65 (upd cnd op nd9)) 66 vr2) 67 vf2)) := mW_D hD
            refine pc_V0 (G := G) (As := [.int ((B 42) m9)]) (rest := []) hx hb hml hown hq hE hX pX0_al hP hD hS hA hl.1 (R_begin l G h0 a (upd (upd (upd (upd (upd (upd (upd F 102 (nI (op + 1))) 111 (nI (tp - q9))) 116 en) 123 x15) 124 mo) 125 nw) 126 isn) (updA (updA (updA (updA (updA (updA B 62 (upd cth op x)) 63 (upd csc op (nI q9))) 64 (upd cvl op (nI (tp - q9)))) 65 (upd cnd op nd9)) 66 vr2) 67 vf2) ((B 42) m9)) (gV pw_2016 pw_2017 pw_2018 pw_1523 pw_2002) hV_X12_begin 0 9 rfl rfl rfl rfl (Nat.le_of_ble_eq_true rfl) dX12_opens_216 ⟨Nat.le_of_ble_eq_true rfl, Nat.le_of_ble_eq_true rfl⟩ ⟨Nat.le_of_ble_eq_true rfl, Nat.le_of_ble_eq_true rfl⟩ (fun v20 u18 H locs hw19 hP hD hS => ?_)
            obtain rfl : v20 = none := hw19
            have hP : va_P G.1 pCl (mW G h0 a (upd (upd (upd (upd (upd (upd (upd F 102 (nI (op + 1))) 111 (nI (tp - q9))) 116 en) 123 x15) 124 mo) 125 ((B 42) m9)) 126 1) (updA (updA (updA (updA (updA (updA B 62 (upd cth op x)) 63 (upd csc op (nI q9))) 64 (upd cvl op (nI (tp - q9)))) 65 (upd cnd op nd9)) 66 vr2) 67 vf2)) _ := mW_to (F := F) (l1 := [(102, (nI (op + 1))), (111, (nI (tp - q9))), (116, en), (123, x15), (124, mo), (125, nw), (126, isn), (125, ((B 42) m9)), (126, 1)]) (l2 := [(102, (nI (op + 1))), (111, (nI (tp - q9))), (116, en), (123, x15), (124, mo), (125, ((B 42) m9)), (126, 1)]) (V := [(nI (op + 1)), (nI (tp - q9)), en, x15, mo, ((B 42) m9), 1, ((B 42) m9), 1, (nI (op + 1)), (nI (tp - q9)), en, x15, mo, ((B 42) m9), 1]) rfl rfl rfl hP
            have hD : va_D A (mW G h0 a (upd (upd (upd (upd (upd (upd (upd F 102 (nI (op + 1))) 111 (nI (tp - q9))) 116 en) 123 x15) 124 mo) 125 ((B 42) m9)) 126 1) (updA (updA (updA (updA (updA (updA B 62 (upd cth op x)) 63 (upd csc op (nI q9))) 64 (upd cvl op (nI (tp - q9)))) 65 (upd cnd op nd9)) 66 vr2) 67 vf2)) := mW_D hD
            refine W.widen (k := 0) (n := 0) (Nat.le_of_ble_eq_true rfl) (Nat.le_of_ble_eq_true rfl) ?_
            refine W.eq (g2 := F0 m 219 ls []) rfl ?_
            have hz21 : If (op = 100) (en = 4 ∧ (op + 1) = op ∧ (tp - q9) = tp ∧ vr2 = vr ∧ vf2 = vf ∧ (upd cth op x) = cth ∧ (upd csc op (nI q9)) = csc ∧ (upd cvl op (nI (tp - q9))) = cvl ∧ (upd cnd op nd9) = cnd) := (fun e => absurd e (by omega))
            have hz22 : If (op < 100) (en = en ∧ (op + 1) = op + 1 ∧ (tp - q9) = tp - q9 ∧ ((B 42) m9) = B 42 m9 ∧ (1 : Int32) = 1 ∧ ArgV (B 68) vr vr2 (32 * op) (tp - q9) q9 ∧ ArgF B vf vf2 (32 * op) p0 q9 ∧ (upd cth op x) = upd cth op x ∧ (upd csc op (nI q9)) = upd csc op (nI q9) ∧ (upd cvl op (nI (tp - q9))) = upd cvl op (nI (tp - q9)) ∧ (upd cnd op nd9) = upd cnd op nd9) := (fun _ => ⟨rfl, rfl, rfl, rfl, rfl, (show iq2 = q9 by omega) ▸ hv2, (show iq2 = q9 by omega) ▸ hw2, rfl, rfl, rfl, rfl⟩)
            have hP : va_P G.1 pCl (mW G h0 a (upd (upd (upd (upd (upd (upd (upd F 102 (nI (op + 1))) 111 (nI (tp - q9))) 116 en) 123 x15) 124 mo) 125 ((B 42) m9)) 126 (1 : Int32)) (updA (updA (updA (updA (updA (updA B 62 (upd cth op x)) 63 (upd csc op (nI q9))) 64 (upd cvl op (nI (tp - q9)))) 65 (upd cnd op nd9)) 66 vr2) 67 vf2)) _ := mW_to (F := F) (l1 := [(102, (nI (op + 1))), (111, (nI (tp - q9))), (116, en), (123, x15), (124, mo), (125, ((B 42) m9)), (126, 1)]) (l2 := [(102, (nI (op + 1))), (111, (nI (tp - q9))), (116, en), (123, x15), (124, mo), (125, ((B 42) m9)), (126, (1 : Int32))]) (V := [(nI (op + 1)), (nI (tp - q9)), en, x15, mo, ((B 42) m9), (1 : Int32), (nI (op + 1)), (nI (tp - q9)), en, x15, mo, ((B 42) m9), (1 : Int32)]) rfl rfl rfl hP
            have hD : va_D A (mW G h0 a (upd (upd (upd (upd (upd (upd (upd F 102 (nI (op + 1))) 111 (nI (tp - q9))) 116 en) 123 x15) 124 mo) 125 ((B 42) m9)) 126 (1 : Int32)) (updA (updA (updA (updA (updA (updA B 62 (upd cth op x)) 63 (upd csc op (nI q9))) 64 (upd cvl op (nI (tp - q9)))) 65 (upd cnd op nd9)) 66 vr2) 67 vf2)) := mW_D hD
            exact W.vret hx hb hr (fun t9 ht9 hW9 => ⟨⟨_, ((op + 1), (tp - q9), en, ((B 42) m9), (1 : Int32), x15, mo, vr2, vf2, (upd cth op x), (upd csc op (nI q9)), (upd cvl op (nI (tp - q9))), (upd cnd op nd9)), rfl, ⟨rfl, hz21, hz22⟩, by rw [ht9]; exact hP, hD⟩, hS.F ht9⟩) hS.2.2 dX12_opens_219
          · refine lv_aload_n hx hb dX12_opens_195 rfl (lv_at hl 4 rfl) ?_
            refine r_get (v := .int (nI (op + 1))) hx hb hown hq hE hP 102 707 tFX12_102 (by decide) pw_1969 rfl dX12_opens_196 ?_
            refine lv_goto (tgt := 206) hx hb dX12_opens_199 (by decide) ?_
            refine r_put (v := (nI (op + 1))) (ty := .int) hx hb hown hq hE hP hD hS 124 775 tFX12_124 (by decide) pw_2015 (by decide) rfl rfl (ms_124 a _ _) dX12_opens_206 (fun H locs hP hD hS => ?_)
            refine lv_aload_n hx hb dX12_opens_209 rfl (lv_at hl 4 rfl) ?_
            refine lv_aload_n hx hb dX12_opens_210 rfl (lv_at hl 4 rfl) ?_
            refine r_get (v := .ref (a 42)) hx hb hown hq hE hP 56 138 tFX12_56 (by decide) pw_1473 rfl dX12_opens_211 ?_
            refine lv_iload_n hx hb dX12_opens_214 rfl (lv_at hl 3 rfl) ?_
            refine r_ldi (f := (B 42)) (j := m9) hx hb hE hP 42 (ma_42 G a _) rfl (by omega) (by decide) dX12_opens_215 ?_
            have hP : va_P G.1 pCl (mW G h0 a (upd (upd (upd (upd (upd (upd (upd F 102 (nI (op + 1))) 111 (nI (tp - q9))) 116 en) 123 x15) 124 (nI (op + 1))) 125 nw) 126 isn) (updA (updA (updA (updA (updA (updA B 62 (upd cth op x)) 63 (upd csc op (nI q9))) 64 (upd cvl op (nI (tp - q9)))) 65 (upd cnd op nd9)) 66 vr2) 67 vf2)) _ := mW_to (F := F) (l1 := [(102, (nI op)), (111, (nI (tp - q9))), (116, en), (123, ca), (124, mo), (125, nw), (126, isn), (102, (nI (op + 1))), (123, x15), (124, (nI (op + 1)))]) (l2 := [(102, (nI (op + 1))), (111, (nI (tp - q9))), (116, en), (123, x15), (124, (nI (op + 1))), (125, nw), (126, isn)]) (V := [(nI (op + 1)), (nI (tp - q9)), en, x15, (nI (op + 1)), nw, isn, (nI (op + 1)), x15, (nI (op + 1)), (nI (op + 1)), (nI (tp - q9)), en, x15, (nI (op + 1)), nw, isn]) rfl rfl (show (updA (updA (updA (updA (updA (updA (updA (updA (updA (updA B 62 cth) 63 csc) 64 cvl) 65 cnd) 66 vr2) 67 vf2) 62 (upd cth op x)) 63 (upd csc op (nI q9))) 64 (upd cvl op (nI (tp - q9)))) 65 (upd cnd op nd9)) = (updA (updA (updA (updA (updA (updA B 62 (upd cth op x)) 63 (upd csc op (nI q9))) 64 (upd cvl op (nI (tp - q9)))) 65 (upd cnd op nd9)) 66 vr2) 67 vf2) from updsA_eq2 (F := B) (l1 := [(62, cth), (63, csc), (64, cvl), (65, cnd), (66, vr2), (67, vf2), (62, (upd cth op x)), (63, (upd csc op (nI q9))), (64, (upd cvl op (nI (tp - q9)))), (65, (upd cnd op nd9))]) (l2 := [(62, (upd cth op x)), (63, (upd csc op (nI q9))), (64, (upd cvl op (nI (tp - q9)))), (65, (upd cnd op nd9)), (66, vr2), (67, vf2)]) (V := [(upd cth op x), (upd csc op (nI q9)), (upd cvl op (nI (tp - q9))), (upd cnd op nd9), vr2, vf2, (upd cth op x), (upd csc op (nI q9)), (upd cvl op (nI (tp - q9))), (upd cnd op nd9), (upd cth op x), (upd csc op (nI q9)), (upd cvl op (nI (tp - q9))), (upd cnd op nd9), vr2, vf2]) rfl rfl) hP
            have hD : va_D A (mW G h0 a (upd (upd (upd (upd (upd (upd (upd F 102 (nI (op + 1))) 111 (nI (tp - q9))) 116 en) 123 x15) 124 (nI (op + 1))) 125 nw) 126 isn) (updA (updA (updA (updA (updA (updA B 62 (upd cth op x)) 63 (upd csc op (nI q9))) 64 (upd cvl op (nI (tp - q9)))) 65 (upd cnd op nd9)) 66 vr2) 67 vf2)) := mW_D hD
            refine pc_V0 (G := G) (As := [.int ((B 42) m9)]) (rest := []) hx hb hml hown hq hE hX pX0_al hP hD hS hA hl.1 (R_begin l G h0 a (upd (upd (upd (upd (upd (upd (upd F 102 (nI (op + 1))) 111 (nI (tp - q9))) 116 en) 123 x15) 124 (nI (op + 1))) 125 nw) 126 isn) (updA (updA (updA (updA (updA (updA B 62 (upd cth op x)) 63 (upd csc op (nI q9))) 64 (upd cvl op (nI (tp - q9)))) 65 (upd cnd op nd9)) 66 vr2) 67 vf2) ((B 42) m9)) (gV pw_2016 pw_2017 pw_2018 pw_1523 pw_2002) hV_X12_begin 0 9 rfl rfl rfl rfl (Nat.le_of_ble_eq_true rfl) dX12_opens_216 ⟨Nat.le_of_ble_eq_true rfl, Nat.le_of_ble_eq_true rfl⟩ ⟨Nat.le_of_ble_eq_true rfl, Nat.le_of_ble_eq_true rfl⟩ (fun v25 u23 H locs hw24 hP hD hS => ?_)
            obtain rfl : v25 = none := hw24
            have hP : va_P G.1 pCl (mW G h0 a (upd (upd (upd (upd (upd (upd (upd F 102 (nI (op + 1))) 111 (nI (tp - q9))) 116 en) 123 x15) 124 (nI (op + 1))) 125 ((B 42) m9)) 126 1) (updA (updA (updA (updA (updA (updA B 62 (upd cth op x)) 63 (upd csc op (nI q9))) 64 (upd cvl op (nI (tp - q9)))) 65 (upd cnd op nd9)) 66 vr2) 67 vf2)) _ := mW_to (F := F) (l1 := [(102, (nI (op + 1))), (111, (nI (tp - q9))), (116, en), (123, x15), (124, (nI (op + 1))), (125, nw), (126, isn), (125, ((B 42) m9)), (126, 1)]) (l2 := [(102, (nI (op + 1))), (111, (nI (tp - q9))), (116, en), (123, x15), (124, (nI (op + 1))), (125, ((B 42) m9)), (126, 1)]) (V := [(nI (op + 1)), (nI (tp - q9)), en, x15, (nI (op + 1)), ((B 42) m9), 1, ((B 42) m9), 1, (nI (op + 1)), (nI (tp - q9)), en, x15, (nI (op + 1)), ((B 42) m9), 1]) rfl rfl rfl hP
            have hD : va_D A (mW G h0 a (upd (upd (upd (upd (upd (upd (upd F 102 (nI (op + 1))) 111 (nI (tp - q9))) 116 en) 123 x15) 124 (nI (op + 1))) 125 ((B 42) m9)) 126 1) (updA (updA (updA (updA (updA (updA B 62 (upd cth op x)) 63 (upd csc op (nI q9))) 64 (upd cvl op (nI (tp - q9)))) 65 (upd cnd op nd9)) 66 vr2) 67 vf2)) := mW_D hD
            refine W.widen (k := 0) (n := 0) (Nat.le_of_ble_eq_true rfl) (Nat.le_of_ble_eq_true rfl) ?_
            refine W.eq (g2 := F0 m 219 ls []) rfl ?_
            have hz26 : If (op = 100) (en = 4 ∧ (op + 1) = op ∧ (tp - q9) = tp ∧ vr2 = vr ∧ vf2 = vf ∧ (upd cth op x) = cth ∧ (upd csc op (nI q9)) = csc ∧ (upd cvl op (nI (tp - q9))) = cvl ∧ (upd cnd op nd9) = cnd) := (fun e => absurd e (by omega))
            have hz27 : If (op < 100) (en = en ∧ (op + 1) = op + 1 ∧ (tp - q9) = tp - q9 ∧ ((B 42) m9) = B 42 m9 ∧ (1 : Int32) = 1 ∧ ArgV (B 68) vr vr2 (32 * op) (tp - q9) q9 ∧ ArgF B vf vf2 (32 * op) p0 q9 ∧ (upd cth op x) = upd cth op x ∧ (upd csc op (nI q9)) = upd csc op (nI q9) ∧ (upd cvl op (nI (tp - q9))) = upd cvl op (nI (tp - q9)) ∧ (upd cnd op nd9) = upd cnd op nd9) := (fun _ => ⟨rfl, rfl, rfl, rfl, rfl, (show iq2 = q9 by omega) ▸ hv2, (show iq2 = q9 by omega) ▸ hw2, rfl, rfl, rfl, rfl⟩)
            have hP : va_P G.1 pCl (mW G h0 a (upd (upd (upd (upd (upd (upd (upd F 102 (nI (op + 1))) 111 (nI (tp - q9))) 116 en) 123 x15) 124 (nI (op + 1))) 125 ((B 42) m9)) 126 (1 : Int32)) (updA (updA (updA (updA (updA (updA B 62 (upd cth op x)) 63 (upd csc op (nI q9))) 64 (upd cvl op (nI (tp - q9)))) 65 (upd cnd op nd9)) 66 vr2) 67 vf2)) _ := mW_to (F := F) (l1 := [(102, (nI (op + 1))), (111, (nI (tp - q9))), (116, en), (123, x15), (124, (nI (op + 1))), (125, ((B 42) m9)), (126, 1)]) (l2 := [(102, (nI (op + 1))), (111, (nI (tp - q9))), (116, en), (123, x15), (124, (nI (op + 1))), (125, ((B 42) m9)), (126, (1 : Int32))]) (V := [(nI (op + 1)), (nI (tp - q9)), en, x15, (nI (op + 1)), ((B 42) m9), (1 : Int32), (nI (op + 1)), (nI (tp - q9)), en, x15, (nI (op + 1)), ((B 42) m9), (1 : Int32)]) rfl rfl rfl hP
            have hD : va_D A (mW G h0 a (upd (upd (upd (upd (upd (upd (upd F 102 (nI (op + 1))) 111 (nI (tp - q9))) 116 en) 123 x15) 124 (nI (op + 1))) 125 ((B 42) m9)) 126 (1 : Int32)) (updA (updA (updA (updA (updA (updA B 62 (upd cth op x)) 63 (upd csc op (nI q9))) 64 (upd cvl op (nI (tp - q9)))) 65 (upd cnd op nd9)) 66 vr2) 67 vf2)) := mW_D hD
            exact W.vret hx hb hr (fun t9 ht9 hW9 => ⟨⟨_, ((op + 1), (tp - q9), en, ((B 42) m9), (1 : Int32), x15, (nI (op + 1)), vr2, vf2, (upd cth op x), (upd csc op (nI q9)), (upd cvl op (nI (tp - q9))), (upd cnd op nd9)), rfl, ⟨rfl, hz26, hz27⟩, by rw [ht9]; exact hP, hD⟩, hS.F ht9⟩) hS.2.2 dX12_opens_219
        · have n28 : ¬ (q9 ≤ iq2) := fun h9 => c9 ((nI_leI (a := q9) (b := iq2) (by omega) (by omega)).mpr h9)
          refine lv_aload_n hx hb dX12_opens_44 rfl (lv_at hl 4 rfl) ?_
          refine r_get (v := .ref (a 66)) hx hb hown hq hE hP 107 211 tFX12_107 (by decide) pw_1498 rfl dX12_opens_45 ?_
          refine lv_bipush (v := 32) hx hb dX12_opens_48 (by decide) ?_
          refine lv_aload_n hx hb dX12_opens_50 rfl (lv_at hl 4 rfl) ?_
          refine r_get (v := .int (nI op)) hx hb hown hq hE hP 102 707 tFX12_102 (by decide) pw_1969 rfl dX12_opens_51 ?_
          refine lv_imul hx hb dX12_opens_54 ?_
          refine lv_topi (fun x29 e30 => ?_)
          obtain rfl : x29 = nI (32 * op) := e30.trans (nI_mulN (32) (op))
          refine lv_iload hx hb dX12_opens_55 (lv_at hl 0 rfl) ?_
          refine lv_iadd hx hb dX12_opens_57 ?_
          refine lv_topi (fun x31 e32 => ?_)
          obtain rfl : x31 = nI ((32 * op) + iq2) := e32.trans (nI_add ((32 * op)) (iq2))
          refine lv_aload_n hx hb dX12_opens_58 rfl (lv_at hl 4 rfl) ?_
          refine r_get (v := .ref (a 68)) hx hb hown hq hE hP 109 218 tFX12_109 (by decide) pw_1501 rfl dX12_opens_59 ?_
          refine lv_aload_n hx hb dX12_opens_62 rfl (lv_at hl 4 rfl) ?_
          refine r_get (v := .int (nI (tp - q9))) hx hb hown hq hE hP 111 698 tFX12_111 (by decide) pw_1964 rfl dX12_opens_63 ?_
          refine lv_iload hx hb dX12_opens_66 (lv_at hl 0 rfl) ?_
          refine lv_iadd hx hb dX12_opens_68 ?_
          refine lv_topi (fun x33 e34 => ?_)
          obtain rfl : x33 = nI ((tp - q9) + iq2) := e34.trans (nI_add ((tp - q9)) (iq2))
          refine r_ldi (f := (B 68)) (j := ((tp - q9) + iq2)) hx hb hE hP 68 (ma_68 G a _) rfl (by omega) (by decide) dX12_opens_69 ?_
          refine r_sti (f := vr2) (j := ((32 * op) + iq2)) hx hb hE hP hD hS 66 (ma_66 G a _) rfl (mas_66 G a _) (by omega) (by decide) dX12_opens_70 (fun H locs hP hD hS => ?_)
          refine lv_aload_n hx hb dX12_opens_71 rfl (lv_at hl 4 rfl) ?_
          refine r_get (v := .ref (a 67)) hx hb hown hq hE hP 108 214 tFX12_108 (by decide) pw_1499 rfl dX12_opens_72 ?_
          refine lv_bipush (v := 32) hx hb dX12_opens_75 (by decide) ?_
          refine lv_aload_n hx hb dX12_opens_77 rfl (lv_at hl 4 rfl) ?_
          refine r_get (v := .int (nI op)) hx hb hown hq hE hP 102 707 tFX12_102 (by decide) pw_1969 rfl dX12_opens_78 ?_
          refine lv_imul hx hb dX12_opens_81 ?_
          refine lv_topi (fun x35 e36 => ?_)
          obtain rfl : x35 = nI (32 * op) := e36.trans (nI_mulN (32) (op))
          refine lv_iload hx hb dX12_opens_82 (lv_at hl 0 rfl) ?_
          refine lv_iadd hx hb dX12_opens_84 ?_
          refine lv_topi (fun x37 e38 => ?_)
          obtain rfl : x37 = nI ((32 * op) + iq2) := e38.trans (nI_add ((32 * op)) (iq2))
          refine lv_aload_n hx hb dX12_opens_85 rfl (lv_at hl 4 rfl) ?_
          refine lv_aload_n hx hb dX12_opens_86 rfl (lv_at hl 4 rfl) ?_
          refine r_get (v := .ref (a 21)) hx hb hown hq hE hP 30 75 tFX12_30 (by decide) pw_1452 rfl dX12_opens_87 ?_
          refine lv_aload_n hx hb dX12_opens_90 rfl (lv_at hl 4 rfl) ?_
          refine r_get (v := .ref (a 47)) hx hb hown hq hE hP 63 153 tFX12_63 (by decide) pw_1478 rfl dX12_opens_91 ?_
          refine lv_aload_n hx hb dX12_opens_94 rfl (lv_at hl 4 rfl) ?_
          refine r_get (v := .ref (a 40)) hx hb hown hq hE hP 54 132 tFX12_54 (by decide) pw_1471 rfl dX12_opens_95 ?_
          refine lv_iload_n hx hb dX12_opens_98 rfl (lv_at hl 3 rfl) ?_
          refine r_ldi (f := (B 40)) (j := m9) hx hb hE hP 40 (ma_40 G a _) rfl (by omega) (by decide) dX12_opens_99 ?_
          refine lv_topi (fun x39 e40 => ?_)
          obtain rfl : x39 = nI p0 := e40.trans hp0
          refine lv_iload hx hb dX12_opens_100 (lv_at hl 0 rfl) ?_
          refine lv_iadd hx hb dX12_opens_102 ?_
          refine lv_topi (fun x41 e42 => ?_)
          obtain rfl : x41 = nI (p0 + iq2) := e42.trans (nI_add (p0) (iq2))
          refine r_ldi (f := (B 47)) (j := (p0 + iq2)) hx hb hE hP 47 (ma_47 G a _) rfl (by omega) (by decide) dX12_opens_103 ?_
          obtain ⟨y43, t44, e45, h46, e47, h48⟩ := hpt iq2 (by omega)
          refine lv_topi (fun x49 e50 => ?_)
          obtain rfl : x49 = nI y43 := e50.trans e45
          refine r_ldi (f := (B 21)) (j := y43) hx hb hE hP 21 (ma_21 G a _) rfl (by omega) (by decide) dX12_opens_104 ?_
          refine lv_topi (fun x51 e52 => ?_)
          obtain rfl : x51 = nI t44 := e52.trans e47
          have hP : va_P G.1 pCl (mW G h0 a (upd (upd (upd (upd (upd (upd (upd F 102 (nI op)) 111 (nI (tp - q9))) 116 en) 123 ca) 124 mo) 125 nw) 126 isn) (updA (updA (updA (updA (updA (updA B 62 cth) 63 csc) 64 cvl) 65 cnd) 66 (upd vr2 ((32 * op) + iq2) ((B 68) ((tp - q9) + iq2)))) 67 vf2)) _ := mW_to (F := F) (l1 := [(102, (nI op)), (111, (nI (tp - q9))), (116, en), (123, ca), (124, mo), (125, nw), (126, isn)]) (l2 := [(102, (nI op)), (111, (nI (tp - q9))), (116, en), (123, ca), (124, mo), (125, nw), (126, isn)]) (V := [(nI op), (nI (tp - q9)), en, ca, mo, nw, isn, (nI op), (nI (tp - q9)), en, ca, mo, nw, isn]) rfl rfl (show (updA (updA (updA (updA (updA (updA (updA B 62 cth) 63 csc) 64 cvl) 65 cnd) 66 vr2) 67 vf2) 66 (upd vr2 ((32 * op) + iq2) ((B 68) ((tp - q9) + iq2)))) = (updA (updA (updA (updA (updA (updA B 62 cth) 63 csc) 64 cvl) 65 cnd) 66 (upd vr2 ((32 * op) + iq2) ((B 68) ((tp - q9) + iq2)))) 67 vf2) from updsA_eq2 (F := B) (l1 := [(62, cth), (63, csc), (64, cvl), (65, cnd), (66, vr2), (67, vf2), (66, (upd vr2 ((32 * op) + iq2) ((B 68) ((tp - q9) + iq2))))]) (l2 := [(62, cth), (63, csc), (64, cvl), (65, cnd), (66, (upd vr2 ((32 * op) + iq2) ((B 68) ((tp - q9) + iq2)))), (67, vf2)]) (V := [cth, csc, cvl, cnd, (upd vr2 ((32 * op) + iq2) ((B 68) ((tp - q9) + iq2))), vf2, (upd vr2 ((32 * op) + iq2) ((B 68) ((tp - q9) + iq2))), cth, csc, cvl, cnd, (upd vr2 ((32 * op) + iq2) ((B 68) ((tp - q9) + iq2))), vf2]) rfl rfl) hP
          have hD : va_D A (mW G h0 a (upd (upd (upd (upd (upd (upd (upd F 102 (nI op)) 111 (nI (tp - q9))) 116 en) 123 ca) 124 mo) 125 nw) 126 isn) (updA (updA (updA (updA (updA (updA B 62 cth) 63 csc) 64 cvl) 65 cnd) 66 (upd vr2 ((32 * op) + iq2) ((B 68) ((tp - q9) + iq2)))) 67 vf2)) := mW_D hD
          refine pc_V0 (G := G) (As := [.int (nI t44)]) (rest := [.int (nI ((32 * op) + iq2)), .ref (a 67)]) hx hb hml hown hq hE hX pX0_al hP hD hS hA hl.1 (R_isReference l G h0 a (upd (upd (upd (upd (upd (upd (upd F 102 (nI op)) 111 (nI (tp - q9))) 116 en) 123 ca) 124 mo) 125 nw) 126 isn) (updA (updA (updA (updA (updA (updA B 62 cth) 63 csc) 64 cvl) 65 cnd) 66 (upd vr2 ((32 * op) + iq2) ((B 68) ((tp - q9) + iq2)))) 67 vf2) t44 (by omega)) (gV pw_1783 pw_1784 pw_1785 pw_1523 pw_1779) hV_X12_isReference 0 9 rfl rfl rfl rfl (Nat.le_of_ble_eq_true rfl) dX12_opens_105 ⟨Nat.le_of_ble_eq_true rfl, Nat.le_of_ble_eq_true rfl⟩ ⟨Nat.le_of_ble_eq_true rfl, Nat.le_of_ble_eq_true rfl⟩ (fun v55 u53 H locs hw54 hP hD hS => ?_)
          obtain ⟨r56, rfl⟩ : ∃ z, z = u53 := ⟨_, rfl⟩
          obtain ⟨hw54, h57, h58, h59⟩ := hw54
          replace h57 : r56 ≤ 1 := h57
          replace h58 : 3 * r56 ≤ t44 := h58
          replace h59 : t44 ≤ 2 + 9000 * r56 := h59
          obtain rfl : v55 = some (.int (nI r56)) := hw54
          have hP : va_P G.1 pCl (mW G h0 a (upd (upd (upd (upd (upd (upd (upd F 102 (nI op)) 111 (nI (tp - q9))) 116 en) 123 ca) 124 mo) 125 nw) 126 isn) (updA (updA (updA (updA (updA (updA B 62 cth) 63 csc) 64 cvl) 65 cnd) 66 (upd vr2 ((32 * op) + iq2) ((B 68) ((tp - q9) + iq2)))) 67 vf2)) _ := hP
          have hD : va_D A (mW G h0 a (upd (upd (upd (upd (upd (upd (upd F 102 (nI op)) 111 (nI (tp - q9))) 116 en) 123 ca) 124 mo) 125 nw) 126 isn) (updA (updA (updA (updA (updA (updA B 62 cth) 63 csc) 64 cvl) 65 cnd) 66 (upd vr2 ((32 * op) + iq2) ((B 68) ((tp - q9) + iq2)))) 67 vf2)) := mW_D hD
          refine W.widen (k := 0) (n := 0) (Nat.le_of_ble_eq_true rfl) (Nat.le_of_ble_eq_true rfl) ?_
          refine W.eq (g2 := F0 m 108 ls [.int (nI r56), .int (nI ((32 * op) + iq2)), .ref (a 67)]) rfl ?_
          refine r_stz (f := vf2) (j := ((32 * op) + iq2)) hx hb hE hP hD hS 67 (ma_67 G a _) rfl (mas_67 G a _) (by omega) (by decide) dX12_opens_108 (fun H locs hP hD hS => ?_)
          refine lv_iinc (v := (nI (iq2 + 1))) (lv' := [(4, .int (nI (iq2 + 1))), (3, .int nd9), (2, .int x), (1, .int (nI m9)), (0, .ref h0)]) hx hb dX12_opens_109 hl (k := 0) rfl (nI_1 iq2) (by decide) rfl (fun ls hl => ?_)
          refine lv_goto (tgt := 33) hx hb dX12_opens_112 (by decide) ?_
          have hP : va_P G.1 pCl (mW G h0 a (upd (upd (upd (upd (upd (upd (upd F 102 (nI op)) 111 (nI (tp - q9))) 116 en) 123 ca) 124 mo) 125 nw) 126 isn) (updA (updA (updA (updA (updA (updA B 62 cth) 63 csc) 64 cvl) 65 cnd) 66 (upd vr2 ((32 * op) + iq2) ((B 68) ((tp - q9) + iq2)))) 67 (upd vf2 ((32 * op) + iq2) (vp_nar .boolean (nI r56))))) _ := mW_to (F := F) (l1 := [(102, (nI op)), (111, (nI (tp - q9))), (116, en), (123, ca), (124, mo), (125, nw), (126, isn)]) (l2 := [(102, (nI op)), (111, (nI (tp - q9))), (116, en), (123, ca), (124, mo), (125, nw), (126, isn)]) (V := [(nI op), (nI (tp - q9)), en, ca, mo, nw, isn, (nI op), (nI (tp - q9)), en, ca, mo, nw, isn]) rfl rfl (show (updA (updA (updA (updA (updA (updA (updA B 62 cth) 63 csc) 64 cvl) 65 cnd) 66 (upd vr2 ((32 * op) + iq2) ((B 68) ((tp - q9) + iq2)))) 67 vf2) 67 (upd vf2 ((32 * op) + iq2) (vp_nar .boolean (nI r56)))) = (updA (updA (updA (updA (updA (updA B 62 cth) 63 csc) 64 cvl) 65 cnd) 66 (upd vr2 ((32 * op) + iq2) ((B 68) ((tp - q9) + iq2)))) 67 (upd vf2 ((32 * op) + iq2) (vp_nar .boolean (nI r56)))) from updsA_eq2 (F := B) (l1 := [(62, cth), (63, csc), (64, cvl), (65, cnd), (66, (upd vr2 ((32 * op) + iq2) ((B 68) ((tp - q9) + iq2)))), (67, vf2), (67, (upd vf2 ((32 * op) + iq2) (vp_nar .boolean (nI r56))))]) (l2 := [(62, cth), (63, csc), (64, cvl), (65, cnd), (66, (upd vr2 ((32 * op) + iq2) ((B 68) ((tp - q9) + iq2)))), (67, (upd vf2 ((32 * op) + iq2) (vp_nar .boolean (nI r56))))]) (V := [cth, csc, cvl, cnd, (upd vr2 ((32 * op) + iq2) ((B 68) ((tp - q9) + iq2))), (upd vf2 ((32 * op) + iq2) (vp_nar .boolean (nI r56))), (upd vf2 ((32 * op) + iq2) (vp_nar .boolean (nI r56))), cth, csc, cvl, cnd, (upd vr2 ((32 * op) + iq2) ((B 68) ((tp - q9) + iq2))), (upd vf2 ((32 * op) + iq2) (vp_nar .boolean (nI r56)))]) rfl rfl) hP
          have hD : va_D A (mW G h0 a (upd (upd (upd (upd (upd (upd (upd F 102 (nI op)) 111 (nI (tp - q9))) 116 en) 123 ca) 124 mo) 125 nw) 126 isn) (updA (updA (updA (updA (updA (updA B 62 cth) 63 csc) 64 cvl) 65 cnd) 66 (upd vr2 ((32 * op) + iq2) ((B 68) ((tp - q9) + iq2)))) 67 (upd vf2 ((32 * op) + iq2) (vp_nar .boolean (nI r56))))) := mW_D hD
          exact ih_o (iq2 + 1) (upd vr2 ((32 * op) + iq2) ((B 68) ((tp - q9) + iq2))) (upd vf2 ((32 * op) + iq2) (vp_nar .boolean (nI r56))) _ _ _ (by omega) (by omega) (by omega) (ArgV.succ hv2) (by rw [vp_bit (by omega)]; exact ArgF.succ hw2 e45 (by omega) e47 h48 ⟨by omega, by omega, by omega⟩) hP hD hS (lv_sub hl [0, 1, 2, 3, 4] rfl)
    have hP : va_P G.1 pCl (mW G h0 a (upd (upd (upd (upd (upd (upd (upd F 102 (nI op)) 111 (nI (tp - q9))) 116 en) 123 ca) 124 mo) 125 nw) 126 isn) (updA (updA (updA (updA (updA (updA B 62 cth) 63 csc) 64 cvl) 65 cnd) 66 vr) 67 vf)) _ := mW_to (F := F) (l1 := [(102, (nI op)), (111, (nI tp)), (116, en), (123, ca), (124, mo), (125, nw), (126, isn), (111, (nI (tp - q9)))]) (l2 := [(102, (nI op)), (111, (nI (tp - q9))), (116, en), (123, ca), (124, mo), (125, nw), (126, isn)]) (V := [(nI op), (nI (tp - q9)), en, ca, mo, nw, isn, (nI (tp - q9)), (nI op), (nI (tp - q9)), en, ca, mo, nw, isn]) rfl rfl rfl hP
    have hD : va_D A (mW G h0 a (upd (upd (upd (upd (upd (upd (upd F 102 (nI op)) 111 (nI (tp - q9))) 116 en) 123 ca) 124 mo) 125 nw) 126 isn) (updA (updA (updA (updA (updA (updA B 62 cth) 63 csc) 64 cvl) 65 cnd) 66 vr) 67 vf)) := mW_D hD
    exact loop_o (q9 + 1) 0 vr vf _ _ _ (by omega) (by omega) (by omega) ArgV.zero ArgF.zero hP hD hS (lv_sub hl [0, 4, 3, 2, 1] rfl)
  · have n60 : op = 100 := (nI_eq (a := op) (b := 100) (by omega) (by omega)).mp c1
    refine lv_aload_n hx hb dX12_opens_9 rfl (lv_at hl 0 rfl) ?_
    refine lv_iconst (v := 4) hx hb dX12_opens_10 (by decide) ?_
    refine r_put (v := 4) (ty := .int) hx hb hown hq hE hP hD hS 116 233 tFX12_116 (by decide) pw_1506 (by decide) rfl rfl (ms_116 a _ _) dX12_opens_11 (fun H locs hP hD hS => ?_)
    have hz61 : If (op = 100) ((4 : Int32) = 4 ∧ op = op ∧ tp = tp ∧ vr = vr ∧ vf = vf ∧ cth = cth ∧ csc = csc ∧ cvl = cvl ∧ cnd = cnd) := (fun _ => ⟨rfl, rfl, rfl, rfl, rfl, rfl, rfl, rfl, rfl⟩)
    have hz62 : If (op < 100) ((4 : Int32) = en ∧ op = op + 1 ∧ tp = tp - q9 ∧ nw = B 42 m9 ∧ isn = 1 ∧ ArgV (B 68) vr vr (32 * op) (tp - q9) q9 ∧ ArgF B vf vf (32 * op) p0 q9 ∧ cth = upd cth op x ∧ csc = upd csc op (nI q9) ∧ cvl = upd cvl op (nI (tp - q9)) ∧ cnd = upd cnd op nd9) := (fun e => absurd e (by omega))
    have hP : va_P G.1 pCl (mW G h0 a (upd (upd (upd (upd (upd (upd (upd F 102 (nI op)) 111 (nI tp)) 116 (4 : Int32)) 123 ca) 124 mo) 125 nw) 126 isn) (updA (updA (updA (updA (updA (updA B 62 cth) 63 csc) 64 cvl) 65 cnd) 66 vr) 67 vf)) _ := mW_to (F := F) (l1 := [(102, (nI op)), (111, (nI tp)), (116, en), (123, ca), (124, mo), (125, nw), (126, isn), (116, 4)]) (l2 := [(102, (nI op)), (111, (nI tp)), (116, (4 : Int32)), (123, ca), (124, mo), (125, nw), (126, isn)]) (V := [(nI op), (nI tp), (4 : Int32), ca, mo, nw, isn, (4 : Int32), (nI op), (nI tp), (4 : Int32), ca, mo, nw, isn]) rfl rfl rfl hP
    have hD : va_D A (mW G h0 a (upd (upd (upd (upd (upd (upd (upd F 102 (nI op)) 111 (nI tp)) 116 (4 : Int32)) 123 ca) 124 mo) 125 nw) 126 isn) (updA (updA (updA (updA (updA (updA B 62 cth) 63 csc) 64 cvl) 65 cnd) 66 vr) 67 vf)) := mW_D hD
    exact W.vret hx hb hr (fun t9 ht9 hW9 => ⟨⟨_, (op, tp, (4 : Int32), nw, isn, ca, mo, vr, vf, cth, csc, cvl, cnd), rfl, ⟨rfl, hz61, hz62⟩, by rw [ht9]; exact hP, hD⟩, hS.F ht9⟩) hS.2.2 dX12_opens_14
