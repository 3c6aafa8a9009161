/-- a method's body, as the look leaves it -/
def Bdy (X : Nat → Nat → Int32) (dc fd md nd : Nat) (ty mn nc : Nat → Int32) (m b : Nat) : Prop := ∃ k rs q p0 : Nat, ∃ ev : Nat → Int32, X 36 m = nI k ∧ 7 ≤ k ∧ k < dc ∧ resF (X 39) (X 21) m = nI rs ∧ TyC dc rs ∧ rs ≤ 2050 ∧ X 41 m = nI q ∧ X 40 m = nI p0 ∧ (q ≤ 8 ∧ p0 ≤ 5000) ∧ (∀ i : Nat, i < q → ev i = ytF X (p0 + i) ∧ tyOK dc (ev i)) ∧ TyS X dc fd md nd ty mn nc k rs b (q, 0, ev)
/-- blocks are roots -/
def Blk (X : Nat → Nat → Int32) (gh : Nat → Nat → Nat) (nd md : Nat) : Prop := (∀ m b : Nat, m < md → b < 20000 → X 42 m = nI b → b < nd ∧ gh 0 b = 160000 ∧ gh 1 b ≤ 361 ∧ X 9 b = 31 ∧ ∀ m2 : Nat, m2 < md → X 42 m2 = nI b → m2 = m) ∧ ∀ m : Nat, m < md → X 42 m = -1 ∨ ∃ b : Nat, b < nd ∧ X 42 m = nI b
theorem root_apart {K : Nat → Int32} {T wr nd b d j : Nat} {X : Nat → Nat → Int32} {gh : Nat → Nat → Nat} (hF : Fs2 K T wr X gh nd) (hnd : nd ≤ 12000) (hb : b < nd) (hd : d < nd) (gb : gh 0 b = 160000) (gd : gh 0 d = 160000) (h1 : sub X b j) (h2 : sub X d j) : b = d := by
  have side : ∀ x y : Nat, x < nd → gh 0 y = 160000 → sub X x y → x = y := fun x y hx hy ⟨m, s⟩ => by
    by_cases e : x = y
    · exact e
    · obtain ⟨p, q1, _, q3, _⟩ := sub.up hF hnd m x y hx s e
      rw [hy] at q3; omega
  rcases sub.two hF hnd (gh 1 b + gh 1 d) b d j (by omega) hb hd h1 h2 with z | z
  · exact side b d hb gd z
  · exact (side d b hd gb z).symm
def BdA (X : Nat → Nat → Int32) (dc fd md nd : Nat) (ty mn nc : Nat → Int32) (i : Nat) : Prop := ∀ m b : Nat, m < i → b < 20000 → X 42 m = nI b → Bdy X dc fd md nd ty mn nc m b
def mnB (X : Nat → Nat → Int32) (nd md : Nat) (mn : Nat → Int32) (i : Nat) : Prop := ∀ m b : Nat, i ≤ m → m < md → b < 20000 → X 42 m = nI b → mnC X nd b mn
section LB
variable {K : Nat → Int32} {T wr nd dc fd md b i : Nat} {X : Nat → Nat → Int32} {gh : Nat → Nat → Nat} {ty ty' mn mn' nc nc' : Nat → Int32}
theorem BdA.none (h : BdA X dc fd md nd ty mn nc i) (e : X 42 i = -1) : BdA X dc fd md nd ty mn nc (i + 1) := fun m b hm hb w => by
  by_cases q : m = i
  · rw [q, e] at w; exact absurd w.symm (nI_m1 (by omega))
  · exact h m b (by omega) hb w
theorem BdA.more (hF : Fs2 K T wr X gh nd) (hnd : nd ≤ 12000) (hB : Blk X gh nd md) (hi : i < md) (h : BdA X dc fd md nd ty mn nc i) (hb : b < 20000) (e : X 42 i = nI b) (g : ChS X nd b ty ty' mn mn' nc nc') (d : Bdy X dc fd md nd ty' mn' nc' i b) : BdA X dc fd md nd ty' mn' nc' (i + 1) := fun m b2 hm hb2 w => by
  by_cases q : m = i
  · rw [q] at w ⊢
    have : b = b2 := (nI_eq (by omega) (by omega)).mp (e.symm.trans w)
    rw [← this]; exact d
  · obtain ⟨k, rs, q', p0, ev, a1, a2, a3, a4, a5, a6, a7, a8, a9, a10, a11⟩ := h m b2 (by omega) hb2 w
    obtain ⟨x1, x2, _, _, _⟩ := hB.1 m b2 (by omega) hb2 w
    obtain ⟨y1, y2, _, _, y5⟩ := hB.1 i b hi hb e
    refine ⟨k, rs, q', p0, ev, a1, a2, a3, a4, a5, a6, a7, a8, a9, a10, a11.frame hF hnd x1 (fun j hj z => g j hj (fun u => q ?_))⟩
    have := root_apart hF hnd x1 y1 x2 y2 z u
    exact y5 m (by omega) (by rw [← this]; exact w)
theorem mnB.more (hF : Fs2 K T wr X gh nd) (hnd : nd ≤ 12000) (hB : Blk X gh nd md) (hi : i < md) (h : mnB X nd md mn i) (hb : b < 20000) (e : X 42 i = nI b) (g : ChS X nd b ty ty' mn mn' nc nc') : mnB X nd md mn' (i + 1) := fun m b2 hm hm2 hb2 w => by
  obtain ⟨x1, x2, _, _, _⟩ := hB.1 m b2 hm2 hb2 w
  obtain ⟨y1, y2, _, _, y5⟩ := hB.1 i b hi hb e
  intro j hj z u
  refine (g j hj (fun t => ?_)).2.1.trans (h m b2 (by omega) hm2 hb2 w j hj z u)
  have := root_apart hF hnd x1 y1 x2 y2 z t
  have := y5 m hm2 (by rw [← this]; exact w)
  omega
theorem mnB.up (h : mnB X nd md mn i) : mnB X nd md mn (i + 1) := fun m b hm hm2 hb w => h m b (by omega) hm2 hb w
theorem ytF_ok {nm lz pr bk p : Nat} (hPS : PS T nm wr lz dc fd md pr bk X) (hy : ∀ y : Nat, y < wr → tyOK dc (X 21 y)) (hw : wr ≤ 5000) (hp : p < pr) : tyOK dc (ytF X p) := by
  obtain ⟨_, y, e, h⟩ := hPS.2.2.2.1 p hp
  unfold ytF
  rw [e, nI_cl (by omega)]; exact hy y h
end LB
theorem dX12_lookBodies_0 : decode cX12_lookBodies 0 = .ok (.iconst 0, 1) := by decide +kernel
theorem dX12_lookBodies_1 : decode cX12_lookBodies 1 = .ok (.istore_n 1, 1) := by decide +kernel
theorem dX12_lookBodies_2 : decode cX12_lookBodies 2 = .ok (.iload_n 1, 1) := by decide +kernel
theorem dX12_lookBodies_3 : decode cX12_lookBodies 3 = .ok (.aload_n 0, 1) := by decide +kernel
theorem dX12_lookBodies_4 : decode cX12_lookBodies 4 = .ok (.getfield 416, 3) := by decide +kernel
theorem dX12_lookBodies_7 : decode cX12_lookBodies 7 = .ok (.if_icmp .ge 178, 3) := by decide +kernel
theorem dX12_lookBodies_185 : decode cX12_lookBodies 185 = .ok (.return_, 1) := by decide +kernel
theorem dX12_lookBodies_10 : decode cX12_lookBodies 10 = .ok (.aload_n 0, 1) := by decide +kernel
theorem dX12_lookBodies_11 : decode cX12_lookBodies 11 = .ok (.getfield 350, 3) := by decide +kernel
theorem dX12_lookBodies_14 : decode cX12_lookBodies 14 = .ok (.ifCond .ne 171, 3) := by decide +kernel
theorem dX12_lookBodies_17 : decode cX12_lookBodies 17 = .ok (.aload_n 0, 1) := by decide +kernel
theorem dX12_lookBodies_18 : decode cX12_lookBodies 18 = .ok (.getfield 138, 3) := by decide +kernel
theorem dX12_lookBodies_21 : decode cX12_lookBodies 21 = .ok (.iload_n 1, 1) := by decide +kernel
theorem dX12_lookBodies_22 : decode cX12_lookBodies 22 = .ok (.iaload, 1) := by decide +kernel
theorem dX12_lookBodies_23 : decode cX12_lookBodies 23 = .ok (.iconst (-1), 1) := by decide +kernel
theorem dX12_lookBodies_24 : decode cX12_lookBodies 24 = .ok (.if_icmp .ne 6, 3) := by decide +kernel
theorem dX12_lookBodies_27 : decode cX12_lookBodies 27 = .ok (.goto 152, 3) := by decide +kernel
theorem dX12_lookBodies_179 : decode cX12_lookBodies 179 = .ok (.iinc 1 1, 3) := by decide +kernel
theorem dX12_lookBodies_182 : decode cX12_lookBodies 182 = .ok (.goto (-180), 3) := by decide +kernel
theorem dX12_lookBodies_30 : decode cX12_lookBodies 30 = .ok (.aload_n 0, 1) := by decide +kernel
theorem dX12_lookBodies_31 : decode cX12_lookBodies 31 = .ok (.aload_n 0, 1) := by decide +kernel
theorem dX12_lookBodies_32 : decode cX12_lookBodies 32 = .ok (.getfield 120, 3) := by decide +kernel
theorem dX12_lookBodies_35 : decode cX12_lookBodies 35 = .ok (.iload_n 1, 1) := by decide +kernel
theorem dX12_lookBodies_36 : decode cX12_lookBodies 36 = .ok (.iaload, 1) := by decide +kernel
theorem dX12_lookBodies_37 : decode cX12_lookBodies 37 = .ok (.putfield 563, 3) := by decide +kernel
theorem dX12_lookBodies_40 : decode cX12_lookBodies 40 = .ok (.aload_n 0, 1) := by decide +kernel
theorem dX12_lookBodies_41 : decode cX12_lookBodies 41 = .ok (.aload_n 0, 1) := by decide +kernel
theorem dX12_lookBodies_42 : decode cX12_lookBodies 42 = .ok (.iload_n 1, 1) := by decide +kernel
theorem dX12_lookBodies_43 : decode cX12_lookBodies 43 = .ok (.invokevirtual 512, 3) := by decide +kernel
theorem dX12_lookBodies_46 : decode cX12_lookBodies 46 = .ok (.putfield 627, 3) := by decide +kernel
theorem dX12_lookBodies_49 : decode cX12_lookBodies 49 = .ok (.aload_n 0, 1) := by decide +kernel
theorem dX12_lookBodies_50 : decode cX12_lookBodies 50 = .ok (.iconst 0, 1) := by decide +kernel
theorem dX12_lookBodies_51 : decode cX12_lookBodies 51 = .ok (.putfield 537, 3) := by decide +kernel
theorem dX12_lookBodies_54 : decode cX12_lookBodies 54 = .ok (.aload_n 0, 1) := by decide +kernel
theorem dX12_lookBodies_55 : decode cX12_lookBodies 55 = .ok (.iconst 0, 1) := by decide +kernel
theorem dX12_lookBodies_56 : decode cX12_lookBodies 56 = .ok (.putfield 544, 3) := by decide +kernel
theorem dX12_lookBodies_59 : decode cX12_lookBodies 59 = .ok (.aload_n 0, 1) := by decide +kernel
theorem dX12_lookBodies_60 : decode cX12_lookBodies 60 = .ok (.iconst 0, 1) := by decide +kernel
theorem dX12_lookBodies_61 : decode cX12_lookBodies 61 = .ok (.putfield 630, 3) := by decide +kernel
theorem dX12_lookBodies_64 : decode cX12_lookBodies 64 = .ok (.iconst 0, 1) := by decide +kernel
theorem dX12_lookBodies_65 : decode cX12_lookBodies 65 = .ok (.istore_n 2, 1) := by decide +kernel
theorem dX12_lookBodies_66 : decode cX12_lookBodies 66 = .ok (.iload_n 2, 1) := by decide +kernel
theorem dX12_lookBodies_67 : decode cX12_lookBodies 67 = .ok (.aload_n 0, 1) := by decide +kernel
theorem dX12_lookBodies_68 : decode cX12_lookBodies 68 = .ok (.getfield 135, 3) := by decide +kernel
theorem dX12_lookBodies_71 : decode cX12_lookBodies 71 = .ok (.iload_n 1, 1) := by decide +kernel
theorem dX12_lookBodies_72 : decode cX12_lookBodies 72 = .ok (.iaload, 1) := by decide +kernel
theorem dX12_lookBodies_73 : decode cX12_lookBodies 73 = .ok (.if_icmp .ge 53, 3) := by decide +kernel
theorem dX12_lookBodies_126 : decode cX12_lookBodies 126 = .ok (.aload_n 0, 1) := by decide +kernel
theorem dX12_lookBodies_127 : decode cX12_lookBodies 127 = .ok (.getfield 350, 3) := by decide +kernel
theorem dX12_lookBodies_130 : decode cX12_lookBodies 130 = .ok (.ifCond .ne 13, 3) := by decide +kernel
theorem dX12_lookBodies_143 : decode cX12_lookBodies 143 = .ok (.aload_n 0, 1) := by decide +kernel
theorem dX12_lookBodies_144 : decode cX12_lookBodies 144 = .ok (.getfield 627, 3) := by decide +kernel
theorem dX12_lookBodies_147 : decode cX12_lookBodies 147 = .ok (.ifCond .eq 32, 3) := by decide +kernel
theorem dX12_lookBodies_150 : decode cX12_lookBodies 150 = .ok (.aload_n 0, 1) := by decide +kernel
theorem dX12_lookBodies_151 : decode cX12_lookBodies 151 = .ok (.aload_n 0, 1) := by decide +kernel
theorem dX12_lookBodies_152 : decode cX12_lookBodies 152 = .ok (.getfield 544, 3) := by decide +kernel
theorem dX12_lookBodies_155 : decode cX12_lookBodies 155 = .ok (.ldc_w 547, 3) := by decide +kernel
theorem dX12_lookBodies_158 : decode cX12_lookBodies 158 = .ok (.iand, 1) := by decide +kernel
theorem dX12_lookBodies_159 : decode cX12_lookBodies 159 = .ok (.ifCond .eq 7, 3) := by decide +kernel
theorem dX12_lookBodies_166 : decode cX12_lookBodies 166 = .ok (.iconst 0, 1) := by decide +kernel
theorem dX12_lookBodies_167 : decode cX12_lookBodies 167 = .ok (.bipush 15, 2) := by decide +kernel
theorem dX12_lookBodies_169 : decode cX12_lookBodies 169 = .ok (.aload_n 0, 1) := by decide +kernel
theorem dX12_lookBodies_170 : decode cX12_lookBodies 170 = .ok (.getfield 141, 3) := by decide +kernel
theorem dX12_lookBodies_173 : decode cX12_lookBodies 173 = .ok (.iload_n 1, 1) := by decide +kernel
theorem dX12_lookBodies_174 : decode cX12_lookBodies 174 = .ok (.iaload, 1) := by decide +kernel
theorem dX12_lookBodies_175 : decode cX12_lookBodies 175 = .ok (.invokevirtual 540, 3) := by decide +kernel
theorem dX12_lookBodies_178 : decode cX12_lookBodies 178 = .ok (.pop, 1) := by decide +kernel
theorem dX12_lookBodies_162 : decode cX12_lookBodies 162 = .ok (.iconst 1, 1) := by decide +kernel
theorem dX12_lookBodies_163 : decode cX12_lookBodies 163 = .ok (.goto 4, 3) := by decide +kernel
theorem dX12_lookBodies_133 : decode cX12_lookBodies 133 = .ok (.aload_n 0, 1) := by decide +kernel
theorem dX12_lookBodies_134 : decode cX12_lookBodies 134 = .ok (.aload_n 0, 1) := by decide +kernel
theorem dX12_lookBodies_135 : decode cX12_lookBodies 135 = .ok (.getfield 138, 3) := by decide +kernel
theorem dX12_lookBodies_138 : decode cX12_lookBodies 138 = .ok (.iload_n 1, 1) := by decide +kernel
theorem dX12_lookBodies_139 : decode cX12_lookBodies 139 = .ok (.iaload, 1) := by decide +kernel
theorem dX12_lookBodies_140 : decode cX12_lookBodies 140 = .ok (.invokevirtual 606, 3) := by decide +kernel
theorem dX12_lookBodies_76 : decode cX12_lookBodies 76 = .ok (.aload_n 0, 1) := by decide +kernel
theorem dX12_lookBodies_77 : decode cX12_lookBodies 77 = .ok (.getfield 350, 3) := by decide +kernel
theorem dX12_lookBodies_80 : decode cX12_lookBodies 80 = .ok (.ifCond .ne 46, 3) := by decide +kernel
theorem dX12_lookBodies_83 : decode cX12_lookBodies 83 = .ok (.aload_n 0, 1) := by decide +kernel
theorem dX12_lookBodies_84 : decode cX12_lookBodies 84 = .ok (.aload_n 0, 1) := by decide +kernel
theorem dX12_lookBodies_85 : decode cX12_lookBodies 85 = .ok (.getfield 150, 3) := by decide +kernel
theorem dX12_lookBodies_88 : decode cX12_lookBodies 88 = .ok (.aload_n 0, 1) := by decide +kernel
theorem dX12_lookBodies_89 : decode cX12_lookBodies 89 = .ok (.getfield 132, 3) := by decide +kernel
theorem dX12_lookBodies_92 : decode cX12_lookBodies 92 = .ok (.iload_n 1, 1) := by decide +kernel
theorem dX12_lookBodies_93 : decode cX12_lookBodies 93 = .ok (.iaload, 1) := by decide +kernel
theorem dX12_lookBodies_94 : decode cX12_lookBodies 94 = .ok (.iload_n 2, 1) := by decide +kernel
theorem dX12_lookBodies_95 : decode cX12_lookBodies 95 = .ok (.iadd, 1) := by decide +kernel
theorem dX12_lookBodies_96 : decode cX12_lookBodies 96 = .ok (.iaload, 1) := by decide +kernel
theorem dX12_lookBodies_97 : decode cX12_lookBodies 97 = .ok (.aload_n 0, 1) := by decide +kernel
theorem dX12_lookBodies_98 : decode cX12_lookBodies 98 = .ok (.getfield 75, 3) := by decide +kernel
theorem dX12_lookBodies_101 : decode cX12_lookBodies 101 = .ok (.aload_n 0, 1) := by decide +kernel
theorem dX12_lookBodies_102 : decode cX12_lookBodies 102 = .ok (.getfield 153, 3) := by decide +kernel
theorem dX12_lookBodies_105 : decode cX12_lookBodies 105 = .ok (.aload_n 0, 1) := by decide +kernel
theorem dX12_lookBodies_106 : decode cX12_lookBodies 106 = .ok (.getfield 132, 3) := by decide +kernel
theorem dX12_lookBodies_109 : decode cX12_lookBodies 109 = .ok (.iload_n 1, 1) := by decide +kernel
theorem dX12_lookBodies_110 : decode cX12_lookBodies 110 = .ok (.iaload, 1) := by decide +kernel
theorem dX12_lookBodies_111 : decode cX12_lookBodies 111 = .ok (.iload_n 2, 1) := by decide +kernel
theorem dX12_lookBodies_112 : decode cX12_lookBodies 112 = .ok (.iadd, 1) := by decide +kernel
theorem dX12_lookBodies_113 : decode cX12_lookBodies 113 = .ok (.iaload, 1) := by decide +kernel
theorem dX12_lookBodies_114 : decode cX12_lookBodies 114 = .ok (.iaload, 1) := by decide +kernel
theorem dX12_lookBodies_115 : decode cX12_lookBodies 115 = .ok (.iconst 1, 1) := by decide +kernel
theorem dX12_lookBodies_116 : decode cX12_lookBodies 116 = .ok (.invokevirtual 642, 3) := by decide +kernel
theorem dX12_lookBodies_119 : decode cX12_lookBodies 119 = .ok (.istore_n 3, 1) := by decide +kernel
theorem dX12_lookBodies_120 : decode cX12_lookBodies 120 = .ok (.iinc 2 1, 3) := by decide +kernel
theorem dX12_lookBodies_123 : decode cX12_lookBodies 123 = .ok (.goto (-57), 3) := by decide +kernel
set_option maxHeartbeats 12000000 in
set_option maxRecDepth 100000 in
/-- lookBodies() -/
theorem L_lookBodies (l : Launch) (G : pT) (h0 : Nat) (a : Nat → Nat) (F : Nat → Int32) (B : Nat → Nat → Int32) (nd : Nat) (T : Nat) (nm : Nat) (wr : Nat) (lz : Nat) (dc : Nat) (fd : Nat) (md : Nat) (pr : Nat) (bk : Nat) (gh : Nat → Nat → Nat) (nc : Nat → Int32) (ty : Nat → Int32) (mn : Nat → Int32) (vn : Nat → Int32) (vt : Nat → Int32) (hst : St B gh nd T nm wr lz dc fd md pr bk) (hnm : nd ≤ 12000 ∧ T ≤ 5000 ∧ wr ≤ 5000 ∧ 7 ≤ dc ∧ dc ≤ 37 ∧ fd ≤ 620 ∧ md ≤ 920 ∧ pr ≤ 5000) (hbl : Blk B gh nd md) (hnc : ∀ i : Nat, i < nd → ¬ B 9 i = 44 → nc i = B 14 i) (hmn : mnN B nd mn) (hmb : mnB B nd md mn 0) : PM l G pX0 yX12_lookBodies cX12_lookBodies 4 none ({ frames := 1500, cells := 0, slots := 0, locals := 64000 }) [.ref h0] (mW G h0 a (upd (upd (upd F 15 0) 44 (nI fd)) 49 (nI md)) (updA (updA (updA (updA (updA B 14 nc) 17 ty) 18 mn) 48 vn) 49 vt)) (fun (v : Option Value) (u : Nat × Int32 × Int32 × Int32 × Int32 × Int32 × Int32 × Int32 × Int32 × Int32 × Int32 × (Nat → Int32) × (Nat → Int32) × (Nat → Int32) × (Nat → Int32) × (Nat → Int32)) => v = none ∧ (u.1 ≤ 15) ∧ (mnN B nd u.2.2.2.2.2.2.2.2.2.2.2.2.2.1) ∧ (∀ i : Nat, i < nd → ¬ (B) 9 i = 44 → u.2.2.2.2.2.2.2.2.2.2.2.1 i = (B) 14 i) ∧ (If (u.1 = 0) (BdA B dc fd md nd u.2.2.2.2.2.2.2.2.2.2.2.2.1 u.2.2.2.2.2.2.2.2.2.2.2.2.2.1 u.2.2.2.2.2.2.2.2.2.2.2.1 md))) (fun u => (mW G h0 a (upd (upd (upd (upd (upd (upd (upd (upd (upd (upd (upd (upd (upd F 15 (nI u.1)) 16 u.2.1) 44 (nI fd)) 49 (nI md)) 73 u.2.2.2.2.2.2.2.1) 74 u.2.2.2.2.2.2.2.2.1) 75 u.2.2.2.2.2.2.2.2.2.1) 76 u.2.2.2.2.2.2.2.2.2.2.1) 77 u.2.2.1) 78 u.2.2.2.1) 79 u.2.2.2.2.1) 80 u.2.2.2.2.2.1) 81 u.2.2.2.2.2.2.1) (updA (updA (updA (updA (updA B 14 u.2.2.2.2.2.2.2.2.2.2.2.1) 17 u.2.2.2.2.2.2.2.2.2.2.2.2.1) 18 u.2.2.2.2.2.2.2.2.2.2.2.2.2.1) 48 u.2.2.2.2.2.2.2.2.2.2.2.2.2.2.1) 49 u.2.2.2.2.2.2.2.2.2.2.2.2.2.2.2))) := by
  intro sz
  refine Met.ofW (cc := cX12_lookBodies) (maxL := 4) (ret := none) (by decide) rfl ?_
  intro p e s m args below meth c s₁ B9 hml hv
  obtain ⟨rfl, hsz, hP, hD0, hE, hX⟩ := hv
  have hx := B9.exec
  have hb := B9.bytes
  have hr := B9.returns
  have hts := atoms_spec (ws := Cond.code yX12_lookBodies cX12_lookBodies 4 none :: pw) B9.pre
  have hq : ∀ w ∈ pw, w.before _ s = true := fun w h => hts w (List.mem_cons_of_mem _ h)
  have hown : s.vm.findClass RX12 = some m.cls := findClass_of_methodNamed B9.named
  have hlocks := B9.notSynchronized
  subst hsz
  have hD := hD0.self (sz := s.heap.size)
  have hA : ∀ q : Nat, s.heap.size ≤ q → va_A (mW G h0 a (upd (upd (upd F 15 0) 44 (nI fd)) 49 (nI md)) (updA (updA (updA (updA (updA B 14 nc) 17 ty) 18 mn) 48 vn) 49 vt)) s.heap.size q := fun q h => Or.inr h
  have hP : va_P G.1 pCl (mW G h0 a (upd (upd (upd F 15 0) 44 (nI fd)) 49 (nI md)) (updA (updA (updA (updA (updA B 14 nc) 17 ty) 18 mn) 48 vn) 49 vt)) s.heap := hP
  generalize va_A (mW G h0 a (upd (upd (upd F 15 0) 44 (nI fd)) 49 (nI md)) (updA (updA (updA (updA (updA B 14 nc) 17 ty) 18 mn) 48 vn) 49 vt)) s.heap.size = A at hD hE hA ⊢
  have hS : va_S A s.heap s.heap [] := va_S.rf
  have hl := lv_entry ([.ref h0]) (n := 4) (Nat.le_of_ble_eq_true rfl)
  rw [lg_entry_eq]
  generalize (lg_sl ([.ref h0]) ++ List.replicate (4 - (lg_sl ([.ref h0])).length) Slot.unset).toArray = ls at hl ⊢
  have hl : lv_has ls 4 [(0, .ref h0)] := hl
  have hF := hst.1
  have hPS := hst.2.1
  have hBI := hst.2.2.1
  have hRK := hst.2.2.2.1
  have hTY := hst.2.2.2.2.1
  have hNW := hst.2.2.2.2.2.1
  have hTK := hst.2.2.2.2.2.2
  refine lv_iconst (v := 0) hx hb dX12_lookBodies_0 (by decide) ?_
  refine lv_istore_n (lv' := [(1, .int 0), (0, .ref h0)]) hx hb dX12_lookBodies_1 rfl hl (by decide) rfl (fun ls hl => ?_)
  have loop_o : ∀ (n_o : Nat) (m2 : Nat) (fa2 : Nat) (pl2 : Int32) (dn2 : Int32) (wt2 : Int32) (wf2 : Int32) (ab2 : Int32) (ac2 : Int32) (so2 : Int32) (bo2 : Int32) (br2 : Int32) (il2 : Int32) (nc2 : Nat → Int32) (ty2 : Nat → Int32) (mn2 : Nat → Int32) (vn2 : Nat → Int32) (vt2 : Nat → Int32) (H : Heap) (locs : List Loc) (ls : Array Slot), m2 ≤ md → md + 1 ≤ m2 + n_o → (fa2 ≤ 15) → (∀ i : Nat, i < nd → ¬ B 9 i = 44 → nc2 i = B 14 i) → (mnN B nd mn2) → (mnB B nd md mn2 m2) → (If (fa2 = 0) (BdA B dc fd md nd ty2 mn2 nc2 m2)) → va_P G.1 pCl (mW G h0 a (upd (upd (upd (upd (upd (upd (upd (upd (upd (upd (upd (upd (upd F 15 (nI fa2)) 16 pl2) 44 (nI fd)) 49 (nI md)) 73 so2) 74 bo2) 75 br2) 76 il2) 77 dn2) 78 wt2) 79 wf2) 80 ab2) 81 ac2) (updA (updA (updA (updA (updA B 14 nc2) 17 ty2) 18 mn2) 48 vn2) 49 vt2)) H → va_D A (mW G h0 a (upd (upd (upd (upd (upd (upd (upd (upd (upd (upd (upd (upd (upd F 15 (nI fa2)) 16 pl2) 44 (nI fd)) 49 (nI md)) 73 so2) 74 bo2) 75 br2) 76 il2) 77 dn2) 78 wt2) 79 wf2) 80 ab2) 81 ac2) (updA (updA (updA (updA (updA B 14 nc2) 17 ty2) 18 mn2) 48 vn2) 49 vt2)) → va_S A s.heap H locs → lv_has ls 4 [(1, .int (nI m2)), (0, .ref h0)] → W p l e (headSpec (Cond.code yX12_lookBodies cX12_lookBodies 4 none :: pw) ({ frames := 1500, cells := 0, slots := 0, locals := 64000 } : Room)).room s m ([.ref h0] : List Value).toArray below meth c H locs 0 0 (MQ below (pQ G A (fun (v : Option Value) (u : Nat × Int32 × Int32 × Int32 × Int32 × Int32 × Int32 × Int32 × Int32 × Int32 × Int32 × (Nat → Int32) × (Nat → Int32) × (Nat → Int32) × (Nat → Int32) × (Nat → Int32)) => v = none ∧ (u.1 ≤ 15) ∧ (mnN B nd u.2.2.2.2.2.2.2.2.2.2.2.2.2.1) ∧ (∀ i : Nat, i < nd → ¬ (B) 9 i = 44 → u.2.2.2.2.2.2.2.2.2.2.2.1 i = (B) 14 i) ∧ (If (u.1 = 0) (BdA B dc fd md nd u.2.2.2.2.2.2.2.2.2.2.2.2.1 u.2.2.2.2.2.2.2.2.2.2.2.2.2.1 u.2.2.2.2.2.2.2.2.2.2.2.1 md))) (fun u => (mW G h0 a (upd (upd (upd (upd (upd (upd (upd (upd (upd (upd (upd (upd (upd F 15 (nI u.1)) 16 u.2.1) 44 (nI fd)) 49 (nI md)) 73 u.2.2.2.2.2.2.2.1) 74 u.2.2.2.2.2.2.2.2.1) 75 u.2.2.2.2.2.2.2.2.2.1) 76 u.2.2.2.2.2.2.2.2.2.2.1) 77 u.2.2.1) 78 u.2.2.2.1) 79 u.2.2.2.2.1) 80 u.2.2.2.2.2.1) 81 u.2.2.2.2.2.2.1) (updA (updA (updA (updA (updA B 14 u.2.2.2.2.2.2.2.2.2.2.2.1) 17 u.2.2.2.2.2.2.2.2.2.2.2.2.1) 18 u.2.2.2.2.2.2.2.2.2.2.2.2.2.1) 48 u.2.2.2.2.2.2.2.2.2.2.2.2.2.2.1) 49 u.2.2.2.2.2.2.2.2.2.2.2.2.2.2.2)))) ([.ref h0] : List Value).toArray s ({ frames := 1500, cells := 0, slots := 0, locals := 64000 } : Room).cells ({ frames := 1500, cells := 0, slots := 0, locals := 64000 } : Room).slots A) (F0 m 2 ls []) := by
    intro n_o
    induction n_o with
    | zero => intro m2 fa2 pl2 dn2 wt2 wf2 ab2 ac2 so2 bo2 br2 il2 nc2 ty2 mn2 vn2 vt2 H locs ls hk_o hn_o; omega
    | succ n_o ih_o =>
      intro m2 fa2 pl2 dn2 wt2 wf2 ab2 ac2 so2 bo2 br2 il2 nc2 ty2 mn2 vn2 vt2 H locs ls hk_o hn_o hf2 hnc2 hmn2 hmb2 hba hP hD hS hl
      refine lv_iload_n hx hb dX12_lookBodies_2 rfl (lv_at hl 0 rfl) ?_
      refine lv_aload_n hx hb dX12_lookBodies_3 rfl (lv_at hl 1 rfl) ?_
      refine r_get (v := .int (nI md)) hx hb hown hq hE hP 49 416 tFX12_49 (by decide) pw_1721 rfl dX12_lookBodies_4 ?_
      refine lv_icmp_ge (tgt := 185) hx hb dX12_lookBodies_7 (by decide) (fun c1 => ?_) (fun c1 => ?_)
      · have n2 : md ≤ m2 := (nI_leI (a := md) (b := m2) (by omega) (by omega)).mp c1
        have hz3 : fa2 ≤ 15 := (by omega)
        have hz4 : mnN B nd mn2 := hmn2
        have hz5 : ∀ i : Nat, i < nd → ¬ (B) 9 i = 44 → nc2 i = (B) 14 i := hnc2
        have hz6 : If (fa2 = 0) (BdA B dc fd md nd ty2 mn2 nc2 md) := (fun e m b h => hba (by omega) m b (by omega))
        have hP : va_P G.1 pCl (mW G h0 a (upd (upd (upd (upd (upd (upd (upd (upd (upd (upd (upd (upd (upd F 15 (nI fa2)) 16 pl2) 44 (nI fd)) 49 (nI md)) 73 so2) 74 bo2) 75 br2) 76 il2) 77 dn2) 78 wt2) 79 wf2) 80 ab2) 81 ac2) (updA (updA (updA (updA (updA B 14 nc2) 17 ty2) 18 mn2) 48 vn2) 49 vt2)) _ := hP
        have hD : va_D A (mW G h0 a (upd (upd (upd (upd (upd (upd (upd (upd (upd (upd (upd (upd (upd F 15 (nI fa2)) 16 pl2) 44 (nI fd)) 49 (nI md)) 73 so2) 74 bo2) 75 br2) 76 il2) 77 dn2) 78 wt2) 79 wf2) 80 ab2) 81 ac2) (updA (updA (updA (updA (updA B 14 nc2) 17 ty2) 18 mn2) 48 vn2) 49 vt2)) := mW_D hD
        exact W.vret hx hb hr (fun t9 ht9 hW9 => ⟨⟨_, (fa2, pl2, dn2, wt2, wf2, ab2, ac2, so2, bo2, br2, il2, nc2, ty2, mn2, vn2, vt2), rfl, ⟨rfl, hz3, hz4, hz5, hz6⟩, by rw [ht9]; exact hP, hD⟩, hS.F ht9⟩) hS.2.2 dX12_lookBodies_185
      · have n7 : ¬ (md ≤ m2) := fun h9 => c1 ((nI_leI (a := md) (b := m2) (by omega) (by omega)).mpr h9)
        refine lv_aload_n hx hb dX12_lookBodies_10 rfl (lv_at hl 1 rfl) ?_
        refine r_get (v := .int (nI fa2)) hx hb hown hq hE hP 15 350 tFX12_15 (by decide) pw_1594 rfl dX12_lookBodies_11 ?_
        refine lv_if_ne (tgt := 185) hx hb dX12_lookBodies_14 (by decide) (fun c8 => ?_) (fun c8 => ?_)
        · have n9 : ¬ (fa2 = 0) := fun h9 => c8 ((nI_eq (a := fa2) (b := 0) (by omega) (by omega)).mpr h9)
          have hz10 : fa2 ≤ 15 := (by omega)
          have hz11 : mnN B nd mn2 := hmn2
          have hz12 : ∀ i : Nat, i < nd → ¬ (B) 9 i = 44 → nc2 i = (B) 14 i := hnc2
          have hz13 : If (fa2 = 0) (BdA B dc fd md nd ty2 mn2 nc2 md) := (fun e m b h => hba (by omega) m b (by omega))
          have hP : va_P G.1 pCl (mW G h0 a (upd (upd (upd (upd (upd (upd (upd (upd (upd (upd (upd (upd (upd F 15 (nI fa2)) 16 pl2) 44 (nI fd)) 49 (nI md)) 73 so2) 74 bo2) 75 br2) 76 il2) 77 dn2) 78 wt2) 79 wf2) 80 ab2) 81 ac2) (updA (updA (updA (updA (updA B 14 nc2) 17 ty2) 18 mn2) 48 vn2) 49 vt2)) _ := hP
          have hD : va_D A (mW G h0 a (upd (upd (upd (upd (upd (upd (upd (upd (upd (upd (upd (upd (upd F 15 (nI fa2)) 16 pl2) 44 (nI fd)) 49 (nI md)) 73 so2) 74 bo2) 75 br2) 76 il2) 77 dn2) 78 wt2) 79 wf2) 80 ab2) 81 ac2) (updA (updA (updA (updA (updA B 14 nc2) 17 ty2) 18 mn2) 48 vn2) 49 vt2)) := mW_D hD
          exact W.vret hx hb hr (fun t9 ht9 hW9 => ⟨⟨_, (fa2, pl2, dn2, wt2, wf2, ab2, ac2, so2, bo2, br2, il2, nc2, ty2, mn2, vn2, vt2), rfl, ⟨rfl, hz10, hz11, hz12, hz13⟩, by rw [ht9]; exact hP, hD⟩, hS.F ht9⟩) hS.2.2 dX12_lookBodies_185
        · have n14 : fa2 = 0 := (nI_eq (a := fa2) (b := 0) (by omega) (by omega)).mp c8
          refine lv_aload_n hx hb dX12_lookBodies_17 rfl (lv_at hl 1 rfl) ?_
          refine r_get (v := .ref (a 42)) hx hb hown hq hE hP 56 138 tFX12_56 (by decide) pw_1473 rfl dX12_lookBodies_18 ?_
          refine lv_iload_n hx hb dX12_lookBodies_21 rfl (lv_at hl 0 rfl) ?_
          refine r_ldi (f := (B 42)) (j := m2) hx hb hE hP 42 (ma_42 G a _) rfl (by omega) (by decide) dX12_lookBodies_22 ?_
          rcases hbl.2 m2 (by omega) with e15 | ⟨b16, h17, e18⟩
          · refine lv_topi (fun x19 e20 => ?_)
            obtain rfl : x19 = (-1) := e20.trans e15
            refine lv_iconst (v := (-1)) hx hb dX12_lookBodies_23 (by decide) ?_
            refine lv_icmp_ne (tgt := 30) hx hb dX12_lookBodies_24 (by decide) (fun c21 => absurd c21 (by decide)) (fun c21 => ?_)
            refine lv_goto (tgt := 179) hx hb dX12_lookBodies_27 (by decide) ?_
            refine lv_iinc (v := (nI (m2 + 1))) (lv' := [(1, .int (nI (m2 + 1))), (0, .ref h0)]) hx hb dX12_lookBodies_179 hl (k := 0) rfl (nI_1 m2) (by decide) rfl (fun ls hl => ?_)
            refine lv_goto (tgt := 2) hx hb dX12_lookBodies_182 (by decide) ?_
            have hP : va_P G.1 pCl (mW G h0 a (upd (upd (upd (upd (upd (upd (upd (upd (upd (upd (upd (upd (upd F 15 (nI fa2)) 16 pl2) 44 (nI fd)) 49 (nI md)) 73 so2) 74 bo2) 75 br2) 76 il2) 77 dn2) 78 wt2) 79 wf2) 80 ab2) 81 ac2) (updA (updA (updA (updA (updA B 14 nc2) 17 ty2) 18 mn2) 48 vn2) 49 vt2)) _ := hP
            have hD : va_D A (mW G h0 a (upd (upd (upd (upd (upd (upd (upd (upd (upd (upd (upd (upd (upd F 15 (nI fa2)) 16 pl2) 44 (nI fd)) 49 (nI md)) 73 so2) 74 bo2) 75 br2) 76 il2) 77 dn2) 78 wt2) 79 wf2) 80 ab2) 81 ac2) (updA (updA (updA (updA (updA B 14 nc2) 17 ty2) 18 mn2) 48 vn2) 49 vt2)) := mW_D hD
            exact ih_o (m2 + 1) fa2 pl2 dn2 wt2 wf2 ab2 ac2 so2 bo2 br2 il2 nc2 ty2 mn2 vn2 vt2 _ _ _ (by omega) (by omega) (by omega) hnc2 hmn2 (mnB.up hmb2) (fun e => BdA.none (hba (by omega)) e15) hP hD hS (lv_sub hl [0, 1] rfl)
          · refine lv_topi (fun x22 e23 => ?_)
            obtain rfl : x22 = nI b16 := e23.trans e18
            obtain ⟨h24, h25, h26, h27, h28⟩ := hbl.1 m2 b16 (by omega) (by omega) e18
            obtain ⟨d29, e30, h31, h32, -, -, -, ⟨p34, q33, e35, e36, h37, h38⟩, -⟩ := hPS.2.2.1 m2 (by omega)
            obtain ⟨t39, e40, h41⟩ : ∃ t : Nat, B 43 m2 = nI t ∧ t ≤ T := by
              obtain ⟨_, _, _, _, _, _, _, _, z⟩ := hPS.2.2.1 m2 (by omega)
              rcases z with ⟨z, _⟩ | ⟨b9, t9, j9, _, z2, z3, _⟩
              · exact absurd (z.symm.trans e18).symm (nI_m1 (by omega))
              · exact ⟨t9, z2, z3⟩
            refine lv_iconst (v := (-1)) hx hb dX12_lookBodies_23 (by decide) ?_
            refine lv_icmp_ne (tgt := 30) hx hb dX12_lookBodies_24 (by decide) (fun c42 => ?_) (fun c42 => absurd c42 (nI_m1 (by omega)))
            refine lv_aload_n hx hb dX12_lookBodies_30 rfl (lv_at hl 1 rfl) ?_
            refine lv_aload_n hx hb dX12_lookBodies_31 rfl (lv_at hl 1 rfl) ?_
            refine r_get (v := .ref (a 36)) hx hb hown hq hE hP 50 120 tFX12_50 (by decide) pw_1467 rfl dX12_lookBodies_32 ?_
            refine lv_iload_n hx hb dX12_lookBodies_35 rfl (lv_at hl 0 rfl) ?_
            refine r_ldi (f := (B 36)) (j := m2) hx hb hE hP 36 (ma_36 G a _) rfl (by omega) (by decide) dX12_lookBodies_36 ?_
            refine lv_topi (fun x43 e44 => ?_)
            obtain rfl : x43 = nI d29 := e44.trans e30
            refine r_put (v := (nI d29)) (ty := .int) hx hb hown hq hE hP hD hS 74 563 tFX12_74 (by decide) pw_1807 (by decide) rfl rfl (ms_74 a _ _) dX12_lookBodies_37 (fun H locs hP hD hS => ?_)
            refine lv_aload_n hx hb dX12_lookBodies_40 rfl (lv_at hl 1 rfl) ?_
            refine lv_aload_n hx hb dX12_lookBodies_41 rfl (lv_at hl 1 rfl) ?_
            refine lv_iload_n hx hb dX12_lookBodies_42 rfl (lv_at hl 0 rfl) ?_
            have hP : va_P G.1 pCl (mW G h0 a (upd (upd (upd (upd (upd (upd (upd (upd (upd (upd (upd (upd (upd F 15 (nI fa2)) 16 pl2) 44 (nI fd)) 49 (nI md)) 73 so2) 74 (nI d29)) 75 br2) 76 il2) 77 dn2) 78 wt2) 79 wf2) 80 ab2) 81 ac2) (updA (updA (updA (updA (updA (updA (updA B 14 nc2) 17 ty2) 18 mn2) 48 vn2) 49 vt2) 21 (B 21)) 39 (B 39))) _ := mW_to (F := F) (l1 := [(15, (nI fa2)), (16, pl2), (44, (nI fd)), (49, (nI md)), (73, so2), (74, bo2), (75, br2), (76, il2), (77, dn2), (78, wt2), (79, wf2), (80, ab2), (81, ac2), (74, (nI d29))]) (l2 := [(15, (nI fa2)), (16, pl2), (44, (nI fd)), (49, (nI md)), (73, so2), (74, (nI d29)), (75, br2), (76, il2), (77, dn2), (78, wt2), (79, wf2), (80, ab2), (81, ac2)]) (V := [(nI fa2), pl2, (nI fd), (nI md), so2, (nI d29), br2, il2, dn2, wt2, wf2, ab2, ac2, (nI d29), (nI fa2), pl2, (nI fd), (nI md), so2, (nI d29), br2, il2, dn2, wt2, wf2, ab2, ac2]) rfl rfl (show (updA (updA (updA (updA (updA B 14 nc2) 17 ty2) 18 mn2) 48 vn2) 49 vt2) = (updA (updA (updA (updA (updA (updA (updA B 14 nc2) 17 ty2) 18 mn2) 48 vn2) 49 vt2) 21 (B 21)) 39 (B 39)) from updsA_eq2 (F := B) (l1 := [(14, nc2), (17, ty2), (18, mn2), (48, vn2), (49, vt2)]) (l2 := [(14, nc2), (17, ty2), (18, mn2), (48, vn2), (49, vt2), (21, (B 21)), (39, (B 39))]) (V := [nc2, ty2, mn2, vn2, vt2, nc2, ty2, mn2, vn2, vt2, (B 21), (B 39)]) rfl rfl) hP
            have hD : va_D A (mW G h0 a (upd (upd (upd (upd (upd (upd (upd (upd (upd (upd (upd (upd (upd F 15 (nI fa2)) 16 pl2) 44 (nI fd)) 49 (nI md)) 73 so2) 74 (nI d29)) 75 br2) 76 il2) 77 dn2) 78 wt2) 79 wf2) 80 ab2) 81 ac2) (updA (updA (updA (updA (updA (updA (updA B 14 nc2) 17 ty2) 18 mn2) 48 vn2) 49 vt2) 21 (B 21)) 39 (B 39))) := mW_D hD
            refine pc_V0 (G := G) (As := [.int (nI m2)]) (rest := [.ref h0]) hx hb hml hown hq hE hX pX0_al hP hD hS hA hl.1 (R_resultOf l G h0 a (upd (upd (upd (upd (upd (upd (upd (upd (upd (upd (upd (upd (upd F 15 (nI fa2)) 16 pl2) 44 (nI fd)) 49 (nI md)) 73 so2) 74 (nI d29)) 75 br2) 76 il2) 77 dn2) 78 wt2) 79 wf2) 80 ab2) 81 ac2) (updA (updA (updA (updA (updA B 14 nc2) 17 ty2) 18 mn2) 48 vn2) 49 vt2) m2 wr (B 39) (B 21) (by omega) (by omega) (by obtain ⟨d, _, _, _, _, _, z, _⟩ := hPS.2.2.1 m2 (by omega); exact z)) (gV pw_1764 pw_1765 pw_1766 pw_1523 pw_1762) hV_X12_resultOf 0 9 rfl rfl rfl rfl (Nat.le_of_ble_eq_true rfl) dX12_lookBodies_43 ⟨Nat.le_of_ble_eq_true rfl, Nat.le_of_ble_eq_true rfl⟩ ⟨Nat.le_of_ble_eq_true rfl, Nat.le_of_ble_eq_true rfl⟩ (fun v47 u45 H locs hw46 hP hD hS => ?_)
            obtain rfl : v47 = some (.int (resF (B 39) (B 21) m2)) := hw46
            have hP : va_P G.1 pCl (mW G h0 a (upd (upd (upd (upd (upd (upd (upd (upd (upd (upd (upd (upd (upd F 15 (nI fa2)) 16 pl2) 44 (nI fd)) 49 (nI md)) 73 so2) 74 (nI d29)) 75 br2) 76 il2) 77 dn2) 78 wt2) 79 wf2) 80 ab2) 81 ac2) (updA (updA (updA (updA (updA B 14 nc2) 17 ty2) 18 mn2) 48 vn2) 49 vt2)) _ := mW_to (F := F) (l1 := [(15, (nI fa2)), (16, pl2), (44, (nI fd)), (49, (nI md)), (73, so2), (74, (nI d29)), (75, br2), (76, il2), (77, dn2), (78, wt2), (79, wf2), (80, ab2), (81, ac2)]) (l2 := [(15, (nI fa2)), (16, pl2), (44, (nI fd)), (49, (nI md)), (73, so2), (74, (nI d29)), (75, br2), (76, il2), (77, dn2), (78, wt2), (79, wf2), (80, ab2), (81, ac2)]) (V := [(nI fa2), pl2, (nI fd), (nI md), so2, (nI d29), br2, il2, dn2, wt2, wf2, ab2, ac2, (nI fa2), pl2, (nI fd), (nI md), so2, (nI d29), br2, il2, dn2, wt2, wf2, ab2, ac2]) rfl rfl (show (updA (updA (updA (updA (updA (updA (updA B 14 nc2) 17 ty2) 18 mn2) 48 vn2) 49 vt2) 21 (B 21)) 39 (B 39)) = (updA (updA (updA (updA (updA B 14 nc2) 17 ty2) 18 mn2) 48 vn2) 49 vt2) from updsA_eq2 (F := B) (l1 := [(14, nc2), (17, ty2), (18, mn2), (48, vn2), (49, vt2), (21, (B 21)), (39, (B 39))]) (l2 := [(14, nc2), (17, ty2), (18, mn2), (48, vn2), (49, vt2)]) (V := [nc2, ty2, mn2, vn2, vt2, (B 21), (B 39), nc2, ty2, mn2, vn2, vt2]) rfl rfl) hP
            have hD : va_D A (mW G h0 a (upd (upd (upd (upd (upd (upd (upd (upd (upd (upd (upd (upd (upd F 15 (nI fa2)) 16 pl2) 44 (nI fd)) 49 (nI md)) 73 so2) 74 (nI d29)) 75 br2) 76 il2) 77 dn2) 78 wt2) 79 wf2) 80 ab2) 81 ac2) (updA (updA (updA (updA (updA B 14 nc2) 17 ty2) 18 mn2) 48 vn2) 49 vt2)) := mW_D hD
            refine W.widen (k := 0) (n := 0) (Nat.le_of_ble_eq_true rfl) (Nat.le_of_ble_eq_true rfl) ?_
            refine W.eq (g2 := F0 m 46 ls [.int (resF (B 39) (B 21) m2), .ref h0]) rfl ?_
            obtain ⟨x48, e49, h50, h51⟩ := resF_tc hPS hTY (by omega) (by omega) (show m2 < md by omega)
            refine lv_topi (fun x52 e53 => ?_)
            obtain rfl : x52 = nI x48 := e53.trans e49
            refine r_put (v := (nI x48)) (ty := .int) hx hb hown hq hE hP hD hS 75 627 tFX12_75 (by decide) pw_1885 (by decide) rfl rfl (ms_75 a _ _) dX12_lookBodies_46 (fun H locs hP hD hS => ?_)
            refine lv_aload_n hx hb dX12_lookBodies_49 rfl (lv_at hl 1 rfl) ?_
            refine lv_iconst (v := 0) hx hb dX12_lookBodies_50 (by decide) ?_
            refine r_put (v := 0) (ty := .int) hx hb hown hq hE hP hD hS 73 537 tFX12_73 (by decide) pw_1795 (by decide) rfl rfl (ms_73 a _ _) dX12_lookBodies_51 (fun H locs hP hD hS => ?_)
            refine lv_aload_n hx hb dX12_lookBodies_54 rfl (lv_at hl 1 rfl) ?_
            refine lv_iconst (v := 0) hx hb dX12_lookBodies_55 (by decide) ?_
            refine r_put (v := 0) (ty := .int) hx hb hown hq hE hP hD hS 77 544 tFX12_77 (by decide) pw_1796 (by decide) rfl rfl (ms_77 a _ _) dX12_lookBodies_56 (fun H locs hP hD hS => ?_)
            refine lv_aload_n hx hb dX12_lookBodies_59 rfl (lv_at hl 1 rfl) ?_
            refine lv_iconst (v := 0) hx hb dX12_lookBodies_60 (by decide) ?_
            refine r_put (v := 0) (ty := .int) hx hb hown hq hE hP hD hS 76 630 tFX12_76 (by decide) pw_1880 (by decide) rfl rfl (ms_76 a _ _) dX12_lookBodies_61 (fun H locs hP hD hS => ?_)
            refine lv_iconst (v := 0) hx hb dX12_lookBodies_64 (by decide) ?_
            refine lv_istore_n (lv' := [(2, .int 0), (1, .int (nI m2)), (0, .ref h0)]) hx hb dX12_lookBodies_65 rfl hl (by decide) rfl (fun ls hl => ?_)
            have loop_i : ∀ (n_i : Nat) (p2 : Nat) (fa3 : Nat) (sc3 : Nat) (pl3 : Int32) (dn3 : Int32) (vn3 : Nat → Int32) (vt3 : Nat → Int32) (H : Heap) (locs : List Loc) (ls : Array Slot), p2 ≤ q33 → q33 + 1 ≤ p2 + n_i → (fa2 ≤ fa3 ∧ fa3 ≤ 15) → (sc3 ≤ 30) → (If (fa3 = 0) (sc3 = p2 ∧ ∀ i : Nat, i < p2 → vt3 i = ytF B (p34 + i))) → va_P G.1 pCl (mW G h0 a (upd (upd (upd (upd (upd (upd (upd (upd (upd (upd (upd (upd (upd F 15 (nI fa3)) 16 pl3) 44 (nI fd)) 49 (nI md)) 73 (nI sc3)) 74 (nI d29)) 75 (nI x48)) 76 0) 77 dn3) 78 wt2) 79 wf2) 80 ab2) 81 ac2) (updA (updA (updA (updA (updA B 14 nc2) 17 ty2) 18 mn2) 48 vn3) 49 vt3)) H → va_D A (mW G h0 a (upd (upd (upd (upd (upd (upd (upd (upd (upd (upd (upd (upd (upd F 15 (nI fa3)) 16 pl3) 44 (nI fd)) 49 (nI md)) 73 (nI sc3)) 74 (nI d29)) 75 (nI x48)) 76 0) 77 dn3) 78 wt2) 79 wf2) 80 ab2) 81 ac2) (updA (updA (updA (updA (updA B 14 nc2) 17 ty2) 18 mn2) 48 vn3) 49 vt3)) → va_S A s.heap H locs → lv_has ls 4 [(2, .int (nI p2)), (1, .int (nI m2)), (0, .ref h0)] → W p l e (headSpec (Cond.code yX12_lookBodies cX12_lookBodies 4 none :: pw) ({ frames := 1500, cells := 0, slots := 0, locals := 64000 } : Room)).room s m ([.ref h0] : List Value).toArray below meth c H locs 0 0 (MQ below (pQ G A (fun (v : Option Value) (u : Nat × Int32 × Int32 × Int32 × Int32 × Int32 × Int32 × Int32 × Int32 × Int32 × Int32 × (Nat → Int32) × (Nat → Int32) × (Nat → Int32) × (Nat → Int32) × (Nat → Int32)) => v = none ∧ (u.1 ≤ 15) ∧ (mnN B nd u.2.2.2.2.2.2.2.2.2.2.2.2.2.1) ∧ (∀ i : Nat, i < nd → ¬ (B) 9 i = 44 → u.2.2.2.2.2.2.2.2.2.2.2.1 i = (B) 14 i) ∧ (If (u.1 = 0) (BdA B dc fd md nd u.2.2.2.2.2.2.2.2.2.2.2.2.1 u.2.2.2.2.2.2.2.2.2.2.2.2.2.1 u.2.2.2.2.2.2.2.2.2.2.2.1 md))) (fun u => (mW G h0 a (upd (upd (upd (upd (upd (upd (upd (upd (upd (upd (upd (upd (upd F 15 (nI u.1)) 16 u.2.1) 44 (nI fd)) 49 (nI md)) 73 u.2.2.2.2.2.2.2.1) 74 u.2.2.2.2.2.2.2.2.1) 75 u.2.2.2.2.2.2.2.2.2.1) 76 u.2.2.2.2.2.2.2.2.2.2.1) 77 u.2.2.1) 78 u.2.2.2.1) 79 u.2.2.2.2.1) 80 u.2.2.2.2.2.1) 81 u.2.2.2.2.2.2.1) (updA (updA (updA (updA (updA B 14 u.2.2.2.2.2.2.2.2.2.2.2.1) 17 u.2.2.2.2.2.2.2.2.2.2.2.2.1) 18 u.2.2.2.2.2.2.2.2.2.2.2.2.2.1) 48 u.2.2.2.2.2.2.2.2.2.2.2.2.2.2.1) 49 u.2.2.2.2.2.2.2.2.2.2.2.2.2.2.2)))) ([.ref h0] : List Value).toArray s ({ frames := 1500, cells := 0, slots := 0, locals := 64000 } : Room).cells ({ frames := 1500, cells := 0, slots := 0, locals := 64000 } : Room).slots A) (F0 m 66 ls []) := by
              intro n_i
              induction n_i with
              | zero => intro p2 fa3 sc3 pl3 dn3 vn3 vt3 H locs ls hk_i hn_i; omega
              | succ n_i ih_i =>
                intro p2 fa3 sc3 pl3 dn3 vn3 vt3 H locs ls hk_i hn_i hf3 hs3 hpv hP hD hS hl
                refine lv_iload_n hx hb dX12_lookBodies_66 rfl (lv_at hl 0 rfl) ?_
                refine lv_aload_n hx hb dX12_lookBodies_67 rfl (lv_at hl 2 rfl) ?_
                refine r_get (v := .ref (a 41)) hx hb hown hq hE hP 55 135 tFX12_55 (by decide) pw_1472 rfl dX12_lookBodies_68 ?_
                refine lv_iload_n hx hb dX12_lookBodies_71 rfl (lv_at hl 1 rfl) ?_
                refine r_ldi (f := (B 41)) (j := m2) hx hb hE hP 41 (ma_41 G a _) rfl (by omega) (by decide) dX12_lookBodies_72 ?_
                refine lv_topi (fun x54 e55 => ?_)
                obtain rfl : x54 = nI q33 := e55.trans e36
                refine lv_icmp_ge (tgt := 126) hx hb dX12_lookBodies_73 (by decide) (fun c56 => ?_) (fun c56 => ?_)
                · have n57 : q33 ≤ p2 := (nI_leI (a := q33) (b := p2) (by omega) (by omega)).mp c56
                  refine lv_aload_n hx hb dX12_lookBodies_126 rfl (lv_at hl 2 rfl) ?_
                  refine r_get (v := .int (nI fa3)) hx hb hown hq hE hP 15 350 tFX12_15 (by decide) pw_1594 rfl dX12_lookBodies_127 ?_
                  refine lv_if_ne (tgt := 143) hx hb dX12_lookBodies_130 (by decide) (fun c58 => ?_) (fun c58 => ?_)
                  · have n59 : ¬ (fa3 = 0) := fun h9 => c58 ((nI_eq (a := fa3) (b := 0) (by omega) (by omega)).mpr h9)
                    refine lv_aload_n hx hb dX12_lookBodies_143 rfl (lv_at hl 2 rfl) ?_
                    refine r_get (v := .int (nI x48)) hx hb hown hq hE hP 75 627 tFX12_75 (by decide) pw_1885 rfl dX12_lookBodies_144 ?_
                    refine lv_if_eq (tgt := 179) hx hb dX12_lookBodies_147 (by decide) (fun c60 => ?_) (fun c60 => ?_)
                    · have n61 : x48 = 0 := (nI_eq (a := x48) (b := 0) (by omega) (by omega)).mp c60
                      refine lv_iinc (v := (nI (m2 + 1))) (lv' := [(1, .int (nI (m2 + 1))), (2, .int (nI p2)), (0, .ref h0)]) hx hb dX12_lookBodies_179 hl (k := 1) rfl (nI_1 m2) (by decide) rfl (fun ls hl => ?_)
                      refine lv_goto (tgt := 2) hx hb dX12_lookBodies_182 (by decide) ?_
                      have hP : va_P G.1 pCl (mW G h0 a (upd (upd (upd (upd (upd (upd (upd (upd (upd (upd (upd (upd (upd F 15 (nI fa3)) 16 pl3) 44 (nI fd)) 49 (nI md)) 73 (nI sc3)) 74 (nI d29)) 75 (nI x48)) 76 (0 : Int32)) 77 dn3) 78 wt2) 79 wf2) 80 ab2) 81 ac2) (updA (updA (updA (updA (updA B 14 nc2) 17 ty2) 18 mn2) 48 vn3) 49 vt3)) _ := mW_to (F := F) (l1 := [(15, (nI fa3)), (16, pl3), (44, (nI fd)), (49, (nI md)), (73, (nI sc3)), (74, (nI d29)), (75, (nI x48)), (76, 0), (77, dn3), (78, wt2), (79, wf2), (80, ab2), (81, ac2)]) (l2 := [(15, (nI fa3)), (16, pl3), (44, (nI fd)), (49, (nI md)), (73, (nI sc3)), (74, (nI d29)), (75, (nI x48)), (76, (0 : Int32)), (77, dn3), (78, wt2), (79, wf2), (80, ab2), (81, ac2)]) (V := [(nI fa3), pl3, (nI fd), (nI md), (nI sc3), (nI d29), (nI x48), (0 : Int32), dn3, wt2, wf2, ab2, ac2, (nI fa3), pl3, (nI fd), (nI md), (nI sc3), (nI d29), (nI x48), (0 : Int32), dn3, wt2, wf2, ab2, ac2]) rfl rfl rfl hP
                      have hD : va_D A (mW G h0 a (upd (upd (upd (upd (upd (upd (upd (upd (upd (upd (upd (upd (upd F 15 (nI fa3)) 16 pl3) 44 (nI fd)) 49 (nI md)) 73 (nI sc3)) 74 (nI d29)) 75 (nI x48)) 76 (0 : Int32)) 77 dn3) 78 wt2) 79 wf2) 80 ab2) 81 ac2) (updA (updA (updA (updA (updA B 14 nc2) 17 ty2) 18 mn2) 48 vn3) 49 vt3)) := mW_D hD
                      exact ih_o (m2 + 1) fa3 pl3 dn3 wt2 wf2 ab2 ac2 (nI sc3) (nI d29) (nI x48) (0 : Int32) nc2 ty2 mn2 vn3 vt3 _ _ _ (by omega) (by omega) (by omega) hnc2 hmn2 (mnB.up hmb2) (fun e => absurd e (by omega)) hP hD hS (lv_sub hl [0, 2] rfl)
                    · have n62 : ¬ (x48 = 0) := fun h9 => c60 ((nI_eq (a := x48) (b := 0) (by omega) (by omega)).mpr h9)
                      refine lv_aload_n hx hb dX12_lookBodies_150 rfl (lv_at hl 2 rfl) ?_
                      refine lv_aload_n hx hb dX12_lookBodies_151 rfl (lv_at hl 2 rfl) ?_
                      refine r_get (v := .int dn3) hx hb hown hq hE hP 77 544 tFX12_77 (by decide) pw_1796 rfl dX12_lookBodies_152 ?_
                      refine lv_ldcw (v := 1073741824) hx hb hown (hq _ pw_1797) dX12_lookBodies_155 ?_
                      refine lv_iand hx hb dX12_lookBodies_158 ?_
                      refine lv_topi (fun x63 e64 => ?_)
                      refine lv_if_eq (tgt := 166) hx hb dX12_lookBodies_159 (by decide) (fun c65 => ?_) (fun c65 => ?_)
                      · refine lv_iconst (v := 0) hx hb dX12_lookBodies_166 (by decide) ?_
                        refine lv_bipush (v := 15) hx hb dX12_lookBodies_167 (by decide) ?_
                        refine lv_aload_n hx hb dX12_lookBodies_169 rfl (lv_at hl 2 rfl) ?_
                        refine r_get (v := .ref (a 43)) hx hb hown hq hE hP 57 141 tFX12_57 (by decide) pw_1474 rfl dX12_lookBodies_170 ?_
                        refine lv_iload_n hx hb dX12_lookBodies_173 rfl (lv_at hl 1 rfl) ?_
                        refine r_ldi (f := (B 43)) (j := m2) hx hb hE hP 43 (ma_43 G a _) rfl (by omega) (by decide) dX12_lookBodies_174 ?_
                        refine lv_topi (fun x66 e67 => ?_)
                        obtain rfl : x66 = nI t39 := e67.trans e40
                        have hP : va_P G.1 pCl (mW G h0 a (upd (upd (upd (upd (upd (upd (upd (upd (upd (upd (upd (upd (upd (upd F 15 (nI fa3)) 16 pl3) 44 (nI fd)) 49 (nI md)) 73 (nI sc3)) 74 (nI d29)) 75 (nI x48)) 76 0) 77 dn3) 78 wt2) 79 wf2) 80 ab2) 81 ac2) 15 (nI fa3)) (updA (updA (updA (updA (updA B 14 nc2) 17 ty2) 18 mn2) 48 vn3) 49 vt3)) _ := mW_to (F := F) (l1 := [(15, (nI fa3)), (16, pl3), (44, (nI fd)), (49, (nI md)), (73, (nI sc3)), (74, (nI d29)), (75, (nI x48)), (76, 0), (77, dn3), (78, wt2), (79, wf2), (80, ab2), (81, ac2)]) (l2 := [(15, (nI fa3)), (16, pl3), (44, (nI fd)), (49, (nI md)), (73, (nI sc3)), (74, (nI d29)), (75, (nI x48)), (76, 0), (77, dn3), (78, wt2), (79, wf2), (80, ab2), (81, ac2), (15, (nI fa3))]) (V := [(nI fa3), pl3, (nI fd), (nI md), (nI sc3), (nI d29), (nI x48), 0, dn3, wt2, wf2, ab2, ac2, (nI fa3), pl3, (nI fd), (nI md), (nI sc3), (nI d29), (nI x48), 0, dn3, wt2, wf2, ab2, ac2, (nI fa3)]) rfl rfl rfl hP
                        have hD : va_D A (mW G h0 a (upd (upd (upd (upd (upd (upd (upd (upd (upd (upd (upd (upd (upd (upd F 15 (nI fa3)) 16 pl3) 44 (nI fd)) 49 (nI md)) 73 (nI sc3)) 74 (nI d29)) 75 (nI x48)) 76 0) 77 dn3) 78 wt2) 79 wf2) 80 ab2) 81 ac2) 15 (nI fa3)) (updA (updA (updA (updA (updA B 14 nc2) 17 ty2) 18 mn2) 48 vn3) 49 vt3)) := mW_D hD
                        refine pc_V0 (G := G) (As := [.int (nI 0), .int (nI 15), .int (nI t39)]) (rest := []) hx hb hml hown hq hE hX pX0_al hP hD hS hA hl.1 (R_judgeL l G h0 a (upd (upd (upd (upd (upd (upd (upd (upd (upd (upd (upd (upd (upd F 15 (nI fa3)) 16 pl3) 44 (nI fd)) 49 (nI md)) 73 (nI sc3)) 74 (nI d29)) 75 (nI x48)) 76 0) 77 dn3) 78 wt2) 79 wf2) 80 ab2) 81 ac2) (updA (updA (updA (updA (updA B 14 nc2) 17 ty2) 18 mn2) 48 vn3) 49 vt3) 0 15 t39 fa3 (by omega) (by omega) (by omega) (by omega)) (gV pw_1798 pw_1799 pw_1800 pw_1523 pw_1793) hV_X12_judge 0 9 rfl rfl rfl rfl (Nat.le_of_ble_eq_true rfl) dX12_lookBodies_175 ⟨Nat.le_of_ble_eq_true rfl, Nat.le_of_ble_eq_true rfl⟩ ⟨Nat.le_of_ble_eq_true rfl, Nat.le_of_ble_eq_true rfl⟩ (fun v70 u68 H locs hw69 hP hD hS => ?_)
                        obtain ⟨r71, fa72, pl73⟩ := u68
                        obtain ⟨hw69, h74, h75, h76, h77, h78, h79, h80⟩ := hw69
                        replace h74 : r71 ≤ 1 := h74
                        replace h75 : fa3 ≤ fa72 := h75
                        replace h76 : fa72 ≤ 15 := h76
                        replace h77 : fa72 + 15 * r71 ≤ 15 := h77
                        replace h78 : 1 ≤ r71 + fa72 := h78
                        replace h79 : 1 ≤ 0 + fa72 := h79
                        replace h80 : fa72 ≤ fa3 + 15 * (1 - 0) := h80
                        obtain rfl : v70 = some (.int (nI r71)) := hw69
                        have hP : va_P G.1 pCl (mW G h0 a (upd (upd (upd (upd (upd (upd (upd (upd (upd (upd (upd (upd (upd F 15 (nI fa72)) 16 pl73) 44 (nI fd)) 49 (nI md)) 73 (nI sc3)) 74 (nI d29)) 75 (nI x48)) 76 0) 77 dn3) 78 wt2) 79 wf2) 80 ab2) 81 ac2) (updA (updA (updA (updA (updA B 14 nc2) 17 ty2) 18 mn2) 48 vn3) 49 vt3)) _ := mW_to (F := F) (l1 := [(15, (nI fa3)), (16, pl3), (44, (nI fd)), (49, (nI md)), (73, (nI sc3)), (74, (nI d29)), (75, (nI x48)), (76, 0), (77, dn3), (78, wt2), (79, wf2), (80, ab2), (81, ac2), (15, (nI fa72)), (16, pl73)]) (l2 := [(15, (nI fa72)), (16, pl73), (44, (nI fd)), (49, (nI md)), (73, (nI sc3)), (74, (nI d29)), (75, (nI x48)), (76, 0), (77, dn3), (78, wt2), (79, wf2), (80, ab2), (81, ac2)]) (V := [(nI fa72), pl73, (nI fd), (nI md), (nI sc3), (nI d29), (nI x48), 0, dn3, wt2, wf2, ab2, ac2, (nI fa72), pl73, (nI fa72), pl73, (nI fd), (nI md), (nI sc3), (nI d29), (nI x48), 0, dn3, wt2, wf2, ab2, ac2]) rfl rfl rfl hP
                        have hD : va_D A (mW G h0 a (upd (upd (upd (upd (upd (upd (upd (upd (upd (upd (upd (upd (upd F 15 (nI fa72)) 16 pl73) 44 (nI fd)) 49 (nI md)) 73 (nI sc3)) 74 (nI d29)) 75 (nI x48)) 76 0) 77 dn3) 78 wt2) 79 wf2) 80 ab2) 81 ac2) (updA (updA (updA (updA (updA B 14 nc2) 17 ty2) 18 mn2) 48 vn3) 49 vt3)) := mW_D hD
                        refine W.widen (k := 0) (n := 0) (Nat.le_of_ble_eq_true rfl) (Nat.le_of_ble_eq_true rfl) ?_
                        refine W.eq (g2 := F0 m 178 ls [.int (nI r71)]) rfl ?_
                        refine lv_pop hx hb dX12_lookBodies_178 rfl ?_
                        refine lv_iinc (v := (nI (m2 + 1))) (lv' := [(1, .int (nI (m2 + 1))), (2, .int (nI p2)), (0, .ref h0)]) hx hb dX12_lookBodies_179 hl (k := 1) rfl (nI_1 m2) (by decide) rfl (fun ls hl => ?_)
                        refine lv_goto (tgt := 2) hx hb dX12_lookBodies_182 (by decide) ?_
                        have hP : va_P G.1 pCl (mW G h0 a (upd (upd (upd (upd (upd (upd (upd (upd (upd (upd (upd (upd (upd F 15 (nI fa72)) 16 pl73) 44 (nI fd)) 49 (nI md)) 73 (nI sc3)) 74 (nI d29)) 75 (nI x48)) 76 (0 : Int32)) 77 dn3) 78 wt2) 79 wf2) 80 ab2) 81 ac2) (updA (updA (updA (updA (updA B 14 nc2) 17 ty2) 18 mn2) 48 vn3) 49 vt3)) _ := mW_to (F := F) (l1 := [(15, (nI fa72)), (16, pl73), (44, (nI fd)), (49, (nI md)), (73, (nI sc3)), (74, (nI d29)), (75, (nI x48)), (76, 0), (77, dn3), (78, wt2), (79, wf2), (80, ab2), (81, ac2)]) (l2 := [(15, (nI fa72)), (16, pl73), (44, (nI fd)), (49, (nI md)), (73, (nI sc3)), (74, (nI d29)), (75, (nI x48)), (76, (0 : Int32)), (77, dn3), (78, wt2), (79, wf2), (80, ab2), (81, ac2)]) (V := [(nI fa72), pl73, (nI fd), (nI md), (nI sc3), (nI d29), (nI x48), (0 : Int32), dn3, wt2, wf2, ab2, ac2, (nI fa72), pl73, (nI fd), (nI md), (nI sc3), (nI d29), (nI x48), (0 : Int32), dn3, wt2, wf2, ab2, ac2]) rfl rfl rfl hP
                        have hD : va_D A (mW G h0 a (upd (upd (upd (upd (upd (upd (upd (upd (upd (upd (upd (upd (upd F 15 (nI fa72)) 16 pl73) 44 (nI fd)) 49 (nI md)) 73 (nI sc3)) 74 (nI d29)) 75 (nI x48)) 76 (0 : Int32)) 77 dn3) 78 wt2) 79 wf2) 80 ab2) 81 ac2) (updA (updA (updA (updA (updA B 14 nc2) 17 ty2) 18 mn2) 48 vn3) 49 vt3)) := mW_D hD
                        exact ih_o (m2 + 1) fa72 pl73 dn3 wt2 wf2 ab2 ac2 (nI sc3) (nI d29) (nI x48) (0 : Int32) nc2 ty2 mn2 vn3 vt3 _ _ _ (by omega) (by omega) (by omega) hnc2 hmn2 (mnB.up hmb2) (fun e => absurd e (by omega)) hP hD hS (lv_sub hl [0, 2] rfl)
                      · refine lv_iconst (v := 1) hx hb dX12_lookBodies_162 (by decide) ?_
                        refine lv_goto (tgt := 167) hx hb dX12_lookBodies_163 (by decide) ?_
                        refine lv_bipush (v := 15) hx hb dX12_lookBodies_167 (by decide) ?_
                        refine lv_aload_n hx hb dX12_lookBodies_169 rfl (lv_at hl 2 rfl) ?_
                        refine r_get (v := .ref (a 43)) hx hb hown hq hE hP 57 141 tFX12_57 (by decide) pw_1474 rfl dX12_lookBodies_170 ?_
                        refine lv_iload_n hx hb dX12_lookBodies_173 rfl (lv_at hl 1 rfl) ?_
                        refine r_ldi (f := (B 43)) (j := m2) hx hb hE hP 43 (ma_43 G a _) rfl (by omega) (by decide) dX12_lookBodies_174 ?_
                        refine lv_topi (fun x81 e82 => ?_)
                        obtain rfl : x81 = nI t39 := e82.trans e40
                        have hP : va_P G.1 pCl (mW G h0 a (upd (upd (upd (upd (upd (upd (upd (upd (upd (upd (upd (upd (upd (upd F 15 (nI fa3)) 16 pl3) 44 (nI fd)) 49 (nI md)) 73 (nI sc3)) 74 (nI d29)) 75 (nI x48)) 76 0) 77 dn3) 78 wt2) 79 wf2) 80 ab2) 81 ac2) 15 (nI fa3)) (updA (updA (updA (updA (updA B 14 nc2) 17 ty2) 18 mn2) 48 vn3) 49 vt3)) _ := mW_to (F := F) (l1 := [(15, (nI fa3)), (16, pl3), (44, (nI fd)), (49, (nI md)), (73, (nI sc3)), (74, (nI d29)), (75, (nI x48)), (76, 0), (77, dn3), (78, wt2), (79, wf2), (80, ab2), (81, ac2)]) (l2 := [(15, (nI fa3)), (16, pl3), (44, (nI fd)), (49, (nI md)), (73, (nI sc3)), (74, (nI d29)), (75, (nI x48)), (76, 0), (77, dn3), (78, wt2), (79, wf2), (80, ab2), (81, ac2), (15, (nI fa3))]) (V := [(nI fa3), pl3, (nI fd), (nI md), (nI sc3), (nI d29), (nI x48), 0, dn3, wt2, wf2, ab2, ac2, (nI fa3), pl3, (nI fd), (nI md), (nI sc3), (nI d29), (nI x48), 0, dn3, wt2, wf2, ab2, ac2, (nI fa3)]) rfl rfl rfl hP
                        have hD : va_D A (mW G h0 a (upd (upd (upd (upd (upd (upd (upd (upd (upd (upd (upd (upd (upd (upd F 15 (nI fa3)) 16 pl3) 44 (nI fd)) 49 (nI md)) 73 (nI sc3)) 74 (nI d29)) 75 (nI x48)) 76 0) 77 dn3) 78 wt2) 79 wf2) 80 ab2) 81 ac2) 15 (nI fa3)) (updA (updA (updA (updA (updA B 14 nc2) 17 ty2) 18 mn2) 48 vn3) 49 vt3)) := mW_D hD
                        refine pc_V0 (G := G) (As := [.int (nI 1), .int (nI 15), .int (nI t39)]) (rest := []) hx hb hml hown hq hE hX pX0_al hP hD hS hA hl.1 (R_judgeL l G h0 a (upd (upd (upd (upd (upd (upd (upd (upd (upd (upd (upd (upd (upd F 15 (nI fa3)) 16 pl3) 44 (nI fd)) 49 (nI md)) 73 (nI sc3)) 74 (nI d29)) 75 (nI x48)) 76 0) 77 dn3) 78 wt2) 79 wf2) 80 ab2) 81 ac2) (updA (updA (updA (updA (updA B 14 nc2) 17 ty2) 18 mn2) 48 vn3) 49 vt3) 1 15 t39 fa3 (by omega) (by omega) (by omega) (by omega)) (gV pw_1798 pw_1799 pw_1800 pw_1523 pw_1793) hV_X12_judge 0 9 rfl rfl rfl rfl (Nat.le_of_ble_eq_true rfl) dX12_lookBodies_175 ⟨Nat.le_of_ble_eq_true rfl, Nat.le_of_ble_eq_true rfl⟩ ⟨Nat.le_of_ble_eq_true rfl, Nat.le_of_ble_eq_true rfl⟩ (fun v85 u83 H locs hw84 hP hD hS => ?_)
                        obtain ⟨r86, fa87, pl88⟩ := u83
                        obtain ⟨hw84, h89, h90, h91, h92, h93, h94, h95⟩ := hw84
                        replace h89 : r86 ≤ 1 := h89
                        replace h90 : fa3 ≤ fa87 := h90
                        replace h91 : fa87 ≤ 15 := h91
                        replace h92 : fa87 + 15 * r86 ≤ 15 := h92
                        replace h93 : 1 ≤ r86 + fa87 := h93
                        replace h94 : 1 ≤ 1 + fa87 := h94
                        replace h95 : fa87 ≤ fa3 + 15 * (1 - 1) := h95
                        obtain rfl : v85 = some (.int (nI r86)) := hw84
                        have hP : va_P G.1 pCl (mW G h0 a (upd (upd (upd (upd (upd (upd (upd (upd (upd (upd (upd (upd (upd F 15 (nI fa87)) 16 pl88) 44 (nI fd)) 49 (nI md)) 73 (nI sc3)) 74 (nI d29)) 75 (nI x48)) 76 0) 77 dn3) 78 wt2) 79 wf2) 80 ab2) 81 ac2) (updA (updA (updA (updA (updA B 14 nc2) 17 ty2) 18 mn2) 48 vn3) 49 vt3)) _ := mW_to (F := F) (l1 := [(15, (nI fa3)), (16, pl3), (44, (nI fd)), (49, (nI md)), (73, (nI sc3)), (74, (nI d29)), (75, (nI x48)), (76, 0), (77, dn3), (78, wt2), (79, wf2), (80, ab2), (81, ac2), (15, (nI fa87)), (16, pl88)]) (l2 := [(15, (nI fa87)), (16, pl88), (44, (nI fd)), (49, (nI md)), (73, (nI sc3)), (74, (nI d29)), (75, (nI x48)), (76, 0), (77, dn3), (78, wt2), (79, wf2), (80, ab2), (81, ac2)]) (V := [(nI fa87), pl88, (nI fd), (nI md), (nI sc3), (nI d29), (nI x48), 0, dn3, wt2, wf2, ab2, ac2, (nI fa87), pl88, (nI fa87), pl88, (nI fd), (nI md), (nI sc3), (nI d29), (nI x48), 0, dn3, wt2, wf2, ab2, ac2]) rfl rfl rfl hP
                        have hD : va_D A (mW G h0 a (upd (upd (upd (upd (upd (upd (upd (upd (upd (upd (upd (upd (upd F 15 (nI fa87)) 16 pl88) 44 (nI fd)) 49 (nI md)) 73 (nI sc3)) 74 (nI d29)) 75 (nI x48)) 76 0) 77 dn3) 78 wt2) 79 wf2) 80 ab2) 81 ac2) (updA (updA (updA (updA (updA B 14 nc2) 17 ty2) 18 mn2) 48 vn3) 49 vt3)) := mW_D hD
                        refine W.widen (k := 0) (n := 0) (Nat.le_of_ble_eq_true rfl) (Nat.le_of_ble_eq_true rfl) ?_
                        refine W.eq (g2 := F0 m 178 ls [.int (nI r86)]) rfl ?_
                        refine lv_pop hx hb dX12_lookBodies_178 rfl ?_
                        refine lv_iinc (v := (nI (m2 + 1))) (lv' := [(1, .int (nI (m2 + 1))), (2, .int (nI p2)), (0, .ref h0)]) hx hb dX12_lookBodies_179 hl (k := 1) rfl (nI_1 m2) (by decide) rfl (fun ls hl => ?_)
                        refine lv_goto (tgt := 2) hx hb dX12_lookBodies_182 (by decide) ?_
                        have hP : va_P G.1 pCl (mW G h0 a (upd (upd (upd (upd (upd (upd (upd (upd (upd (upd (upd (upd (upd F 15 (nI fa87)) 16 pl88) 44 (nI fd)) 49 (nI md)) 73 (nI sc3)) 74 (nI d29)) 75 (nI x48)) 76 (0 : Int32)) 77 dn3) 78 wt2) 79 wf2) 80 ab2) 81 ac2) (updA (updA (updA (updA (updA B 14 nc2) 17 ty2) 18 mn2) 48 vn3) 49 vt3)) _ := mW_to (F := F) (l1 := [(15, (nI fa87)), (16, pl88), (44, (nI fd)), (49, (nI md)), (73, (nI sc3)), (74, (nI d29)), (75, (nI x48)), (76, 0), (77, dn3), (78, wt2), (79, wf2), (80, ab2), (81, ac2)]) (l2 := [(15, (nI fa87)), (16, pl88), (44, (nI fd)), (49, (nI md)), (73, (nI sc3)), (74, (nI d29)), (75, (nI x48)), (76, (0 : Int32)), (77, dn3), (78, wt2), (79, wf2), (80, ab2), (81, ac2)]) (V := [(nI fa87), pl88, (nI fd), (nI md), (nI sc3), (nI d29), (nI x48), (0 : Int32), dn3, wt2, wf2, ab2, ac2, (nI fa87), pl88, (nI fd), (nI md), (nI sc3), (nI d29), (nI x48), (0 : Int32), dn3, wt2, wf2, ab2, ac2]) rfl rfl rfl hP
                        have hD : va_D A (mW G h0 a (upd (upd (upd (upd (upd (upd (upd (upd (upd (upd (upd (upd (upd F 15 (nI fa87)) 16 pl88) 44 (nI fd)) 49 (nI md)) 73 (nI sc3)) 74 (nI d29)) 75 (nI x48)) 76 (0 : Int32)) 77 dn3) 78 wt2) 79 wf2) 80 ab2) 81 ac2) (updA (updA (updA (updA (updA B 14 nc2) 17 ty2) 18 mn2) 48 vn3) 49 vt3)) := mW_D hD
                        exact ih_o (m2 + 1) fa87 pl88 dn3 wt2 wf2 ab2 ac2 (nI sc3) (nI d29) (nI x48) (0 : Int32) nc2 ty2 mn2 vn3 vt3 _ _ _ (by omega) (by omega) (by omega) hnc2 hmn2 (mnB.up hmb2) (fun e => absurd e (by omega)) hP hD hS (lv_sub hl [0, 2] rfl)
                  · have n96 : fa3 = 0 := (nI_eq (a := fa3) (b := 0) (by omega) (by omega)).mp c58
                    refine lv_aload_n hx hb dX12_lookBodies_133 rfl (lv_at hl 2 rfl) ?_
                    refine lv_aload_n hx hb dX12_lookBodies_134 rfl (lv_at hl 2 rfl) ?_
                    refine r_get (v := .ref (a 42)) hx hb hown hq hE hP 56 138 tFX12_56 (by decide) pw_1473 rfl dX12_lookBodies_135 ?_
                    refine lv_iload_n hx hb dX12_lookBodies_138 rfl (lv_at hl 1 rfl) ?_
                    refine r_ldi (f := (B 42)) (j := m2) hx hb hE hP 42 (ma_42 G a _) rfl (by omega) (by decide) dX12_lookBodies_139 ?_
                    refine lv_topi (fun x97 e98 => ?_)
                    obtain rfl : x97 = nI b16 := e98.trans e18
                    obtain ⟨hz99, hz100⟩ := hpv (by omega)
                    have hsq : sc3 = q33 := by omega
                    have hvk101 : ∀ i : Nat, i < sc3 → tyOK dc (vt3 i) := (fun i h => by rw [hz100 i (by omega)]; exact ytF_ok hPS hTY (by omega) (by omega))
                    have hP : va_P G.1 pCl (mW G h0 a (upd (upd (upd (upd (upd (upd (upd (upd (upd (upd (upd (upd (upd (upd (upd (upd (upd (upd (upd (upd (upd (upd (upd (upd (upd F 15 (nI fa3)) 16 pl3) 44 (nI fd)) 49 (nI md)) 73 (nI sc3)) 74 (nI d29)) 75 (nI x48)) 76 0) 77 dn3) 78 wt2) 79 wf2) 80 ab2) 81 ac2) 15 (nI fa3)) 44 (nI fd)) 49 (nI md)) 73 (nI sc3)) 74 (nI d29)) 75 (nI x48)) 76 (nI 0)) 77 dn3) 78 wt2) 79 wf2) 80 ab2) 81 ac2) (updA (updA (updA (updA (updA B 14 nc2) 17 ty2) 18 mn2) 48 vn3) 49 vt3)) _ := mW_to (F := F) (l1 := [(15, (nI fa3)), (16, pl3), (44, (nI fd)), (49, (nI md)), (73, (nI sc3)), (74, (nI d29)), (75, (nI x48)), (76, 0), (77, dn3), (78, wt2), (79, wf2), (80, ab2), (81, ac2)]) (l2 := [(15, (nI fa3)), (16, pl3), (44, (nI fd)), (49, (nI md)), (73, (nI sc3)), (74, (nI d29)), (75, (nI x48)), (76, 0), (77, dn3), (78, wt2), (79, wf2), (80, ab2), (81, ac2), (15, (nI fa3)), (44, (nI fd)), (49, (nI md)), (73, (nI sc3)), (74, (nI d29)), (75, (nI x48)), (76, (nI 0)), (77, dn3), (78, wt2), (79, wf2), (80, ab2), (81, ac2)]) (V := [(nI fa3), pl3, (nI fd), (nI md), (nI sc3), (nI d29), (nI x48), (nI 0), dn3, wt2, wf2, ab2, ac2, (nI fa3), pl3, (nI fd), (nI md), (nI sc3), (nI d29), (nI x48), (nI 0), dn3, wt2, wf2, ab2, ac2, (nI fa3), (nI fd), (nI md), (nI sc3), (nI d29), (nI x48), (nI 0), dn3, wt2, wf2, ab2, ac2]) rfl rfl rfl hP
                    have hD : va_D A (mW G h0 a (upd (upd (upd (upd (upd (upd (upd (upd (upd (upd (upd (upd (upd (upd (upd (upd (upd (upd (upd (upd (upd (upd (upd (upd (upd F 15 (nI fa3)) 16 pl3) 44 (nI fd)) 49 (nI md)) 73 (nI sc3)) 74 (nI d29)) 75 (nI x48)) 76 0) 77 dn3) 78 wt2) 79 wf2) 80 ab2) 81 ac2) 15 (nI fa3)) 44 (nI fd)) 49 (nI md)) 73 (nI sc3)) 74 (nI d29)) 75 (nI x48)) 76 (nI 0)) 77 dn3) 78 wt2) 79 wf2) 80 ab2) 81 ac2) (updA (updA (updA (updA (updA B 14 nc2) 17 ty2) 18 mn2) 48 vn3) 49 vt3)) := mW_D hD
                    refine pc_V0 (G := G) (As := [.int (nI b16)]) (rest := []) hx hb hml hown hq hE hX pX0_al hP hD hS hA hl.1 ((LS_all l G 362) h0 a (upd (upd (upd (upd (upd (upd (upd (upd (upd (upd (upd (upd (upd F 15 (nI fa3)) 16 pl3) 44 (nI fd)) 49 (nI md)) 73 (nI sc3)) 74 (nI d29)) 75 (nI x48)) 76 0) 77 dn3) 78 wt2) 79 wf2) 80 ab2) 81 ac2) B b16 fa3 sc3 0 d29 x48 nd T nm wr lz dc fd md pr bk gh dn3 wt2 wf2 ab2 ac2 nc2 ty2 mn2 vn3 vt3 vt3 hst hnm h24 (by omega) (by omega) (by omega) (by omega) hnc2 hmn2 (by omega) h50 (by omega) (hmb2 m2 b16 (Nat.le_refl _) (by omega) (by omega) e18) hvk101 (fun i h => rfl) (by rw [h27]; decide)) (gV pw_1874 pw_1875 pw_1876 pw_1523 pw_1884) hV_X12_lookStatement 0 9 rfl rfl rfl rfl (Nat.le_of_ble_eq_true rfl) dX12_lookBodies_140 ⟨Nat.le_of_ble_eq_true rfl, Nat.le_of_ble_eq_true rfl⟩ ⟨(by show (4 * 362 + 14) + 1 ≤ 1500; omega), (by show 8 + (4 + 11) + (160 * 362 + 1700) ≤ 64000; omega)⟩ (fun v104 u102 H locs hw103 hP hD hS => ?_)
                    obtain ⟨fa105, sc106, pl107, dn108, wt109, wf110, ab111, ac112, nc113, ty114, mn115, vn116, vt117⟩ := u102
                    obtain ⟨hw103, h118, h119, h120, h121, h122, h123, h124, h125, h126⟩ := hw103
                    replace h118 : fa3 ≤ fa105 := h118
                    replace h119 : fa105 ≤ 15 := h119
                    replace h120 : sc3 ≤ sc106 := h120
                    replace h121 : sc106 ≤ 30 := h121
                    replace h122 : ChS B nd b16 ty2 ty114 mn2 mn115 nc2 nc113 := h122
                    replace h123 : mnN B nd mn115 := h123
                    replace h124 : ∀ i : Nat, i < nd → ¬ (B) 9 i = 44 → nc113 i = (B) 14 i := h124
                    replace h125 : ∀ i : Nat, i < sc3 → vt117 i = vt3 i := h125
                    replace h126 : If (fa105 = 0) (TyS B dc fd md nd ty114 mn115 nc113 d29 x48 b16 (sc3, 0, vt3) ∧ sc106 = (aft B b16 (sc3, 0, vt3)).1 ∧ ∀ i : Nat, i < sc106 → vt117 i = (aft B b16 (sc3, 0, vt3)).2.2 i ∧ tyOK dc (vt117 i)) := h126
                    obtain rfl : v104 = none := hw103
                    have hP : va_P G.1 pCl (mW G h0 a (upd (upd (upd (upd (upd (upd (upd (upd (upd (upd (upd (upd (upd F 15 (nI fa105)) 16 pl107) 44 (nI fd)) 49 (nI md)) 73 (nI sc106)) 74 (nI d29)) 75 (nI x48)) 76 0) 77 dn108) 78 wt109) 79 wf110) 80 ab111) 81 ac112) (updA (updA (updA (updA (updA B 14 nc113) 17 ty114) 18 mn115) 48 vn116) 49 vt117)) _ := mW_to (F := F) (l1 := [(15, (nI fa3)), (16, pl3), (44, (nI fd)), (49, (nI md)), (73, (nI sc3)), (74, (nI d29)), (75, (nI x48)), (76, 0), (77, dn3), (78, wt2), (79, wf2), (80, ab2), (81, ac2), (15, (nI fa105)), (16, pl107), (44, (nI fd)), (49, (nI md)), (73, (nI sc106)), (74, (nI d29)), (75, (nI x48)), (76, (nI 0)), (77, dn108), (78, wt109), (79, wf110), (80, ab111), (81, ac112)]) (l2 := [(15, (nI fa105)), (16, pl107), (44, (nI fd)), (49, (nI md)), (73, (nI sc106)), (74, (nI d29)), (75, (nI x48)), (76, 0), (77, dn108), (78, wt109), (79, wf110), (80, ab111), (81, ac112)]) (V := [(nI fa105), pl107, (nI fd), (nI md), (nI sc106), (nI d29), (nI x48), 0, dn108, wt109, wf110, ab111, ac112, (nI fa105), pl107, (nI fd), (nI md), (nI sc106), (nI d29), (nI x48), 0, dn108, wt109, wf110, ab111, ac112, (nI fa105), pl107, (nI fd), (nI md), (nI sc106), (nI d29), (nI x48), 0, dn108, wt109, wf110, ab111, ac112]) rfl rfl rfl hP
                    have hD : va_D A (mW G h0 a (upd (upd (upd (upd (upd (upd (upd (upd (upd (upd (upd (upd (upd F 15 (nI fa105)) 16 pl107) 44 (nI fd)) 49 (nI md)) 73 (nI sc106)) 74 (nI d29)) 75 (nI x48)) 76 0) 77 dn108) 78 wt109) 79 wf110) 80 ab111) 81 ac112) (updA (updA (updA (updA (updA B 14 nc113) 17 ty114) 18 mn115) 48 vn116) 49 vt117)) := mW_D hD
                    refine W.widen (k := 0) (n := 0) (Nat.le_of_ble_eq_true rfl) (Nat.le_of_ble_eq_true rfl) ?_
                    refine W.eq (g2 := F0 m 143 ls []) rfl ?_
                    have hq6127 : If (fa105 = 0) (TyS B dc fd md nd ty114 mn115 nc113 d29 x48 b16 (q33, 0, vt3) ∧ True) := (fun e => ⟨by have z := (h126 e).1; rw [hsq] at z; exact z, trivial⟩)
                    have hev128 : ∀ i : Nat, i < q33 → vt3 i = ytF B (p34 + i) ∧ tyOK dc (vt3 i) := (fun i h => ⟨hz100 i (by omega), hvk101 i (by omega)⟩)
                    refine lv_aload_n hx hb dX12_lookBodies_143 rfl (lv_at hl 2 rfl) ?_
                    refine r_get (v := .int (nI x48)) hx hb hown hq hE hP 75 627 tFX12_75 (by decide) pw_1885 rfl dX12_lookBodies_144 ?_
                    refine lv_if_eq (tgt := 179) hx hb dX12_lookBodies_147 (by decide) (fun c129 => ?_) (fun c129 => ?_)
                    · have n130 : x48 = 0 := (nI_eq (a := x48) (b := 0) (by omega) (by omega)).mp c129
                      refine lv_iinc (v := (nI (m2 + 1))) (lv' := [(1, .int (nI (m2 + 1))), (2, .int (nI p2)), (0, .ref h0)]) hx hb dX12_lookBodies_179 hl (k := 1) rfl (nI_1 m2) (by decide) rfl (fun ls hl => ?_)
                      refine lv_goto (tgt := 2) hx hb dX12_lookBodies_182 (by decide) ?_
                      have hP : va_P G.1 pCl (mW G h0 a (upd (upd (upd (upd (upd (upd (upd (upd (upd (upd (upd (upd (upd F 15 (nI fa105)) 16 pl107) 44 (nI fd)) 49 (nI md)) 73 (nI sc106)) 74 (nI d29)) 75 (nI x48)) 76 (0 : Int32)) 77 dn108) 78 wt109) 79 wf110) 80 ab111) 81 ac112) (updA (updA (updA (updA (updA B 14 nc113) 17 ty114) 18 mn115) 48 vn116) 49 vt117)) _ := mW_to (F := F) (l1 := [(15, (nI fa105)), (16, pl107), (44, (nI fd)), (49, (nI md)), (73, (nI sc106)), (74, (nI d29)), (75, (nI x48)), (76, 0), (77, dn108), (78, wt109), (79, wf110), (80, ab111), (81, ac112)]) (l2 := [(15, (nI fa105)), (16, pl107), (44, (nI fd)), (49, (nI md)), (73, (nI sc106)), (74, (nI d29)), (75, (nI x48)), (76, (0 : Int32)), (77, dn108), (78, wt109), (79, wf110), (80, ab111), (81, ac112)]) (V := [(nI fa105), pl107, (nI fd), (nI md), (nI sc106), (nI d29), (nI x48), (0 : Int32), dn108, wt109, wf110, ab111, ac112, (nI fa105), pl107, (nI fd), (nI md), (nI sc106), (nI d29), (nI x48), (0 : Int32), dn108, wt109, wf110, ab111, ac112]) rfl rfl rfl hP
                      have hD : va_D A (mW G h0 a (upd (upd (upd (upd (upd (upd (upd (upd (upd (upd (upd (upd (upd F 15 (nI fa105)) 16 pl107) 44 (nI fd)) 49 (nI md)) 73 (nI sc106)) 74 (nI d29)) 75 (nI x48)) 76 (0 : Int32)) 77 dn108) 78 wt109) 79 wf110) 80 ab111) 81 ac112) (updA (updA (updA (updA (updA B 14 nc113) 17 ty114) 18 mn115) 48 vn116) 49 vt117)) := mW_D hD
                      exact ih_o (m2 + 1) fa105 pl107 dn108 wt109 wf110 ab111 ac112 (nI sc106) (nI d29) (nI x48) (0 : Int32) nc113 ty114 mn115 vn116 vt117 _ _ _ (by omega) (by omega) (by omega) h124 h123 (mnB.more hF (by omega) hbl (by omega) hmb2 (by omega) e18 h122) (fun e => BdA.more hF (by omega) hbl (by omega) (hba (by omega)) (by omega) e18 h122 ⟨d29, x48, q33, p34, vt3, e30, by omega, by omega, e49, h50, by omega, e36, e35, by omega, hev128, (hq6127 (by omega)).1⟩) hP hD hS (lv_sub hl [0, 2] rfl)
                    · have n131 : ¬ (x48 = 0) := fun h9 => c129 ((nI_eq (a := x48) (b := 0) (by omega) (by omega)).mpr h9)
                      refine lv_aload_n hx hb dX12_lookBodies_150 rfl (lv_at hl 2 rfl) ?_
                      refine lv_aload_n hx hb dX12_lookBodies_151 rfl (lv_at hl 2 rfl) ?_
                      refine r_get (v := .int dn108) hx hb hown hq hE hP 77 544 tFX12_77 (by decide) pw_1796 rfl dX12_lookBodies_152 ?_
                      refine lv_ldcw (v := 1073741824) hx hb hown (hq _ pw_1797) dX12_lookBodies_155 ?_
                      refine lv_iand hx hb dX12_lookBodies_158 ?_
                      refine lv_topi (fun x132 e133 => ?_)
                      refine lv_if_eq (tgt := 166) hx hb dX12_lookBodies_159 (by decide) (fun c134 => ?_) (fun c134 => ?_)
                      · refine lv_iconst (v := 0) hx hb dX12_lookBodies_166 (by decide) ?_
                        refine lv_bipush (v := 15) hx hb dX12_lookBodies_167 (by decide) ?_
                        refine lv_aload_n hx hb dX12_lookBodies_169 rfl (lv_at hl 2 rfl) ?_
                        refine r_get (v := .ref (a 43)) hx hb hown hq hE hP 57 141 tFX12_57 (by decide) pw_1474 rfl dX12_lookBodies_170 ?_
                        refine lv_iload_n hx hb dX12_lookBodies_173 rfl (lv_at hl 1 rfl) ?_
                        refine r_ldi (f := (B 43)) (j := m2) hx hb hE hP 43 (ma_43 G a _) rfl (by omega) (by decide) dX12_lookBodies_174 ?_
                        refine lv_topi (fun x135 e136 => ?_)
                        obtain rfl : x135 = nI t39 := e136.trans e40
                        have hP : va_P G.1 pCl (mW G h0 a (upd (upd (upd (upd (upd (upd (upd (upd (upd (upd (upd (upd (upd (upd F 15 (nI fa105)) 16 pl107) 44 (nI fd)) 49 (nI md)) 73 (nI sc106)) 74 (nI d29)) 75 (nI x48)) 76 0) 77 dn108) 78 wt109) 79 wf110) 80 ab111) 81 ac112) 15 (nI fa105)) (updA (updA (updA (updA (updA B 14 nc113) 17 ty114) 18 mn115) 48 vn116) 49 vt117)) _ := mW_to (F := F) (l1 := [(15, (nI fa105)), (16, pl107), (44, (nI fd)), (49, (nI md)), (73, (nI sc106)), (74, (nI d29)), (75, (nI x48)), (76, 0), (77, dn108), (78, wt109), (79, wf110), (80, ab111), (81, ac112)]) (l2 := [(15, (nI fa105)), (16, pl107), (44, (nI fd)), (49, (nI md)), (73, (nI sc106)), (74, (nI d29)), (75, (nI x48)), (76, 0), (77, dn108), (78, wt109), (79, wf110), (80, ab111), (81, ac112), (15, (nI fa105))]) (V := [(nI fa105), pl107, (nI fd), (nI md), (nI sc106), (nI d29), (nI x48), 0, dn108, wt109, wf110, ab111, ac112, (nI fa105), pl107, (nI fd), (nI md), (nI sc106), (nI d29), (nI x48), 0, dn108, wt109, wf110, ab111, ac112, (nI fa105)]) rfl rfl rfl hP
                        have hD : va_D A (mW G h0 a (upd (upd (upd (upd (upd (upd (upd (upd (upd (upd (upd (upd (upd (upd F 15 (nI fa105)) 16 pl107) 44 (nI fd)) 49 (nI md)) 73 (nI sc106)) 74 (nI d29)) 75 (nI x48)) 76 0) 77 dn108) 78 wt109) 79 wf110) 80 ab111) 81 ac112) 15 (nI fa105)) (updA (updA (updA (updA (updA B 14 nc113) 17 ty114) 18 mn115) 48 vn116) 49 vt117)) := mW_D hD
                        refine pc_V0 (G := G) (As := [.int (nI 0), .int (nI 15), .int (nI t39)]) (rest := []) hx hb hml hown hq hE hX pX0_al hP hD hS hA hl.1 (R_judgeL l G h0 a (upd (upd (upd (upd (upd (upd (upd (upd (upd (upd (upd (upd (upd F 15 (nI fa105)) 16 pl107) 44 (nI fd)) 49 (nI md)) 73 (nI sc106)) 74 (nI d29)) 75 (nI x48)) 76 0) 77 dn108) 78 wt109) 79 wf110) 80 ab111) 81 ac112) (updA (updA (updA (updA (updA B 14 nc113) 17 ty114) 18 mn115) 48 vn116) 49 vt117) 0 15 t39 fa105 (by omega) (by omega) (by omega) (by omega)) (gV pw_1798 pw_1799 pw_1800 pw_1523 pw_1793) hV_X12_judge 0 9 rfl rfl rfl rfl (Nat.le_of_ble_eq_true rfl) dX12_lookBodies_175 ⟨Nat.le_of_ble_eq_true rfl, Nat.le_of_ble_eq_true rfl⟩ ⟨Nat.le_of_ble_eq_true rfl, Nat.le_of_ble_eq_true rfl⟩ (fun v139 u137 H locs hw138 hP hD hS => ?_)
                        obtain ⟨r140, fa141, pl142⟩ := u137
                        obtain ⟨hw138, h143, h144, h145, h146, h147, h148, h149⟩ := hw138
                        replace h143 : r140 ≤ 1 := h143
                        replace h144 : fa105 ≤ fa141 := h144
                        replace h145 : fa141 ≤ 15 := h145
                        replace h146 : fa141 + 15 * r140 ≤ 15 := h146
                        replace h147 : 1 ≤ r140 + fa141 := h147
                        replace h148 : 1 ≤ 0 + fa141 := h148
                        replace h149 : fa141 ≤ fa105 + 15 * (1 - 0) := h149
                        obtain rfl : v139 = some (.int (nI r140)) := hw138
                        have hP : va_P G.1 pCl (mW G h0 a (upd (upd (upd (upd (upd (upd (upd (upd (upd (upd (upd (upd (upd F 15 (nI fa141)) 16 pl142) 44 (nI fd)) 49 (nI md)) 73 (nI sc106)) 74 (nI d29)) 75 (nI x48)) 76 0) 77 dn108) 78 wt109) 79 wf110) 80 ab111) 81 ac112) (updA (updA (updA (updA (updA B 14 nc113) 17 ty114) 18 mn115) 48 vn116) 49 vt117)) _ := mW_to (F := F) (l1 := [(15, (nI fa105)), (16, pl107), (44, (nI fd)), (49, (nI md)), (73, (nI sc106)), (74, (nI d29)), (75, (nI x48)), (76, 0), (77, dn108), (78, wt109), (79, wf110), (80, ab111), (81, ac112), (15, (nI fa141)), (16, pl142)]) (l2 := [(15, (nI fa141)), (16, pl142), (44, (nI fd)), (49, (nI md)), (73, (nI sc106)), (74, (nI d29)), (75, (nI x48)), (76, 0), (77, dn108), (78, wt109), (79, wf110), (80, ab111), (81, ac112)]) (V := [(nI fa141), pl142, (nI fd), (nI md), (nI sc106), (nI d29), (nI x48), 0, dn108, wt109, wf110, ab111, ac112, (nI fa141), pl142, (nI fa141), pl142, (nI fd), (nI md), (nI sc106), (nI d29), (nI x48), 0, dn108, wt109, wf110, ab111, ac112]) rfl rfl rfl hP
                        have hD : va_D A (mW G h0 a (upd (upd (upd (upd (upd (upd (upd (upd (upd (upd (upd (upd (upd F 15 (nI fa141)) 16 pl142) 44 (nI fd)) 49 (nI md)) 73 (nI sc106)) 74 (nI d29)) 75 (nI x48)) 76 0) 77 dn108) 78 wt109) 79 wf110) 80 ab111) 81 ac112) (updA (updA (updA (updA (updA B 14 nc113) 17 ty114) 18 mn115) 48 vn116) 49 vt117)) := mW_D hD
                        refine W.widen (k := 0) (n := 0) (Nat.le_of_ble_eq_true rfl) (Nat.le_of_ble_eq_true rfl) ?_
                        refine W.eq (g2 := F0 m 178 ls [.int (nI r140)]) rfl ?_
                        refine lv_pop hx hb dX12_lookBodies_178 rfl ?_
                        refine lv_iinc (v := (nI (m2 + 1))) (lv' := [(1, .int (nI (m2 + 1))), (2, .int (nI p2)), (0, .ref h0)]) hx hb dX12_lookBodies_179 hl (k := 1) rfl (nI_1 m2) (by decide) rfl (fun ls hl => ?_)
                        refine lv_goto (tgt := 2) hx hb dX12_lookBodies_182 (by decide) ?_
                        have hP : va_P G.1 pCl (mW G h0 a (upd (upd (upd (upd (upd (upd (upd (upd (upd (upd (upd (upd (upd F 15 (nI fa141)) 16 pl142) 44 (nI fd)) 49 (nI md)) 73 (nI sc106)) 74 (nI d29)) 75 (nI x48)) 76 (0 : Int32)) 77 dn108) 78 wt109) 79 wf110) 80 ab111) 81 ac112) (updA (updA (updA (updA (updA B 14 nc113) 17 ty114) 18 mn115) 48 vn116) 49 vt117)) _ := mW_to (F := F) (l1 := [(15, (nI fa141)), (16, pl142), (44, (nI fd)), (49, (nI md)), (73, (nI sc106)), (74, (nI d29)), (75, (nI x48)), (76, 0), (77, dn108), (78, wt109), (79, wf110), (80, ab111), (81, ac112)]) (l2 := [(15, (nI fa141)), (16, pl142), (44, (nI fd)), (49, (nI md)), (73, (nI sc106)), (74, (nI d29)), (75, (nI x48)), (76, (0 : Int32)), (77, dn108), (78, wt109), (79, wf110), (80, ab111), (81, ac112)]) (V := [(nI fa141), pl142, (nI fd), (nI md), (nI sc106), (nI d29), (nI x48), (0 : Int32), dn108, wt109, wf110, ab111, ac112, (nI fa141), pl142, (nI fd), (nI md), (nI sc106), (nI d29), (nI x48), (0 : Int32), dn108, wt109, wf110, ab111, ac112]) rfl rfl rfl hP
                        have hD : va_D A (mW G h0 a (upd (upd (upd (upd (upd (upd (upd (upd (upd (upd (upd (upd (upd F 15 (nI fa141)) 16 pl142) 44 (nI fd)) 49 (nI md)) 73 (nI sc106)) 74 (nI d29)) 75 (nI x48)) 76 (0 : Int32)) 77 dn108) 78 wt109) 79 wf110) 80 ab111) 81 ac112) (updA (updA (updA (updA (updA B 14 nc113) 17 ty114) 18 mn115) 48 vn116) 49 vt117)) := mW_D hD
                        exact ih_o (m2 + 1) fa141 pl142 dn108 wt109 wf110 ab111 ac112 (nI sc106) (nI d29) (nI x48) (0 : Int32) nc113 ty114 mn115 vn116 vt117 _ _ _ (by omega) (by omega) (by omega) h124 h123 (mnB.more hF (by omega) hbl (by omega) hmb2 (by omega) e18 h122) (fun e => BdA.more hF (by omega) hbl (by omega) (hba (by omega)) (by omega) e18 h122 ⟨d29, x48, q33, p34, vt3, e30, by omega, by omega, e49, h50, by omega, e36, e35, by omega, hev128, (hq6127 (by omega)).1⟩) hP hD hS (lv_sub hl [0, 2] rfl)
                      · refine lv_iconst (v := 1) hx hb dX12_lookBodies_162 (by decide) ?_
                        refine lv_goto (tgt := 167) hx hb dX12_lookBodies_163 (by decide) ?_
                        refine lv_bipush (v := 15) hx hb dX12_lookBodies_167 (by decide) ?_
                        refine lv_aload_n hx hb dX12_lookBodies_169 rfl (lv_at hl 2 rfl) ?_
                        refine r_get (v := .ref (a 43)) hx hb hown hq hE hP 57 141 tFX12_57 (by decide) pw_1474 rfl dX12_lookBodies_170 ?_
                        refine lv_iload_n hx hb dX12_lookBodies_173 rfl (lv_at hl 1 rfl) ?_
                        refine r_ldi (f := (B 43)) (j := m2) hx hb hE hP 43 (ma_43 G a _) rfl (by omega) (by decide) dX12_lookBodies_174 ?_
                        refine lv_topi (fun x150 e151 => ?_)
                        obtain rfl : x150 = nI t39 := e151.trans e40
                        have hP : va_P G.1 pCl (mW G h0 a (upd (upd (upd (upd (upd (upd (upd (upd (upd (upd (upd (upd (upd (upd F 15 (nI fa105)) 16 pl107) 44 (nI fd)) 49 (nI md)) 73 (nI sc106)) 74 (nI d29)) 75 (nI x48)) 76 0) 77 dn108) 78 wt109) 79 wf110) 80 ab111) 81 ac112) 15 (nI fa105)) (updA (updA (updA (updA (updA B 14 nc113) 17 ty114) 18 mn115) 48 vn116) 49 vt117)) _ := mW_to (F := F) (l1 := [(15, (nI fa105)), (16, pl107), (44, (nI fd)), (49, (nI md)), (73, (nI sc106)), (74, (nI d29)), (75, (nI x48)), (76, 0), (77, dn108), (78, wt109), (79, wf110), (80, ab111), (81, ac112)]) (l2 := [(15, (nI fa105)), (16, pl107), (44, (nI fd)), (49, (nI md)), (73, (nI sc106)), (74, (nI d29)), (75, (nI x48)), (76, 0), (77, dn108), (78, wt109), (79, wf110), (80, ab111), (81, ac112), (15, (nI fa105))]) (V := [(nI fa105), pl107, (nI fd), (nI md), (nI sc106), (nI d29), (nI x48), 0, dn108, wt109, wf110, ab111, ac112, (nI fa105), pl107, (nI fd), (nI md), (nI sc106), (nI d29), (nI x48), 0, dn108, wt109, wf110, ab111, ac112, (nI fa105)]) rfl rfl rfl hP
                        have hD : va_D A (mW G h0 a (upd (upd (upd (upd (upd (upd (upd (upd (upd (upd (upd (upd (upd (upd F 15 (nI fa105)) 16 pl107) 44 (nI fd)) 49 (nI md)) 73 (nI sc106)) 74 (nI d29)) 75 (nI x48)) 76 0) 77 dn108) 78 wt109) 79 wf110) 80 ab111) 81 ac112) 15 (nI fa105)) (updA (updA (updA (updA (updA B 14 nc113) 17 ty114) 18 mn115) 48 vn116) 49 vt117)) := mW_D hD
                        refine pc_V0 (G := G) (As := [.int (nI 1), .int (nI 15), .int (nI t39)]) (rest := []) hx hb hml hown hq hE hX pX0_al hP hD hS hA hl.1 (R_judgeL l G h0 a (upd (upd (upd (upd (upd (upd (upd (upd (upd (upd (upd (upd (upd F 15 (nI fa105)) 16 pl107) 44 (nI fd)) 49 (nI md)) 73 (nI sc106)) 74 (nI d29)) 75 (nI x48)) 76 0) 77 dn108) 78 wt109) 79 wf110) 80 ab111) 81 ac112) (updA (updA (updA (updA (updA B 14 nc113) 17 ty114) 18 mn115) 48 vn116) 49 vt117) 1 15 t39 fa105 (by omega) (by omega) (by omega) (by omega)) (gV pw_1798 pw_1799 pw_1800 pw_1523 pw_1793) hV_X12_judge 0 9 rfl rfl rfl rfl (Nat.le_of_ble_eq_true rfl) dX12_lookBodies_175 ⟨Nat.le_of_ble_eq_true rfl, Nat.le_of_ble_eq_true rfl⟩ ⟨Nat.le_of_ble_eq_true rfl, Nat.le_of_ble_eq_true rfl⟩ (fun v154 u152 H locs hw153 hP hD hS => ?_)
                        obtain ⟨r155, fa156, pl157⟩ := u152
                        obtain ⟨hw153, h158, h159, h160, h161, h162, h163, h164⟩ := hw153
                        replace h158 : r155 ≤ 1 := h158
                        replace h159 : fa105 ≤ fa156 := h159
                        replace h160 : fa156 ≤ 15 := h160
                        replace h161 : fa156 + 15 * r155 ≤ 15 := h161
                        replace h162 : 1 ≤ r155 + fa156 := h162
                        replace h163 : 1 ≤ 1 + fa156 := h163
                        replace h164 : fa156 ≤ fa105 + 15 * (1 - 1) := h164
                        obtain rfl : v154 = some (.int (nI r155)) := hw153
                        have hP : va_P G.1 pCl (mW G h0 a (upd (upd (upd (upd (upd (upd (upd (upd (upd (upd (upd (upd (upd F 15 (nI fa156)) 16 pl157) 44 (nI fd)) 49 (nI md)) 73 (nI sc106)) 74 (nI d29)) 75 (nI x48)) 76 0) 77 dn108) 78 wt109) 79 wf110) 80 ab111) 81 ac112) (updA (updA (updA (updA (updA B 14 nc113) 17 ty114) 18 mn115) 48 vn116) 49 vt117)) _ := mW_to (F := F) (l1 := [(15, (nI fa105)), (16, pl107), (44, (nI fd)), (49, (nI md)), (73, (nI sc106)), (74, (nI d29)), (75, (nI x48)), (76, 0), (77, dn108), (78, wt109), (79, wf110), (80, ab111), (81, ac112), (15, (nI fa156)), (16, pl157)]) (l2 := [(15, (nI fa156)), (16, pl157), (44, (nI fd)), (49, (nI md)), (73, (nI sc106)), (74, (nI d29)), (75, (nI x48)), (76, 0), (77, dn108), (78, wt109), (79, wf110), (80, ab111), (81, ac112)]) (V := [(nI fa156), pl157, (nI fd), (nI md), (nI sc106), (nI d29), (nI x48), 0, dn108, wt109, wf110, ab111, ac112, (nI fa156), pl157, (nI fa156), pl157, (nI fd), (nI md), (nI sc106), (nI d29), (nI x48), 0, dn108, wt109, wf110, ab111, ac112]) rfl rfl rfl hP
                        have hD : va_D A (mW G h0 a (upd (upd (upd (upd (upd (upd (upd (upd (upd (upd (upd (upd (upd F 15 (nI fa156)) 16 pl157) 44 (nI fd)) 49 (nI md)) 73 (nI sc106)) 74 (nI d29)) 75 (nI x48)) 76 0) 77 dn108) 78 wt109) 79 wf110) 80 ab111) 81 ac112) (updA (updA (updA (updA (updA B 14 nc113) 17 ty114) 18 mn115) 48 vn116) 49 vt117)) := mW_D hD
                        refine W.widen (k := 0) (n := 0) (Nat.le_of_ble_eq_true rfl) (Nat.le_of_ble_eq_true rfl) ?_
                        refine W.eq (g2 := F0 m 178 ls [.int (nI r155)]) rfl ?_
                        refine lv_pop hx hb dX12_lookBodies_178 rfl ?_
                        refine lv_iinc (v := (nI (m2 + 1))) (lv' := [(1, .int (nI (m2 + 1))), (2, .int (nI p2)), (0, .ref h0)]) hx hb dX12_lookBodies_179 hl (k := 1) rfl (nI_1 m2) (by decide) rfl (fun ls hl => ?_)
                        refine lv_goto (tgt := 2) hx hb dX12_lookBodies_182 (by decide) ?_
                        have hP : va_P G.1 pCl (mW G h0 a (upd (upd (upd (upd (upd (upd (upd (upd (upd (upd (upd (upd (upd F 15 (nI fa156)) 16 pl157) 44 (nI fd)) 49 (nI md)) 73 (nI sc106)) 74 (nI d29)) 75 (nI x48)) 76 (0 : Int32)) 77 dn108) 78 wt109) 79 wf110) 80 ab111) 81 ac112) (updA (updA (updA (updA (updA B 14 nc113) 17 ty114) 18 mn115) 48 vn116) 49 vt117)) _ := mW_to (F := F) (l1 := [(15, (nI fa156)), (16, pl157), (44, (nI fd)), (49, (nI md)), (73, (nI sc106)), (74, (nI d29)), (75, (nI x48)), (76, 0), (77, dn108), (78, wt109), (79, wf110), (80, ab111), (81, ac112)]) (l2 := [(15, (nI fa156)), (16, pl157), (44, (nI fd)), (49, (nI md)), (73, (nI sc106)), (74, (nI d29)), (75, (nI x48)), (76, (0 : Int32)), (77, dn108), (78, wt109), (79, wf110), (80, ab111), (81, ac112)]) (V := [(nI fa156), pl157, (nI fd), (nI md), (nI sc106), (nI d29), (nI x48), (0 : Int32), dn108, wt109, wf110, ab111, ac112, (nI fa156), pl157, (nI fd), (nI md), (nI sc106), (nI d29), (nI x48), (0 : Int32), dn108, wt109, wf110, ab111, ac112]) rfl rfl rfl hP
                        have hD : va_D A (mW G h0 a (upd (upd (upd (upd (upd (upd (upd (upd (upd (upd (upd (upd (upd F 15 (nI fa156)) 16 pl157) 44 (nI fd)) 49 (nI md)) 73 (nI sc106)) 74 (nI d29)) 75 (nI x48)) 76 (0 : Int32)) 77 dn108) 78 wt109) 79 wf110) 80 ab111) 81 ac112) (updA (updA (updA (updA (updA B 14 nc113) 17 ty114) 18 mn115) 48 vn116) 49 vt117)) := mW_D hD
                        exact ih_o (m2 + 1) fa156 pl157 dn108 wt109 wf110 ab111 ac112 (nI sc106) (nI d29) (nI x48) (0 : Int32) nc113 ty114 mn115 vn116 vt117 _ _ _ (by omega) (by omega) (by omega) h124 h123 (mnB.more hF (by omega) hbl (by omega) hmb2 (by omega) e18 h122) (fun e => BdA.more hF (by omega) hbl (by omega) (hba (by omega)) (by omega) e18 h122 ⟨d29, x48, q33, p34, vt3, e30, by omega, by omega, e49, h50, by omega, e36, e35, by omega, hev128, (hq6127 (by omega)).1⟩) hP hD hS (lv_sub hl [0, 2] rfl)
                · have n165 : ¬ (q33 ≤ p2) := fun h9 => c56 ((nI_leI (a := q33) (b := p2) (by omega) (by omega)).mpr h9)
                  refine lv_aload_n hx hb dX12_lookBodies_76 rfl (lv_at hl 2 rfl) ?_
                  refine r_get (v := .int (nI fa3)) hx hb hown hq hE hP 15 350 tFX12_15 (by decide) pw_1594 rfl dX12_lookBodies_77 ?_
                  refine lv_if_ne (tgt := 126) hx hb dX12_lookBodies_80 (by decide) (fun c166 => ?_) (fun c166 => ?_)
                  · have n167 : ¬ (fa3 = 0) := fun h9 => c166 ((nI_eq (a := fa3) (b := 0) (by omega) (by omega)).mpr h9)
                    refine lv_aload_n hx hb dX12_lookBodies_126 rfl (lv_at hl 2 rfl) ?_
                    refine r_get (v := .int (nI fa3)) hx hb hown hq hE hP 15 350 tFX12_15 (by decide) pw_1594 rfl dX12_lookBodies_127 ?_
                    refine lv_if_ne (tgt := 143) hx hb dX12_lookBodies_130 (by decide) (fun c168 => ?_) (fun c168 => ?_)
                    · have n169 : ¬ (fa3 = 0) := fun h9 => c168 ((nI_eq (a := fa3) (b := 0) (by omega) (by omega)).mpr h9)
                      refine lv_aload_n hx hb dX12_lookBodies_143 rfl (lv_at hl 2 rfl) ?_
                      refine r_get (v := .int (nI x48)) hx hb hown hq hE hP 75 627 tFX12_75 (by decide) pw_1885 rfl dX12_lookBodies_144 ?_
                      refine lv_if_eq (tgt := 179) hx hb dX12_lookBodies_147 (by decide) (fun c170 => ?_) (fun c170 => ?_)
                      · have n171 : x48 = 0 := (nI_eq (a := x48) (b := 0) (by omega) (by omega)).mp c170
                        refine lv_iinc (v := (nI (m2 + 1))) (lv' := [(1, .int (nI (m2 + 1))), (2, .int (nI p2)), (0, .ref h0)]) hx hb dX12_lookBodies_179 hl (k := 1) rfl (nI_1 m2) (by decide) rfl (fun ls hl => ?_)
                        refine lv_goto (tgt := 2) hx hb dX12_lookBodies_182 (by decide) ?_
                        have hP : va_P G.1 pCl (mW G h0 a (upd (upd (upd (upd (upd (upd (upd (upd (upd (upd (upd (upd (upd F 15 (nI fa3)) 16 pl3) 44 (nI fd)) 49 (nI md)) 73 (nI sc3)) 74 (nI d29)) 75 (nI x48)) 76 (0 : Int32)) 77 dn3) 78 wt2) 79 wf2) 80 ab2) 81 ac2) (updA (updA (updA (updA (updA B 14 nc2) 17 ty2) 18 mn2) 48 vn3) 49 vt3)) _ := mW_to (F := F) (l1 := [(15, (nI fa3)), (16, pl3), (44, (nI fd)), (49, (nI md)), (73, (nI sc3)), (74, (nI d29)), (75, (nI x48)), (76, 0), (77, dn3), (78, wt2), (79, wf2), (80, ab2), (81, ac2)]) (l2 := [(15, (nI fa3)), (16, pl3), (44, (nI fd)), (49, (nI md)), (73, (nI sc3)), (74, (nI d29)), (75, (nI x48)), (76, (0 : Int32)), (77, dn3), (78, wt2), (79, wf2), (80, ab2), (81, ac2)]) (V := [(nI fa3), pl3, (nI fd), (nI md), (nI sc3), (nI d29), (nI x48), (0 : Int32), dn3, wt2, wf2, ab2, ac2, (nI fa3), pl3, (nI fd), (nI md), (nI sc3), (nI d29), (nI x48), (0 : Int32), dn3, wt2, wf2, ab2, ac2]) rfl rfl rfl hP
                        have hD : va_D A (mW G h0 a (upd (upd (upd (upd (upd (upd (upd (upd (upd (upd (upd (upd (upd F 15 (nI fa3)) 16 pl3) 44 (nI fd)) 49 (nI md)) 73 (nI sc3)) 74 (nI d29)) 75 (nI x48)) 76 (0 : Int32)) 77 dn3) 78 wt2) 79 wf2) 80 ab2) 81 ac2) (updA (updA (updA (updA (updA B 14 nc2) 17 ty2) 18 mn2) 48 vn3) 49 vt3)) := mW_D hD
                        exact ih_o (m2 + 1) fa3 pl3 dn3 wt2 wf2 ab2 ac2 (nI sc3) (nI d29) (nI x48) (0 : Int32) nc2 ty2 mn2 vn3 vt3 _ _ _ (by omega) (by omega) (by omega) hnc2 hmn2 (mnB.up hmb2) (fun e => absurd e (by omega)) hP hD hS (lv_sub hl [0, 2] rfl)
                      · have n172 : ¬ (x48 = 0) := fun h9 => c170 ((nI_eq (a := x48) (b := 0) (by omega) (by omega)).mpr h9)
                        refine lv_aload_n hx hb dX12_lookBodies_150 rfl (lv_at hl 2 rfl) ?_
                        refine lv_aload_n hx hb dX12_lookBodies_151 rfl (lv_at hl 2 rfl) ?_
                        refine r_get (v := .int dn3) hx hb hown hq hE hP 77 544 tFX12_77 (by decide) pw_1796 rfl dX12_lookBodies_152 ?_
                        refine lv_ldcw (v := 1073741824) hx hb hown (hq _ pw_1797) dX12_lookBodies_155 ?_
                        refine lv_iand hx hb dX12_lookBodies_158 ?_
                        refine lv_topi (fun x173 e174 => ?_)
                        refine lv_if_eq (tgt := 166) hx hb dX12_lookBodies_159 (by decide) (fun c175 => ?_) (fun c175 => ?_)
                        · refine lv_iconst (v := 0) hx hb dX12_lookBodies_166 (by decide) ?_
                          refine lv_bipush (v := 15) hx hb dX12_lookBodies_167 (by decide) ?_
                          refine lv_aload_n hx hb dX12_lookBodies_169 rfl (lv_at hl 2 rfl) ?_
                          refine r_get (v := .ref (a 43)) hx hb hown hq hE hP 57 141 tFX12_57 (by decide) pw_1474 rfl dX12_lookBodies_170 ?_
                          refine lv_iload_n hx hb dX12_lookBodies_173 rfl (lv_at hl 1 rfl) ?_
                          refine r_ldi (f := (B 43)) (j := m2) hx hb hE hP 43 (ma_43 G a _) rfl (by omega) (by decide) dX12_lookBodies_174 ?_
                          refine lv_topi (fun x176 e177 => ?_)
                          obtain rfl : x176 = nI t39 := e177.trans e40
                          have hP : va_P G.1 pCl (mW G h0 a (upd (upd (upd (upd (upd (upd (upd (upd (upd (upd (upd (upd (upd (upd F 15 (nI fa3)) 16 pl3) 44 (nI fd)) 49 (nI md)) 73 (nI sc3)) 74 (nI d29)) 75 (nI x48)) 76 0) 77 dn3) 78 wt2) 79 wf2) 80 ab2) 81 ac2) 15 (nI fa3)) (updA (updA (updA (updA (updA B 14 nc2) 17 ty2) 18 mn2) 48 vn3) 49 vt3)) _ := mW_to (F := F) (l1 := [(15, (nI fa3)), (16, pl3), (44, (nI fd)), (49, (nI md)), (73, (nI sc3)), (74, (nI d29)), (75, (nI x48)), (76, 0), (77, dn3), (78, wt2), (79, wf2), (80, ab2), (81, ac2)]) (l2 := [(15, (nI fa3)), (16, pl3), (44, (nI fd)), (49, (nI md)), (73, (nI sc3)), (74, (nI d29)), (75, (nI x48)), (76, 0), (77, dn3), (78, wt2), (79, wf2), (80, ab2), (81, ac2), (15, (nI fa3))]) (V := [(nI fa3), pl3, (nI fd), (nI md), (nI sc3), (nI d29), (nI x48), 0, dn3, wt2, wf2, ab2, ac2, (nI fa3), pl3, (nI fd), (nI md), (nI sc3), (nI d29), (nI x48), 0, dn3, wt2, wf2, ab2, ac2, (nI fa3)]) rfl rfl rfl hP
                          have hD : va_D A (mW G h0 a (upd (upd (upd (upd (upd (upd (upd (upd (upd (upd (upd (upd (upd (upd F 15 (nI fa3)) 16 pl3) 44 (nI fd)) 49 (nI md)) 73 (nI sc3)) 74 (nI d29)) 75 (nI x48)) 76 0) 77 dn3) 78 wt2) 79 wf2) 80 ab2) 81 ac2) 15 (nI fa3)) (updA (updA (updA (updA (updA B 14 nc2) 17 ty2) 18 mn2) 48 vn3) 49 vt3)) := mW_D hD
                          refine pc_V0 (G := G) (As := [.int (nI 0), .int (nI 15), .int (nI t39)]) (rest := []) hx hb hml hown hq hE hX pX0_al hP hD hS hA hl.1 (R_judgeL l G h0 a (upd (upd (upd (upd (upd (upd (upd (upd (upd (upd (upd (upd (upd F 15 (nI fa3)) 16 pl3) 44 (nI fd)) 49 (nI md)) 73 (nI sc3)) 74 (nI d29)) 75 (nI x48)) 76 0) 77 dn3) 78 wt2) 79 wf2) 80 ab2) 81 ac2) (updA (updA (updA (updA (updA B 14 nc2) 17 ty2) 18 mn2) 48 vn3) 49 vt3) 0 15 t39 fa3 (by omega) (by omega) (by omega) (by omega)) (gV pw_1798 pw_1799 pw_1800 pw_1523 pw_1793) hV_X12_judge 0 9 rfl rfl rfl rfl (Nat.le_of_ble_eq_true rfl) dX12_lookBodies_175 ⟨Nat.le_of_ble_eq_true rfl, Nat.le_of_ble_eq_true rfl⟩ ⟨Nat.le_of_ble_eq_true rfl, Nat.le_of_ble_eq_true rfl⟩ (fun v180 u178 H locs hw179 hP hD hS => ?_)
                          obtain ⟨r181, fa182, pl183⟩ := u178
                          obtain ⟨hw179, h184, h185, h186, h187, h188, h189, h190⟩ := hw179
                          replace h184 : r181 ≤ 1 := h184
                          replace h185 : fa3 ≤ fa182 := h185
                          replace h186 : fa182 ≤ 15 := h186
                          replace h187 : fa182 + 15 * r181 ≤ 15 := h187
                          replace h188 : 1 ≤ r181 + fa182 := h188
                          replace h189 : 1 ≤ 0 + fa182 := h189
                          replace h190 : fa182 ≤ fa3 + 15 * (1 - 0) := h190
                          obtain rfl : v180 = some (.int (nI r181)) := hw179
                          have hP : va_P G.1 pCl (mW G h0 a (upd (upd (upd (upd (upd (upd (upd (upd (upd (upd (upd (upd (upd F 15 (nI fa182)) 16 pl183) 44 (nI fd)) 49 (nI md)) 73 (nI sc3)) 74 (nI d29)) 75 (nI x48)) 76 0) 77 dn3) 78 wt2) 79 wf2) 80 ab2) 81 ac2) (updA (updA (updA (updA (updA B 14 nc2) 17 ty2) 18 mn2) 48 vn3) 49 vt3)) _ := mW_to (F := F) (l1 := [(15, (nI fa3)), (16, pl3), (44, (nI fd)), (49, (nI md)), (73, (nI sc3)), (74, (nI d29)), (75, (nI x48)), (76, 0), (77, dn3), (78, wt2), (79, wf2), (80, ab2), (81, ac2), (15, (nI fa182)), (16, pl183)]) (l2 := [(15, (nI fa182)), (16, pl183), (44, (nI fd)), (49, (nI md)), (73, (nI sc3)), (74, (nI d29)), (75, (nI x48)), (76, 0), (77, dn3), (78, wt2), (79, wf2), (80, ab2), (81, ac2)]) (V := [(nI fa182), pl183, (nI fd), (nI md), (nI sc3), (nI d29), (nI x48), 0, dn3, wt2, wf2, ab2, ac2, (nI fa182), pl183, (nI fa182), pl183, (nI fd), (nI md), (nI sc3), (nI d29), (nI x48), 0, dn3, wt2, wf2, ab2, ac2]) rfl rfl rfl hP
                          have hD : va_D A (mW G h0 a (upd (upd (upd (upd (upd (upd (upd (upd (upd (upd (upd (upd (upd F 15 (nI fa182)) 16 pl183) 44 (nI fd)) 49 (nI md)) 73 (nI sc3)) 74 (nI d29)) 75 (nI x48)) 76 0) 77 dn3) 78 wt2) 79 wf2) 80 ab2) 81 ac2) (updA (updA (updA (updA (updA B 14 nc2) 17 ty2) 18 mn2) 48 vn3) 49 vt3)) := mW_D hD
                          refine W.widen (k := 0) (n := 0) (Nat.le_of_ble_eq_true rfl) (Nat.le_of_ble_eq_true rfl) ?_
                          refine W.eq (g2 := F0 m 178 ls [.int (nI r181)]) rfl ?_
                          refine lv_pop hx hb dX12_lookBodies_178 rfl ?_
                          refine lv_iinc (v := (nI (m2 + 1))) (lv' := [(1, .int (nI (m2 + 1))), (2, .int (nI p2)), (0, .ref h0)]) hx hb dX12_lookBodies_179 hl (k := 1) rfl (nI_1 m2) (by decide) rfl (fun ls hl => ?_)
                          refine lv_goto (tgt := 2) hx hb dX12_lookBodies_182 (by decide) ?_
                          have hP : va_P G.1 pCl (mW G h0 a (upd (upd (upd (upd (upd (upd (upd (upd (upd (upd (upd (upd (upd F 15 (nI fa182)) 16 pl183) 44 (nI fd)) 49 (nI md)) 73 (nI sc3)) 74 (nI d29)) 75 (nI x48)) 76 (0 : Int32)) 77 dn3) 78 wt2) 79 wf2) 80 ab2) 81 ac2) (updA (updA (updA (updA (updA B 14 nc2) 17 ty2) 18 mn2) 48 vn3) 49 vt3)) _ := mW_to (F := F) (l1 := [(15, (nI fa182)), (16, pl183), (44, (nI fd)), (49, (nI md)), (73, (nI sc3)), (74, (nI d29)), (75, (nI x48)), (76, 0), (77, dn3), (78, wt2), (79, wf2), (80, ab2), (81, ac2)]) (l2 := [(15, (nI fa182)), (16, pl183), (44, (nI fd)), (49, (nI md)), (73, (nI sc3)), (74, (nI d29)), (75, (nI x48)), (76, (0 : Int32)), (77, dn3), (78, wt2), (79, wf2), (80, ab2), (81, ac2)]) (V := [(nI fa182), pl183, (nI fd), (nI md), (nI sc3), (nI d29), (nI x48), (0 : Int32), dn3, wt2, wf2, ab2, ac2, (nI fa182), pl183, (nI fd), (nI md), (nI sc3), (nI d29), (nI x48), (0 : Int32), dn3, wt2, wf2, ab2, ac2]) rfl rfl rfl hP
                          have hD : va_D A (mW G h0 a (upd (upd (upd (upd (upd (upd (upd (upd (upd (upd (upd (upd (upd F 15 (nI fa182)) 16 pl183) 44 (nI fd)) 49 (nI md)) 73 (nI sc3)) 74 (nI d29)) 75 (nI x48)) 76 (0 : Int32)) 77 dn3) 78 wt2) 79 wf2) 80 ab2) 81 ac2) (updA (updA (updA (updA (updA B 14 nc2) 17 ty2) 18 mn2) 48 vn3) 49 vt3)) := mW_D hD
                          exact ih_o (m2 + 1) fa182 pl183 dn3 wt2 wf2 ab2 ac2 (nI sc3) (nI d29) (nI x48) (0 : Int32) nc2 ty2 mn2 vn3 vt3 _ _ _ (by omega) (by omega) (by omega) hnc2 hmn2 (mnB.up hmb2) (fun e => absurd e (by omega)) hP hD hS (lv_sub hl [0, 2] rfl)
                        · refine lv_iconst (v := 1) hx hb dX12_lookBodies_162 (by decide) ?_
                          refine lv_goto (tgt := 167) hx hb dX12_lookBodies_163 (by decide) ?_
                          refine lv_bipush (v := 15) hx hb dX12_lookBodies_167 (by decide) ?_
                          refine lv_aload_n hx hb dX12_lookBodies_169 rfl (lv_at hl 2 rfl) ?_
                          refine r_get (v := .ref (a 43)) hx hb hown hq hE hP 57 141 tFX12_57 (by decide) pw_1474 rfl dX12_lookBodies_170 ?_
                          refine lv_iload_n hx hb dX12_lookBodies_173 rfl (lv_at hl 1 rfl) ?_
                          refine r_ldi (f := (B 43)) (j := m2) hx hb hE hP 43 (ma_43 G a _) rfl (by omega) (by decide) dX12_lookBodies_174 ?_
                          refine lv_topi (fun x191 e192 => ?_)
                          obtain rfl : x191 = nI t39 := e192.trans e40
                          have hP : va_P G.1 pCl (mW G h0 a (upd (upd (upd (upd (upd (upd (upd (upd (upd (upd (upd (upd (upd (upd F 15 (nI fa3)) 16 pl3) 44 (nI fd)) 49 (nI md)) 73 (nI sc3)) 74 (nI d29)) 75 (nI x48)) 76 0) 77 dn3) 78 wt2) 79 wf2) 80 ab2) 81 ac2) 15 (nI fa3)) (updA (updA (updA (updA (updA B 14 nc2) 17 ty2) 18 mn2) 48 vn3) 49 vt3)) _ := mW_to (F := F) (l1 := [(15, (nI fa3)), (16, pl3), (44, (nI fd)), (49, (nI md)), (73, (nI sc3)), (74, (nI d29)), (75, (nI x48)), (76, 0), (77, dn3), (78, wt2), (79, wf2), (80, ab2), (81, ac2)]) (l2 := [(15, (nI fa3)), (16, pl3), (44, (nI fd)), (49, (nI md)), (73, (nI sc3)), (74, (nI d29)), (75, (nI x48)), (76, 0), (77, dn3), (78, wt2), (79, wf2), (80, ab2), (81, ac2), (15, (nI fa3))]) (V := [(nI fa3), pl3, (nI fd), (nI md), (nI sc3), (nI d29), (nI x48), 0, dn3, wt2, wf2, ab2, ac2, (nI fa3), pl3, (nI fd), (nI md), (nI sc3), (nI d29), (nI x48), 0, dn3, wt2, wf2, ab2, ac2, (nI fa3)]) rfl rfl rfl hP
                          have hD : va_D A (mW G h0 a (upd (upd (upd (upd (upd (upd (upd (upd (upd (upd (upd (upd (upd (upd F 15 (nI fa3)) 16 pl3) 44 (nI fd)) 49 (nI md)) 73 (nI sc3)) 74 (nI d29)) 75 (nI x48)) 76 0) 77 dn3) 78 wt2) 79 wf2) 80 ab2) 81 ac2) 15 (nI fa3)) (updA (updA (updA (updA (updA B 14 nc2) 17 ty2) 18 mn2) 48 vn3) 49 vt3)) := mW_D hD
                          refine pc_V0 (G := G) (As := [.int (nI 1), .int (nI 15), .int (nI t39)]) (rest := []) hx hb hml hown hq hE hX pX0_al hP hD hS hA hl.1 (R_judgeL l G h0 a (upd (upd (upd (upd (upd (upd (upd (upd (upd (upd (upd (upd (upd F 15 (nI fa3)) 16 pl3) 44 (nI fd)) 49 (nI md)) 73 (nI sc3)) 74 (nI d29)) 75 (nI x48)) 76 0) 77 dn3) 78 wt2) 79 wf2) 80 ab2) 81 ac2) (updA (updA (updA (updA (updA B 14 nc2) 17 ty2) 18 mn2) 48 vn3) 49 vt3) 1 15 t39 fa3 (by omega) (by omega) (by omega) (by omega)) (gV pw_1798 pw_1799 pw_1800 pw_1523 pw_1793) hV_X12_judge 0 9 rfl rfl rfl rfl (Nat.le_of_ble_eq_true rfl) dX12_lookBodies_175 ⟨Nat.le_of_ble_eq_true rfl, Nat.le_of_ble_eq_true rfl⟩ ⟨Nat.le_of_ble_eq_true rfl, Nat.le_of_ble_eq_true rfl⟩ (fun v195 u193 H locs hw194 hP hD hS => ?_)
                          obtain ⟨r196, fa197, pl198⟩ := u193
                          obtain ⟨hw194, h199, h200, h201, h202, h203, h204, h205⟩ := hw194
                          replace h199 : r196 ≤ 1 := h199
                          replace h200 : fa3 ≤ fa197 := h200
                          replace h201 : fa197 ≤ 15 := h201
                          replace h202 : fa197 + 15 * r196 ≤ 15 := h202
                          replace h203 : 1 ≤ r196 + fa197 := h203
                          replace h204 : 1 ≤ 1 + fa197 := h204
                          replace h205 : fa197 ≤ fa3 + 15 * (1 - 1) := h205
                          obtain rfl : v195 = some (.int (nI r196)) := hw194
                          have hP : va_P G.1 pCl (mW G h0 a (upd (upd (upd (upd (upd (upd (upd (upd (upd (upd (upd (upd (upd F 15 (nI fa197)) 16 pl198) 44 (nI fd)) 49 (nI md)) 73 (nI sc3)) 74 (nI d29)) 75 (nI x48)) 76 0) 77 dn3) 78 wt2) 79 wf2) 80 ab2) 81 ac2) (updA (updA (updA (updA (updA B 14 nc2) 17 ty2) 18 mn2) 48 vn3) 49 vt3)) _ := mW_to (F := F) (l1 := [(15, (nI fa3)), (16, pl3), (44, (nI fd)), (49, (nI md)), (73, (nI sc3)), (74, (nI d29)), (75, (nI x48)), (76, 0), (77, dn3), (78, wt2), (79, wf2), (80, ab2), (81, ac2), (15, (nI fa197)), (16, pl198)]) (l2 := [(15, (nI fa197)), (16, pl198), (44, (nI fd)), (49, (nI md)), (73, (nI sc3)), (74, (nI d29)), (75, (nI x48)), (76, 0), (77, dn3), (78, wt2), (79, wf2), (80, ab2), (81, ac2)]) (V := [(nI fa197), pl198, (nI fd), (nI md), (nI sc3), (nI d29), (nI x48), 0, dn3, wt2, wf2, ab2, ac2, (nI fa197), pl198, (nI fa197), pl198, (nI fd), (nI md), (nI sc3), (nI d29), (nI x48), 0, dn3, wt2, wf2, ab2, ac2]) rfl rfl rfl hP
                          have hD : va_D A (mW G h0 a (upd (upd (upd (upd (upd (upd (upd (upd (upd (upd (upd (upd (upd F 15 (nI fa197)) 16 pl198) 44 (nI fd)) 49 (nI md)) 73 (nI sc3)) 74 (nI d29)) 75 (nI x48)) 76 0) 77 dn3) 78 wt2) 79 wf2) 80 ab2) 81 ac2) (updA (updA (updA (updA (updA B 14 nc2) 17 ty2) 18 mn2) 48 vn3) 49 vt3)) := mW_D hD
                          refine W.widen (k := 0) (n := 0) (Nat.le_of_ble_eq_true rfl) (Nat.le_of_ble_eq_true rfl) ?_
                          refine W.eq (g2 := F0 m 178 ls [.int (nI r196)]) rfl ?_
                          refine lv_pop hx hb dX12_lookBodies_178 rfl ?_
                          refine lv_iinc (v := (nI (m2 + 1))) (lv' := [(1, .int (nI (m2 + 1))), (2, .int (nI p2)), (0, .ref h0)]) hx hb dX12_lookBodies_179 hl (k := 1) rfl (nI_1 m2) (by decide) rfl (fun ls hl => ?_)
                          refine lv_goto (tgt := 2) hx hb dX12_lookBodies_182 (by decide) ?_
                          have hP : va_P G.1 pCl (mW G h0 a (upd (upd (upd (upd (upd (upd (upd (upd (upd (upd (upd (upd (upd F 15 (nI fa197)) 16 pl198) 44 (nI fd)) 49 (nI md)) 73 (nI sc3)) 74 (nI d29)) 75 (nI x48)) 76 (0 : Int32)) 77 dn3) 78 wt2) 79 wf2) 80 ab2) 81 ac2) (updA (updA (updA (updA (updA B 14 nc2) 17 ty2) 18 mn2) 48 vn3) 49 vt3)) _ := mW_to (F := F) (l1 := [(15, (nI fa197)), (16, pl198), (44, (nI fd)), (49, (nI md)), (73, (nI sc3)), (74, (nI d29)), (75, (nI x48)), (76, 0), (77, dn3), (78, wt2), (79, wf2), (80, ab2), (81, ac2)]) (l2 := [(15, (nI fa197)), (16, pl198), (44, (nI fd)), (49, (nI md)), (73, (nI sc3)), (74, (nI d29)), (75, (nI x48)), (76, (0 : Int32)), (77, dn3), (78, wt2), (79, wf2), (80, ab2), (81, ac2)]) (V := [(nI fa197), pl198, (nI fd), (nI md), (nI sc3), (nI d29), (nI x48), (0 : Int32), dn3, wt2, wf2, ab2, ac2, (nI fa197), pl198, (nI fd), (nI md), (nI sc3), (nI d29), (nI x48), (0 : Int32), dn3, wt2, wf2, ab2, ac2]) rfl rfl rfl hP
                          have hD : va_D A (mW G h0 a (upd (upd (upd (upd (upd (upd (upd (upd (upd (upd (upd (upd (upd F 15 (nI fa197)) 16 pl198) 44 (nI fd)) 49 (nI md)) 73 (nI sc3)) 74 (nI d29)) 75 (nI x48)) 76 (0 : Int32)) 77 dn3) 78 wt2) 79 wf2) 80 ab2) 81 ac2) (updA (updA (updA (updA (updA B 14 nc2) 17 ty2) 18 mn2) 48 vn3) 49 vt3)) := mW_D hD
                          exact ih_o (m2 + 1) fa197 pl198 dn3 wt2 wf2 ab2 ac2 (nI sc3) (nI d29) (nI x48) (0 : Int32) nc2 ty2 mn2 vn3 vt3 _ _ _ (by omega) (by omega) (by omega) hnc2 hmn2 (mnB.up hmb2) (fun e => absurd e (by omega)) hP hD hS (lv_sub hl [0, 2] rfl)
                    · have n206 : fa3 = 0 := (nI_eq (a := fa3) (b := 0) (by omega) (by omega)).mp c168
                      refine lv_aload_n hx hb dX12_lookBodies_133 rfl (lv_at hl 2 rfl) ?_
                      refine lv_aload_n hx hb dX12_lookBodies_134 rfl (lv_at hl 2 rfl) ?_
                      refine r_get (v := .ref (a 42)) hx hb hown hq hE hP 56 138 tFX12_56 (by decide) pw_1473 rfl dX12_lookBodies_135 ?_
                      refine lv_iload_n hx hb dX12_lookBodies_138 rfl (lv_at hl 1 rfl) ?_
                      refine r_ldi (f := (B 42)) (j := m2) hx hb hE hP 42 (ma_42 G a _) rfl (by omega) (by decide) dX12_lookBodies_139 ?_
                      refine lv_topi (fun x207 e208 => ?_)
                      obtain rfl : x207 = nI b16 := e208.trans e18
                      obtain ⟨hz209, hz210⟩ := hpv (by omega)
                      have hsq : sc3 = q33 := by omega
                      have hvk211 : ∀ i : Nat, i < sc3 → tyOK dc (vt3 i) := (fun i h => by rw [hz210 i (by omega)]; exact ytF_ok hPS hTY (by omega) (by omega))
                      have hP : va_P G.1 pCl (mW G h0 a (upd (upd (upd (upd (upd (upd (upd (upd (upd (upd (upd (upd (upd (upd (upd (upd (upd (upd (upd (upd (upd (upd (upd (upd (upd F 15 (nI fa3)) 16 pl3) 44 (nI fd)) 49 (nI md)) 73 (nI sc3)) 74 (nI d29)) 75 (nI x48)) 76 0) 77 dn3) 78 wt2) 79 wf2) 80 ab2) 81 ac2) 15 (nI fa3)) 44 (nI fd)) 49 (nI md)) 73 (nI sc3)) 74 (nI d29)) 75 (nI x48)) 76 (nI 0)) 77 dn3) 78 wt2) 79 wf2) 80 ab2) 81 ac2) (updA (updA (updA (updA (updA B 14 nc2) 17 ty2) 18 mn2) 48 vn3) 49 vt3)) _ := mW_to (F := F) (l1 := [(15, (nI fa3)), (16, pl3), (44, (nI fd)), (49, (nI md)), (73, (nI sc3)), (74, (nI d29)), (75, (nI x48)), (76, 0), (77, dn3), (78, wt2), (79, wf2), (80, ab2), (81, ac2)]) (l2 := [(15, (nI fa3)), (16, pl3), (44, (nI fd)), (49, (nI md)), (73, (nI sc3)), (74, (nI d29)), (75, (nI x48)), (76, 0), (77, dn3), (78, wt2), (79, wf2), (80, ab2), (81, ac2), (15, (nI fa3)), (44, (nI fd)), (49, (nI md)), (73, (nI sc3)), (74, (nI d29)), (75, (nI x48)), (76, (nI 0)), (77, dn3), (78, wt2), (79, wf2), (80, ab2), (81, ac2)]) (V := [(nI fa3), pl3, (nI fd), (nI md), (nI sc3), (nI d29), (nI x48), (nI 0), dn3, wt2, wf2, ab2, ac2, (nI fa3), pl3, (nI fd), (nI md), (nI sc3), (nI d29), (nI x48), (nI 0), dn3, wt2, wf2, ab2, ac2, (nI fa3), (nI fd), (nI md), (nI sc3), (nI d29), (nI x48), (nI 0), dn3, wt2, wf2, ab2, ac2]) rfl rfl rfl hP
                      have hD : va_D A (mW G h0 a (upd (upd (upd (upd (upd (upd (upd (upd (upd (upd (upd (upd (upd (upd (upd (upd (upd (upd (upd (upd (upd (upd (upd (upd (upd F 15 (nI fa3)) 16 pl3) 44 (nI fd)) 49 (nI md)) 73 (nI sc3)) 74 (nI d29)) 75 (nI x48)) 76 0) 77 dn3) 78 wt2) 79 wf2) 80 ab2) 81 ac2) 15 (nI fa3)) 44 (nI fd)) 49 (nI md)) 73 (nI sc3)) 74 (nI d29)) 75 (nI x48)) 76 (nI 0)) 77 dn3) 78 wt2) 79 wf2) 80 ab2) 81 ac2) (updA (updA (updA (updA (updA B 14 nc2) 17 ty2) 18 mn2) 48 vn3) 49 vt3)) := mW_D hD
                      refine pc_V0 (G := G) (As := [.int (nI b16)]) (rest := []) hx hb hml hown hq hE hX pX0_al hP hD hS hA hl.1 ((LS_all l G 362) h0 a (upd (upd (upd (upd (upd (upd (upd (upd (upd (upd (upd (upd (upd F 15 (nI fa3)) 16 pl3) 44 (nI fd)) 49 (nI md)) 73 (nI sc3)) 74 (nI d29)) 75 (nI x48)) 76 0) 77 dn3) 78 wt2) 79 wf2) 80 ab2) 81 ac2) B b16 fa3 sc3 0 d29 x48 nd T nm wr lz dc fd md pr bk gh dn3 wt2 wf2 ab2 ac2 nc2 ty2 mn2 vn3 vt3 vt3 hst hnm h24 (by omega) (by omega) (by omega) (by omega) hnc2 hmn2 (by omega) h50 (by omega) (hmb2 m2 b16 (Nat.le_refl _) (by omega) (by omega) e18) hvk211 (fun i h => rfl) (by rw [h27]; decide)) (gV pw_1874 pw_1875 pw_1876 pw_1523 pw_1884) hV_X12_lookStatement 0 9 rfl rfl rfl rfl (Nat.le_of_ble_eq_true rfl) dX12_lookBodies_140 ⟨Nat.le_of_ble_eq_true rfl, Nat.le_of_ble_eq_true rfl⟩ ⟨(by show (4 * 362 + 14) + 1 ≤ 1500; omega), (by show 8 + (4 + 11) + (160 * 362 + 1700) ≤ 64000; omega)⟩ (fun v214 u212 H locs hw213 hP hD hS => ?_)
                      obtain ⟨fa215, sc216, pl217, dn218, wt219, wf220, ab221, ac222, nc223, ty224, mn225, vn226, vt227⟩ := u212
                      obtain ⟨hw213, h228, h229, h230, h231, h232, h233, h234, h235, h236⟩ := hw213
                      replace h228 : fa3 ≤ fa215 := h228
                      replace h229 : fa215 ≤ 15 := h229
                      replace h230 : sc3 ≤ sc216 := h230
                      replace h231 : sc216 ≤ 30 := h231
                      replace h232 : ChS B nd b16 ty2 ty224 mn2 mn225 nc2 nc223 := h232
                      replace h233 : mnN B nd mn225 := h233
                      replace h234 : ∀ i : Nat, i < nd → ¬ (B) 9 i = 44 → nc223 i = (B) 14 i := h234
                      replace h235 : ∀ i : Nat, i < sc3 → vt227 i = vt3 i := h235
                      replace h236 : If (fa215 = 0) (TyS B dc fd md nd ty224 mn225 nc223 d29 x48 b16 (sc3, 0, vt3) ∧ sc216 = (aft B b16 (sc3, 0, vt3)).1 ∧ ∀ i : Nat, i < sc216 → vt227 i = (aft B b16 (sc3, 0, vt3)).2.2 i ∧ tyOK dc (vt227 i)) := h236
                      obtain rfl : v214 = none := hw213
                      have hP : va_P G.1 pCl (mW G h0 a (upd (upd (upd (upd (upd (upd (upd (upd (upd (upd (upd (upd (upd F 15 (nI fa215)) 16 pl217) 44 (nI fd)) 49 (nI md)) 73 (nI sc216)) 74 (nI d29)) 75 (nI x48)) 76 0) 77 dn218) 78 wt219) 79 wf220) 80 ab221) 81 ac222) (updA (updA (updA (updA (updA B 14 nc223) 17 ty224) 18 mn225) 48 vn226) 49 vt227)) _ := mW_to (F := F) (l1 := [(15, (nI fa3)), (16, pl3), (44, (nI fd)), (49, (nI md)), (73, (nI sc3)), (74, (nI d29)), (75, (nI x48)), (76, 0), (77, dn3), (78, wt2), (79, wf2), (80, ab2), (81, ac2), (15, (nI fa215)), (16, pl217), (44, (nI fd)), (49, (nI md)), (73, (nI sc216)), (74, (nI d29)), (75, (nI x48)), (76, (nI 0)), (77, dn218), (78, wt219), (79, wf220), (80, ab221), (81, ac222)]) (l2 := [(15, (nI fa215)), (16, pl217), (44, (nI fd)), (49, (nI md)), (73, (nI sc216)), (74, (nI d29)), (75, (nI x48)), (76, 0), (77, dn218), (78, wt219), (79, wf220), (80, ab221), (81, ac222)]) (V := [(nI fa215), pl217, (nI fd), (nI md), (nI sc216), (nI d29), (nI x48), 0, dn218, wt219, wf220, ab221, ac222, (nI fa215), pl217, (nI fd), (nI md), (nI sc216), (nI d29), (nI x48), 0, dn218, wt219, wf220, ab221, ac222, (nI fa215), pl217, (nI fd), (nI md), (nI sc216), (nI d29), (nI x48), 0, dn218, wt219, wf220, ab221, ac222]) rfl rfl rfl hP
                      have hD : va_D A (mW G h0 a (upd (upd (upd (upd (upd (upd (upd (upd (upd (upd (upd (upd (upd F 15 (nI fa215)) 16 pl217) 44 (nI fd)) 49 (nI md)) 73 (nI sc216)) 74 (nI d29)) 75 (nI x48)) 76 0) 77 dn218) 78 wt219) 79 wf220) 80 ab221) 81 ac222) (updA (updA (updA (updA (updA B 14 nc223) 17 ty224) 18 mn225) 48 vn226) 49 vt227)) := mW_D hD
                      refine W.widen (k := 0) (n := 0) (Nat.le_of_ble_eq_true rfl) (Nat.le_of_ble_eq_true rfl) ?_
                      refine W.eq (g2 := F0 m 143 ls []) rfl ?_
                      have hq6237 : If (fa215 = 0) (TyS B dc fd md nd ty224 mn225 nc223 d29 x48 b16 (q33, 0, vt3) ∧ True) := (fun e => ⟨by have z := (h236 e).1; rw [hsq] at z; exact z, trivial⟩)
                      have hev238 : ∀ i : Nat, i < q33 → vt3 i = ytF B (p34 + i) ∧ tyOK dc (vt3 i) := (fun i h => ⟨hz210 i (by omega), hvk211 i (by omega)⟩)
                      refine lv_aload_n hx hb dX12_lookBodies_143 rfl (lv_at hl 2 rfl) ?_
                      refine r_get (v := .int (nI x48)) hx hb hown hq hE hP 75 627 tFX12_75 (by decide) pw_1885 rfl dX12_lookBodies_144 ?_
                      refine lv_if_eq (tgt := 179) hx hb dX12_lookBodies_147 (by decide) (fun c239 => ?_) (fun c239 => ?_)
                      · have n240 : x48 = 0 := (nI_eq (a := x48) (b := 0) (by omega) (by omega)).mp c239
                        refine lv_iinc (v := (nI (m2 + 1))) (lv' := [(1, .int (nI (m2 + 1))), (2, .int (nI p2)), (0, .ref h0)]) hx hb dX12_lookBodies_179 hl (k := 1) rfl (nI_1 m2) (by decide) rfl (fun ls hl => ?_)
                        refine lv_goto (tgt := 2) hx hb dX12_lookBodies_182 (by decide) ?_
                        have hP : va_P G.1 pCl (mW G h0 a (upd (upd (upd (upd (upd (upd (upd (upd (upd (upd (upd (upd (upd F 15 (nI fa215)) 16 pl217) 44 (nI fd)) 49 (nI md)) 73 (nI sc216)) 74 (nI d29)) 75 (nI x48)) 76 (0 : Int32)) 77 dn218) 78 wt219) 79 wf220) 80 ab221) 81 ac222) (updA (updA (updA (updA (updA B 14 nc223) 17 ty224) 18 mn225) 48 vn226) 49 vt227)) _ := mW_to (F := F) (l1 := [(15, (nI fa215)), (16, pl217), (44, (nI fd)), (49, (nI md)), (73, (nI sc216)), (74, (nI d29)), (75, (nI x48)), (76, 0), (77, dn218), (78, wt219), (79, wf220), (80, ab221), (81, ac222)]) (l2 := [(15, (nI fa215)), (16, pl217), (44, (nI fd)), (49, (nI md)), (73, (nI sc216)), (74, (nI d29)), (75, (nI x48)), (76, (0 : Int32)), (77, dn218), (78, wt219), (79, wf220), (80, ab221), (81, ac222)]) (V := [(nI fa215), pl217, (nI fd), (nI md), (nI sc216), (nI d29), (nI x48), (0 : Int32), dn218, wt219, wf220, ab221, ac222, (nI fa215), pl217, (nI fd), (nI md), (nI sc216), (nI d29), (nI x48), (0 : Int32), dn218, wt219, wf220, ab221, ac222]) rfl rfl rfl hP
                        have hD : va_D A (mW G h0 a (upd (upd (upd (upd (upd (upd (upd (upd (upd (upd (upd (upd (upd F 15 (nI fa215)) 16 pl217) 44 (nI fd)) 49 (nI md)) 73 (nI sc216)) 74 (nI d29)) 75 (nI x48)) 76 (0 : Int32)) 77 dn218) 78 wt219) 79 wf220) 80 ab221) 81 ac222) (updA (updA (updA (updA (updA B 14 nc223) 17 ty224) 18 mn225) 48 vn226) 49 vt227)) := mW_D hD
                        exact ih_o (m2 + 1) fa215 pl217 dn218 wt219 wf220 ab221 ac222 (nI sc216) (nI d29) (nI x48) (0 : Int32) nc223 ty224 mn225 vn226 vt227 _ _ _ (by omega) (by omega) (by omega) h234 h233 (mnB.more hF (by omega) hbl (by omega) hmb2 (by omega) e18 h232) (fun e => BdA.more hF (by omega) hbl (by omega) (hba (by omega)) (by omega) e18 h232 ⟨d29, x48, q33, p34, vt3, e30, by omega, by omega, e49, h50, by omega, e36, e35, by omega, hev238, (hq6237 (by omega)).1⟩) hP hD hS (lv_sub hl [0, 2] rfl)
                      · have n241 : ¬ (x48 = 0) := fun h9 => c239 ((nI_eq (a := x48) (b := 0) (by omega) (by omega)).mpr h9)
                        refine lv_aload_n hx hb dX12_lookBodies_150 rfl (lv_at hl 2 rfl) ?_
                        refine lv_aload_n hx hb dX12_lookBodies_151 rfl (lv_at hl 2 rfl) ?_
                        refine r_get (v := .int dn218) hx hb hown hq hE hP 77 544 tFX12_77 (by decide) pw_1796 rfl dX12_lookBodies_152 ?_
                        refine lv_ldcw (v := 1073741824) hx hb hown (hq _ pw_1797) dX12_lookBodies_155 ?_
                        refine lv_iand hx hb dX12_lookBodies_158 ?_
                        refine lv_topi (fun x242 e243 => ?_)
                        refine lv_if_eq (tgt := 166) hx hb dX12_lookBodies_159 (by decide) (fun c244 => ?_) (fun c244 => ?_)
                        · refine lv_iconst (v := 0) hx hb dX12_lookBodies_166 (by decide) ?_
                          refine lv_bipush (v := 15) hx hb dX12_lookBodies_167 (by decide) ?_
                          refine lv_aload_n hx hb dX12_lookBodies_169 rfl (lv_at hl 2 rfl) ?_
                          refine r_get (v := .ref (a 43)) hx hb hown hq hE hP 57 141 tFX12_57 (by decide) pw_1474 rfl dX12_lookBodies_170 ?_
                          refine lv_iload_n hx hb dX12_lookBodies_173 rfl (lv_at hl 1 rfl) ?_
                          refine r_ldi (f := (B 43)) (j := m2) hx hb hE hP 43 (ma_43 G a _) rfl (by omega) (by decide) dX12_lookBodies_174 ?_
                          refine lv_topi (fun x245 e246 => ?_)
                          obtain rfl : x245 = nI t39 := e246.trans e40
                          have hP : va_P G.1 pCl (mW G h0 a (upd (upd (upd (upd (upd (upd (upd (upd (upd (upd (upd (upd (upd (upd F 15 (nI fa215)) 16 pl217) 44 (nI fd)) 49 (nI md)) 73 (nI sc216)) 74 (nI d29)) 75 (nI x48)) 76 0) 77 dn218) 78 wt219) 79 wf220) 80 ab221) 81 ac222) 15 (nI fa215)) (updA (updA (updA (updA (updA B 14 nc223) 17 ty224) 18 mn225) 48 vn226) 49 vt227)) _ := mW_to (F := F) (l1 := [(15, (nI fa215)), (16, pl217), (44, (nI fd)), (49, (nI md)), (73, (nI sc216)), (74, (nI d29)), (75, (nI x48)), (76, 0), (77, dn218), (78, wt219), (79, wf220), (80, ab221), (81, ac222)]) (l2 := [(15, (nI fa215)), (16, pl217), (44, (nI fd)), (49, (nI md)), (73, (nI sc216)), (74, (nI d29)), (75, (nI x48)), (76, 0), (77, dn218), (78, wt219), (79, wf220), (80, ab221), (81, ac222), (15, (nI fa215))]) (V := [(nI fa215), pl217, (nI fd), (nI md), (nI sc216), (nI d29), (nI x48), 0, dn218, wt219, wf220, ab221, ac222, (nI fa215), pl217, (nI fd), (nI md), (nI sc216), (nI d29), (nI x48), 0, dn218, wt219, wf220, ab221, ac222, (nI fa215)]) rfl rfl rfl hP
                          have hD : va_D A (mW G h0 a (upd (upd (upd (upd (upd (upd (upd (upd (upd (upd (upd (upd (upd (upd F 15 (nI fa215)) 16 pl217) 44 (nI fd)) 49 (nI md)) 73 (nI sc216)) 74 (nI d29)) 75 (nI x48)) 76 0) 77 dn218) 78 wt219) 79 wf220) 80 ab221) 81 ac222) 15 (nI fa215)) (updA (updA (updA (updA (updA B 14 nc223) 17 ty224) 18 mn225) 48 vn226) 49 vt227)) := mW_D hD
                          refine pc_V0 (G := G) (As := [.int (nI 0), .int (nI 15), .int (nI t39)]) (rest := []) hx hb hml hown hq hE hX pX0_al hP hD hS hA hl.1 (R_judgeL l G h0 a (upd (upd (upd (upd (upd (upd (upd (upd (upd (upd (upd (upd (upd F 15 (nI fa215)) 16 pl217) 44 (nI fd)) 49 (nI md)) 73 (nI sc216)) 74 (nI d29)) 75 (nI x48)) 76 0) 77 dn218) 78 wt219) 79 wf220) 80 ab221) 81 ac222) (updA (updA (updA (updA (updA B 14 nc223) 17 ty224) 18 mn225) 48 vn226) 49 vt227) 0 15 t39 fa215 (by omega) (by omega) (by omega) (by omega)) (gV pw_1798 pw_1799 pw_1800 pw_1523 pw_1793) hV_X12_judge 0 9 rfl rfl rfl rfl (Nat.le_of_ble_eq_true rfl) dX12_lookBodies_175 ⟨Nat.le_of_ble_eq_true rfl, Nat.le_of_ble_eq_true rfl⟩ ⟨Nat.le_of_ble_eq_true rfl, Nat.le_of_ble_eq_true rfl⟩ (fun v249 u247 H locs hw248 hP hD hS => ?_)
                          obtain ⟨r250, fa251, pl252⟩ := u247
                          obtain ⟨hw248, h253, h254, h255, h256, h257, h258, h259⟩ := hw248
                          replace h253 : r250 ≤ 1 := h253
                          replace h254 : fa215 ≤ fa251 := h254
                          replace h255 : fa251 ≤ 15 := h255
                          replace h256 : fa251 + 15 * r250 ≤ 15 := h256
                          replace h257 : 1 ≤ r250 + fa251 := h257
                          replace h258 : 1 ≤ 0 + fa251 := h258
                          replace h259 : fa251 ≤ fa215 + 15 * (1 - 0) := h259
                          obtain rfl : v249 = some (.int (nI r250)) := hw248
                          have hP : va_P G.1 pCl (mW G h0 a (upd (upd (upd (upd (upd (upd (upd (upd (upd (upd (upd (upd (upd F 15 (nI fa251)) 16 pl252) 44 (nI fd)) 49 (nI md)) 73 (nI sc216)) 74 (nI d29)) 75 (nI x48)) 76 0) 77 dn218) 78 wt219) 79 wf220) 80 ab221) 81 ac222) (updA (updA (updA (updA (updA B 14 nc223) 17 ty224) 18 mn225) 48 vn226) 49 vt227)) _ := mW_to (F := F) (l1 := [(15, (nI fa215)), (16, pl217), (44, (nI fd)), (49, (nI md)), (73, (nI sc216)), (74, (nI d29)), (75, (nI x48)), (76, 0), (77, dn218), (78, wt219), (79, wf220), (80, ab221), (81, ac222), (15, (nI fa251)), (16, pl252)]) (l2 := [(15, (nI fa251)), (16, pl252), (44, (nI fd)), (49, (nI md)), (73, (nI sc216)), (74, (nI d29)), (75, (nI x48)), (76, 0), (77, dn218), (78, wt219), (79, wf220), (80, ab221), (81, ac222)]) (V := [(nI fa251), pl252, (nI fd), (nI md), (nI sc216), (nI d29), (nI x48), 0, dn218, wt219, wf220, ab221, ac222, (nI fa251), pl252, (nI fa251), pl252, (nI fd), (nI md), (nI sc216), (nI d29), (nI x48), 0, dn218, wt219, wf220, ab221, ac222]) rfl rfl rfl hP
                          have hD : va_D A (mW G h0 a (upd (upd (upd (upd (upd (upd (upd (upd (upd (upd (upd (upd (upd F 15 (nI fa251)) 16 pl252) 44 (nI fd)) 49 (nI md)) 73 (nI sc216)) 74 (nI d29)) 75 (nI x48)) 76 0) 77 dn218) 78 wt219) 79 wf220) 80 ab221) 81 ac222) (updA (updA (updA (updA (updA B 14 nc223) 17 ty224) 18 mn225) 48 vn226) 49 vt227)) := mW_D hD
                          refine W.widen (k := 0) (n := 0) (Nat.le_of_ble_eq_true rfl) (Nat.le_of_ble_eq_true rfl) ?_
                          refine W.eq (g2 := F0 m 178 ls [.int (nI r250)]) rfl ?_
                          refine lv_pop hx hb dX12_lookBodies_178 rfl ?_
                          refine lv_iinc (v := (nI (m2 + 1))) (lv' := [(1, .int (nI (m2 + 1))), (2, .int (nI p2)), (0, .ref h0)]) hx hb dX12_lookBodies_179 hl (k := 1) rfl (nI_1 m2) (by decide) rfl (fun ls hl => ?_)
                          refine lv_goto (tgt := 2) hx hb dX12_lookBodies_182 (by decide) ?_
                          have hP : va_P G.1 pCl (mW G h0 a (upd (upd (upd (upd (upd (upd (upd (upd (upd (upd (upd (upd (upd F 15 (nI fa251)) 16 pl252) 44 (nI fd)) 49 (nI md)) 73 (nI sc216)) 74 (nI d29)) 75 (nI x48)) 76 (0 : Int32)) 77 dn218) 78 wt219) 79 wf220) 80 ab221) 81 ac222) (updA (updA (updA (updA (updA B 14 nc223) 17 ty224) 18 mn225) 48 vn226) 49 vt227)) _ := mW_to (F := F) (l1 := [(15, (nI fa251)), (16, pl252), (44, (nI fd)), (49, (nI md)), (73, (nI sc216)), (74, (nI d29)), (75, (nI x48)), (76, 0), (77, dn218), (78, wt219), (79, wf220), (80, ab221), (81, ac222)]) (l2 := [(15, (nI fa251)), (16, pl252), (44, (nI fd)), (49, (nI md)), (73, (nI sc216)), (74, (nI d29)), (75, (nI x48)), (76, (0 : Int32)), (77, dn218), (78, wt219), (79, wf220), (80, ab221), (81, ac222)]) (V := [(nI fa251), pl252, (nI fd), (nI md), (nI sc216), (nI d29), (nI x48), (0 : Int32), dn218, wt219, wf220, ab221, ac222, (nI fa251), pl252, (nI fd), (nI md), (nI sc216), (nI d29), (nI x48), (0 : Int32), dn218, wt219, wf220, ab221, ac222]) rfl rfl rfl hP
                          have hD : va_D A (mW G h0 a (upd (upd (upd (upd (upd (upd (upd (upd (upd (upd (upd (upd (upd F 15 (nI fa251)) 16 pl252) 44 (nI fd)) 49 (nI md)) 73 (nI sc216)) 74 (nI d29)) 75 (nI x48)) 76 (0 : Int32)) 77 dn218) 78 wt219) 79 wf220) 80 ab221) 81 ac222) (updA (updA (updA (updA (updA B 14 nc223) 17 ty224) 18 mn225) 48 vn226) 49 vt227)) := mW_D hD
                          exact ih_o (m2 + 1) fa251 pl252 dn218 wt219 wf220 ab221 ac222 (nI sc216) (nI d29) (nI x48) (0 : Int32) nc223 ty224 mn225 vn226 vt227 _ _ _ (by omega) (by omega) (by omega) h234 h233 (mnB.more hF (by omega) hbl (by omega) hmb2 (by omega) e18 h232) (fun e => BdA.more hF (by omega) hbl (by omega) (hba (by omega)) (by omega) e18 h232 ⟨d29, x48, q33, p34, vt3, e30, by omega, by omega, e49, h50, by omega, e36, e35, by omega, hev238, (hq6237 (by omega)).1⟩) hP hD hS (lv_sub hl [0, 2] rfl)
                        · refine lv_iconst (v := 1) hx hb dX12_lookBodies_162 (by decide) ?_
                          refine lv_goto (tgt := 167) hx hb dX12_lookBodies_163 (by decide) ?_
                          refine lv_bipush (v := 15) hx hb dX12_lookBodies_167 (by decide) ?_
                          refine lv_aload_n hx hb dX12_lookBodies_169 rfl (lv_at hl 2 rfl) ?_
                          refine r_get (v := .ref (a 43)) hx hb hown hq hE hP 57 141 tFX12_57 (by decide) pw_1474 rfl dX12_lookBodies_170 ?_
                          refine lv_iload_n hx hb dX12_lookBodies_173 rfl (lv_at hl 1 rfl) ?_
                          refine r_ldi (f := (B 43)) (j := m2) hx hb hE hP 43 (ma_43 G a _) rfl (by omega) (by decide) dX12_lookBodies_174 ?_
                          refine lv_topi (fun x260 e261 => ?_)
                          obtain rfl : x260 = nI t39 := e261.trans e40
                          have hP : va_P G.1 pCl (mW G h0 a (upd (upd (upd (upd (upd (upd (upd (upd (upd (upd (upd (upd (upd (upd F 15 (nI fa215)) 16 pl217) 44 (nI fd)) 49 (nI md)) 73 (nI sc216)) 74 (nI d29)) 75 (nI x48)) 76 0) 77 dn218) 78 wt219) 79 wf220) 80 ab221) 81 ac222) 15 (nI fa215)) (updA (updA (updA (updA (updA B 14 nc223) 17 ty224) 18 mn225) 48 vn226) 49 vt227)) _ := mW_to (F := F) (l1 := [(15, (nI fa215)), (16, pl217), (44, (nI fd)), (49, (nI md)), (73, (nI sc216)), (74, (nI d29)), (75, (nI x48)), (76, 0), (77, dn218), (78, wt219), (79, wf220), (80, ab221), (81, ac222)]) (l2 := [(15, (nI fa215)), (16, pl217), (44, (nI fd)), (49, (nI md)), (73, (nI sc216)), (74, (nI d29)), (75, (nI x48)), (76, 0), (77, dn218), (78, wt219), (79, wf220), (80, ab221), (81, ac222), (15, (nI fa215))]) (V := [(nI fa215), pl217, (nI fd), (nI md), (nI sc216), (nI d29), (nI x48), 0, dn218, wt219, wf220, ab221, ac222, (nI fa215), pl217, (nI fd), (nI md), (nI sc216), (nI d29), (nI x48), 0, dn218, wt219, wf220, ab221, ac222, (nI fa215)]) rfl rfl rfl hP
                          have hD : va_D A (mW G h0 a (upd (upd (upd (upd (upd (upd (upd (upd (upd (upd (upd (upd (upd (upd F 15 (nI fa215)) 16 pl217) 44 (nI fd)) 49 (nI md)) 73 (nI sc216)) 74 (nI d29)) 75 (nI x48)) 76 0) 77 dn218) 78 wt219) 79 wf220) 80 ab221) 81 ac222) 15 (nI fa215)) (updA (updA (updA (updA (updA B 14 nc223) 17 ty224) 18 mn225) 48 vn226) 49 vt227)) := mW_D hD
                          refine pc_V0 (G := G) (As := [.int (nI 1), .int (nI 15), .int (nI t39)]) (rest := []) hx hb hml hown hq hE hX pX0_al hP hD hS hA hl.1 (R_judgeL l G h0 a (upd (upd (upd (upd (upd (upd (upd (upd (upd (upd (upd (upd (upd F 15 (nI fa215)) 16 pl217) 44 (nI fd)) 49 (nI md)) 73 (nI sc216)) 74 (nI d29)) 75 (nI x48)) 76 0) 77 dn218) 78 wt219) 79 wf220) 80 ab221) 81 ac222) (updA (updA (updA (updA (updA B 14 nc223) 17 ty224) 18 mn225) 48 vn226) 49 vt227) 1 15 t39 fa215 (by omega) (by omega) (by omega) (by omega)) (gV pw_1798 pw_1799 pw_1800 pw_1523 pw_1793) hV_X12_judge 0 9 rfl rfl rfl rfl (Nat.le_of_ble_eq_true rfl) dX12_lookBodies_175 ⟨Nat.le_of_ble_eq_true rfl, Nat.le_of_ble_eq_true rfl⟩ ⟨Nat.le_of_ble_eq_true rfl, Nat.le_of_ble_eq_true rfl⟩ (fun v264 u262 H locs hw263 hP hD hS => ?_)
                          obtain ⟨r265, fa266, pl267⟩ := u262
                          obtain ⟨hw263, h268, h269, h270, h271, h272, h273, h274⟩ := hw263
                          replace h268 : r265 ≤ 1 := h268
                          replace h269 : fa215 ≤ fa266 := h269
                          replace h270 : fa266 ≤ 15 := h270
                          replace h271 : fa266 + 15 * r265 ≤ 15 := h271
                          replace h272 : 1 ≤ r265 + fa266 := h272
                          replace h273 : 1 ≤ 1 + fa266 := h273
                          replace h274 : fa266 ≤ fa215 + 15 * (1 - 1) := h274
                          obtain rfl : v264 = some (.int (nI r265)) := hw263
                          have hP : va_P G.1 pCl (mW G h0 a (upd (upd (upd (upd (upd (upd (upd (upd (upd (upd (upd (upd (upd F 15 (nI fa266)) 16 pl267) 44 (nI fd)) 49 (nI md)) 73 (nI sc216)) 74 (nI d29)) 75 (nI x48)) 76 0) 77 dn218) 78 wt219) 79 wf220) 80 ab221) 81 ac222) (updA (updA (updA (updA (updA B 14 nc223) 17 ty224) 18 mn225) 48 vn226) 49 vt227)) _ := mW_to (F := F) (l1 := [(15, (nI fa215)), (16, pl217), (44, (nI fd)), (49, (nI md)), (73, (nI sc216)), (74, (nI d29)), (75, (nI x48)), (76, 0), (77, dn218), (78, wt219), (79, wf220), (80, ab221), (81, ac222), (15, (nI fa266)), (16, pl267)]) (l2 := [(15, (nI fa266)), (16, pl267), (44, (nI fd)), (49, (nI md)), (73, (nI sc216)), (74, (nI d29)), (75, (nI x48)), (76, 0), (77, dn218), (78, wt219), (79, wf220), (80, ab221), (81, ac222)]) (V := [(nI fa266), pl267, (nI fd), (nI md), (nI sc216), (nI d29), (nI x48), 0, dn218, wt219, wf220, ab221, ac222, (nI fa266), pl267, (nI fa266), pl267, (nI fd), (nI md), (nI sc216), (nI d29), (nI x48), 0, dn218, wt219, wf220, ab221, ac222]) rfl rfl rfl hP
                          have hD : va_D A (mW G h0 a (upd (upd (upd (upd (upd (upd (upd (upd (upd (upd (upd (upd (upd F 15 (nI fa266)) 16 pl267) 44 (nI fd)) 49 (nI md)) 73 (nI sc216)) 74 (nI d29)) 75 (nI x48)) 76 0) 77 dn218) 78 wt219) 79 wf220) 80 ab221) 81 ac222) (updA (updA (updA (updA (updA B 14 nc223) 17 ty224) 18 mn225) 48 vn226) 49 vt227)) := mW_D hD
                          refine W.widen (k := 0) (n := 0) (Nat.le_of_ble_eq_true rfl) (Nat.le_of_ble_eq_true rfl) ?_
                          refine W.eq (g2 := F0 m 178 ls [.int (nI r265)]) rfl ?_
                          refine lv_pop hx hb dX12_lookBodies_178 rfl ?_
                          refine lv_iinc (v := (nI (m2 + 1))) (lv' := [(1, .int (nI (m2 + 1))), (2, .int (nI p2)), (0, .ref h0)]) hx hb dX12_lookBodies_179 hl (k := 1) rfl (nI_1 m2) (by decide) rfl (fun ls hl => ?_)
                          refine lv_goto (tgt := 2) hx hb dX12_lookBodies_182 (by decide) ?_
                          have hP : va_P G.1 pCl (mW G h0 a (upd (upd (upd (upd (upd (upd (upd (upd (upd (upd (upd (upd (upd F 15 (nI fa266)) 16 pl267) 44 (nI fd)) 49 (nI md)) 73 (nI sc216)) 74 (nI d29)) 75 (nI x48)) 76 (0 : Int32)) 77 dn218) 78 wt219) 79 wf220) 80 ab221) 81 ac222) (updA (updA (updA (updA (updA B 14 nc223) 17 ty224) 18 mn225) 48 vn226) 49 vt227)) _ := mW_to (F := F) (l1 := [(15, (nI fa266)), (16, pl267), (44, (nI fd)), (49, (nI md)), (73, (nI sc216)), (74, (nI d29)), (75, (nI x48)), (76, 0), (77, dn218), (78, wt219), (79, wf220), (80, ab221), (81, ac222)]) (l2 := [(15, (nI fa266)), (16, pl267), (44, (nI fd)), (49, (nI md)), (73, (nI sc216)), (74, (nI d29)), (75, (nI x48)), (76, (0 : Int32)), (77, dn218), (78, wt219), (79, wf220), (80, ab221), (81, ac222)]) (V := [(nI fa266), pl267, (nI fd), (nI md), (nI sc216), (nI d29), (nI x48), (0 : Int32), dn218, wt219, wf220, ab221, ac222, (nI fa266), pl267, (nI fd), (nI md), (nI sc216), (nI d29), (nI x48), (0 : Int32), dn218, wt219, wf220, ab221, ac222]) rfl rfl rfl hP
                          have hD : va_D A (mW G h0 a (upd (upd (upd (upd (upd (upd (upd (upd (upd (upd (upd (upd (upd F 15 (nI fa266)) 16 pl267) 44 (nI fd)) 49 (nI md)) 73 (nI sc216)) 74 (nI d29)) 75 (nI x48)) 76 (0 : Int32)) 77 dn218) 78 wt219) 79 wf220) 80 ab221) 81 ac222) (updA (updA (updA (updA (updA B 14 nc223) 17 ty224) 18 mn225) 48 vn226) 49 vt227)) := mW_D hD
                          exact ih_o (m2 + 1) fa266 pl267 dn218 wt219 wf220 ab221 ac222 (nI sc216) (nI d29) (nI x48) (0 : Int32) nc223 ty224 mn225 vn226 vt227 _ _ _ (by omega) (by omega) (by omega) h234 h233 (mnB.more hF (by omega) hbl (by omega) hmb2 (by omega) e18 h232) (fun e => BdA.more hF (by omega) hbl (by omega) (hba (by omega)) (by omega) e18 h232 ⟨d29, x48, q33, p34, vt3, e30, by omega, by omega, e49, h50, by omega, e36, e35, by omega, hev238, (hq6237 (by omega)).1⟩) hP hD hS (lv_sub hl [0, 2] rfl)
                  · have n275 : fa3 = 0 := (nI_eq (a := fa3) (b := 0) (by omega) (by omega)).mp c166
                    refine lv_aload_n hx hb dX12_lookBodies_83 rfl (lv_at hl 2 rfl) ?_
                    refine lv_aload_n hx hb dX12_lookBodies_84 rfl (lv_at hl 2 rfl) ?_
                    refine r_get (v := .ref (a 46)) hx hb hown hq hE hP 62 150 tFX12_62 (by decide) pw_1477 rfl dX12_lookBodies_85 ?_
                    refine lv_aload_n hx hb dX12_lookBodies_88 rfl (lv_at hl 2 rfl) ?_
                    refine r_get (v := .ref (a 40)) hx hb hown hq hE hP 54 132 tFX12_54 (by decide) pw_1471 rfl dX12_lookBodies_89 ?_
                    refine lv_iload_n hx hb dX12_lookBodies_92 rfl (lv_at hl 1 rfl) ?_
                    refine r_ldi (f := (B 40)) (j := m2) hx hb hE hP 40 (ma_40 G a _) rfl (by omega) (by decide) dX12_lookBodies_93 ?_
                    refine lv_topi (fun x276 e277 => ?_)
                    obtain rfl : x276 = nI p34 := e277.trans e35
                    refine lv_iload_n hx hb dX12_lookBodies_94 rfl (lv_at hl 0 rfl) ?_
                    refine lv_iadd hx hb dX12_lookBodies_95 ?_
                    refine lv_topi (fun x278 e279 => ?_)
                    obtain rfl : x278 = nI (p34 + p2) := e279.trans (nI_add (p34) (p2))
                    refine r_ldi (f := (B 46)) (j := (p34 + p2)) hx hb hE hP 46 (ma_46 G a _) rfl (by omega) (by decide) dX12_lookBodies_96 ?_
                    obtain ⟨⟨t280, e281, h282⟩, y283, e284, h285⟩ := hPS.2.2.2.1 (p34 + p2) (by omega)
                    refine lv_topi (fun x286 e287 => ?_)
                    obtain rfl : x286 = nI t280 := e287.trans e281
                    refine lv_aload_n hx hb dX12_lookBodies_97 rfl (lv_at hl 2 rfl) ?_
                    refine r_get (v := .ref (a 21)) hx hb hown hq hE hP 30 75 tFX12_30 (by decide) pw_1452 rfl dX12_lookBodies_98 ?_
                    refine lv_aload_n hx hb dX12_lookBodies_101 rfl (lv_at hl 2 rfl) ?_
                    refine r_get (v := .ref (a 47)) hx hb hown hq hE hP 63 153 tFX12_63 (by decide) pw_1478 rfl dX12_lookBodies_102 ?_
                    refine lv_aload_n hx hb dX12_lookBodies_105 rfl (lv_at hl 2 rfl) ?_
                    refine r_get (v := .ref (a 40)) hx hb hown hq hE hP 54 132 tFX12_54 (by decide) pw_1471 rfl dX12_lookBodies_106 ?_
                    refine lv_iload_n hx hb dX12_lookBodies_109 rfl (lv_at hl 1 rfl) ?_
                    refine r_ldi (f := (B 40)) (j := m2) hx hb hE hP 40 (ma_40 G a _) rfl (by omega) (by decide) dX12_lookBodies_110 ?_
                    refine lv_topi (fun x288 e289 => ?_)
                    obtain rfl : x288 = nI p34 := e289.trans e35
                    refine lv_iload_n hx hb dX12_lookBodies_111 rfl (lv_at hl 0 rfl) ?_
                    refine lv_iadd hx hb dX12_lookBodies_112 ?_
                    refine lv_topi (fun x290 e291 => ?_)
                    obtain rfl : x290 = nI (p34 + p2) := e291.trans (nI_add (p34) (p2))
                    refine r_ldi (f := (B 47)) (j := (p34 + p2)) hx hb hE hP 47 (ma_47 G a _) rfl (by omega) (by decide) dX12_lookBodies_113 ?_
                    obtain ⟨⟨t292, e293, h294⟩, y295, e296, h297⟩ := hPS.2.2.2.1 (p34 + p2) (by omega)
                    refine lv_topi (fun x298 e299 => ?_)
                    obtain rfl : x298 = nI y295 := e299.trans e296
                    refine r_ldi (f := (B 21)) (j := y295) hx hb hE hP 21 (ma_21 G a _) rfl (by omega) (by decide) dX12_lookBodies_114 ?_
                    obtain ⟨x300, e301, h302, h303, h304, h305⟩ := tyOK.tc (hTY y295 (by omega)) (by omega)
                    refine lv_topi (fun x306 e307 => ?_)
                    obtain rfl : x306 = nI x300 := e307.trans e301
                    refine lv_iconst (v := 1) hx hb dX12_lookBodies_115 (by decide) ?_
                    have hP : va_P G.1 pCl (mW G h0 a (upd (upd (upd (upd (upd (upd (upd (upd (upd (upd (upd (upd (upd (upd (upd (upd F 15 (nI fa3)) 16 pl3) 44 (nI fd)) 49 (nI md)) 73 (nI sc3)) 74 (nI d29)) 75 (nI x48)) 76 0) 77 dn3) 78 wt2) 79 wf2) 80 ab2) 81 ac2) 15 (nI fa3)) 73 (nI sc3)) 77 dn3) (updA (updA (updA (updA (updA (updA B 14 nc2) 17 ty2) 18 mn2) 48 vn3) 49 vt3) 49 vt3)) _ := mW_to (F := F) (l1 := [(15, (nI fa3)), (16, pl3), (44, (nI fd)), (49, (nI md)), (73, (nI sc3)), (74, (nI d29)), (75, (nI x48)), (76, 0), (77, dn3), (78, wt2), (79, wf2), (80, ab2), (81, ac2)]) (l2 := [(15, (nI fa3)), (16, pl3), (44, (nI fd)), (49, (nI md)), (73, (nI sc3)), (74, (nI d29)), (75, (nI x48)), (76, 0), (77, dn3), (78, wt2), (79, wf2), (80, ab2), (81, ac2), (15, (nI fa3)), (73, (nI sc3)), (77, dn3)]) (V := [(nI fa3), pl3, (nI fd), (nI md), (nI sc3), (nI d29), (nI x48), 0, dn3, wt2, wf2, ab2, ac2, (nI fa3), pl3, (nI fd), (nI md), (nI sc3), (nI d29), (nI x48), 0, dn3, wt2, wf2, ab2, ac2, (nI fa3), (nI sc3), dn3]) rfl rfl (show (updA (updA (updA (updA (updA B 14 nc2) 17 ty2) 18 mn2) 48 vn3) 49 vt3) = (updA (updA (updA (updA (updA (updA B 14 nc2) 17 ty2) 18 mn2) 48 vn3) 49 vt3) 49 vt3) from updsA_eq2 (F := B) (l1 := [(14, nc2), (17, ty2), (18, mn2), (48, vn3), (49, vt3)]) (l2 := [(14, nc2), (17, ty2), (18, mn2), (48, vn3), (49, vt3), (49, vt3)]) (V := [nc2, ty2, mn2, vn3, vt3, nc2, ty2, mn2, vn3, vt3, vt3]) rfl rfl) hP
                    have hD : va_D A (mW G h0 a (upd (upd (upd (upd (upd (upd (upd (upd (upd (upd (upd (upd (upd (upd (upd (upd F 15 (nI fa3)) 16 pl3) 44 (nI fd)) 49 (nI md)) 73 (nI sc3)) 74 (nI d29)) 75 (nI x48)) 76 0) 77 dn3) 78 wt2) 79 wf2) 80 ab2) 81 ac2) 15 (nI fa3)) 73 (nI sc3)) 77 dn3) (updA (updA (updA (updA (updA (updA B 14 nc2) 17 ty2) 18 mn2) 48 vn3) 49 vt3) 49 vt3)) := mW_D hD
                    refine pc_V0 (G := G) (As := [.int (nI t280), .int (nI x300), .int (nI 1)]) (rest := []) hx hb hml hown hq hE hX pX0_al hP hD hS hA hl.1 (R_comesL l G h0 a (upd (upd (upd (upd (upd (upd (upd (upd (upd (upd (upd (upd (upd F 15 (nI fa3)) 16 pl3) 44 (nI fd)) 49 (nI md)) 73 (nI sc3)) 74 (nI d29)) 75 (nI x48)) 76 0) 77 dn3) 78 wt2) 79 wf2) 80 ab2) 81 ac2) (updA (updA (updA (updA (updA B 14 nc2) 17 ty2) 18 mn2) 48 vn3) 49 vt3) t280 1 sc3 fa3 (nI x300) dn3 vt3 (by omega) (by omega) (by omega) (by omega)) (gV pw_1868 pw_1869 pw_1870 pw_1523 pw_1794) hV_X12_comes 0 9 rfl rfl rfl rfl (Nat.le_of_ble_eq_true rfl) dX12_lookBodies_116 ⟨Nat.le_of_ble_eq_true rfl, Nat.le_of_ble_eq_true rfl⟩ ⟨Nat.le_of_ble_eq_true rfl, Nat.le_of_ble_eq_true rfl⟩ (fun v310 u308 H locs hw309 hP hD hS => ?_)
                    obtain ⟨r311, fa312, sc313, pl314, dn315, vn316, vt317⟩ := u308
                    obtain ⟨hw309, h318, h319, h320, h321, h322, h323, h324⟩ := hw309
                    replace h318 : r311 ≤ 30 := h318
                    replace h319 : fa3 ≤ fa312 := h319
                    replace h320 : fa312 ≤ 15 := h320
                    replace h321 : sc3 ≤ sc313 := h321
                    replace h322 : sc313 ≤ 30 := h322
                    replace h323 : If (fa312 = 0) (sc313 = sc3 + 1 ∧ r311 = sc3 ∧ vt317 = upd vt3 sc3 (nI x300) ∧ sc3 < 30) := h323
                    replace h324 : ∀ i : Nat, i < sc3 → vt317 i = vt3 i := h324
                    obtain rfl : v310 = some (.int (nI r311)) := hw309
                    have hP : va_P G.1 pCl (mW G h0 a (upd (upd (upd (upd (upd (upd (upd (upd (upd (upd (upd (upd (upd F 15 (nI fa312)) 16 pl314) 44 (nI fd)) 49 (nI md)) 73 (nI sc313)) 74 (nI d29)) 75 (nI x48)) 76 0) 77 dn315) 78 wt2) 79 wf2) 80 ab2) 81 ac2) (updA (updA (updA (updA (updA B 14 nc2) 17 ty2) 18 mn2) 48 vn316) 49 vt317)) _ := mW_to (F := F) (l1 := [(15, (nI fa3)), (16, pl3), (44, (nI fd)), (49, (nI md)), (73, (nI sc3)), (74, (nI d29)), (75, (nI x48)), (76, 0), (77, dn3), (78, wt2), (79, wf2), (80, ab2), (81, ac2), (15, (nI fa312)), (16, pl314), (73, (nI sc313)), (77, dn315)]) (l2 := [(15, (nI fa312)), (16, pl314), (44, (nI fd)), (49, (nI md)), (73, (nI sc313)), (74, (nI d29)), (75, (nI x48)), (76, 0), (77, dn315), (78, wt2), (79, wf2), (80, ab2), (81, ac2)]) (V := [(nI fa312), pl314, (nI fd), (nI md), (nI sc313), (nI d29), (nI x48), 0, dn315, wt2, wf2, ab2, ac2, (nI fa312), pl314, (nI sc313), dn315, (nI fa312), pl314, (nI fd), (nI md), (nI sc313), (nI d29), (nI x48), 0, dn315, wt2, wf2, ab2, ac2]) rfl rfl (show (updA (updA (updA (updA (updA (updA (updA B 14 nc2) 17 ty2) 18 mn2) 48 vn3) 49 vt3) 48 vn316) 49 vt317) = (updA (updA (updA (updA (updA B 14 nc2) 17 ty2) 18 mn2) 48 vn316) 49 vt317) from updsA_eq2 (F := B) (l1 := [(14, nc2), (17, ty2), (18, mn2), (48, vn3), (49, vt3), (48, vn316), (49, vt317)]) (l2 := [(14, nc2), (17, ty2), (18, mn2), (48, vn316), (49, vt317)]) (V := [nc2, ty2, mn2, vn316, vt317, vn316, vt317, nc2, ty2, mn2, vn316, vt317]) rfl rfl) hP
                    have hD : va_D A (mW G h0 a (upd (upd (upd (upd (upd (upd (upd (upd (upd (upd (upd (upd (upd F 15 (nI fa312)) 16 pl314) 44 (nI fd)) 49 (nI md)) 73 (nI sc313)) 74 (nI d29)) 75 (nI x48)) 76 0) 77 dn315) 78 wt2) 79 wf2) 80 ab2) 81 ac2) (updA (updA (updA (updA (updA B 14 nc2) 17 ty2) 18 mn2) 48 vn316) 49 vt317)) := mW_D hD
                    refine W.widen (k := 0) (n := 0) (Nat.le_of_ble_eq_true rfl) (Nat.le_of_ble_eq_true rfl) ?_
                    refine W.eq (g2 := F0 m 119 ls [.int (nI r311)]) rfl ?_
                    refine lv_istore_n (lv' := [(3, .int (nI r311)), (2, .int (nI p2)), (1, .int (nI m2)), (0, .ref h0)]) hx hb dX12_lookBodies_119 rfl hl (by decide) rfl (fun ls hl => ?_)
                    refine lv_iinc (v := (nI (p2 + 1))) (lv' := [(2, .int (nI (p2 + 1))), (3, .int (nI r311)), (1, .int (nI m2)), (0, .ref h0)]) hx hb dX12_lookBodies_120 hl (k := 1) rfl (nI_1 p2) (by decide) rfl (fun ls hl => ?_)
                    refine lv_goto (tgt := 66) hx hb dX12_lookBodies_123 (by decide) ?_
                    have hP : va_P G.1 pCl (mW G h0 a (upd (upd (upd (upd (upd (upd (upd (upd (upd (upd (upd (upd (upd F 15 (nI fa312)) 16 pl314) 44 (nI fd)) 49 (nI md)) 73 (nI sc313)) 74 (nI d29)) 75 (nI x48)) 76 0) 77 dn315) 78 wt2) 79 wf2) 80 ab2) 81 ac2) (updA (updA (updA (updA (updA B 14 nc2) 17 ty2) 18 mn2) 48 vn316) 49 vt317)) _ := hP
                    have hD : va_D A (mW G h0 a (upd (upd (upd (upd (upd (upd (upd (upd (upd (upd (upd (upd (upd F 15 (nI fa312)) 16 pl314) 44 (nI fd)) 49 (nI md)) 73 (nI sc313)) 74 (nI d29)) 75 (nI x48)) 76 0) 77 dn315) 78 wt2) 79 wf2) 80 ab2) 81 ac2) (updA (updA (updA (updA (updA B 14 nc2) 17 ty2) 18 mn2) 48 vn316) 49 vt317)) := mW_D hD
                    exact ih_i (p2 + 1) fa312 sc313 pl314 dn315 vn316 vt317 _ _ _ (by omega) (by omega) (by omega) (by omega) (fun e => by obtain ⟨z1, z2, z3, _⟩ := h323 e; obtain ⟨y1, y2⟩ := hpv (by omega); refine ⟨by omega, ?_⟩; rw [z3, y1]; exact all_upd (p := fun i z => z = ytF B (p34 + i)) y2 (by unfold ytF; rw [e296, nI_cl (by omega), e301])) hP hD hS (lv_sub hl [0, 2, 3] rfl)
            have hP : va_P G.1 pCl (mW G h0 a (upd (upd (upd (upd (upd (upd (upd (upd (upd (upd (upd (upd (upd F 15 (nI fa2)) 16 pl2) 44 (nI fd)) 49 (nI md)) 73 (nI 0)) 74 (nI d29)) 75 (nI x48)) 76 0) 77 (0 : Int32)) 78 wt2) 79 wf2) 80 ab2) 81 ac2) (updA (updA (updA (updA (updA B 14 nc2) 17 ty2) 18 mn2) 48 vn2) 49 vt2)) _ := mW_to (F := F) (l1 := [(15, (nI fa2)), (16, pl2), (44, (nI fd)), (49, (nI md)), (73, so2), (74, (nI d29)), (75, br2), (76, il2), (77, dn2), (78, wt2), (79, wf2), (80, ab2), (81, ac2), (75, (nI x48)), (73, 0), (77, 0), (76, 0)]) (l2 := [(15, (nI fa2)), (16, pl2), (44, (nI fd)), (49, (nI md)), (73, (nI 0)), (74, (nI d29)), (75, (nI x48)), (76, 0), (77, (0 : Int32)), (78, wt2), (79, wf2), (80, ab2), (81, ac2)]) (V := [(nI fa2), pl2, (nI fd), (nI md), (nI 0), (nI d29), (nI x48), 0, (0 : Int32), wt2, wf2, ab2, ac2, (nI x48), (nI 0), (0 : Int32), 0, (nI fa2), pl2, (nI fd), (nI md), (nI 0), (nI d29), (nI x48), 0, (0 : Int32), wt2, wf2, ab2, ac2]) rfl rfl rfl hP
            have hD : va_D A (mW G h0 a (upd (upd (upd (upd (upd (upd (upd (upd (upd (upd (upd (upd (upd F 15 (nI fa2)) 16 pl2) 44 (nI fd)) 49 (nI md)) 73 (nI 0)) 74 (nI d29)) 75 (nI x48)) 76 0) 77 (0 : Int32)) 78 wt2) 79 wf2) 80 ab2) 81 ac2) (updA (updA (updA (updA (updA B 14 nc2) 17 ty2) 18 mn2) 48 vn2) 49 vt2)) := mW_D hD
            exact loop_i (q33 + 1) 0 fa2 0 pl2 (0 : Int32) vn2 vt2 _ _ _ (by omega) (by omega) (by omega) (by omega) (fun _ => ⟨rfl, fun i h => absurd h (by omega)⟩) hP hD hS (lv_sub hl [0, 1, 2] rfl)
  have hP : va_P G.1 pCl (mW G h0 a (upd (upd (upd (upd (upd (upd (upd (upd (upd (upd (upd (upd (upd F 15 (nI 0)) 16 (F 16)) 44 (nI fd)) 49 (nI md)) 73 (F 73)) 74 (F 74)) 75 (F 75)) 76 (F 76)) 77 (F 77)) 78 (F 78)) 79 (F 79)) 80 (F 80)) 81 (F 81)) (updA (updA (updA (updA (updA B 14 nc) 17 ty) 18 mn) 48 vn) 49 vt)) _ := mW_to (F := F) (l1 := [(15, 0), (44, (nI fd)), (49, (nI md))]) (l2 := [(15, (nI 0)), (16, (F 16)), (44, (nI fd)), (49, (nI md)), (73, (F 73)), (74, (F 74)), (75, (F 75)), (76, (F 76)), (77, (F 77)), (78, (F 78)), (79, (F 79)), (80, (F 80)), (81, (F 81))]) (V := [(nI 0), (nI fd), (nI md), (nI 0), (F 16), (nI fd), (nI md), (F 73), (F 74), (F 75), (F 76), (F 77), (F 78), (F 79), (F 80), (F 81)]) rfl rfl rfl hP
  have hD : va_D A (mW G h0 a (upd (upd (upd (upd (upd (upd (upd (upd (upd (upd (upd (upd (upd F 15 (nI 0)) 16 (F 16)) 44 (nI fd)) 49 (nI md)) 73 (F 73)) 74 (F 74)) 75 (F 75)) 76 (F 76)) 77 (F 77)) 78 (F 78)) 79 (F 79)) 80 (F 80)) 81 (F 81)) (updA (updA (updA (updA (updA B 14 nc) 17 ty) 18 mn) 48 vn) 49 vt)) := mW_D hD
  exact loop_o (md + 1) 0 0 (F 16) (F 77) (F 78) (F 79) (F 80) (F 81) (F 73) (F 74) (F 75) (F 76) nc ty mn vn vt _ _ _ (by omega) (by omega) (by omega) hnc hmn hmb (fun _ m b h => absurd h (by omega)) hP hD hS (lv_sub hl [0, 1] rfl)
