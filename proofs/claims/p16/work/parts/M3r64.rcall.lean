theorem resF_tc {X : Nat → Nat → Int32} {T nm wr lz dc fd md pr bk m : Nat} (h : PS T nm wr lz dc fd md pr bk X) (hy : ∀ y : Nat, y < wr → tyOK dc (X 21 y)) (hw : wr ≤ 5000) (hd : dc ≤ 37) (hm : m < md) : ∃ x : Nat, resF (X 39) (X 21) m = nI x ∧ TyC dc x ∧ x ≤ 1050 := by
  obtain ⟨d, _, _, _, _, _, z, _⟩ := h.2.2.1 m hm
  rcases z with z | ⟨y, z1, z2⟩
  · exact ⟨0, resF_1 z, by unfold TyC; omega, by omega⟩
  · obtain ⟨x, e, h1, _, h3, _⟩ := (hy y z2).tc hd
    exact ⟨x, (resF_2 z1 (by omega)).trans e, h1, h3⟩
/-- the members of a list, looked at so far -/
def TyL (X : Nat → Nat → Int32) (dc fd md nd : Nat) (ty mn vt : Nat → Int32) (sc k n i : Nat) : Prop := ∀ z c : Nat, z < i → c < 20000 → itr (X 16) (X 13 n) z = nI c → Typ X dc fd md nd ty mn vt sc k c
section LKC
variable {K : Nat → Int32} {T wr nd n k s dc fd md sc j kk i p0 : Nat} {X : Nat → Nat → Int32} {gh : Nat → Nat → Nat} {ty ty' mn mn' vt : Nat → Int32} {t v : Int32} {c : Nat}
theorem itr_ne (hF : Fs2 K T wr X gh nd) (hnd : nd ≤ 12000) {v : Int32} {z i b c : Nat} (hv : v = -1 ∨ ∃ q : Nat, v = nI q ∧ q < nd) (hz : z < i) (hb : b < 20000) (hc : c < 20000) (e1 : itr (X 16) v z = nI b) (e2 : itr (X 16) v i = nI c) : b ≠ c := by
  have key : ∀ d b c : Nat, b < 20000 → c < 20000 → itr (X 16) v z = nI b → itr (X 16) v (z + 1 + d) = nI c → b < c := by
    intro d
    induction d with
    | zero =>
      intro b c hb hc e1 e2
      rw [show z + 1 + 0 = z + 1 from rfl, itr_s e1 (by omega)] at e2
      rcases itr_ln hF.lnr hv (by omega) z with u | ⟨p, u, _, u2⟩
      · rw [u] at e1; exact absurd e1.symm (nI_m1 (by omega))
      · have : p = b := (nI_eq (by omega) (by omega)).mp (u.symm.trans e1)
        subst this
        rcases hF.lnr p u2 with w | ⟨q, w1, w2, w3⟩
        · rw [w] at e2; exact absurd e2.symm (nI_m1 (by omega))
        · have : q = c := (nI_eq (by omega) (by omega)).mp (w1.symm.trans e2)
          omega
    | succ d ih =>
      intro b c hb hc e1 e2
      rcases itr_ln hF.lnr hv (by omega) (z + 1 + d) with u | ⟨p, u, _, u2⟩
      · rw [itr_m1 u (z + 1 + (d + 1)) (by omega)] at e2; exact absurd e2.symm (nI_m1 (by omega))
      · have h1 := ih b p hb (by omega) e1 u
        rw [show z + 1 + (d + 1) = z + 1 + d + 1 from rfl, itr_s u (by omega)] at e2
        rcases hF.lnr p u2 with w | ⟨q, w1, w2, w3⟩
        · rw [w] at e2; exact absurd e2.symm (nI_m1 (by omega))
        · have : q = c := (nI_eq (by omega) (by omega)).mp (w1.symm.trans e2)
          omega
  have := key (i - z - 1) b c hb hc e1 (by rw [show z + 1 + (i - z - 1) = i by omega]; exact e2)
  omega
theorem TyL.zero : TyL X dc fd md nd ty mn vt sc k n 0 := fun z c h => absurd h (by omega)
theorem TyL.succ (hF : Fs2 K T wr X gh nd) (hnd : nd ≤ 12000) (hn : n < nd) (e : X 9 n = nI kk) (k4 : kk ≤ 44) (hc2 : 200 ≤ cdOf kk 2) (hv : X 13 n = -1 ∨ ∃ q : Nat, X 13 n = nI q ∧ q < nd) (h : TyL X dc fd md nd ty mn vt sc k n i) (hc : c < 20000) (e1 : itr (X 16) (X 13 n) i = nI c) (g : ChE X nd c ty ty' mn mn') (ht : Typ X dc fd md nd ty' mn' vt sc k c) : TyL X dc fd md nd ty' mn' vt sc k n (i + 1) := fun z b hz hb w => by
  by_cases q : z = i
  · rw [q, e1] at w
    have : c = b := (nI_eq (by omega) (by omega)).mp w
    rw [← this]; exact ht
  · have p1 := pch_list e k4 (s := 2) (by omega) (by omega) hc2 w
    have p2 := pch_list e k4 (s := 2) (by omega) (by omega) hc2 e1
    exact (h z b (by omega) hb w).beside hF hnd hn (pch_par hF hnd hn hb p1).1 (pch_par hF hnd hn hc p2).1 p1 p2 (itr_ne hF hnd hv (by omega) hb hc w e1) g
theorem ArgP.zero : ArgP X ty nd p0 0 v := fun i h => absurd h (by omega)
theorem ArgP.succ (hF : Fs2 K T wr X gh nd) (hnd : nd ≤ 12000) (hn : n < nd) (e : X 9 n = nI kk) (k4 : kk ≤ 44) (hc2 : 200 ≤ cdOf kk 2) (hv : X 13 n = -1 ∨ ∃ q : Nat, X 13 n = nI q ∧ q < nd) (h : ArgP X ty nd p0 i (X 13 n)) (hc : c < nd) (e1 : itr (X 16) (X 13 n) i = nI c) (g : ChE X nd c ty ty' mn mn') (hf : Fit (X 31) (ty' c) (ytF X (p0 + i))) : ArgP X ty' nd p0 (i + 1) (X 13 n) := fun z hz => by
  by_cases q : z = i
  · rw [q]; exact ⟨c, e1, hc, hf⟩
  · obtain ⟨b, w1, w2, w3⟩ := h z (by omega)
    have p1 := pch_list e k4 (s := 2) (by omega) (by omega) hc2 w1
    have p2 := pch_list e k4 (s := 2) (by omega) (by omega) hc2 e1
    exact ⟨b, w1, w2, by rw [ChE.at hF hnd hn w2 hc p1 p2 (itr_ne hF hnd hv (by omega) (by omega) (by omega) w1 e1) g]; exact w3⟩
/-- a phrase in the first place beside the arguments -/
theorem ChLr.kid (hF : Fs2 K T wr X gh nd) (hnd : nd ≤ 12000) (hn : n < nd) (e : X 9 n = nI kk) (k4 : kk ≤ 44) (hc2 : cdOf kk 2 = 201) (hc : c < nd) (pc : pch X n c) (g0 : gh 0 c = 8 * n + 1) (h : ChLr X nd n ty ty' mn mn') {i : Nat} (hi : i < nd) (hs : sub X c i) : ty' i = ty i ∧ mn' i = mn i := h i hi (fun q => by
    have h1 := (pch_par hF hnd hn (by omega) pc).2.2
    rw [q] at hs
    obtain ⟨_, h2⟩ := sub.lt2 hF hnd hc hs
    by_cases w : n = c
    · rw [w] at h1; omega
    · have := h2 w; omega) (fun z b hb w g => by
    rcases list_par hF hnd hn e k4 (by omega) hb w with ⟨l1, l2, l3, l4, _⟩ | l
    · have := sub.apart hF hnd hn (by omega) (by omega) pc l4 hs g
      rw [this, l2] at g0; omega
    · exact l hc2)
end LKC
theorem dX12_lookCall_0 : decode cX12_lookCall 0 = .ok (.aload_n 0, 1) := by decide +kernel
theorem dX12_lookCall_1 : decode cX12_lookCall 1 = .ok (.iload_n 2, 1) := by decide +kernel
theorem dX12_lookCall_2 : decode cX12_lookCall 2 = .ok (.aload_n 0, 1) := by decide +kernel
theorem dX12_lookCall_3 : decode cX12_lookCall 3 = .ok (.getfield 25, 3) := by decide +kernel
theorem dX12_lookCall_6 : decode cX12_lookCall 6 = .ok (.aload_n 0, 1) := by decide +kernel
theorem dX12_lookCall_7 : decode cX12_lookCall 7 = .ok (.getfield 44, 3) := by decide +kernel
theorem dX12_lookCall_10 : decode cX12_lookCall 10 = .ok (.iload_n 1, 1) := by decide +kernel
theorem dX12_lookCall_11 : decode cX12_lookCall 11 = .ok (.iaload, 1) := by decide +kernel
theorem dX12_lookCall_12 : decode cX12_lookCall 12 = .ok (.iaload, 1) := by decide +kernel
theorem dX12_lookCall_13 : decode cX12_lookCall 13 = .ok (.invokevirtual 600, 3) := by decide +kernel
theorem dX12_lookCall_16 : decode cX12_lookCall 16 = .ok (.istore_n 3, 1) := by decide +kernel
theorem dX12_lookCall_17 : decode cX12_lookCall 17 = .ok (.aload_n 0, 1) := by decide +kernel
theorem dX12_lookCall_18 : decode cX12_lookCall 18 = .ok (.iload_n 3, 1) := by decide +kernel
theorem dX12_lookCall_19 : decode cX12_lookCall 19 = .ok (.iconst (-1), 1) := by decide +kernel
theorem dX12_lookCall_20 : decode cX12_lookCall 20 = .ok (.if_icmp .eq 7, 3) := by decide +kernel
theorem dX12_lookCall_27 : decode cX12_lookCall 27 = .ok (.iconst 0, 1) := by decide +kernel
theorem dX12_lookCall_28 : decode cX12_lookCall 28 = .ok (.bipush 10, 2) := by decide +kernel
theorem dX12_lookCall_30 : decode cX12_lookCall 30 = .ok (.aload_n 0, 1) := by decide +kernel
theorem dX12_lookCall_31 : decode cX12_lookCall 31 = .ok (.getfield 44, 3) := by decide +kernel
theorem dX12_lookCall_34 : decode cX12_lookCall 34 = .ok (.iload_n 1, 1) := by decide +kernel
theorem dX12_lookCall_35 : decode cX12_lookCall 35 = .ok (.iaload, 1) := by decide +kernel
theorem dX12_lookCall_36 : decode cX12_lookCall 36 = .ok (.invokevirtual 540, 3) := by decide +kernel
theorem dX12_lookCall_39 : decode cX12_lookCall 39 = .ok (.ifCond .ne 5, 3) := by decide +kernel
theorem dX12_lookCall_42 : decode cX12_lookCall 42 = .ok (.iconst 1, 1) := by decide +kernel
theorem dX12_lookCall_43 : decode cX12_lookCall 43 = .ok (.ireturn, 1) := by decide +kernel
theorem dX12_lookCall_23 : decode cX12_lookCall 23 = .ok (.iconst 1, 1) := by decide +kernel
theorem dX12_lookCall_24 : decode cX12_lookCall 24 = .ok (.goto 4, 3) := by decide +kernel
theorem dX12_lookCall_44 : decode cX12_lookCall 44 = .ok (.aload_n 0, 1) := by decide +kernel
theorem dX12_lookCall_45 : decode cX12_lookCall 45 = .ok (.getfield 65, 3) := by decide +kernel
theorem dX12_lookCall_48 : decode cX12_lookCall 48 = .ok (.iload_n 1, 1) := by decide +kernel
theorem dX12_lookCall_49 : decode cX12_lookCall 49 = .ok (.iload_n 3, 1) := by decide +kernel
theorem dX12_lookCall_50 : decode cX12_lookCall 50 = .ok (.iastore, 1) := by decide +kernel
theorem dX12_lookCall_51 : decode cX12_lookCall 51 = .ok (.iconst 0, 1) := by decide +kernel
theorem dX12_lookCall_52 : decode cX12_lookCall 52 = .ok (.istore 4, 2) := by decide +kernel
theorem dX12_lookCall_54 : decode cX12_lookCall 54 = .ok (.aload_n 0, 1) := by decide +kernel
theorem dX12_lookCall_55 : decode cX12_lookCall 55 = .ok (.getfield 50, 3) := by decide +kernel
theorem dX12_lookCall_58 : decode cX12_lookCall 58 = .ok (.iload_n 1, 1) := by decide +kernel
theorem dX12_lookCall_59 : decode cX12_lookCall 59 = .ok (.iaload, 1) := by decide +kernel
theorem dX12_lookCall_60 : decode cX12_lookCall 60 = .ok (.istore 5, 2) := by decide +kernel
theorem dX12_lookCall_62 : decode cX12_lookCall 62 = .ok (.iload 5, 2) := by decide +kernel
theorem dX12_lookCall_64 : decode cX12_lookCall 64 = .ok (.iconst (-1), 1) := by decide +kernel
theorem dX12_lookCall_65 : decode cX12_lookCall 65 = .ok (.if_icmp .eq 106, 3) := by decide +kernel
theorem dX12_lookCall_171 : decode cX12_lookCall 171 = .ok (.aload_n 0, 1) := by decide +kernel
theorem dX12_lookCall_172 : decode cX12_lookCall 172 = .ok (.iload 4, 2) := by decide +kernel
theorem dX12_lookCall_174 : decode cX12_lookCall 174 = .ok (.aload_n 0, 1) := by decide +kernel
theorem dX12_lookCall_175 : decode cX12_lookCall 175 = .ok (.getfield 135, 3) := by decide +kernel
theorem dX12_lookCall_178 : decode cX12_lookCall 178 = .ok (.iload_n 3, 1) := by decide +kernel
theorem dX12_lookCall_179 : decode cX12_lookCall 179 = .ok (.iaload, 1) := by decide +kernel
theorem dX12_lookCall_180 : decode cX12_lookCall 180 = .ok (.if_icmp .ne 7, 3) := by decide +kernel
theorem dX12_lookCall_187 : decode cX12_lookCall 187 = .ok (.iconst 0, 1) := by decide +kernel
theorem dX12_lookCall_188 : decode cX12_lookCall 188 = .ok (.bipush 12, 2) := by decide +kernel
theorem dX12_lookCall_190 : decode cX12_lookCall 190 = .ok (.aload_n 0, 1) := by decide +kernel
theorem dX12_lookCall_191 : decode cX12_lookCall 191 = .ok (.getfield 56, 3) := by decide +kernel
theorem dX12_lookCall_194 : decode cX12_lookCall 194 = .ok (.iload_n 1, 1) := by decide +kernel
theorem dX12_lookCall_195 : decode cX12_lookCall 195 = .ok (.iaload, 1) := by decide +kernel
theorem dX12_lookCall_196 : decode cX12_lookCall 196 = .ok (.invokevirtual 540, 3) := by decide +kernel
theorem dX12_lookCall_199 : decode cX12_lookCall 199 = .ok (.pop, 1) := by decide +kernel
theorem dX12_lookCall_200 : decode cX12_lookCall 200 = .ok (.aload_n 0, 1) := by decide +kernel
theorem dX12_lookCall_201 : decode cX12_lookCall 201 = .ok (.aload_n 0, 1) := by decide +kernel
theorem dX12_lookCall_202 : decode cX12_lookCall 202 = .ok (.iload_n 3, 1) := by decide +kernel
theorem dX12_lookCall_203 : decode cX12_lookCall 203 = .ok (.invokevirtual 512, 3) := by decide +kernel
theorem dX12_lookCall_206 : decode cX12_lookCall 206 = .ok (.invokevirtual 560, 3) := by decide +kernel
theorem dX12_lookCall_209 : decode cX12_lookCall 209 = .ok (.ireturn, 1) := by decide +kernel
theorem dX12_lookCall_183 : decode cX12_lookCall 183 = .ok (.iconst 1, 1) := by decide +kernel
theorem dX12_lookCall_184 : decode cX12_lookCall 184 = .ok (.goto 4, 3) := by decide +kernel
theorem dX12_lookCall_68 : decode cX12_lookCall 68 = .ok (.aload_n 0, 1) := by decide +kernel
theorem dX12_lookCall_69 : decode cX12_lookCall 69 = .ok (.getfield 350, 3) := by decide +kernel
theorem dX12_lookCall_72 : decode cX12_lookCall 72 = .ok (.ifCond .ne 99, 3) := by decide +kernel
theorem dX12_lookCall_75 : decode cX12_lookCall 75 = .ok (.aload_n 0, 1) := by decide +kernel
theorem dX12_lookCall_76 : decode cX12_lookCall 76 = .ok (.iload 4, 2) := by decide +kernel
theorem dX12_lookCall_78 : decode cX12_lookCall 78 = .ok (.aload_n 0, 1) := by decide +kernel
theorem dX12_lookCall_79 : decode cX12_lookCall 79 = .ok (.getfield 135, 3) := by decide +kernel
theorem dX12_lookCall_82 : decode cX12_lookCall 82 = .ok (.iload_n 3, 1) := by decide +kernel
theorem dX12_lookCall_83 : decode cX12_lookCall 83 = .ok (.iaload, 1) := by decide +kernel
theorem dX12_lookCall_84 : decode cX12_lookCall 84 = .ok (.if_icmp .ge 7, 3) := by decide +kernel
theorem dX12_lookCall_91 : decode cX12_lookCall 91 = .ok (.iconst 0, 1) := by decide +kernel
theorem dX12_lookCall_92 : decode cX12_lookCall 92 = .ok (.bipush 12, 2) := by decide +kernel
theorem dX12_lookCall_94 : decode cX12_lookCall 94 = .ok (.aload_n 0, 1) := by decide +kernel
theorem dX12_lookCall_95 : decode cX12_lookCall 95 = .ok (.getfield 41, 3) := by decide +kernel
theorem dX12_lookCall_98 : decode cX12_lookCall 98 = .ok (.iload 5, 2) := by decide +kernel
theorem dX12_lookCall_100 : decode cX12_lookCall 100 = .ok (.iaload, 1) := by decide +kernel
theorem dX12_lookCall_101 : decode cX12_lookCall 101 = .ok (.invokevirtual 540, 3) := by decide +kernel
theorem dX12_lookCall_104 : decode cX12_lookCall 104 = .ok (.ifCond .ne 5, 3) := by decide +kernel
theorem dX12_lookCall_107 : decode cX12_lookCall 107 = .ok (.iconst 1, 1) := by decide +kernel
theorem dX12_lookCall_108 : decode cX12_lookCall 108 = .ok (.ireturn, 1) := by decide +kernel
theorem dX12_lookCall_87 : decode cX12_lookCall 87 = .ok (.iconst 1, 1) := by decide +kernel
theorem dX12_lookCall_88 : decode cX12_lookCall 88 = .ok (.goto 4, 3) := by decide +kernel
theorem dX12_lookCall_109 : decode cX12_lookCall 109 = .ok (.aload_n 0, 1) := by decide +kernel
theorem dX12_lookCall_110 : decode cX12_lookCall 110 = .ok (.iload 5, 2) := by decide +kernel
theorem dX12_lookCall_112 : decode cX12_lookCall 112 = .ok (.invokevirtual 557, 3) := by decide +kernel
theorem dX12_lookCall_115 : decode cX12_lookCall 115 = .ok (.istore 6, 2) := by decide +kernel
theorem dX12_lookCall_117 : decode cX12_lookCall 117 = .ok (.aload_n 0, 1) := by decide +kernel
theorem dX12_lookCall_118 : decode cX12_lookCall 118 = .ok (.aload_n 0, 1) := by decide +kernel
theorem dX12_lookCall_119 : decode cX12_lookCall 119 = .ok (.iload 6, 2) := by decide +kernel
theorem dX12_lookCall_121 : decode cX12_lookCall 121 = .ok (.aload_n 0, 1) := by decide +kernel
theorem dX12_lookCall_122 : decode cX12_lookCall 122 = .ok (.getfield 75, 3) := by decide +kernel
theorem dX12_lookCall_125 : decode cX12_lookCall 125 = .ok (.aload_n 0, 1) := by decide +kernel
theorem dX12_lookCall_126 : decode cX12_lookCall 126 = .ok (.getfield 153, 3) := by decide +kernel
theorem dX12_lookCall_129 : decode cX12_lookCall 129 = .ok (.aload_n 0, 1) := by decide +kernel
theorem dX12_lookCall_130 : decode cX12_lookCall 130 = .ok (.getfield 132, 3) := by decide +kernel
theorem dX12_lookCall_133 : decode cX12_lookCall 133 = .ok (.iload_n 3, 1) := by decide +kernel
theorem dX12_lookCall_134 : decode cX12_lookCall 134 = .ok (.iaload, 1) := by decide +kernel
theorem dX12_lookCall_135 : decode cX12_lookCall 135 = .ok (.iload 4, 2) := by decide +kernel
theorem dX12_lookCall_137 : decode cX12_lookCall 137 = .ok (.iadd, 1) := by decide +kernel
theorem dX12_lookCall_138 : decode cX12_lookCall 138 = .ok (.iaload, 1) := by decide +kernel
theorem dX12_lookCall_139 : decode cX12_lookCall 139 = .ok (.iaload, 1) := by decide +kernel
theorem dX12_lookCall_140 : decode cX12_lookCall 140 = .ok (.invokevirtual 534, 3) := by decide +kernel
theorem dX12_lookCall_143 : decode cX12_lookCall 143 = .ok (.bipush 11, 2) := by decide +kernel
theorem dX12_lookCall_145 : decode cX12_lookCall 145 = .ok (.aload_n 0, 1) := by decide +kernel
theorem dX12_lookCall_146 : decode cX12_lookCall 146 = .ok (.getfield 41, 3) := by decide +kernel
theorem dX12_lookCall_149 : decode cX12_lookCall 149 = .ok (.iload 5, 2) := by decide +kernel
theorem dX12_lookCall_151 : decode cX12_lookCall 151 = .ok (.iaload, 1) := by decide +kernel
theorem dX12_lookCall_152 : decode cX12_lookCall 152 = .ok (.invokevirtual 540, 3) := by decide +kernel
theorem dX12_lookCall_155 : decode cX12_lookCall 155 = .ok (.pop, 1) := by decide +kernel
theorem dX12_lookCall_156 : decode cX12_lookCall 156 = .ok (.iinc 4 1, 3) := by decide +kernel
theorem dX12_lookCall_159 : decode cX12_lookCall 159 = .ok (.aload_n 0, 1) := by decide +kernel
theorem dX12_lookCall_160 : decode cX12_lookCall 160 = .ok (.getfield 59, 3) := by decide +kernel
theorem dX12_lookCall_163 : decode cX12_lookCall 163 = .ok (.iload 5, 2) := by decide +kernel
theorem dX12_lookCall_165 : decode cX12_lookCall 165 = .ok (.iaload, 1) := by decide +kernel
theorem dX12_lookCall_166 : decode cX12_lookCall 166 = .ok (.istore 5, 2) := by decide +kernel
theorem dX12_lookCall_168 : decode cX12_lookCall 168 = .ok (.goto (-106), 3) := by decide +kernel
theorem hV_X12_anyMethod : yX12_anyMethod.cls = RX12 ∧ yX12_anyMethod.cls ≠ "java/lang/invoke/MethodHandle" ∧ yX12_anyMethod.cls ≠ "java/lang/invoke/VarHandle" ∧ (parseMethodDescriptor yX12_anyMethod.desc).map (fun d => d.parameters.length) = some 2 := by decide +kernel
set_option maxHeartbeats 12000000 in
set_option maxRecDepth 100000 in
/-- lookCall(n, k) -/
theorem L_lookCall (l : Launch) (G : pT) (h0 : Nat) (a : Nat → Nat) (F : Nat → Int32) (B : Nat → Nat → Int32) (n9 : Nat) (z9 : Nat) (fa : Nat) (sc : Nat) (k9 : Nat) (nd : Nat) (T : Nat) (nm : Nat) (wr : Nat) (lz : Nat) (dc : Nat) (fd : Nat) (md : Nat) (pr : Nat) (bk : Nat) (gh : Nat → Nat → Nat) (dn : Int32) (wt : Int32) (wf : Int32) (nc : Nat → Int32) (ty : Nat → Int32) (mn : Nat → Int32) (vn : Nat → Int32) (vt : Nat → Int32) (kq : Nat) (kk : Nat) (hst : St B gh nd T nm wr lz dc fd md pr bk) (hnm : nd ≤ 12000 ∧ T ≤ 5000 ∧ wr ≤ 5000 ∧ 7 ≤ dc ∧ dc ≤ 37 ∧ fd ≤ 620 ∧ md ≤ 920 ∧ pr ≤ 5000) (hn9 : n9 < nd) (hz : gh 1 n9 < z9) (hfa : fa ≤ 15) (hsc : sc ≤ 30) (hk9 : 7 ≤ k9 ∧ k9 < dc) (hnc : ∀ i : Nat, i < nd → ¬ B 9 i = 44 → nc i = B 14 i) (hmn : mnN B nd mn) (hvt : ∀ i : Nat, i < sc → tyOK dc (vt i)) (hkk : cdOf kk 2 = 201 ∧ cdOf kk 4 = 51 ∧ kk ≤ 44) (hkd : B 9 n9 = nI kk) (hk0 : ¬ kk = 9) (hkq : kq < dc) (ihL : Plook l G (z9 - 1)) : PM l G pX0 yX12_lookCall cX12_lookCall 7 (some .int) ({ frames := (4 * z9 + 9), cells := 0, slots := 0, locals := (160 * z9 + 1360) }) [.ref h0, .int (nI n9), .int (nI kq)] (mW G h0 a (upd (upd (upd (upd (upd (upd (upd (upd F 15 (nI fa)) 44 (nI fd)) 49 (nI md)) 73 (nI sc)) 74 (nI k9)) 77 dn) 78 wt) 79 wf) (updA (updA (updA (updA (updA B 14 nc) 17 ty) 18 mn) 48 vn) 49 vt)) (fun (v : Option Value) (u : Nat × Nat × Int32 × Int32 × Int32 × Int32 × (Nat → Int32) × (Nat → Int32)) => v = some (.int (nI u.1)) ∧ (fa ≤ u.2.1) ∧ (u.2.1 ≤ 15) ∧ (TyC dc u.1) ∧ (u.1 ≤ 2050) ∧ (ChLr B nd n9 ty u.2.2.2.2.2.2.1 mn u.2.2.2.2.2.2.2) ∧ (mnN B nd u.2.2.2.2.2.2.2) ∧ (If (u.2.1 = 0) ((∀ z c : Nat, c < 20000 → itr (B 16) (B 13 n9) z = nI c → Typ B dc fd md nd u.2.2.2.2.2.2.1 u.2.2.2.2.2.2.2 vt sc k9 c) ∧ CalP B u.2.2.2.2.2.2.1 u.2.2.2.2.2.2.2 dc md nd kq n9 (nI u.1)))) (fun u => (mW G h0 a (upd (upd (upd (upd (upd (upd (upd (upd (upd F 15 (nI u.2.1)) 16 u.2.2.1) 44 (nI fd)) 49 (nI md)) 73 (nI sc)) 74 (nI k9)) 77 u.2.2.2.1) 78 u.2.2.2.2.1) 79 u.2.2.2.2.2.1) (updA (updA (updA (updA (updA B 14 nc) 17 u.2.2.2.2.2.2.1) 18 u.2.2.2.2.2.2.2) 48 vn) 49 vt))) := by
  intro sz
  refine Met.ofW (cc := cX12_lookCall) (maxL := 7) (ret := (some .int)) (by decide) rfl ?_
  intro p e s m args below meth c s₁ B9 hml hv
  obtain ⟨rfl, hsz, hP, hD0, hE, hX⟩ := hv
  have hx := B9.exec
  have hb := B9.bytes
  have hr := B9.returns
  have hts := atoms_spec (ws := Cond.code yX12_lookCall cX12_lookCall 7 (some .int) :: pw) B9.pre
  have hq : ∀ w ∈ pw, w.before _ s = true := fun w h => hts w (List.mem_cons_of_mem _ h)
  have hown : s.vm.findClass RX12 = some m.cls := findClass_of_methodNamed B9.named
  have hlocks := B9.notSynchronized
  subst hsz
  have hD := hD0.self (sz := s.heap.size)
  have hA : ∀ q : Nat, s.heap.size ≤ q → va_A (mW G h0 a (upd (upd (upd (upd (upd (upd (upd (upd F 15 (nI fa)) 44 (nI fd)) 49 (nI md)) 73 (nI sc)) 74 (nI k9)) 77 dn) 78 wt) 79 wf) (updA (updA (updA (updA (updA B 14 nc) 17 ty) 18 mn) 48 vn) 49 vt)) s.heap.size q := fun q h => Or.inr h
  have hP : va_P G.1 pCl (mW G h0 a (upd (upd (upd (upd (upd (upd (upd (upd F 15 (nI fa)) 44 (nI fd)) 49 (nI md)) 73 (nI sc)) 74 (nI k9)) 77 dn) 78 wt) 79 wf) (updA (updA (updA (updA (updA B 14 nc) 17 ty) 18 mn) 48 vn) 49 vt)) s.heap := hP
  generalize va_A (mW G h0 a (upd (upd (upd (upd (upd (upd (upd (upd F 15 (nI fa)) 44 (nI fd)) 49 (nI md)) 73 (nI sc)) 74 (nI k9)) 77 dn) 78 wt) 79 wf) (updA (updA (updA (updA (updA B 14 nc) 17 ty) 18 mn) 48 vn) 49 vt)) s.heap.size = A at hD hE hA ⊢
  have hS : va_S A s.heap s.heap [] := va_S.rf
  have hl := lv_entry ([.ref h0, .int (nI n9), .int (nI kq)]) (n := 7) (Nat.le_of_ble_eq_true rfl)
  rw [lg_entry_eq]
  generalize (lg_sl ([.ref h0, .int (nI n9), .int (nI kq)]) ++ List.replicate (7 - (lg_sl ([.ref h0, .int (nI n9), .int (nI kq)])).length) Slot.unset).toArray = ls at hl ⊢
  have hl : lv_has ls 7 [(0, .ref h0), (1, .int (nI n9)), (2, .int (nI kq))] := hl
  have hF := hst.1
  have hPS := hst.2.1
  have hBI := hst.2.2.1
  have hRK := hst.2.2.2.1
  have hTY := hst.2.2.2.2.1
  have hNW := hst.2.2.2.2.2.1
  have hTK := hst.2.2.2.2.2.2
  have hv13 : B 13 n9 = -1 ∨ ∃ q : Nat, B 13 n9 = nI q ∧ q < nd := by
    obtain ⟨k2, e2, _, k24, hs⟩ := hF.knd hn9
    have ek : k2 = kk := (nI_eq (by omega) (by omega)).mp (e2.symm.trans hkd)
    subst ek
    exact sok.or (hs 2 (by omega) (by omega)) (by omega)
  have h9k : ¬ B 9 n9 = 9 := fun e => hk0 ((nI_eq (a := kk) (b := 9) (by omega) (by omega)).mp (hkd.symm.trans e))
  refine lv_aload_n hx hb dX12_lookCall_0 rfl (lv_at hl 0 rfl) ?_
  refine lv_iload_n hx hb dX12_lookCall_1 rfl (lv_at hl 2 rfl) ?_
  refine lv_aload_n hx hb dX12_lookCall_2 rfl (lv_at hl 0 rfl) ?_
  refine r_get (v := .ref (a 5)) hx hb hown hq hE hP 8 25 tFX12_8 (by decide) pw_1435 rfl dX12_lookCall_3 ?_
  refine lv_aload_n hx hb dX12_lookCall_6 rfl (lv_at hl 0 rfl) ?_
  refine r_get (v := .ref (a 11)) hx hb hown hq hE hP 19 44 tFX12_19 (by decide) pw_1441 rfl dX12_lookCall_7 ?_
  refine lv_iload_n hx hb dX12_lookCall_10 rfl (lv_at hl 1 rfl) ?_
  refine r_ldi (f := (B 11)) (j := n9) hx hb hE hP 11 (ma_11 G a _) rfl (by omega) (by decide) dX12_lookCall_11 ?_
  obtain ⟨-, ⟨t1, e2, h3, -⟩, -⟩ := hF n9 hn9
  refine lv_topi (fun x4 e5 => ?_)
  obtain rfl : x4 = nI t1 := e5.trans e2
  refine r_ldi (f := (B 5)) (j := t1) hx hb hE hP 5 (ma_5 G a _) rfl (by omega) (by decide) dX12_lookCall_12 ?_
  have hP : va_P G.1 pCl (mW G h0 a (upd (upd (upd (upd (upd (upd (upd (upd (upd F 15 (nI fa)) 44 (nI fd)) 49 (nI md)) 73 (nI sc)) 74 (nI k9)) 77 dn) 78 wt) 79 wf) 49 (nI md)) (updA (updA (updA (updA (updA B 14 nc) 17 ty) 18 mn) 48 vn) 49 vt)) _ := hP
  have hD : va_D A (mW G h0 a (upd (upd (upd (upd (upd (upd (upd (upd (upd F 15 (nI fa)) 44 (nI fd)) 49 (nI md)) 73 (nI sc)) 74 (nI k9)) 77 dn) 78 wt) 79 wf) 49 (nI md)) (updA (updA (updA (updA (updA B 14 nc) 17 ty) 18 mn) 48 vn) 49 vt)) := mW_D hD
  refine pc_V0 (G := G) (As := [.int (nI kq), .int ((B 5) t1)]) (rest := []) hx hb hml hown hq hE hX pX0_al hP hD hS hA hl.1 (R_anyMethod l G h0 a (upd (upd (upd (upd (upd (upd (upd (upd F 15 (nI fa)) 44 (nI fd)) 49 (nI md)) 73 (nI sc)) 74 (nI k9)) 77 dn) 78 wt) 79 wf) (updA (updA (updA (updA (updA B 14 nc) 17 ty) 18 mn) 48 vn) 49 vt) kq dc md ((B 5) t1) (by omega) (by omega) (by omega) hRK hBI (fun m hm => by obtain ⟨d, z1, _, z3, _⟩ := hPS.2.2.1 m hm; exact ⟨d, z1, z3⟩)) (gV pw_1860 pw_1861 pw_1862 pw_1523 pw_1768) hV_X12_anyMethod 0 9 rfl rfl rfl rfl (Nat.le_of_ble_eq_true rfl) dX12_lookCall_13 ⟨Nat.le_of_ble_eq_true rfl, Nat.le_of_ble_eq_true rfl⟩ ⟨(by show 3 + 1 ≤ (4 * z9 + 9); omega), (by show 8 + (5 + 11) + 84 ≤ (160 * z9 + 1360); omega)⟩ (fun v8 u6 H locs hw7 hP hD hS => ?_)
  obtain ⟨r9, rfl⟩ : ∃ z, z = u6 := ⟨_, rfl⟩
  obtain ⟨hw7, h10⟩ := hw7
  replace h10 : AnyQ (updA (updA (updA (updA (updA B 14 nc) 17 ty) 18 mn) 48 vn) 49 vt) dc md kq ((B 5) t1) r9 := h10
  obtain rfl : v8 = some (.int r9) := hw7
  have hP : va_P G.1 pCl (mW G h0 a (upd (upd (upd (upd (upd (upd (upd (upd F 15 (nI fa)) 44 (nI fd)) 49 (nI md)) 73 (nI sc)) 74 (nI k9)) 77 dn) 78 wt) 79 wf) (updA (updA (updA (updA (updA B 14 nc) 17 ty) 18 mn) 48 vn) 49 vt)) _ := mW_to (F := F) (l1 := [(15, (nI fa)), (44, (nI fd)), (49, (nI md)), (73, (nI sc)), (74, (nI k9)), (77, dn), (78, wt), (79, wf), (49, (nI md))]) (l2 := [(15, (nI fa)), (44, (nI fd)), (49, (nI md)), (73, (nI sc)), (74, (nI k9)), (77, dn), (78, wt), (79, wf)]) (V := [(nI fa), (nI fd), (nI md), (nI sc), (nI k9), dn, wt, wf, (nI md), (nI fa), (nI fd), (nI md), (nI sc), (nI k9), dn, wt, wf]) rfl rfl rfl hP
  have hD : va_D A (mW G h0 a (upd (upd (upd (upd (upd (upd (upd (upd F 15 (nI fa)) 44 (nI fd)) 49 (nI md)) 73 (nI sc)) 74 (nI k9)) 77 dn) 78 wt) 79 wf) (updA (updA (updA (updA (updA B 14 nc) 17 ty) 18 mn) 48 vn) 49 vt)) := mW_D hD
  refine W.widen (k := 0) (n := 0) (Nat.le_of_ble_eq_true rfl) (Nat.le_of_ble_eq_true rfl) ?_
  refine W.eq (g2 := F0 m 16 ls [.int r9]) rfl ?_
  refine lv_istore_n (lv' := [(3, .int r9), (0, .ref h0), (1, .int (nI n9)), (2, .int (nI kq))]) hx hb dX12_lookCall_16 rfl hl (by decide) rfl (fun ls hl => ?_)
  refine lv_aload_n hx hb dX12_lookCall_17 rfl (lv_at hl 1 rfl) ?_
  refine lv_iload_n hx hb dX12_lookCall_18 rfl (lv_at hl 0 rfl) ?_
  refine lv_iconst (v := (-1)) hx hb dX12_lookCall_19 (by decide) ?_
  refine lv_icmp_eq (tgt := 27) hx hb dX12_lookCall_20 (by decide) (fun c11 => ?_) (fun c11 => ?_)
  · refine lv_iconst (v := 0) hx hb dX12_lookCall_27 (by decide) ?_
    refine lv_bipush (v := 10) hx hb dX12_lookCall_28 (by decide) ?_
    refine lv_aload_n hx hb dX12_lookCall_30 rfl (lv_at hl 1 rfl) ?_
    refine r_get (v := .ref (a 11)) hx hb hown hq hE hP 19 44 tFX12_19 (by decide) pw_1441 rfl dX12_lookCall_31 ?_
    refine lv_iload_n hx hb dX12_lookCall_34 rfl (lv_at hl 2 rfl) ?_
    refine r_ldi (f := (B 11)) (j := n9) hx hb hE hP 11 (ma_11 G a _) rfl (by omega) (by decide) dX12_lookCall_35 ?_
    refine lv_topi (fun x12 e13 => ?_)
    obtain rfl : x12 = nI t1 := e13.trans e2
    have hP : va_P G.1 pCl (mW G h0 a (upd (upd (upd (upd (upd (upd (upd (upd (upd F 15 (nI fa)) 44 (nI fd)) 49 (nI md)) 73 (nI sc)) 74 (nI k9)) 77 dn) 78 wt) 79 wf) 15 (nI fa)) (updA (updA (updA (updA (updA B 14 nc) 17 ty) 18 mn) 48 vn) 49 vt)) _ := mW_to (F := F) (l1 := [(15, (nI fa)), (44, (nI fd)), (49, (nI md)), (73, (nI sc)), (74, (nI k9)), (77, dn), (78, wt), (79, wf)]) (l2 := [(15, (nI fa)), (44, (nI fd)), (49, (nI md)), (73, (nI sc)), (74, (nI k9)), (77, dn), (78, wt), (79, wf), (15, (nI fa))]) (V := [(nI fa), (nI fd), (nI md), (nI sc), (nI k9), dn, wt, wf, (nI fa), (nI fd), (nI md), (nI sc), (nI k9), dn, wt, wf, (nI fa)]) rfl rfl rfl hP
    have hD : va_D A (mW G h0 a (upd (upd (upd (upd (upd (upd (upd (upd (upd F 15 (nI fa)) 44 (nI fd)) 49 (nI md)) 73 (nI sc)) 74 (nI k9)) 77 dn) 78 wt) 79 wf) 15 (nI fa)) (updA (updA (updA (updA (updA B 14 nc) 17 ty) 18 mn) 48 vn) 49 vt)) := mW_D hD
    refine pc_V0 (G := G) (As := [.int (nI 0), .int (nI 10), .int (nI t1)]) (rest := []) hx hb hml hown hq hE hX pX0_al hP hD hS hA hl.1 (R_judgeL l G h0 a (upd (upd (upd (upd (upd (upd (upd (upd F 15 (nI fa)) 44 (nI fd)) 49 (nI md)) 73 (nI sc)) 74 (nI k9)) 77 dn) 78 wt) 79 wf) (updA (updA (updA (updA (updA B 14 nc) 17 ty) 18 mn) 48 vn) 49 vt) 0 10 t1 fa (by omega) (by omega) (by omega) (by omega)) (gV pw_1798 pw_1799 pw_1800 pw_1523 pw_1793) hV_X12_judge 0 9 rfl rfl rfl rfl (Nat.le_of_ble_eq_true rfl) dX12_lookCall_36 ⟨Nat.le_of_ble_eq_true rfl, Nat.le_of_ble_eq_true rfl⟩ ⟨(by show 3 + 1 ≤ (4 * z9 + 9); omega), (by show 8 + (4 + 11) + 82 ≤ (160 * z9 + 1360); omega)⟩ (fun v16 u14 H locs hw15 hP hD hS => ?_)
    obtain ⟨r17, fa18, pl19⟩ := u14
    obtain ⟨hw15, h20, h21, h22, h23, h24, h25, h26⟩ := hw15
    replace h20 : r17 ≤ 1 := h20
    replace h21 : fa ≤ fa18 := h21
    replace h22 : fa18 ≤ 15 := h22
    replace h23 : fa18 + 15 * r17 ≤ 15 := h23
    replace h24 : 1 ≤ r17 + fa18 := h24
    replace h25 : 1 ≤ 0 + fa18 := h25
    replace h26 : fa18 ≤ fa + 15 * (1 - 0) := h26
    obtain rfl : v16 = some (.int (nI r17)) := hw15
    have hP : va_P G.1 pCl (mW G h0 a (upd (upd (upd (upd (upd (upd (upd (upd (upd F 15 (nI fa18)) 16 pl19) 44 (nI fd)) 49 (nI md)) 73 (nI sc)) 74 (nI k9)) 77 dn) 78 wt) 79 wf) (updA (updA (updA (updA (updA B 14 nc) 17 ty) 18 mn) 48 vn) 49 vt)) _ := mW_to (F := F) (l1 := [(15, (nI fa)), (44, (nI fd)), (49, (nI md)), (73, (nI sc)), (74, (nI k9)), (77, dn), (78, wt), (79, wf), (15, (nI fa18)), (16, pl19)]) (l2 := [(15, (nI fa18)), (16, pl19), (44, (nI fd)), (49, (nI md)), (73, (nI sc)), (74, (nI k9)), (77, dn), (78, wt), (79, wf)]) (V := [(nI fa18), (nI fd), (nI md), (nI sc), (nI k9), dn, wt, wf, (nI fa18), pl19, (nI fa18), pl19, (nI fd), (nI md), (nI sc), (nI k9), dn, wt, wf]) rfl rfl rfl hP
    have hD : va_D A (mW G h0 a (upd (upd (upd (upd (upd (upd (upd (upd (upd F 15 (nI fa18)) 16 pl19) 44 (nI fd)) 49 (nI md)) 73 (nI sc)) 74 (nI k9)) 77 dn) 78 wt) 79 wf) (updA (updA (updA (updA (updA B 14 nc) 17 ty) 18 mn) 48 vn) 49 vt)) := mW_D hD
    refine W.widen (k := 0) (n := 0) (Nat.le_of_ble_eq_true rfl) (Nat.le_of_ble_eq_true rfl) ?_
    refine W.eq (g2 := F0 m 39 ls [.int (nI r17)]) rfl ?_
    refine lv_if_ne (tgt := 44) hx hb dX12_lookCall_39 (by decide) (fun c27 => (by have n28 : ¬ (r17 = 0) := fun h9 => c27 ((nI_eq (a := r17) (b := 0) (by omega) (by omega)).mpr h9); omega)) (fun c27 => ?_)
    refine lv_iconst (v := 1) hx hb dX12_lookCall_42 (by decide) ?_
    have hz29 : fa ≤ fa18 := (by omega)
    have hz30 : fa18 ≤ 15 := (by omega)
    have hz31 : TyC dc 1 := (by unfold TyC; omega)
    have hz32 : 1 ≤ 2050 := (by omega)
    have hz33 : ChLr B nd n9 ty ty mn mn := ChLr.rfl
    have hz34 : mnN B nd mn := hmn
    have hz35 : If (fa18 = 0) ((∀ z c : Nat, c < 20000 → itr (B 16) (B 13 n9) z = nI c → Typ B dc fd md nd ty mn vt sc k9 c) ∧ CalP B ty mn dc md nd kq n9 (nI 1)) := (fun e => absurd e (by omega))
    have hP : va_P G.1 pCl (mW G h0 a (upd (upd (upd (upd (upd (upd (upd (upd (upd F 15 (nI fa18)) 16 pl19) 44 (nI fd)) 49 (nI md)) 73 (nI sc)) 74 (nI k9)) 77 dn) 78 wt) 79 wf) (updA (updA (updA (updA (updA B 14 nc) 17 ty) 18 mn) 48 vn) 49 vt)) _ := hP
    have hD : va_D A (mW G h0 a (upd (upd (upd (upd (upd (upd (upd (upd (upd F 15 (nI fa18)) 16 pl19) 44 (nI fd)) 49 (nI md)) 73 (nI sc)) 74 (nI k9)) 77 dn) 78 wt) 79 wf) (updA (updA (updA (updA (updA B 14 nc) 17 ty) 18 mn) 48 vn) 49 vt)) := mW_D hD
    exact W.iret (v := 1) hx hb hr (fun t9 ht9 hW9 => ⟨⟨_, (1, fa18, pl19, dn, wt, wf, ty, mn), rfl, ⟨rfl, hz29, hz30, hz31, hz32, hz33, hz34, hz35⟩, by rw [ht9]; exact hP, hD⟩, hS.F ht9⟩) hS.2.2 dX12_lookCall_43
  · obtain ⟨mm36, e37, h38, h39⟩ := Or.resolve_left h10 c11
    have haq : AnyQ B dc md kq (nmF B n9) (nI mm36) := by have z := h10; rw [e37] at z; unfold nmF; rw [e2, nI_cl (by omega)]; exact z
    subst e37
    obtain ⟨d40, -, -, -, -, -, -, ⟨p41, q42, e43, e44, h45, h46⟩, -⟩ := hPS.2.2.1 mm36 h38
    refine lv_iconst (v := 1) hx hb dX12_lookCall_23 (by decide) ?_
    refine lv_goto (tgt := 28) hx hb dX12_lookCall_24 (by decide) ?_
    refine lv_bipush (v := 10) hx hb dX12_lookCall_28 (by decide) ?_
    refine lv_aload_n hx hb dX12_lookCall_30 rfl (lv_at hl 1 rfl) ?_
    refine r_get (v := .ref (a 11)) hx hb hown hq hE hP 19 44 tFX12_19 (by decide) pw_1441 rfl dX12_lookCall_31 ?_
    refine lv_iload_n hx hb dX12_lookCall_34 rfl (lv_at hl 2 rfl) ?_
    refine r_ldi (f := (B 11)) (j := n9) hx hb hE hP 11 (ma_11 G a _) rfl (by omega) (by decide) dX12_lookCall_35 ?_
    refine lv_topi (fun x47 e48 => ?_)
    obtain rfl : x47 = nI t1 := e48.trans e2
    have hP : va_P G.1 pCl (mW G h0 a (upd (upd (upd (upd (upd (upd (upd (upd (upd F 15 (nI fa)) 44 (nI fd)) 49 (nI md)) 73 (nI sc)) 74 (nI k9)) 77 dn) 78 wt) 79 wf) 15 (nI fa)) (updA (updA (updA (updA (updA B 14 nc) 17 ty) 18 mn) 48 vn) 49 vt)) _ := hP
    have hD : va_D A (mW G h0 a (upd (upd (upd (upd (upd (upd (upd (upd (upd F 15 (nI fa)) 44 (nI fd)) 49 (nI md)) 73 (nI sc)) 74 (nI k9)) 77 dn) 78 wt) 79 wf) 15 (nI fa)) (updA (updA (updA (updA (updA B 14 nc) 17 ty) 18 mn) 48 vn) 49 vt)) := mW_D hD
    refine pc_V0 (G := G) (As := [.int (nI 1), .int (nI 10), .int (nI t1)]) (rest := []) hx hb hml hown hq hE hX pX0_al hP hD hS hA hl.1 (R_judgeL l G h0 a (upd (upd (upd (upd (upd (upd (upd (upd F 15 (nI fa)) 44 (nI fd)) 49 (nI md)) 73 (nI sc)) 74 (nI k9)) 77 dn) 78 wt) 79 wf) (updA (updA (updA (updA (updA B 14 nc) 17 ty) 18 mn) 48 vn) 49 vt) 1 10 t1 fa (by omega) (by omega) (by omega) (by omega)) (gV pw_1798 pw_1799 pw_1800 pw_1523 pw_1793) hV_X12_judge 0 9 rfl rfl rfl rfl (Nat.le_of_ble_eq_true rfl) dX12_lookCall_36 ⟨Nat.le_of_ble_eq_true rfl, Nat.le_of_ble_eq_true rfl⟩ ⟨(by show 3 + 1 ≤ (4 * z9 + 9); omega), (by show 8 + (4 + 11) + 82 ≤ (160 * z9 + 1360); omega)⟩ (fun v51 u49 H locs hw50 hP hD hS => ?_)
    obtain ⟨r52, fa53, pl54⟩ := u49
    obtain ⟨hw50, h55, h56, h57, h58, h59, h60, h61⟩ := hw50
    replace h55 : r52 ≤ 1 := h55
    replace h56 : fa ≤ fa53 := h56
    replace h57 : fa53 ≤ 15 := h57
    replace h58 : fa53 + 15 * r52 ≤ 15 := h58
    replace h59 : 1 ≤ r52 + fa53 := h59
    replace h60 : 1 ≤ 1 + fa53 := h60
    replace h61 : fa53 ≤ fa + 15 * (1 - 1) := h61
    obtain rfl : v51 = some (.int (nI r52)) := hw50
    have hP : va_P G.1 pCl (mW G h0 a (upd (upd (upd (upd (upd (upd (upd (upd (upd F 15 (nI fa53)) 16 pl54) 44 (nI fd)) 49 (nI md)) 73 (nI sc)) 74 (nI k9)) 77 dn) 78 wt) 79 wf) (updA (updA (updA (updA (updA B 14 nc) 17 ty) 18 mn) 48 vn) 49 vt)) _ := mW_to (F := F) (l1 := [(15, (nI fa)), (44, (nI fd)), (49, (nI md)), (73, (nI sc)), (74, (nI k9)), (77, dn), (78, wt), (79, wf), (15, (nI fa53)), (16, pl54)]) (l2 := [(15, (nI fa53)), (16, pl54), (44, (nI fd)), (49, (nI md)), (73, (nI sc)), (74, (nI k9)), (77, dn), (78, wt), (79, wf)]) (V := [(nI fa53), (nI fd), (nI md), (nI sc), (nI k9), dn, wt, wf, (nI fa53), pl54, (nI fa53), pl54, (nI fd), (nI md), (nI sc), (nI k9), dn, wt, wf]) rfl rfl rfl hP
    have hD : va_D A (mW G h0 a (upd (upd (upd (upd (upd (upd (upd (upd (upd F 15 (nI fa53)) 16 pl54) 44 (nI fd)) 49 (nI md)) 73 (nI sc)) 74 (nI k9)) 77 dn) 78 wt) 79 wf) (updA (updA (updA (updA (updA B 14 nc) 17 ty) 18 mn) 48 vn) 49 vt)) := mW_D hD
    refine W.widen (k := 0) (n := 0) (Nat.le_of_ble_eq_true rfl) (Nat.le_of_ble_eq_true rfl) ?_
    refine W.eq (g2 := F0 m 39 ls [.int (nI r52)]) rfl ?_
    refine lv_if_ne (tgt := 44) hx hb dX12_lookCall_39 (by decide) (fun c62 => ?_) (fun c62 => ?_)
    · have n63 : ¬ (r52 = 0) := fun h9 => c62 ((nI_eq (a := r52) (b := 0) (by omega) (by omega)).mpr h9)
      refine lv_aload_n hx hb dX12_lookCall_44 rfl (lv_at hl 1 rfl) ?_
      refine r_get (v := .ref (a 18)) hx hb hown hq hE hP 26 65 tFX12_26 (by decide) pw_1448 rfl dX12_lookCall_45 ?_
      refine lv_iload_n hx hb dX12_lookCall_48 rfl (lv_at hl 2 rfl) ?_
      refine lv_iload_n hx hb dX12_lookCall_49 rfl (lv_at hl 0 rfl) ?_
      refine r_sti (f := mn) (j := n9) hx hb hE hP hD hS 18 (ma_18 G a _) rfl (mas_18 G a _) (by omega) (by decide) dX12_lookCall_50 (fun H locs hP hD hS => ?_)
      have hch64 : ChLr B nd n9 ty ty mn (upd mn n9 (nI mm36)) := (ChLr.trans ChLr.rfl ChLr.own)
      have hmn65 : mnN B nd (upd mn n9 (nI mm36)) := (mnN.up hmn h9k)
      refine lv_iconst (v := 0) hx hb dX12_lookCall_51 (by decide) ?_
      refine lv_istore (lv' := [(4, .int 0), (3, .int (nI mm36)), (0, .ref h0), (1, .int (nI n9)), (2, .int (nI kq))]) hx hb dX12_lookCall_52 hl (by decide) rfl (fun ls hl => ?_)
      refine lv_aload_n hx hb dX12_lookCall_54 rfl (lv_at hl 2 rfl) ?_
      refine r_get (v := .ref (a 13)) hx hb hown hq hE hP 21 50 tFX12_21 (by decide) pw_1443 rfl dX12_lookCall_55 ?_
      refine lv_iload_n hx hb dX12_lookCall_58 rfl (lv_at hl 3 rfl) ?_
      refine r_ldi (f := (B 13)) (j := n9) hx hb hE hP 13 (ma_13 G a _) rfl (by omega) (by decide) dX12_lookCall_59 ?_
      refine lv_istore (lv' := [(5, .int ((B 13) n9)), (4, .int 0), (3, .int (nI mm36)), (0, .ref h0), (1, .int (nI n9)), (2, .int (nI kq))]) hx hb dX12_lookCall_60 hl (by decide) rfl (fun ls hl => ?_)
      have loop_o : ∀ (n_o : Nat) (i2 : Nat) (fa2 : Nat) (mm2 : Nat) (q2 : Nat) (p2 : Nat) (pl2 : Int32) (dn2 : Int32) (wt2 : Int32) (wf2 : Int32) (ty2 : Nat → Int32) (mn2 : Nat → Int32) (H : Heap) (locs : List Loc) (ls : Array Slot), i2 ≤ 8 → 8 + 1 ≤ i2 + n_o → (fa ≤ fa2) → (fa2 ≤ 15) → (mm2 < md) → (q2 ≤ 8 ∧ p2 + q2 ≤ pr) → (i2 ≤ q2) → (B 41 mm2 = nI q2) → (B 40 mm2 = nI p2) → (AnyQ B dc md kq (nmF B n9) (nI mm2)) → (ChLr B nd n9 ty ty2 mn mn2) → (mnN B nd mn2) → (mn2 n9 = nI mm2) → (If (fa2 = 0) (TyL B dc fd md nd ty2 mn2 vt sc k9 n9 i2)) → (If (fa2 = 0) (ArgP B ty2 nd p2 i2 (B 13 n9))) → va_P G.1 pCl (mW G h0 a (upd (upd (upd (upd (upd (upd (upd (upd (upd F 15 (nI fa2)) 16 pl2) 44 (nI fd)) 49 (nI md)) 73 (nI sc)) 74 (nI k9)) 77 dn2) 78 wt2) 79 wf2) (updA (updA (updA (updA (updA B 14 nc) 17 ty2) 18 mn2) 48 vn) 49 vt)) H → va_D A (mW G h0 a (upd (upd (upd (upd (upd (upd (upd (upd (upd F 15 (nI fa2)) 16 pl2) 44 (nI fd)) 49 (nI md)) 73 (nI sc)) 74 (nI k9)) 77 dn2) 78 wt2) 79 wf2) (updA (updA (updA (updA (updA B 14 nc) 17 ty2) 18 mn2) 48 vn) 49 vt)) → va_S A s.heap H locs → lv_has ls 7 [(5, .int (itr (B 16) (B 13 n9) i2)), (4, .int (nI i2)), (3, .int (nI mm2)), (2, .int (nI kq)), (1, .int (nI n9)), (0, .ref h0)] → W p l e (headSpec (Cond.code yX12_lookCall cX12_lookCall 7 (some .int) :: pw) ({ frames := (4 * z9 + 9), cells := 0, slots := 0, locals := (160 * z9 + 1360) } : Room)).room s m ([.ref h0, .int (nI n9), .int (nI kq)] : List Value).toArray below meth c H locs 0 0 (MQ below (pQ G A (fun (v : Option Value) (u : Nat × Nat × Int32 × Int32 × Int32 × Int32 × (Nat → Int32) × (Nat → Int32)) => v = some (.int (nI u.1)) ∧ (fa ≤ u.2.1) ∧ (u.2.1 ≤ 15) ∧ (TyC dc u.1) ∧ (u.1 ≤ 2050) ∧ (ChLr B nd n9 ty u.2.2.2.2.2.2.1 mn u.2.2.2.2.2.2.2) ∧ (mnN B nd u.2.2.2.2.2.2.2) ∧ (If (u.2.1 = 0) ((∀ z c : Nat, c < 20000 → itr (B 16) (B 13 n9) z = nI c → Typ B dc fd md nd u.2.2.2.2.2.2.1 u.2.2.2.2.2.2.2 vt sc k9 c) ∧ CalP B u.2.2.2.2.2.2.1 u.2.2.2.2.2.2.2 dc md nd kq n9 (nI u.1)))) (fun u => (mW G h0 a (upd (upd (upd (upd (upd (upd (upd (upd (upd F 15 (nI u.2.1)) 16 u.2.2.1) 44 (nI fd)) 49 (nI md)) 73 (nI sc)) 74 (nI k9)) 77 u.2.2.2.1) 78 u.2.2.2.2.1) 79 u.2.2.2.2.2.1) (updA (updA (updA (updA (updA B 14 nc) 17 u.2.2.2.2.2.2.1) 18 u.2.2.2.2.2.2.2) 48 vn) 49 vt)))) ([.ref h0, .int (nI n9), .int (nI kq)] : List Value).toArray s ({ frames := (4 * z9 + 9), cells := 0, slots := 0, locals := (160 * z9 + 1360) } : Room).cells ({ frames := (4 * z9 + 9), cells := 0, slots := 0, locals := (160 * z9 + 1360) } : Room).slots A) (F0 m 62 ls []) := by
        intro n_o
        induction n_o with
        | zero => intro i2 fa2 mm2 q2 p2 pl2 dn2 wt2 wf2 ty2 mn2 H locs ls hk_o hn_o; omega
        | succ n_o ih_o =>
          intro i2 fa2 mm2 q2 p2 pl2 dn2 wt2 wf2 ty2 mn2 H locs ls hk_o hn_o hl1 hl2 hm2 hq2 hq3 he1 he2 haq2 hch2 hmn2 hme2 hy2 ha2 hP hD hS hl
          refine lv_iload hx hb dX12_lookCall_62 (lv_at hl 0 rfl) ?_
          refine lv_iconst (v := (-1)) hx hb dX12_lookCall_64 (by decide) ?_
          refine lv_icmp_eq (tgt := 171) hx hb dX12_lookCall_65 (by decide) (fun c66 => ?_) (fun c66 => ?_)
          · refine lv_aload_n hx hb dX12_lookCall_171 rfl (lv_at hl 5 rfl) ?_
            refine lv_iload hx hb dX12_lookCall_172 (lv_at hl 1 rfl) ?_
            refine lv_aload_n hx hb dX12_lookCall_174 rfl (lv_at hl 5 rfl) ?_
            refine r_get (v := .ref (a 41)) hx hb hown hq hE hP 55 135 tFX12_55 (by decide) pw_1472 rfl dX12_lookCall_175 ?_
            refine lv_iload_n hx hb dX12_lookCall_178 rfl (lv_at hl 2 rfl) ?_
            refine r_ldi (f := (B 41)) (j := mm2) hx hb hE hP 41 (ma_41 G a _) rfl (by omega) (by decide) dX12_lookCall_179 ?_
            refine lv_topi (fun x67 e68 => ?_)
            obtain rfl : x67 = nI q2 := e68.trans he1
            refine lv_icmp_ne (tgt := 187) hx hb dX12_lookCall_180 (by decide) (fun c69 => ?_) (fun c69 => ?_)
            · have n70 : ¬ (i2 = q2) := fun h9 => c69 ((nI_eq (a := i2) (b := q2) (by omega) (by omega)).mpr h9)
              refine lv_iconst (v := 0) hx hb dX12_lookCall_187 (by decide) ?_
              refine lv_bipush (v := 12) hx hb dX12_lookCall_188 (by decide) ?_
              refine lv_aload_n hx hb dX12_lookCall_190 rfl (lv_at hl 5 rfl) ?_
              refine r_get (v := .ref (a 15)) hx hb hown hq hE hP 23 56 tFX12_23 (by decide) pw_1445 rfl dX12_lookCall_191 ?_
              refine lv_iload_n hx hb dX12_lookCall_194 rfl (lv_at hl 4 rfl) ?_
              refine r_ldi (f := (B 15)) (j := n9) hx hb hE hP 15 (ma_15 G a _) rfl (by omega) (by decide) dX12_lookCall_195 ?_
              obtain ⟨t71, e72, h73⟩ : ∃ t : Nat, B 15 n9 = nI t ∧ t ≤ T := by
                obtain ⟨k2, e2, _, k24, hs⟩ := hF.knd hn9
                have ek : k2 = kk := (nI_eq (by omega) (by omega)).mp (e2.symm.trans hkd)
                subst ek
                rcases (hs 4 (by omega) (by omega)).2.1 hkk.2.1 with z | z
                · omega
                · exact z
              refine lv_topi (fun x74 e75 => ?_)
              obtain rfl : x74 = nI t71 := e75.trans e72
              have hP : va_P G.1 pCl (mW G h0 a (upd (upd (upd (upd (upd (upd (upd (upd (upd (upd F 15 (nI fa2)) 16 pl2) 44 (nI fd)) 49 (nI md)) 73 (nI sc)) 74 (nI k9)) 77 dn2) 78 wt2) 79 wf2) 15 (nI fa2)) (updA (updA (updA (updA (updA B 14 nc) 17 ty2) 18 mn2) 48 vn) 49 vt)) _ := hP
              have hD : va_D A (mW G h0 a (upd (upd (upd (upd (upd (upd (upd (upd (upd (upd F 15 (nI fa2)) 16 pl2) 44 (nI fd)) 49 (nI md)) 73 (nI sc)) 74 (nI k9)) 77 dn2) 78 wt2) 79 wf2) 15 (nI fa2)) (updA (updA (updA (updA (updA B 14 nc) 17 ty2) 18 mn2) 48 vn) 49 vt)) := mW_D hD
              refine pc_V0 (G := G) (As := [.int (nI 0), .int (nI 12), .int (nI t71)]) (rest := []) hx hb hml hown hq hE hX pX0_al hP hD hS hA hl.1 (R_judgeL l G h0 a (upd (upd (upd (upd (upd (upd (upd (upd (upd F 15 (nI fa2)) 16 pl2) 44 (nI fd)) 49 (nI md)) 73 (nI sc)) 74 (nI k9)) 77 dn2) 78 wt2) 79 wf2) (updA (updA (updA (updA (updA B 14 nc) 17 ty2) 18 mn2) 48 vn) 49 vt) 0 12 t71 fa2 (by omega) (by omega) (by omega) (by omega)) (gV pw_1798 pw_1799 pw_1800 pw_1523 pw_1793) hV_X12_judge 0 9 rfl rfl rfl rfl (Nat.le_of_ble_eq_true rfl) dX12_lookCall_196 ⟨Nat.le_of_ble_eq_true rfl, Nat.le_of_ble_eq_true rfl⟩ ⟨(by show 3 + 1 ≤ (4 * z9 + 9); omega), (by show 8 + (4 + 11) + 82 ≤ (160 * z9 + 1360); omega)⟩ (fun v78 u76 H locs hw77 hP hD hS => ?_)
              obtain ⟨r79, fa80, pl81⟩ := u76
              obtain ⟨hw77, h82, h83, h84, h85, h86, h87, h88⟩ := hw77
              replace h82 : r79 ≤ 1 := h82
              replace h83 : fa2 ≤ fa80 := h83
              replace h84 : fa80 ≤ 15 := h84
              replace h85 : fa80 + 15 * r79 ≤ 15 := h85
              replace h86 : 1 ≤ r79 + fa80 := h86
              replace h87 : 1 ≤ 0 + fa80 := h87
              replace h88 : fa80 ≤ fa2 + 15 * (1 - 0) := h88
              obtain rfl : v78 = some (.int (nI r79)) := hw77
              have hP : va_P G.1 pCl (mW G h0 a (upd (upd (upd (upd (upd (upd (upd (upd (upd F 15 (nI fa80)) 16 pl81) 44 (nI fd)) 49 (nI md)) 73 (nI sc)) 74 (nI k9)) 77 dn2) 78 wt2) 79 wf2) (updA (updA (updA (updA (updA B 14 nc) 17 ty2) 18 mn2) 48 vn) 49 vt)) _ := mW_to (F := F) (l1 := [(15, (nI fa2)), (16, pl2), (44, (nI fd)), (49, (nI md)), (73, (nI sc)), (74, (nI k9)), (77, dn2), (78, wt2), (79, wf2), (15, (nI fa80)), (16, pl81)]) (l2 := [(15, (nI fa80)), (16, pl81), (44, (nI fd)), (49, (nI md)), (73, (nI sc)), (74, (nI k9)), (77, dn2), (78, wt2), (79, wf2)]) (V := [(nI fa80), pl81, (nI fd), (nI md), (nI sc), (nI k9), dn2, wt2, wf2, (nI fa80), pl81, (nI fa80), pl81, (nI fd), (nI md), (nI sc), (nI k9), dn2, wt2, wf2]) rfl rfl rfl hP
              have hD : va_D A (mW G h0 a (upd (upd (upd (upd (upd (upd (upd (upd (upd F 15 (nI fa80)) 16 pl81) 44 (nI fd)) 49 (nI md)) 73 (nI sc)) 74 (nI k9)) 77 dn2) 78 wt2) 79 wf2) (updA (updA (updA (updA (updA B 14 nc) 17 ty2) 18 mn2) 48 vn) 49 vt)) := mW_D hD
              refine W.widen (k := 0) (n := 0) (Nat.le_of_ble_eq_true rfl) (Nat.le_of_ble_eq_true rfl) ?_
              refine W.eq (g2 := F0 m 199 ls [.int (nI r79)]) rfl ?_
              refine lv_pop hx hb dX12_lookCall_199 rfl ?_
              refine lv_aload_n hx hb dX12_lookCall_200 rfl (lv_at hl 5 rfl) ?_
              refine lv_aload_n hx hb dX12_lookCall_201 rfl (lv_at hl 5 rfl) ?_
              refine lv_iload_n hx hb dX12_lookCall_202 rfl (lv_at hl 2 rfl) ?_
              have hP : va_P G.1 pCl (mW G h0 a (upd (upd (upd (upd (upd (upd (upd (upd (upd F 15 (nI fa80)) 16 pl81) 44 (nI fd)) 49 (nI md)) 73 (nI sc)) 74 (nI k9)) 77 dn2) 78 wt2) 79 wf2) (updA (updA (updA (updA (updA (updA (updA B 14 nc) 17 ty2) 18 mn2) 48 vn) 49 vt) 21 (B 21)) 39 (B 39))) _ := mW_to (F := F) (l1 := [(15, (nI fa80)), (16, pl81), (44, (nI fd)), (49, (nI md)), (73, (nI sc)), (74, (nI k9)), (77, dn2), (78, wt2), (79, wf2)]) (l2 := [(15, (nI fa80)), (16, pl81), (44, (nI fd)), (49, (nI md)), (73, (nI sc)), (74, (nI k9)), (77, dn2), (78, wt2), (79, wf2)]) (V := [(nI fa80), pl81, (nI fd), (nI md), (nI sc), (nI k9), dn2, wt2, wf2, (nI fa80), pl81, (nI fd), (nI md), (nI sc), (nI k9), dn2, wt2, wf2]) rfl rfl (show (updA (updA (updA (updA (updA B 14 nc) 17 ty2) 18 mn2) 48 vn) 49 vt) = (updA (updA (updA (updA (updA (updA (updA B 14 nc) 17 ty2) 18 mn2) 48 vn) 49 vt) 21 (B 21)) 39 (B 39)) from updsA_eq2 (F := B) (l1 := [(14, nc), (17, ty2), (18, mn2), (48, vn), (49, vt)]) (l2 := [(14, nc), (17, ty2), (18, mn2), (48, vn), (49, vt), (21, (B 21)), (39, (B 39))]) (V := [nc, ty2, mn2, vn, vt, nc, ty2, mn2, vn, vt, (B 21), (B 39)]) rfl rfl) hP
              have hD : va_D A (mW G h0 a (upd (upd (upd (upd (upd (upd (upd (upd (upd F 15 (nI fa80)) 16 pl81) 44 (nI fd)) 49 (nI md)) 73 (nI sc)) 74 (nI k9)) 77 dn2) 78 wt2) 79 wf2) (updA (updA (updA (updA (updA (updA (updA B 14 nc) 17 ty2) 18 mn2) 48 vn) 49 vt) 21 (B 21)) 39 (B 39))) := mW_D hD
              refine pc_V0 (G := G) (As := [.int (nI mm2)]) (rest := [.ref h0]) hx hb hml hown hq hE hX pX0_al hP hD hS hA hl.1 (R_resultOf l G h0 a (upd (upd (upd (upd (upd (upd (upd (upd (upd F 15 (nI fa80)) 16 pl81) 44 (nI fd)) 49 (nI md)) 73 (nI sc)) 74 (nI k9)) 77 dn2) 78 wt2) 79 wf2) (updA (updA (updA (updA (updA B 14 nc) 17 ty2) 18 mn2) 48 vn) 49 vt) mm2 wr (B 39) (B 21) (by omega) (by omega) (by obtain ⟨d, _, _, _, _, _, z, _⟩ := hPS.2.2.1 mm2 hm2; exact z)) (gV pw_1764 pw_1765 pw_1766 pw_1523 pw_1762) hV_X12_resultOf 0 9 rfl rfl rfl rfl (Nat.le_of_ble_eq_true rfl) dX12_lookCall_203 ⟨Nat.le_of_ble_eq_true rfl, Nat.le_of_ble_eq_true rfl⟩ ⟨(by show 2 + 1 ≤ (4 * z9 + 9); omega), (by show 8 + (2 + 11) + 60 ≤ (160 * z9 + 1360); omega)⟩ (fun v91 u89 H locs hw90 hP hD hS => ?_)
              obtain rfl : v91 = some (.int (resF (B 39) (B 21) mm2)) := hw90
              have hP : va_P G.1 pCl (mW G h0 a (upd (upd (upd (upd (upd (upd (upd (upd (upd F 15 (nI fa80)) 16 pl81) 44 (nI fd)) 49 (nI md)) 73 (nI sc)) 74 (nI k9)) 77 dn2) 78 wt2) 79 wf2) (updA (updA (updA (updA (updA B 14 nc) 17 ty2) 18 mn2) 48 vn) 49 vt)) _ := mW_to (F := F) (l1 := [(15, (nI fa80)), (16, pl81), (44, (nI fd)), (49, (nI md)), (73, (nI sc)), (74, (nI k9)), (77, dn2), (78, wt2), (79, wf2)]) (l2 := [(15, (nI fa80)), (16, pl81), (44, (nI fd)), (49, (nI md)), (73, (nI sc)), (74, (nI k9)), (77, dn2), (78, wt2), (79, wf2)]) (V := [(nI fa80), pl81, (nI fd), (nI md), (nI sc), (nI k9), dn2, wt2, wf2, (nI fa80), pl81, (nI fd), (nI md), (nI sc), (nI k9), dn2, wt2, wf2]) rfl rfl (show (updA (updA (updA (updA (updA (updA (updA B 14 nc) 17 ty2) 18 mn2) 48 vn) 49 vt) 21 (B 21)) 39 (B 39)) = (updA (updA (updA (updA (updA B 14 nc) 17 ty2) 18 mn2) 48 vn) 49 vt) from updsA_eq2 (F := B) (l1 := [(14, nc), (17, ty2), (18, mn2), (48, vn), (49, vt), (21, (B 21)), (39, (B 39))]) (l2 := [(14, nc), (17, ty2), (18, mn2), (48, vn), (49, vt)]) (V := [nc, ty2, mn2, vn, vt, (B 21), (B 39), nc, ty2, mn2, vn, vt]) rfl rfl) hP
              have hD : va_D A (mW G h0 a (upd (upd (upd (upd (upd (upd (upd (upd (upd F 15 (nI fa80)) 16 pl81) 44 (nI fd)) 49 (nI md)) 73 (nI sc)) 74 (nI k9)) 77 dn2) 78 wt2) 79 wf2) (updA (updA (updA (updA (updA B 14 nc) 17 ty2) 18 mn2) 48 vn) 49 vt)) := mW_D hD
              refine W.widen (k := 0) (n := 0) (Nat.le_of_ble_eq_true rfl) (Nat.le_of_ble_eq_true rfl) ?_
              refine W.eq (g2 := F0 m 206 ls [.int (resF (B 39) (B 21) mm2), .ref h0]) rfl ?_
              obtain ⟨x92, e93, h94, h95⟩ := resF_tc hPS hTY (by omega) (by omega) hm2
              refine lv_topi (fun x96 e97 => ?_)
              obtain rfl : x96 = nI x92 := e97.trans e93
              have hP : va_P G.1 pCl (mW G h0 a (upd (upd (upd (upd (upd (upd (upd (upd (upd (upd F 15 (nI fa80)) 16 pl81) 44 (nI fd)) 49 (nI md)) 73 (nI sc)) 74 (nI k9)) 77 dn2) 78 wt2) 79 wf2) 77 dn2) (updA (updA (updA (updA (updA B 14 nc) 17 ty2) 18 mn2) 48 vn) 49 vt)) _ := mW_to (F := F) (l1 := [(15, (nI fa80)), (16, pl81), (44, (nI fd)), (49, (nI md)), (73, (nI sc)), (74, (nI k9)), (77, dn2), (78, wt2), (79, wf2)]) (l2 := [(15, (nI fa80)), (16, pl81), (44, (nI fd)), (49, (nI md)), (73, (nI sc)), (74, (nI k9)), (77, dn2), (78, wt2), (79, wf2), (77, dn2)]) (V := [(nI fa80), pl81, (nI fd), (nI md), (nI sc), (nI k9), dn2, wt2, wf2, (nI fa80), pl81, (nI fd), (nI md), (nI sc), (nI k9), dn2, wt2, wf2, dn2]) rfl rfl rfl hP
              have hD : va_D A (mW G h0 a (upd (upd (upd (upd (upd (upd (upd (upd (upd (upd F 15 (nI fa80)) 16 pl81) 44 (nI fd)) 49 (nI md)) 73 (nI sc)) 74 (nI k9)) 77 dn2) 78 wt2) 79 wf2) 77 dn2) (updA (updA (updA (updA (updA B 14 nc) 17 ty2) 18 mn2) 48 vn) 49 vt)) := mW_D hD
              refine pc_V0 (G := G) (As := [.int (nI x92)]) (rest := []) hx hb hml hown hq hE hX pX0_al hP hD hS hA hl.1 (R_behind l G h0 a (upd (upd (upd (upd (upd (upd (upd (upd (upd F 15 (nI fa80)) 16 pl81) 44 (nI fd)) 49 (nI md)) 73 (nI sc)) 74 (nI k9)) 77 dn2) 78 wt2) 79 wf2) (updA (updA (updA (updA (updA B 14 nc) 17 ty2) 18 mn2) 48 vn) 49 vt) (nI x92) dn2) (gV pw_1832 pw_1833 pw_1834 pw_1523 pw_1804) hV_X12_behind 0 9 rfl rfl rfl rfl (Nat.le_of_ble_eq_true rfl) dX12_lookCall_206 ⟨Nat.le_of_ble_eq_true rfl, Nat.le_of_ble_eq_true rfl⟩ ⟨(by show 2 + 1 ≤ (4 * z9 + 9); omega), (by show 8 + (2 + 11) + 60 ≤ (160 * z9 + 1360); omega)⟩ (fun v100 u98 H locs hw99 hP hD hS => ?_)
              obtain rfl : v100 = some (.int (nI x92)) := hw99
              have hP : va_P G.1 pCl (mW G h0 a (upd (upd (upd (upd (upd (upd (upd (upd (upd F 15 (nI fa80)) 16 pl81) 44 (nI fd)) 49 (nI md)) 73 (nI sc)) 74 (nI k9)) 77 dn2) 78 dn2) 79 dn2) (updA (updA (updA (updA (updA B 14 nc) 17 ty2) 18 mn2) 48 vn) 49 vt)) _ := mW_to (F := F) (l1 := [(15, (nI fa80)), (16, pl81), (44, (nI fd)), (49, (nI md)), (73, (nI sc)), (74, (nI k9)), (77, dn2), (78, wt2), (79, wf2), (77, dn2), (78, dn2), (79, dn2)]) (l2 := [(15, (nI fa80)), (16, pl81), (44, (nI fd)), (49, (nI md)), (73, (nI sc)), (74, (nI k9)), (77, dn2), (78, dn2), (79, dn2)]) (V := [(nI fa80), pl81, (nI fd), (nI md), (nI sc), (nI k9), dn2, dn2, dn2, dn2, dn2, dn2, (nI fa80), pl81, (nI fd), (nI md), (nI sc), (nI k9), dn2, dn2, dn2]) rfl rfl rfl hP
              have hD : va_D A (mW G h0 a (upd (upd (upd (upd (upd (upd (upd (upd (upd F 15 (nI fa80)) 16 pl81) 44 (nI fd)) 49 (nI md)) 73 (nI sc)) 74 (nI k9)) 77 dn2) 78 dn2) 79 dn2) (updA (updA (updA (updA (updA B 14 nc) 17 ty2) 18 mn2) 48 vn) 49 vt)) := mW_D hD
              refine W.widen (k := 0) (n := 0) (Nat.le_of_ble_eq_true rfl) (Nat.le_of_ble_eq_true rfl) ?_
              refine W.eq (g2 := F0 m 209 ls [.int (nI x92)]) rfl ?_
              have hz101 : fa ≤ fa80 := (by omega)
              have hz102 : fa80 ≤ 15 := (by omega)
              have hz103 : TyC dc x92 := h94
              have hz104 : x92 ≤ 2050 := (by omega)
              have hz105 : ChLr B nd n9 ty ty2 mn mn2 := hch2
              have hz106 : mnN B nd mn2 := hmn2
              have hz107 : If (fa80 = 0) ((∀ z c : Nat, c < 20000 → itr (B 16) (B 13 n9) z = nI c → Typ B dc fd md nd ty2 mn2 vt sc k9 c) ∧ CalP B ty2 mn2 dc md nd kq n9 (nI x92)) := (fun e => absurd e (by omega))
              have hP : va_P G.1 pCl (mW G h0 a (upd (upd (upd (upd (upd (upd (upd (upd (upd F 15 (nI fa80)) 16 pl81) 44 (nI fd)) 49 (nI md)) 73 (nI sc)) 74 (nI k9)) 77 dn2) 78 dn2) 79 dn2) (updA (updA (updA (updA (updA B 14 nc) 17 ty2) 18 mn2) 48 vn) 49 vt)) _ := hP
              have hD : va_D A (mW G h0 a (upd (upd (upd (upd (upd (upd (upd (upd (upd F 15 (nI fa80)) 16 pl81) 44 (nI fd)) 49 (nI md)) 73 (nI sc)) 74 (nI k9)) 77 dn2) 78 dn2) 79 dn2) (updA (updA (updA (updA (updA B 14 nc) 17 ty2) 18 mn2) 48 vn) 49 vt)) := mW_D hD
              exact W.iret (v := (nI x92)) hx hb hr (fun t9 ht9 hW9 => ⟨⟨_, (x92, fa80, pl81, dn2, dn2, dn2, ty2, mn2), rfl, ⟨rfl, hz101, hz102, hz103, hz104, hz105, hz106, hz107⟩, by rw [ht9]; exact hP, hD⟩, hS.F ht9⟩) hS.2.2 dX12_lookCall_209
            · have n108 : i2 = q2 := (nI_eq (a := i2) (b := q2) (by omega) (by omega)).mp c69
              refine lv_iconst (v := 1) hx hb dX12_lookCall_183 (by decide) ?_
              refine lv_goto (tgt := 188) hx hb dX12_lookCall_184 (by decide) ?_
              refine lv_bipush (v := 12) hx hb dX12_lookCall_188 (by decide) ?_
              refine lv_aload_n hx hb dX12_lookCall_190 rfl (lv_at hl 5 rfl) ?_
              refine r_get (v := .ref (a 15)) hx hb hown hq hE hP 23 56 tFX12_23 (by decide) pw_1445 rfl dX12_lookCall_191 ?_
              refine lv_iload_n hx hb dX12_lookCall_194 rfl (lv_at hl 4 rfl) ?_
              refine r_ldi (f := (B 15)) (j := n9) hx hb hE hP 15 (ma_15 G a _) rfl (by omega) (by decide) dX12_lookCall_195 ?_
              obtain ⟨t109, e110, h111⟩ : ∃ t : Nat, B 15 n9 = nI t ∧ t ≤ T := by
                obtain ⟨k2, e2, _, k24, hs⟩ := hF.knd hn9
                have ek : k2 = kk := (nI_eq (by omega) (by omega)).mp (e2.symm.trans hkd)
                subst ek
                rcases (hs 4 (by omega) (by omega)).2.1 hkk.2.1 with z | z
                · omega
                · exact z
              refine lv_topi (fun x112 e113 => ?_)
              obtain rfl : x112 = nI t109 := e113.trans e110
              have hP : va_P G.1 pCl (mW G h0 a (upd (upd (upd (upd (upd (upd (upd (upd (upd (upd F 15 (nI fa2)) 16 pl2) 44 (nI fd)) 49 (nI md)) 73 (nI sc)) 74 (nI k9)) 77 dn2) 78 wt2) 79 wf2) 15 (nI fa2)) (updA (updA (updA (updA (updA B 14 nc) 17 ty2) 18 mn2) 48 vn) 49 vt)) _ := hP
              have hD : va_D A (mW G h0 a (upd (upd (upd (upd (upd (upd (upd (upd (upd (upd F 15 (nI fa2)) 16 pl2) 44 (nI fd)) 49 (nI md)) 73 (nI sc)) 74 (nI k9)) 77 dn2) 78 wt2) 79 wf2) 15 (nI fa2)) (updA (updA (updA (updA (updA B 14 nc) 17 ty2) 18 mn2) 48 vn) 49 vt)) := mW_D hD
              refine pc_V0 (G := G) (As := [.int (nI 1), .int (nI 12), .int (nI t109)]) (rest := []) hx hb hml hown hq hE hX pX0_al hP hD hS hA hl.1 (R_judgeL l G h0 a (upd (upd (upd (upd (upd (upd (upd (upd (upd F 15 (nI fa2)) 16 pl2) 44 (nI fd)) 49 (nI md)) 73 (nI sc)) 74 (nI k9)) 77 dn2) 78 wt2) 79 wf2) (updA (updA (updA (updA (updA B 14 nc) 17 ty2) 18 mn2) 48 vn) 49 vt) 1 12 t109 fa2 (by omega) (by omega) (by omega) (by omega)) (gV pw_1798 pw_1799 pw_1800 pw_1523 pw_1793) hV_X12_judge 0 9 rfl rfl rfl rfl (Nat.le_of_ble_eq_true rfl) dX12_lookCall_196 ⟨Nat.le_of_ble_eq_true rfl, Nat.le_of_ble_eq_true rfl⟩ ⟨(by show 3 + 1 ≤ (4 * z9 + 9); omega), (by show 8 + (4 + 11) + 82 ≤ (160 * z9 + 1360); omega)⟩ (fun v116 u114 H locs hw115 hP hD hS => ?_)
              obtain ⟨r117, fa118, pl119⟩ := u114
              obtain ⟨hw115, h120, h121, h122, h123, h124, h125, h126⟩ := hw115
              replace h120 : r117 ≤ 1 := h120
              replace h121 : fa2 ≤ fa118 := h121
              replace h122 : fa118 ≤ 15 := h122
              replace h123 : fa118 + 15 * r117 ≤ 15 := h123
              replace h124 : 1 ≤ r117 + fa118 := h124
              replace h125 : 1 ≤ 1 + fa118 := h125
              replace h126 : fa118 ≤ fa2 + 15 * (1 - 1) := h126
              obtain rfl : v116 = some (.int (nI r117)) := hw115
              have hP : va_P G.1 pCl (mW G h0 a (upd (upd (upd (upd (upd (upd (upd (upd (upd F 15 (nI fa118)) 16 pl119) 44 (nI fd)) 49 (nI md)) 73 (nI sc)) 74 (nI k9)) 77 dn2) 78 wt2) 79 wf2) (updA (updA (updA (updA (updA B 14 nc) 17 ty2) 18 mn2) 48 vn) 49 vt)) _ := mW_to (F := F) (l1 := [(15, (nI fa2)), (16, pl2), (44, (nI fd)), (49, (nI md)), (73, (nI sc)), (74, (nI k9)), (77, dn2), (78, wt2), (79, wf2), (15, (nI fa118)), (16, pl119)]) (l2 := [(15, (nI fa118)), (16, pl119), (44, (nI fd)), (49, (nI md)), (73, (nI sc)), (74, (nI k9)), (77, dn2), (78, wt2), (79, wf2)]) (V := [(nI fa118), pl119, (nI fd), (nI md), (nI sc), (nI k9), dn2, wt2, wf2, (nI fa118), pl119, (nI fa118), pl119, (nI fd), (nI md), (nI sc), (nI k9), dn2, wt2, wf2]) rfl rfl rfl hP
              have hD : va_D A (mW G h0 a (upd (upd (upd (upd (upd (upd (upd (upd (upd F 15 (nI fa118)) 16 pl119) 44 (nI fd)) 49 (nI md)) 73 (nI sc)) 74 (nI k9)) 77 dn2) 78 wt2) 79 wf2) (updA (updA (updA (updA (updA B 14 nc) 17 ty2) 18 mn2) 48 vn) 49 vt)) := mW_D hD
              refine W.widen (k := 0) (n := 0) (Nat.le_of_ble_eq_true rfl) (Nat.le_of_ble_eq_true rfl) ?_
              refine W.eq (g2 := F0 m 199 ls [.int (nI r117)]) rfl ?_
              refine lv_pop hx hb dX12_lookCall_199 rfl ?_
              refine lv_aload_n hx hb dX12_lookCall_200 rfl (lv_at hl 5 rfl) ?_
              refine lv_aload_n hx hb dX12_lookCall_201 rfl (lv_at hl 5 rfl) ?_
              refine lv_iload_n hx hb dX12_lookCall_202 rfl (lv_at hl 2 rfl) ?_
              have hP : va_P G.1 pCl (mW G h0 a (upd (upd (upd (upd (upd (upd (upd (upd (upd F 15 (nI fa118)) 16 pl119) 44 (nI fd)) 49 (nI md)) 73 (nI sc)) 74 (nI k9)) 77 dn2) 78 wt2) 79 wf2) (updA (updA (updA (updA (updA (updA (updA B 14 nc) 17 ty2) 18 mn2) 48 vn) 49 vt) 21 (B 21)) 39 (B 39))) _ := mW_to (F := F) (l1 := [(15, (nI fa118)), (16, pl119), (44, (nI fd)), (49, (nI md)), (73, (nI sc)), (74, (nI k9)), (77, dn2), (78, wt2), (79, wf2)]) (l2 := [(15, (nI fa118)), (16, pl119), (44, (nI fd)), (49, (nI md)), (73, (nI sc)), (74, (nI k9)), (77, dn2), (78, wt2), (79, wf2)]) (V := [(nI fa118), pl119, (nI fd), (nI md), (nI sc), (nI k9), dn2, wt2, wf2, (nI fa118), pl119, (nI fd), (nI md), (nI sc), (nI k9), dn2, wt2, wf2]) rfl rfl (show (updA (updA (updA (updA (updA B 14 nc) 17 ty2) 18 mn2) 48 vn) 49 vt) = (updA (updA (updA (updA (updA (updA (updA B 14 nc) 17 ty2) 18 mn2) 48 vn) 49 vt) 21 (B 21)) 39 (B 39)) from updsA_eq2 (F := B) (l1 := [(14, nc), (17, ty2), (18, mn2), (48, vn), (49, vt)]) (l2 := [(14, nc), (17, ty2), (18, mn2), (48, vn), (49, vt), (21, (B 21)), (39, (B 39))]) (V := [nc, ty2, mn2, vn, vt, nc, ty2, mn2, vn, vt, (B 21), (B 39)]) rfl rfl) hP
              have hD : va_D A (mW G h0 a (upd (upd (upd (upd (upd (upd (upd (upd (upd F 15 (nI fa118)) 16 pl119) 44 (nI fd)) 49 (nI md)) 73 (nI sc)) 74 (nI k9)) 77 dn2) 78 wt2) 79 wf2) (updA (updA (updA (updA (updA (updA (updA B 14 nc) 17 ty2) 18 mn2) 48 vn) 49 vt) 21 (B 21)) 39 (B 39))) := mW_D hD
              refine pc_V0 (G := G) (As := [.int (nI mm2)]) (rest := [.ref h0]) hx hb hml hown hq hE hX pX0_al hP hD hS hA hl.1 (R_resultOf l G h0 a (upd (upd (upd (upd (upd (upd (upd (upd (upd F 15 (nI fa118)) 16 pl119) 44 (nI fd)) 49 (nI md)) 73 (nI sc)) 74 (nI k9)) 77 dn2) 78 wt2) 79 wf2) (updA (updA (updA (updA (updA B 14 nc) 17 ty2) 18 mn2) 48 vn) 49 vt) mm2 wr (B 39) (B 21) (by omega) (by omega) (by obtain ⟨d, _, _, _, _, _, z, _⟩ := hPS.2.2.1 mm2 hm2; exact z)) (gV pw_1764 pw_1765 pw_1766 pw_1523 pw_1762) hV_X12_resultOf 0 9 rfl rfl rfl rfl (Nat.le_of_ble_eq_true rfl) dX12_lookCall_203 ⟨Nat.le_of_ble_eq_true rfl, Nat.le_of_ble_eq_true rfl⟩ ⟨(by show 2 + 1 ≤ (4 * z9 + 9); omega), (by show 8 + (2 + 11) + 60 ≤ (160 * z9 + 1360); omega)⟩ (fun v129 u127 H locs hw128 hP hD hS => ?_)
              obtain rfl : v129 = some (.int (resF (B 39) (B 21) mm2)) := hw128
              have hP : va_P G.1 pCl (mW G h0 a (upd (upd (upd (upd (upd (upd (upd (upd (upd F 15 (nI fa118)) 16 pl119) 44 (nI fd)) 49 (nI md)) 73 (nI sc)) 74 (nI k9)) 77 dn2) 78 wt2) 79 wf2) (updA (updA (updA (updA (updA B 14 nc) 17 ty2) 18 mn2) 48 vn) 49 vt)) _ := mW_to (F := F) (l1 := [(15, (nI fa118)), (16, pl119), (44, (nI fd)), (49, (nI md)), (73, (nI sc)), (74, (nI k9)), (77, dn2), (78, wt2), (79, wf2)]) (l2 := [(15, (nI fa118)), (16, pl119), (44, (nI fd)), (49, (nI md)), (73, (nI sc)), (74, (nI k9)), (77, dn2), (78, wt2), (79, wf2)]) (V := [(nI fa118), pl119, (nI fd), (nI md), (nI sc), (nI k9), dn2, wt2, wf2, (nI fa118), pl119, (nI fd), (nI md), (nI sc), (nI k9), dn2, wt2, wf2]) rfl rfl (show (updA (updA (updA (updA (updA (updA (updA B 14 nc) 17 ty2) 18 mn2) 48 vn) 49 vt) 21 (B 21)) 39 (B 39)) = (updA (updA (updA (updA (updA B 14 nc) 17 ty2) 18 mn2) 48 vn) 49 vt) from updsA_eq2 (F := B) (l1 := [(14, nc), (17, ty2), (18, mn2), (48, vn), (49, vt), (21, (B 21)), (39, (B 39))]) (l2 := [(14, nc), (17, ty2), (18, mn2), (48, vn), (49, vt)]) (V := [nc, ty2, mn2, vn, vt, (B 21), (B 39), nc, ty2, mn2, vn, vt]) rfl rfl) hP
              have hD : va_D A (mW G h0 a (upd (upd (upd (upd (upd (upd (upd (upd (upd F 15 (nI fa118)) 16 pl119) 44 (nI fd)) 49 (nI md)) 73 (nI sc)) 74 (nI k9)) 77 dn2) 78 wt2) 79 wf2) (updA (updA (updA (updA (updA B 14 nc) 17 ty2) 18 mn2) 48 vn) 49 vt)) := mW_D hD
              refine W.widen (k := 0) (n := 0) (Nat.le_of_ble_eq_true rfl) (Nat.le_of_ble_eq_true rfl) ?_
              refine W.eq (g2 := F0 m 206 ls [.int (resF (B 39) (B 21) mm2), .ref h0]) rfl ?_
              obtain ⟨x130, e131, h132, h133⟩ := resF_tc hPS hTY (by omega) (by omega) hm2
              refine lv_topi (fun x134 e135 => ?_)
              obtain rfl : x134 = nI x130 := e135.trans e131
              have hP : va_P G.1 pCl (mW G h0 a (upd (upd (upd (upd (upd (upd (upd (upd (upd (upd F 15 (nI fa118)) 16 pl119) 44 (nI fd)) 49 (nI md)) 73 (nI sc)) 74 (nI k9)) 77 dn2) 78 wt2) 79 wf2) 77 dn2) (updA (updA (updA (updA (updA B 14 nc) 17 ty2) 18 mn2) 48 vn) 49 vt)) _ := mW_to (F := F) (l1 := [(15, (nI fa118)), (16, pl119), (44, (nI fd)), (49, (nI md)), (73, (nI sc)), (74, (nI k9)), (77, dn2), (78, wt2), (79, wf2)]) (l2 := [(15, (nI fa118)), (16, pl119), (44, (nI fd)), (49, (nI md)), (73, (nI sc)), (74, (nI k9)), (77, dn2), (78, wt2), (79, wf2), (77, dn2)]) (V := [(nI fa118), pl119, (nI fd), (nI md), (nI sc), (nI k9), dn2, wt2, wf2, (nI fa118), pl119, (nI fd), (nI md), (nI sc), (nI k9), dn2, wt2, wf2, dn2]) rfl rfl rfl hP
              have hD : va_D A (mW G h0 a (upd (upd (upd (upd (upd (upd (upd (upd (upd (upd F 15 (nI fa118)) 16 pl119) 44 (nI fd)) 49 (nI md)) 73 (nI sc)) 74 (nI k9)) 77 dn2) 78 wt2) 79 wf2) 77 dn2) (updA (updA (updA (updA (updA B 14 nc) 17 ty2) 18 mn2) 48 vn) 49 vt)) := mW_D hD
              refine pc_V0 (G := G) (As := [.int (nI x130)]) (rest := []) hx hb hml hown hq hE hX pX0_al hP hD hS hA hl.1 (R_behind l G h0 a (upd (upd (upd (upd (upd (upd (upd (upd (upd F 15 (nI fa118)) 16 pl119) 44 (nI fd)) 49 (nI md)) 73 (nI sc)) 74 (nI k9)) 77 dn2) 78 wt2) 79 wf2) (updA (updA (updA (updA (updA B 14 nc) 17 ty2) 18 mn2) 48 vn) 49 vt) (nI x130) dn2) (gV pw_1832 pw_1833 pw_1834 pw_1523 pw_1804) hV_X12_behind 0 9 rfl rfl rfl rfl (Nat.le_of_ble_eq_true rfl) dX12_lookCall_206 ⟨Nat.le_of_ble_eq_true rfl, Nat.le_of_ble_eq_true rfl⟩ ⟨(by show 2 + 1 ≤ (4 * z9 + 9); omega), (by show 8 + (2 + 11) + 60 ≤ (160 * z9 + 1360); omega)⟩ (fun v138 u136 H locs hw137 hP hD hS => ?_)
              obtain rfl : v138 = some (.int (nI x130)) := hw137
              have hP : va_P G.1 pCl (mW G h0 a (upd (upd (upd (upd (upd (upd (upd (upd (upd F 15 (nI fa118)) 16 pl119) 44 (nI fd)) 49 (nI md)) 73 (nI sc)) 74 (nI k9)) 77 dn2) 78 dn2) 79 dn2) (updA (updA (updA (updA (updA B 14 nc) 17 ty2) 18 mn2) 48 vn) 49 vt)) _ := mW_to (F := F) (l1 := [(15, (nI fa118)), (16, pl119), (44, (nI fd)), (49, (nI md)), (73, (nI sc)), (74, (nI k9)), (77, dn2), (78, wt2), (79, wf2), (77, dn2), (78, dn2), (79, dn2)]) (l2 := [(15, (nI fa118)), (16, pl119), (44, (nI fd)), (49, (nI md)), (73, (nI sc)), (74, (nI k9)), (77, dn2), (78, dn2), (79, dn2)]) (V := [(nI fa118), pl119, (nI fd), (nI md), (nI sc), (nI k9), dn2, dn2, dn2, dn2, dn2, dn2, (nI fa118), pl119, (nI fd), (nI md), (nI sc), (nI k9), dn2, dn2, dn2]) rfl rfl rfl hP
              have hD : va_D A (mW G h0 a (upd (upd (upd (upd (upd (upd (upd (upd (upd F 15 (nI fa118)) 16 pl119) 44 (nI fd)) 49 (nI md)) 73 (nI sc)) 74 (nI k9)) 77 dn2) 78 dn2) 79 dn2) (updA (updA (updA (updA (updA B 14 nc) 17 ty2) 18 mn2) 48 vn) 49 vt)) := mW_D hD
              refine W.widen (k := 0) (n := 0) (Nat.le_of_ble_eq_true rfl) (Nat.le_of_ble_eq_true rfl) ?_
              refine W.eq (g2 := F0 m 209 ls [.int (nI x130)]) rfl ?_
              have hz139 : fa ≤ fa118 := (by omega)
              have hz140 : fa118 ≤ 15 := (by omega)
              have hz141 : TyC dc x130 := h132
              have hz142 : x130 ≤ 2050 := (by omega)
              have hz143 : ChLr B nd n9 ty ty2 mn mn2 := hch2
              have hz144 : mnN B nd mn2 := hmn2
              have hz145 : If (fa118 = 0) ((∀ z c : Nat, c < 20000 → itr (B 16) (B 13 n9) z = nI c → Typ B dc fd md nd ty2 mn2 vt sc k9 c) ∧ CalP B ty2 mn2 dc md nd kq n9 (nI x130)) := (fun e => ⟨fun z c h1 h2 => by by_cases q : z < i2; exact hy2 (by omega) z c q h1 h2; rw [itr_m1 c66 z (by omega)] at h2; exact absurd h2.symm (nI_m1 (by omega)), mm2, q2, p2, hme2, hm2, hkq, haq2, he1, he2, by omega, by omega, (show i2 = q2 by omega) ▸ ha2 (by omega), (show i2 = q2 by omega) ▸ c66, e131.symm⟩)
              have hP : va_P G.1 pCl (mW G h0 a (upd (upd (upd (upd (upd (upd (upd (upd (upd F 15 (nI fa118)) 16 pl119) 44 (nI fd)) 49 (nI md)) 73 (nI sc)) 74 (nI k9)) 77 dn2) 78 dn2) 79 dn2) (updA (updA (updA (updA (updA B 14 nc) 17 ty2) 18 mn2) 48 vn) 49 vt)) _ := hP
              have hD : va_D A (mW G h0 a (upd (upd (upd (upd (upd (upd (upd (upd (upd F 15 (nI fa118)) 16 pl119) 44 (nI fd)) 49 (nI md)) 73 (nI sc)) 74 (nI k9)) 77 dn2) 78 dn2) 79 dn2) (updA (updA (updA (updA (updA B 14 nc) 17 ty2) 18 mn2) 48 vn) 49 vt)) := mW_D hD
              exact W.iret (v := (nI x130)) hx hb hr (fun t9 ht9 hW9 => ⟨⟨_, (x130, fa118, pl119, dn2, dn2, dn2, ty2, mn2), rfl, ⟨rfl, hz139, hz140, hz141, hz142, hz143, hz144, hz145⟩, by rw [ht9]; exact hP, hD⟩, hS.F ht9⟩) hS.2.2 dX12_lookCall_209
          · obtain ⟨c146, e147, h148, h149⟩ := (itr_ln hF.lnr hv13 (by omega) i2).resolve_left c66
            obtain ⟨h150, hg151, h152, hp153, hc154⟩ := (list_par hF (by omega) hn9 hkd (by omega) (by omega) (by omega) e147).resolve_right (fun q => q hkk.1)
            rw [e147] at hl
            have hc1 : kcl 1 (B 9 c146) = true := by rw [hkk.1] at hc154; exact hc154
            refine lv_aload_n hx hb dX12_lookCall_68 rfl (lv_at hl 5 rfl) ?_
            refine r_get (v := .int (nI fa2)) hx hb hown hq hE hP 15 350 tFX12_15 (by decide) pw_1594 rfl dX12_lookCall_69 ?_
            refine lv_if_ne (tgt := 171) hx hb dX12_lookCall_72 (by decide) (fun c155 => ?_) (fun c155 => ?_)
            · have n156 : ¬ (fa2 = 0) := fun h9 => c155 ((nI_eq (a := fa2) (b := 0) (by omega) (by omega)).mpr h9)
              refine lv_aload_n hx hb dX12_lookCall_171 rfl (lv_at hl 5 rfl) ?_
              refine lv_iload hx hb dX12_lookCall_172 (lv_at hl 1 rfl) ?_
              refine lv_aload_n hx hb dX12_lookCall_174 rfl (lv_at hl 5 rfl) ?_
              refine r_get (v := .ref (a 41)) hx hb hown hq hE hP 55 135 tFX12_55 (by decide) pw_1472 rfl dX12_lookCall_175 ?_
              refine lv_iload_n hx hb dX12_lookCall_178 rfl (lv_at hl 2 rfl) ?_
              refine r_ldi (f := (B 41)) (j := mm2) hx hb hE hP 41 (ma_41 G a _) rfl (by omega) (by decide) dX12_lookCall_179 ?_
              refine lv_topi (fun x157 e158 => ?_)
              obtain rfl : x157 = nI q2 := e158.trans he1
              refine lv_icmp_ne (tgt := 187) hx hb dX12_lookCall_180 (by decide) (fun c159 => ?_) (fun c159 => ?_)
              · have n160 : ¬ (i2 = q2) := fun h9 => c159 ((nI_eq (a := i2) (b := q2) (by omega) (by omega)).mpr h9)
                refine lv_iconst (v := 0) hx hb dX12_lookCall_187 (by decide) ?_
                refine lv_bipush (v := 12) hx hb dX12_lookCall_188 (by decide) ?_
                refine lv_aload_n hx hb dX12_lookCall_190 rfl (lv_at hl 5 rfl) ?_
                refine r_get (v := .ref (a 15)) hx hb hown hq hE hP 23 56 tFX12_23 (by decide) pw_1445 rfl dX12_lookCall_191 ?_
                refine lv_iload_n hx hb dX12_lookCall_194 rfl (lv_at hl 4 rfl) ?_
                refine r_ldi (f := (B 15)) (j := n9) hx hb hE hP 15 (ma_15 G a _) rfl (by omega) (by decide) dX12_lookCall_195 ?_
                obtain ⟨t161, e162, h163⟩ : ∃ t : Nat, B 15 n9 = nI t ∧ t ≤ T := by
                  obtain ⟨k2, e2, _, k24, hs⟩ := hF.knd hn9
                  have ek : k2 = kk := (nI_eq (by omega) (by omega)).mp (e2.symm.trans hkd)
                  subst ek
                  rcases (hs 4 (by omega) (by omega)).2.1 hkk.2.1 with z | z
                  · omega
                  · exact z
                refine lv_topi (fun x164 e165 => ?_)
                obtain rfl : x164 = nI t161 := e165.trans e162
                have hP : va_P G.1 pCl (mW G h0 a (upd (upd (upd (upd (upd (upd (upd (upd (upd (upd F 15 (nI fa2)) 16 pl2) 44 (nI fd)) 49 (nI md)) 73 (nI sc)) 74 (nI k9)) 77 dn2) 78 wt2) 79 wf2) 15 (nI fa2)) (updA (updA (updA (updA (updA B 14 nc) 17 ty2) 18 mn2) 48 vn) 49 vt)) _ := hP
                have hD : va_D A (mW G h0 a (upd (upd (upd (upd (upd (upd (upd (upd (upd (upd F 15 (nI fa2)) 16 pl2) 44 (nI fd)) 49 (nI md)) 73 (nI sc)) 74 (nI k9)) 77 dn2) 78 wt2) 79 wf2) 15 (nI fa2)) (updA (updA (updA (updA (updA B 14 nc) 17 ty2) 18 mn2) 48 vn) 49 vt)) := mW_D hD
                refine pc_V0 (G := G) (As := [.int (nI 0), .int (nI 12), .int (nI t161)]) (rest := []) hx hb hml hown hq hE hX pX0_al hP hD hS hA hl.1 (R_judgeL l G h0 a (upd (upd (upd (upd (upd (upd (upd (upd (upd F 15 (nI fa2)) 16 pl2) 44 (nI fd)) 49 (nI md)) 73 (nI sc)) 74 (nI k9)) 77 dn2) 78 wt2) 79 wf2) (updA (updA (updA (updA (updA B 14 nc) 17 ty2) 18 mn2) 48 vn) 49 vt) 0 12 t161 fa2 (by omega) (by omega) (by omega) (by omega)) (gV pw_1798 pw_1799 pw_1800 pw_1523 pw_1793) hV_X12_judge 0 9 rfl rfl rfl rfl (Nat.le_of_ble_eq_true rfl) dX12_lookCall_196 ⟨Nat.le_of_ble_eq_true rfl, Nat.le_of_ble_eq_true rfl⟩ ⟨(by show 3 + 1 ≤ (4 * z9 + 9); omega), (by show 8 + (4 + 11) + 82 ≤ (160 * z9 + 1360); omega)⟩ (fun v168 u166 H locs hw167 hP hD hS => ?_)
                obtain ⟨r169, fa170, pl171⟩ := u166
                obtain ⟨hw167, h172, h173, h174, h175, h176, h177, h178⟩ := hw167
                replace h172 : r169 ≤ 1 := h172
                replace h173 : fa2 ≤ fa170 := h173
                replace h174 : fa170 ≤ 15 := h174
                replace h175 : fa170 + 15 * r169 ≤ 15 := h175
                replace h176 : 1 ≤ r169 + fa170 := h176
                replace h177 : 1 ≤ 0 + fa170 := h177
                replace h178 : fa170 ≤ fa2 + 15 * (1 - 0) := h178
                obtain rfl : v168 = some (.int (nI r169)) := hw167
                have hP : va_P G.1 pCl (mW G h0 a (upd (upd (upd (upd (upd (upd (upd (upd (upd F 15 (nI fa170)) 16 pl171) 44 (nI fd)) 49 (nI md)) 73 (nI sc)) 74 (nI k9)) 77 dn2) 78 wt2) 79 wf2) (updA (updA (updA (updA (updA B 14 nc) 17 ty2) 18 mn2) 48 vn) 49 vt)) _ := mW_to (F := F) (l1 := [(15, (nI fa2)), (16, pl2), (44, (nI fd)), (49, (nI md)), (73, (nI sc)), (74, (nI k9)), (77, dn2), (78, wt2), (79, wf2), (15, (nI fa170)), (16, pl171)]) (l2 := [(15, (nI fa170)), (16, pl171), (44, (nI fd)), (49, (nI md)), (73, (nI sc)), (74, (nI k9)), (77, dn2), (78, wt2), (79, wf2)]) (V := [(nI fa170), pl171, (nI fd), (nI md), (nI sc), (nI k9), dn2, wt2, wf2, (nI fa170), pl171, (nI fa170), pl171, (nI fd), (nI md), (nI sc), (nI k9), dn2, wt2, wf2]) rfl rfl rfl hP
                have hD : va_D A (mW G h0 a (upd (upd (upd (upd (upd (upd (upd (upd (upd F 15 (nI fa170)) 16 pl171) 44 (nI fd)) 49 (nI md)) 73 (nI sc)) 74 (nI k9)) 77 dn2) 78 wt2) 79 wf2) (updA (updA (updA (updA (updA B 14 nc) 17 ty2) 18 mn2) 48 vn) 49 vt)) := mW_D hD
                refine W.widen (k := 0) (n := 0) (Nat.le_of_ble_eq_true rfl) (Nat.le_of_ble_eq_true rfl) ?_
                refine W.eq (g2 := F0 m 199 ls [.int (nI r169)]) rfl ?_
                refine lv_pop hx hb dX12_lookCall_199 rfl ?_
                refine lv_aload_n hx hb dX12_lookCall_200 rfl (lv_at hl 5 rfl) ?_
                refine lv_aload_n hx hb dX12_lookCall_201 rfl (lv_at hl 5 rfl) ?_
                refine lv_iload_n hx hb dX12_lookCall_202 rfl (lv_at hl 2 rfl) ?_
                have hP : va_P G.1 pCl (mW G h0 a (upd (upd (upd (upd (upd (upd (upd (upd (upd F 15 (nI fa170)) 16 pl171) 44 (nI fd)) 49 (nI md)) 73 (nI sc)) 74 (nI k9)) 77 dn2) 78 wt2) 79 wf2) (updA (updA (updA (updA (updA (updA (updA B 14 nc) 17 ty2) 18 mn2) 48 vn) 49 vt) 21 (B 21)) 39 (B 39))) _ := mW_to (F := F) (l1 := [(15, (nI fa170)), (16, pl171), (44, (nI fd)), (49, (nI md)), (73, (nI sc)), (74, (nI k9)), (77, dn2), (78, wt2), (79, wf2)]) (l2 := [(15, (nI fa170)), (16, pl171), (44, (nI fd)), (49, (nI md)), (73, (nI sc)), (74, (nI k9)), (77, dn2), (78, wt2), (79, wf2)]) (V := [(nI fa170), pl171, (nI fd), (nI md), (nI sc), (nI k9), dn2, wt2, wf2, (nI fa170), pl171, (nI fd), (nI md), (nI sc), (nI k9), dn2, wt2, wf2]) rfl rfl (show (updA (updA (updA (updA (updA B 14 nc) 17 ty2) 18 mn2) 48 vn) 49 vt) = (updA (updA (updA (updA (updA (updA (updA B 14 nc) 17 ty2) 18 mn2) 48 vn) 49 vt) 21 (B 21)) 39 (B 39)) from updsA_eq2 (F := B) (l1 := [(14, nc), (17, ty2), (18, mn2), (48, vn), (49, vt)]) (l2 := [(14, nc), (17, ty2), (18, mn2), (48, vn), (49, vt), (21, (B 21)), (39, (B 39))]) (V := [nc, ty2, mn2, vn, vt, nc, ty2, mn2, vn, vt, (B 21), (B 39)]) rfl rfl) hP
                have hD : va_D A (mW G h0 a (upd (upd (upd (upd (upd (upd (upd (upd (upd F 15 (nI fa170)) 16 pl171) 44 (nI fd)) 49 (nI md)) 73 (nI sc)) 74 (nI k9)) 77 dn2) 78 wt2) 79 wf2) (updA (updA (updA (updA (updA (updA (updA B 14 nc) 17 ty2) 18 mn2) 48 vn) 49 vt) 21 (B 21)) 39 (B 39))) := mW_D hD
                refine pc_V0 (G := G) (As := [.int (nI mm2)]) (rest := [.ref h0]) hx hb hml hown hq hE hX pX0_al hP hD hS hA hl.1 (R_resultOf l G h0 a (upd (upd (upd (upd (upd (upd (upd (upd (upd F 15 (nI fa170)) 16 pl171) 44 (nI fd)) 49 (nI md)) 73 (nI sc)) 74 (nI k9)) 77 dn2) 78 wt2) 79 wf2) (updA (updA (updA (updA (updA B 14 nc) 17 ty2) 18 mn2) 48 vn) 49 vt) mm2 wr (B 39) (B 21) (by omega) (by omega) (by obtain ⟨d, _, _, _, _, _, z, _⟩ := hPS.2.2.1 mm2 hm2; exact z)) (gV pw_1764 pw_1765 pw_1766 pw_1523 pw_1762) hV_X12_resultOf 0 9 rfl rfl rfl rfl (Nat.le_of_ble_eq_true rfl) dX12_lookCall_203 ⟨Nat.le_of_ble_eq_true rfl, Nat.le_of_ble_eq_true rfl⟩ ⟨(by show 2 + 1 ≤ (4 * z9 + 9); omega), (by show 8 + (2 + 11) + 60 ≤ (160 * z9 + 1360); omega)⟩ (fun v181 u179 H locs hw180 hP hD hS => ?_)
                obtain rfl : v181 = some (.int (resF (B 39) (B 21) mm2)) := hw180
                have hP : va_P G.1 pCl (mW G h0 a (upd (upd (upd (upd (upd (upd (upd (upd (upd F 15 (nI fa170)) 16 pl171) 44 (nI fd)) 49 (nI md)) 73 (nI sc)) 74 (nI k9)) 77 dn2) 78 wt2) 79 wf2) (updA (updA (updA (updA (updA B 14 nc) 17 ty2) 18 mn2) 48 vn) 49 vt)) _ := mW_to (F := F) (l1 := [(15, (nI fa170)), (16, pl171), (44, (nI fd)), (49, (nI md)), (73, (nI sc)), (74, (nI k9)), (77, dn2), (78, wt2), (79, wf2)]) (l2 := [(15, (nI fa170)), (16, pl171), (44, (nI fd)), (49, (nI md)), (73, (nI sc)), (74, (nI k9)), (77, dn2), (78, wt2), (79, wf2)]) (V := [(nI fa170), pl171, (nI fd), (nI md), (nI sc), (nI k9), dn2, wt2, wf2, (nI fa170), pl171, (nI fd), (nI md), (nI sc), (nI k9), dn2, wt2, wf2]) rfl rfl (show (updA (updA (updA (updA (updA (updA (updA B 14 nc) 17 ty2) 18 mn2) 48 vn) 49 vt) 21 (B 21)) 39 (B 39)) = (updA (updA (updA (updA (updA B 14 nc) 17 ty2) 18 mn2) 48 vn) 49 vt) from updsA_eq2 (F := B) (l1 := [(14, nc), (17, ty2), (18, mn2), (48, vn), (49, vt), (21, (B 21)), (39, (B 39))]) (l2 := [(14, nc), (17, ty2), (18, mn2), (48, vn), (49, vt)]) (V := [nc, ty2, mn2, vn, vt, (B 21), (B 39), nc, ty2, mn2, vn, vt]) rfl rfl) hP
                have hD : va_D A (mW G h0 a (upd (upd (upd (upd (upd (upd (upd (upd (upd F 15 (nI fa170)) 16 pl171) 44 (nI fd)) 49 (nI md)) 73 (nI sc)) 74 (nI k9)) 77 dn2) 78 wt2) 79 wf2) (updA (updA (updA (updA (updA B 14 nc) 17 ty2) 18 mn2) 48 vn) 49 vt)) := mW_D hD
                refine W.widen (k := 0) (n := 0) (Nat.le_of_ble_eq_true rfl) (Nat.le_of_ble_eq_true rfl) ?_
                refine W.eq (g2 := F0 m 206 ls [.int (resF (B 39) (B 21) mm2), .ref h0]) rfl ?_
                obtain ⟨x182, e183, h184, h185⟩ := resF_tc hPS hTY (by omega) (by omega) hm2
                refine lv_topi (fun x186 e187 => ?_)
                obtain rfl : x186 = nI x182 := e187.trans e183
                have hP : va_P G.1 pCl (mW G h0 a (upd (upd (upd (upd (upd (upd (upd (upd (upd (upd F 15 (nI fa170)) 16 pl171) 44 (nI fd)) 49 (nI md)) 73 (nI sc)) 74 (nI k9)) 77 dn2) 78 wt2) 79 wf2) 77 dn2) (updA (updA (updA (updA (updA B 14 nc) 17 ty2) 18 mn2) 48 vn) 49 vt)) _ := mW_to (F := F) (l1 := [(15, (nI fa170)), (16, pl171), (44, (nI fd)), (49, (nI md)), (73, (nI sc)), (74, (nI k9)), (77, dn2), (78, wt2), (79, wf2)]) (l2 := [(15, (nI fa170)), (16, pl171), (44, (nI fd)), (49, (nI md)), (73, (nI sc)), (74, (nI k9)), (77, dn2), (78, wt2), (79, wf2), (77, dn2)]) (V := [(nI fa170), pl171, (nI fd), (nI md), (nI sc), (nI k9), dn2, wt2, wf2, (nI fa170), pl171, (nI fd), (nI md), (nI sc), (nI k9), dn2, wt2, wf2, dn2]) rfl rfl rfl hP
                have hD : va_D A (mW G h0 a (upd (upd (upd (upd (upd (upd (upd (upd (upd (upd F 15 (nI fa170)) 16 pl171) 44 (nI fd)) 49 (nI md)) 73 (nI sc)) 74 (nI k9)) 77 dn2) 78 wt2) 79 wf2) 77 dn2) (updA (updA (updA (updA (updA B 14 nc) 17 ty2) 18 mn2) 48 vn) 49 vt)) := mW_D hD
                refine pc_V0 (G := G) (As := [.int (nI x182)]) (rest := []) hx hb hml hown hq hE hX pX0_al hP hD hS hA hl.1 (R_behind l G h0 a (upd (upd (upd (upd (upd (upd (upd (upd (upd F 15 (nI fa170)) 16 pl171) 44 (nI fd)) 49 (nI md)) 73 (nI sc)) 74 (nI k9)) 77 dn2) 78 wt2) 79 wf2) (updA (updA (updA (updA (updA B 14 nc) 17 ty2) 18 mn2) 48 vn) 49 vt) (nI x182) dn2) (gV pw_1832 pw_1833 pw_1834 pw_1523 pw_1804) hV_X12_behind 0 9 rfl rfl rfl rfl (Nat.le_of_ble_eq_true rfl) dX12_lookCall_206 ⟨Nat.le_of_ble_eq_true rfl, Nat.le_of_ble_eq_true rfl⟩ ⟨(by show 2 + 1 ≤ (4 * z9 + 9); omega), (by show 8 + (2 + 11) + 60 ≤ (160 * z9 + 1360); omega)⟩ (fun v190 u188 H locs hw189 hP hD hS => ?_)
                obtain rfl : v190 = some (.int (nI x182)) := hw189
                have hP : va_P G.1 pCl (mW G h0 a (upd (upd (upd (upd (upd (upd (upd (upd (upd F 15 (nI fa170)) 16 pl171) 44 (nI fd)) 49 (nI md)) 73 (nI sc)) 74 (nI k9)) 77 dn2) 78 dn2) 79 dn2) (updA (updA (updA (updA (updA B 14 nc) 17 ty2) 18 mn2) 48 vn) 49 vt)) _ := mW_to (F := F) (l1 := [(15, (nI fa170)), (16, pl171), (44, (nI fd)), (49, (nI md)), (73, (nI sc)), (74, (nI k9)), (77, dn2), (78, wt2), (79, wf2), (77, dn2), (78, dn2), (79, dn2)]) (l2 := [(15, (nI fa170)), (16, pl171), (44, (nI fd)), (49, (nI md)), (73, (nI sc)), (74, (nI k9)), (77, dn2), (78, dn2), (79, dn2)]) (V := [(nI fa170), pl171, (nI fd), (nI md), (nI sc), (nI k9), dn2, dn2, dn2, dn2, dn2, dn2, (nI fa170), pl171, (nI fd), (nI md), (nI sc), (nI k9), dn2, dn2, dn2]) rfl rfl rfl hP
                have hD : va_D A (mW G h0 a (upd (upd (upd (upd (upd (upd (upd (upd (upd F 15 (nI fa170)) 16 pl171) 44 (nI fd)) 49 (nI md)) 73 (nI sc)) 74 (nI k9)) 77 dn2) 78 dn2) 79 dn2) (updA (updA (updA (updA (updA B 14 nc) 17 ty2) 18 mn2) 48 vn) 49 vt)) := mW_D hD
                refine W.widen (k := 0) (n := 0) (Nat.le_of_ble_eq_true rfl) (Nat.le_of_ble_eq_true rfl) ?_
                refine W.eq (g2 := F0 m 209 ls [.int (nI x182)]) rfl ?_
                have hz191 : fa ≤ fa170 := (by omega)
                have hz192 : fa170 ≤ 15 := (by omega)
                have hz193 : TyC dc x182 := h184
                have hz194 : x182 ≤ 2050 := (by omega)
                have hz195 : ChLr B nd n9 ty ty2 mn mn2 := hch2
                have hz196 : mnN B nd mn2 := hmn2
                have hz197 : If (fa170 = 0) ((∀ z c : Nat, c < 20000 → itr (B 16) (B 13 n9) z = nI c → Typ B dc fd md nd ty2 mn2 vt sc k9 c) ∧ CalP B ty2 mn2 dc md nd kq n9 (nI x182)) := (fun e => absurd e (by omega))
                have hP : va_P G.1 pCl (mW G h0 a (upd (upd (upd (upd (upd (upd (upd (upd (upd F 15 (nI fa170)) 16 pl171) 44 (nI fd)) 49 (nI md)) 73 (nI sc)) 74 (nI k9)) 77 dn2) 78 dn2) 79 dn2) (updA (updA (updA (updA (updA B 14 nc) 17 ty2) 18 mn2) 48 vn) 49 vt)) _ := hP
                have hD : va_D A (mW G h0 a (upd (upd (upd (upd (upd (upd (upd (upd (upd F 15 (nI fa170)) 16 pl171) 44 (nI fd)) 49 (nI md)) 73 (nI sc)) 74 (nI k9)) 77 dn2) 78 dn2) 79 dn2) (updA (updA (updA (updA (updA B 14 nc) 17 ty2) 18 mn2) 48 vn) 49 vt)) := mW_D hD
                exact W.iret (v := (nI x182)) hx hb hr (fun t9 ht9 hW9 => ⟨⟨_, (x182, fa170, pl171, dn2, dn2, dn2, ty2, mn2), rfl, ⟨rfl, hz191, hz192, hz193, hz194, hz195, hz196, hz197⟩, by rw [ht9]; exact hP, hD⟩, hS.F ht9⟩) hS.2.2 dX12_lookCall_209
              · have n198 : i2 = q2 := (nI_eq (a := i2) (b := q2) (by omega) (by omega)).mp c159
                refine lv_iconst (v := 1) hx hb dX12_lookCall_183 (by decide) ?_
                refine lv_goto (tgt := 188) hx hb dX12_lookCall_184 (by decide) ?_
                refine lv_bipush (v := 12) hx hb dX12_lookCall_188 (by decide) ?_
                refine lv_aload_n hx hb dX12_lookCall_190 rfl (lv_at hl 5 rfl) ?_
                refine r_get (v := .ref (a 15)) hx hb hown hq hE hP 23 56 tFX12_23 (by decide) pw_1445 rfl dX12_lookCall_191 ?_
                refine lv_iload_n hx hb dX12_lookCall_194 rfl (lv_at hl 4 rfl) ?_
                refine r_ldi (f := (B 15)) (j := n9) hx hb hE hP 15 (ma_15 G a _) rfl (by omega) (by decide) dX12_lookCall_195 ?_
                obtain ⟨t199, e200, h201⟩ : ∃ t : Nat, B 15 n9 = nI t ∧ t ≤ T := by
                  obtain ⟨k2, e2, _, k24, hs⟩ := hF.knd hn9
                  have ek : k2 = kk := (nI_eq (by omega) (by omega)).mp (e2.symm.trans hkd)
                  subst ek
                  rcases (hs 4 (by omega) (by omega)).2.1 hkk.2.1 with z | z
                  · omega
                  · exact z
                refine lv_topi (fun x202 e203 => ?_)
                obtain rfl : x202 = nI t199 := e203.trans e200
                have hP : va_P G.1 pCl (mW G h0 a (upd (upd (upd (upd (upd (upd (upd (upd (upd (upd F 15 (nI fa2)) 16 pl2) 44 (nI fd)) 49 (nI md)) 73 (nI sc)) 74 (nI k9)) 77 dn2) 78 wt2) 79 wf2) 15 (nI fa2)) (updA (updA (updA (updA (updA B 14 nc) 17 ty2) 18 mn2) 48 vn) 49 vt)) _ := hP
                have hD : va_D A (mW G h0 a (upd (upd (upd (upd (upd (upd (upd (upd (upd (upd F 15 (nI fa2)) 16 pl2) 44 (nI fd)) 49 (nI md)) 73 (nI sc)) 74 (nI k9)) 77 dn2) 78 wt2) 79 wf2) 15 (nI fa2)) (updA (updA (updA (updA (updA B 14 nc) 17 ty2) 18 mn2) 48 vn) 49 vt)) := mW_D hD
                refine pc_V0 (G := G) (As := [.int (nI 1), .int (nI 12), .int (nI t199)]) (rest := []) hx hb hml hown hq hE hX pX0_al hP hD hS hA hl.1 (R_judgeL l G h0 a (upd (upd (upd (upd (upd (upd (upd (upd (upd F 15 (nI fa2)) 16 pl2) 44 (nI fd)) 49 (nI md)) 73 (nI sc)) 74 (nI k9)) 77 dn2) 78 wt2) 79 wf2) (updA (updA (updA (updA (updA B 14 nc) 17 ty2) 18 mn2) 48 vn) 49 vt) 1 12 t199 fa2 (by omega) (by omega) (by omega) (by omega)) (gV pw_1798 pw_1799 pw_1800 pw_1523 pw_1793) hV_X12_judge 0 9 rfl rfl rfl rfl (Nat.le_of_ble_eq_true rfl) dX12_lookCall_196 ⟨Nat.le_of_ble_eq_true rfl, Nat.le_of_ble_eq_true rfl⟩ ⟨(by show 3 + 1 ≤ (4 * z9 + 9); omega), (by show 8 + (4 + 11) + 82 ≤ (160 * z9 + 1360); omega)⟩ (fun v206 u204 H locs hw205 hP hD hS => ?_)
                obtain ⟨r207, fa208, pl209⟩ := u204
                obtain ⟨hw205, h210, h211, h212, h213, h214, h215, h216⟩ := hw205
                replace h210 : r207 ≤ 1 := h210
                replace h211 : fa2 ≤ fa208 := h211
                replace h212 : fa208 ≤ 15 := h212
                replace h213 : fa208 + 15 * r207 ≤ 15 := h213
                replace h214 : 1 ≤ r207 + fa208 := h214
                replace h215 : 1 ≤ 1 + fa208 := h215
                replace h216 : fa208 ≤ fa2 + 15 * (1 - 1) := h216
                obtain rfl : v206 = some (.int (nI r207)) := hw205
                have hP : va_P G.1 pCl (mW G h0 a (upd (upd (upd (upd (upd (upd (upd (upd (upd F 15 (nI fa208)) 16 pl209) 44 (nI fd)) 49 (nI md)) 73 (nI sc)) 74 (nI k9)) 77 dn2) 78 wt2) 79 wf2) (updA (updA (updA (updA (updA B 14 nc) 17 ty2) 18 mn2) 48 vn) 49 vt)) _ := mW_to (F := F) (l1 := [(15, (nI fa2)), (16, pl2), (44, (nI fd)), (49, (nI md)), (73, (nI sc)), (74, (nI k9)), (77, dn2), (78, wt2), (79, wf2), (15, (nI fa208)), (16, pl209)]) (l2 := [(15, (nI fa208)), (16, pl209), (44, (nI fd)), (49, (nI md)), (73, (nI sc)), (74, (nI k9)), (77, dn2), (78, wt2), (79, wf2)]) (V := [(nI fa208), pl209, (nI fd), (nI md), (nI sc), (nI k9), dn2, wt2, wf2, (nI fa208), pl209, (nI fa208), pl209, (nI fd), (nI md), (nI sc), (nI k9), dn2, wt2, wf2]) rfl rfl rfl hP
                have hD : va_D A (mW G h0 a (upd (upd (upd (upd (upd (upd (upd (upd (upd F 15 (nI fa208)) 16 pl209) 44 (nI fd)) 49 (nI md)) 73 (nI sc)) 74 (nI k9)) 77 dn2) 78 wt2) 79 wf2) (updA (updA (updA (updA (updA B 14 nc) 17 ty2) 18 mn2) 48 vn) 49 vt)) := mW_D hD
                refine W.widen (k := 0) (n := 0) (Nat.le_of_ble_eq_true rfl) (Nat.le_of_ble_eq_true rfl) ?_
                refine W.eq (g2 := F0 m 199 ls [.int (nI r207)]) rfl ?_
                refine lv_pop hx hb dX12_lookCall_199 rfl ?_
                refine lv_aload_n hx hb dX12_lookCall_200 rfl (lv_at hl 5 rfl) ?_
                refine lv_aload_n hx hb dX12_lookCall_201 rfl (lv_at hl 5 rfl) ?_
                refine lv_iload_n hx hb dX12_lookCall_202 rfl (lv_at hl 2 rfl) ?_
                have hP : va_P G.1 pCl (mW G h0 a (upd (upd (upd (upd (upd (upd (upd (upd (upd F 15 (nI fa208)) 16 pl209) 44 (nI fd)) 49 (nI md)) 73 (nI sc)) 74 (nI k9)) 77 dn2) 78 wt2) 79 wf2) (updA (updA (updA (updA (updA (updA (updA B 14 nc) 17 ty2) 18 mn2) 48 vn) 49 vt) 21 (B 21)) 39 (B 39))) _ := mW_to (F := F) (l1 := [(15, (nI fa208)), (16, pl209), (44, (nI fd)), (49, (nI md)), (73, (nI sc)), (74, (nI k9)), (77, dn2), (78, wt2), (79, wf2)]) (l2 := [(15, (nI fa208)), (16, pl209), (44, (nI fd)), (49, (nI md)), (73, (nI sc)), (74, (nI k9)), (77, dn2), (78, wt2), (79, wf2)]) (V := [(nI fa208), pl209, (nI fd), (nI md), (nI sc), (nI k9), dn2, wt2, wf2, (nI fa208), pl209, (nI fd), (nI md), (nI sc), (nI k9), dn2, wt2, wf2]) rfl rfl (show (updA (updA (updA (updA (updA B 14 nc) 17 ty2) 18 mn2) 48 vn) 49 vt) = (updA (updA (updA (updA (updA (updA (updA B 14 nc) 17 ty2) 18 mn2) 48 vn) 49 vt) 21 (B 21)) 39 (B 39)) from updsA_eq2 (F := B) (l1 := [(14, nc), (17, ty2), (18, mn2), (48, vn), (49, vt)]) (l2 := [(14, nc), (17, ty2), (18, mn2), (48, vn), (49, vt), (21, (B 21)), (39, (B 39))]) (V := [nc, ty2, mn2, vn, vt, nc, ty2, mn2, vn, vt, (B 21), (B 39)]) rfl rfl) hP
                have hD : va_D A (mW G h0 a (upd (upd (upd (upd (upd (upd (upd (upd (upd F 15 (nI fa208)) 16 pl209) 44 (nI fd)) 49 (nI md)) 73 (nI sc)) 74 (nI k9)) 77 dn2) 78 wt2) 79 wf2) (updA (updA (updA (updA (updA (updA (updA B 14 nc) 17 ty2) 18 mn2) 48 vn) 49 vt) 21 (B 21)) 39 (B 39))) := mW_D hD
                refine pc_V0 (G := G) (As := [.int (nI mm2)]) (rest := [.ref h0]) hx hb hml hown hq hE hX pX0_al hP hD hS hA hl.1 (R_resultOf l G h0 a (upd (upd (upd (upd (upd (upd (upd (upd (upd F 15 (nI fa208)) 16 pl209) 44 (nI fd)) 49 (nI md)) 73 (nI sc)) 74 (nI k9)) 77 dn2) 78 wt2) 79 wf2) (updA (updA (updA (updA (updA B 14 nc) 17 ty2) 18 mn2) 48 vn) 49 vt) mm2 wr (B 39) (B 21) (by omega) (by omega) (by obtain ⟨d, _, _, _, _, _, z, _⟩ := hPS.2.2.1 mm2 hm2; exact z)) (gV pw_1764 pw_1765 pw_1766 pw_1523 pw_1762) hV_X12_resultOf 0 9 rfl rfl rfl rfl (Nat.le_of_ble_eq_true rfl) dX12_lookCall_203 ⟨Nat.le_of_ble_eq_true rfl, Nat.le_of_ble_eq_true rfl⟩ ⟨(by show 2 + 1 ≤ (4 * z9 + 9); omega), (by show 8 + (2 + 11) + 60 ≤ (160 * z9 + 1360); omega)⟩ (fun v219 u217 H locs hw218 hP hD hS => ?_)
                obtain rfl : v219 = some (.int (resF (B 39) (B 21) mm2)) := hw218
                have hP : va_P G.1 pCl (mW G h0 a (upd (upd (upd (upd (upd (upd (upd (upd (upd F 15 (nI fa208)) 16 pl209) 44 (nI fd)) 49 (nI md)) 73 (nI sc)) 74 (nI k9)) 77 dn2) 78 wt2) 79 wf2) (updA (updA (updA (updA (updA B 14 nc) 17 ty2) 18 mn2) 48 vn) 49 vt)) _ := mW_to (F := F) (l1 := [(15, (nI fa208)), (16, pl209), (44, (nI fd)), (49, (nI md)), (73, (nI sc)), (74, (nI k9)), (77, dn2), (78, wt2), (79, wf2)]) (l2 := [(15, (nI fa208)), (16, pl209), (44, (nI fd)), (49, (nI md)), (73, (nI sc)), (74, (nI k9)), (77, dn2), (78, wt2), (79, wf2)]) (V := [(nI fa208), pl209, (nI fd), (nI md), (nI sc), (nI k9), dn2, wt2, wf2, (nI fa208), pl209, (nI fd), (nI md), (nI sc), (nI k9), dn2, wt2, wf2]) rfl rfl (show (updA (updA (updA (updA (updA (updA (updA B 14 nc) 17 ty2) 18 mn2) 48 vn) 49 vt) 21 (B 21)) 39 (B 39)) = (updA (updA (updA (updA (updA B 14 nc) 17 ty2) 18 mn2) 48 vn) 49 vt) from updsA_eq2 (F := B) (l1 := [(14, nc), (17, ty2), (18, mn2), (48, vn), (49, vt), (21, (B 21)), (39, (B 39))]) (l2 := [(14, nc), (17, ty2), (18, mn2), (48, vn), (49, vt)]) (V := [nc, ty2, mn2, vn, vt, (B 21), (B 39), nc, ty2, mn2, vn, vt]) rfl rfl) hP
                have hD : va_D A (mW G h0 a (upd (upd (upd (upd (upd (upd (upd (upd (upd F 15 (nI fa208)) 16 pl209) 44 (nI fd)) 49 (nI md)) 73 (nI sc)) 74 (nI k9)) 77 dn2) 78 wt2) 79 wf2) (updA (updA (updA (updA (updA B 14 nc) 17 ty2) 18 mn2) 48 vn) 49 vt)) := mW_D hD
                refine W.widen (k := 0) (n := 0) (Nat.le_of_ble_eq_true rfl) (Nat.le_of_ble_eq_true rfl) ?_
                refine W.eq (g2 := F0 m 206 ls [.int (resF (B 39) (B 21) mm2), .ref h0]) rfl ?_
                obtain ⟨x220, e221, h222, h223⟩ := resF_tc hPS hTY (by omega) (by omega) hm2
                refine lv_topi (fun x224 e225 => ?_)
                obtain rfl : x224 = nI x220 := e225.trans e221
                have hP : va_P G.1 pCl (mW G h0 a (upd (upd (upd (upd (upd (upd (upd (upd (upd (upd F 15 (nI fa208)) 16 pl209) 44 (nI fd)) 49 (nI md)) 73 (nI sc)) 74 (nI k9)) 77 dn2) 78 wt2) 79 wf2) 77 dn2) (updA (updA (updA (updA (updA B 14 nc) 17 ty2) 18 mn2) 48 vn) 49 vt)) _ := mW_to (F := F) (l1 := [(15, (nI fa208)), (16, pl209), (44, (nI fd)), (49, (nI md)), (73, (nI sc)), (74, (nI k9)), (77, dn2), (78, wt2), (79, wf2)]) (l2 := [(15, (nI fa208)), (16, pl209), (44, (nI fd)), (49, (nI md)), (73, (nI sc)), (74, (nI k9)), (77, dn2), (78, wt2), (79, wf2), (77, dn2)]) (V := [(nI fa208), pl209, (nI fd), (nI md), (nI sc), (nI k9), dn2, wt2, wf2, (nI fa208), pl209, (nI fd), (nI md), (nI sc), (nI k9), dn2, wt2, wf2, dn2]) rfl rfl rfl hP
                have hD : va_D A (mW G h0 a (upd (upd (upd (upd (upd (upd (upd (upd (upd (upd F 15 (nI fa208)) 16 pl209) 44 (nI fd)) 49 (nI md)) 73 (nI sc)) 74 (nI k9)) 77 dn2) 78 wt2) 79 wf2) 77 dn2) (updA (updA (updA (updA (updA B 14 nc) 17 ty2) 18 mn2) 48 vn) 49 vt)) := mW_D hD
                refine pc_V0 (G := G) (As := [.int (nI x220)]) (rest := []) hx hb hml hown hq hE hX pX0_al hP hD hS hA hl.1 (R_behind l G h0 a (upd (upd (upd (upd (upd (upd (upd (upd (upd F 15 (nI fa208)) 16 pl209) 44 (nI fd)) 49 (nI md)) 73 (nI sc)) 74 (nI k9)) 77 dn2) 78 wt2) 79 wf2) (updA (updA (updA (updA (updA B 14 nc) 17 ty2) 18 mn2) 48 vn) 49 vt) (nI x220) dn2) (gV pw_1832 pw_1833 pw_1834 pw_1523 pw_1804) hV_X12_behind 0 9 rfl rfl rfl rfl (Nat.le_of_ble_eq_true rfl) dX12_lookCall_206 ⟨Nat.le_of_ble_eq_true rfl, Nat.le_of_ble_eq_true rfl⟩ ⟨(by show 2 + 1 ≤ (4 * z9 + 9); omega), (by show 8 + (2 + 11) + 60 ≤ (160 * z9 + 1360); omega)⟩ (fun v228 u226 H locs hw227 hP hD hS => ?_)
                obtain rfl : v228 = some (.int (nI x220)) := hw227
                have hP : va_P G.1 pCl (mW G h0 a (upd (upd (upd (upd (upd (upd (upd (upd (upd F 15 (nI fa208)) 16 pl209) 44 (nI fd)) 49 (nI md)) 73 (nI sc)) 74 (nI k9)) 77 dn2) 78 dn2) 79 dn2) (updA (updA (updA (updA (updA B 14 nc) 17 ty2) 18 mn2) 48 vn) 49 vt)) _ := mW_to (F := F) (l1 := [(15, (nI fa208)), (16, pl209), (44, (nI fd)), (49, (nI md)), (73, (nI sc)), (74, (nI k9)), (77, dn2), (78, wt2), (79, wf2), (77, dn2), (78, dn2), (79, dn2)]) (l2 := [(15, (nI fa208)), (16, pl209), (44, (nI fd)), (49, (nI md)), (73, (nI sc)), (74, (nI k9)), (77, dn2), (78, dn2), (79, dn2)]) (V := [(nI fa208), pl209, (nI fd), (nI md), (nI sc), (nI k9), dn2, dn2, dn2, dn2, dn2, dn2, (nI fa208), pl209, (nI fd), (nI md), (nI sc), (nI k9), dn2, dn2, dn2]) rfl rfl rfl hP
                have hD : va_D A (mW G h0 a (upd (upd (upd (upd (upd (upd (upd (upd (upd F 15 (nI fa208)) 16 pl209) 44 (nI fd)) 49 (nI md)) 73 (nI sc)) 74 (nI k9)) 77 dn2) 78 dn2) 79 dn2) (updA (updA (updA (updA (updA B 14 nc) 17 ty2) 18 mn2) 48 vn) 49 vt)) := mW_D hD
                refine W.widen (k := 0) (n := 0) (Nat.le_of_ble_eq_true rfl) (Nat.le_of_ble_eq_true rfl) ?_
                refine W.eq (g2 := F0 m 209 ls [.int (nI x220)]) rfl ?_
                have hz229 : fa ≤ fa208 := (by omega)
                have hz230 : fa208 ≤ 15 := (by omega)
                have hz231 : TyC dc x220 := h222
                have hz232 : x220 ≤ 2050 := (by omega)
                have hz233 : ChLr B nd n9 ty ty2 mn mn2 := hch2
                have hz234 : mnN B nd mn2 := hmn2
                have hz235 : If (fa208 = 0) ((∀ z c : Nat, c < 20000 → itr (B 16) (B 13 n9) z = nI c → Typ B dc fd md nd ty2 mn2 vt sc k9 c) ∧ CalP B ty2 mn2 dc md nd kq n9 (nI x220)) := (fun e => absurd e (by omega))
                have hP : va_P G.1 pCl (mW G h0 a (upd (upd (upd (upd (upd (upd (upd (upd (upd F 15 (nI fa208)) 16 pl209) 44 (nI fd)) 49 (nI md)) 73 (nI sc)) 74 (nI k9)) 77 dn2) 78 dn2) 79 dn2) (updA (updA (updA (updA (updA B 14 nc) 17 ty2) 18 mn2) 48 vn) 49 vt)) _ := hP
                have hD : va_D A (mW G h0 a (upd (upd (upd (upd (upd (upd (upd (upd (upd F 15 (nI fa208)) 16 pl209) 44 (nI fd)) 49 (nI md)) 73 (nI sc)) 74 (nI k9)) 77 dn2) 78 dn2) 79 dn2) (updA (updA (updA (updA (updA B 14 nc) 17 ty2) 18 mn2) 48 vn) 49 vt)) := mW_D hD
                exact W.iret (v := (nI x220)) hx hb hr (fun t9 ht9 hW9 => ⟨⟨_, (x220, fa208, pl209, dn2, dn2, dn2, ty2, mn2), rfl, ⟨rfl, hz229, hz230, hz231, hz232, hz233, hz234, hz235⟩, by rw [ht9]; exact hP, hD⟩, hS.F ht9⟩) hS.2.2 dX12_lookCall_209
            · have n236 : fa2 = 0 := (nI_eq (a := fa2) (b := 0) (by omega) (by omega)).mp c155
              refine lv_aload_n hx hb dX12_lookCall_75 rfl (lv_at hl 5 rfl) ?_
              refine lv_iload hx hb dX12_lookCall_76 (lv_at hl 1 rfl) ?_
              refine lv_aload_n hx hb dX12_lookCall_78 rfl (lv_at hl 5 rfl) ?_
              refine r_get (v := .ref (a 41)) hx hb hown hq hE hP 55 135 tFX12_55 (by decide) pw_1472 rfl dX12_lookCall_79 ?_
              refine lv_iload_n hx hb dX12_lookCall_82 rfl (lv_at hl 2 rfl) ?_
              refine r_ldi (f := (B 41)) (j := mm2) hx hb hE hP 41 (ma_41 G a _) rfl (by omega) (by decide) dX12_lookCall_83 ?_
              refine lv_topi (fun x237 e238 => ?_)
              obtain rfl : x237 = nI q2 := e238.trans he1
              refine lv_icmp_ge (tgt := 91) hx hb dX12_lookCall_84 (by decide) (fun c239 => ?_) (fun c239 => ?_)
              · have n240 : q2 ≤ i2 := (nI_leI (a := q2) (b := i2) (by omega) (by omega)).mp c239
                refine lv_iconst (v := 0) hx hb dX12_lookCall_91 (by decide) ?_
                refine lv_bipush (v := 12) hx hb dX12_lookCall_92 (by decide) ?_
                refine lv_aload_n hx hb dX12_lookCall_94 rfl (lv_at hl 5 rfl) ?_
                refine r_get (v := .ref (a 10)) hx hb hown hq hE hP 18 41 tFX12_18 (by decide) pw_1440 rfl dX12_lookCall_95 ?_
                refine lv_iload hx hb dX12_lookCall_98 (lv_at hl 0 rfl) ?_
                refine r_ldi (f := (B 10)) (j := c146) hx hb hE hP 10 (ma_10 G a _) rfl (by omega) (by decide) dX12_lookCall_100 ?_
                obtain ⟨⟨t241, e242, h243⟩, -⟩ := hF c146 h150
                refine lv_topi (fun x244 e245 => ?_)
                obtain rfl : x244 = nI t241 := e245.trans e242
                have hP : va_P G.1 pCl (mW G h0 a (upd (upd (upd (upd (upd (upd (upd (upd (upd (upd F 15 (nI fa2)) 16 pl2) 44 (nI fd)) 49 (nI md)) 73 (nI sc)) 74 (nI k9)) 77 dn2) 78 wt2) 79 wf2) 15 (nI fa2)) (updA (updA (updA (updA (updA B 14 nc) 17 ty2) 18 mn2) 48 vn) 49 vt)) _ := mW_to (F := F) (l1 := [(15, (nI fa2)), (16, pl2), (44, (nI fd)), (49, (nI md)), (73, (nI sc)), (74, (nI k9)), (77, dn2), (78, wt2), (79, wf2)]) (l2 := [(15, (nI fa2)), (16, pl2), (44, (nI fd)), (49, (nI md)), (73, (nI sc)), (74, (nI k9)), (77, dn2), (78, wt2), (79, wf2), (15, (nI fa2))]) (V := [(nI fa2), pl2, (nI fd), (nI md), (nI sc), (nI k9), dn2, wt2, wf2, (nI fa2), pl2, (nI fd), (nI md), (nI sc), (nI k9), dn2, wt2, wf2, (nI fa2)]) rfl rfl rfl hP
                have hD : va_D A (mW G h0 a (upd (upd (upd (upd (upd (upd (upd (upd (upd (upd F 15 (nI fa2)) 16 pl2) 44 (nI fd)) 49 (nI md)) 73 (nI sc)) 74 (nI k9)) 77 dn2) 78 wt2) 79 wf2) 15 (nI fa2)) (updA (updA (updA (updA (updA B 14 nc) 17 ty2) 18 mn2) 48 vn) 49 vt)) := mW_D hD
                refine pc_V0 (G := G) (As := [.int (nI 0), .int (nI 12), .int (nI t241)]) (rest := []) hx hb hml hown hq hE hX pX0_al hP hD hS hA hl.1 (R_judgeL l G h0 a (upd (upd (upd (upd (upd (upd (upd (upd (upd F 15 (nI fa2)) 16 pl2) 44 (nI fd)) 49 (nI md)) 73 (nI sc)) 74 (nI k9)) 77 dn2) 78 wt2) 79 wf2) (updA (updA (updA (updA (updA B 14 nc) 17 ty2) 18 mn2) 48 vn) 49 vt) 0 12 t241 fa2 (by omega) (by omega) (by omega) (by omega)) (gV pw_1798 pw_1799 pw_1800 pw_1523 pw_1793) hV_X12_judge 0 9 rfl rfl rfl rfl (Nat.le_of_ble_eq_true rfl) dX12_lookCall_101 ⟨Nat.le_of_ble_eq_true rfl, Nat.le_of_ble_eq_true rfl⟩ ⟨(by show 3 + 1 ≤ (4 * z9 + 9); omega), (by show 8 + (4 + 11) + 82 ≤ (160 * z9 + 1360); omega)⟩ (fun v248 u246 H locs hw247 hP hD hS => ?_)
                obtain ⟨r249, fa250, pl251⟩ := u246
                obtain ⟨hw247, h252, h253, h254, h255, h256, h257, h258⟩ := hw247
                replace h252 : r249 ≤ 1 := h252
                replace h253 : fa2 ≤ fa250 := h253
                replace h254 : fa250 ≤ 15 := h254
                replace h255 : fa250 + 15 * r249 ≤ 15 := h255
                replace h256 : 1 ≤ r249 + fa250 := h256
                replace h257 : 1 ≤ 0 + fa250 := h257
                replace h258 : fa250 ≤ fa2 + 15 * (1 - 0) := h258
                obtain rfl : v248 = some (.int (nI r249)) := hw247
                have hP : va_P G.1 pCl (mW G h0 a (upd (upd (upd (upd (upd (upd (upd (upd (upd F 15 (nI fa250)) 16 pl251) 44 (nI fd)) 49 (nI md)) 73 (nI sc)) 74 (nI k9)) 77 dn2) 78 wt2) 79 wf2) (updA (updA (updA (updA (updA B 14 nc) 17 ty2) 18 mn2) 48 vn) 49 vt)) _ := mW_to (F := F) (l1 := [(15, (nI fa2)), (16, pl2), (44, (nI fd)), (49, (nI md)), (73, (nI sc)), (74, (nI k9)), (77, dn2), (78, wt2), (79, wf2), (15, (nI fa250)), (16, pl251)]) (l2 := [(15, (nI fa250)), (16, pl251), (44, (nI fd)), (49, (nI md)), (73, (nI sc)), (74, (nI k9)), (77, dn2), (78, wt2), (79, wf2)]) (V := [(nI fa250), pl251, (nI fd), (nI md), (nI sc), (nI k9), dn2, wt2, wf2, (nI fa250), pl251, (nI fa250), pl251, (nI fd), (nI md), (nI sc), (nI k9), dn2, wt2, wf2]) rfl rfl rfl hP
                have hD : va_D A (mW G h0 a (upd (upd (upd (upd (upd (upd (upd (upd (upd F 15 (nI fa250)) 16 pl251) 44 (nI fd)) 49 (nI md)) 73 (nI sc)) 74 (nI k9)) 77 dn2) 78 wt2) 79 wf2) (updA (updA (updA (updA (updA B 14 nc) 17 ty2) 18 mn2) 48 vn) 49 vt)) := mW_D hD
                refine W.widen (k := 0) (n := 0) (Nat.le_of_ble_eq_true rfl) (Nat.le_of_ble_eq_true rfl) ?_
                refine W.eq (g2 := F0 m 104 ls [.int (nI r249)]) rfl ?_
                refine lv_if_ne (tgt := 109) hx hb dX12_lookCall_104 (by decide) (fun c259 => (by have n260 : ¬ (r249 = 0) := fun h9 => c259 ((nI_eq (a := r249) (b := 0) (by omega) (by omega)).mpr h9); omega)) (fun c259 => ?_)
                refine lv_iconst (v := 1) hx hb dX12_lookCall_107 (by decide) ?_
                have hz261 : fa ≤ fa250 := (by omega)
                have hz262 : fa250 ≤ 15 := (by omega)
                have hz263 : TyC dc 1 := (by unfold TyC; omega)
                have hz264 : 1 ≤ 2050 := (by omega)
                have hz265 : ChLr B nd n9 ty ty2 mn mn2 := hch2
                have hz266 : mnN B nd mn2 := hmn2
                have hz267 : If (fa250 = 0) ((∀ z c : Nat, c < 20000 → itr (B 16) (B 13 n9) z = nI c → Typ B dc fd md nd ty2 mn2 vt sc k9 c) ∧ CalP B ty2 mn2 dc md nd kq n9 (nI 1)) := (fun e => absurd e (by omega))
                have hP : va_P G.1 pCl (mW G h0 a (upd (upd (upd (upd (upd (upd (upd (upd (upd F 15 (nI fa250)) 16 pl251) 44 (nI fd)) 49 (nI md)) 73 (nI sc)) 74 (nI k9)) 77 dn2) 78 wt2) 79 wf2) (updA (updA (updA (updA (updA B 14 nc) 17 ty2) 18 mn2) 48 vn) 49 vt)) _ := hP
                have hD : va_D A (mW G h0 a (upd (upd (upd (upd (upd (upd (upd (upd (upd F 15 (nI fa250)) 16 pl251) 44 (nI fd)) 49 (nI md)) 73 (nI sc)) 74 (nI k9)) 77 dn2) 78 wt2) 79 wf2) (updA (updA (updA (updA (updA B 14 nc) 17 ty2) 18 mn2) 48 vn) 49 vt)) := mW_D hD
                exact W.iret (v := 1) hx hb hr (fun t9 ht9 hW9 => ⟨⟨_, (1, fa250, pl251, dn2, wt2, wf2, ty2, mn2), rfl, ⟨rfl, hz261, hz262, hz263, hz264, hz265, hz266, hz267⟩, by rw [ht9]; exact hP, hD⟩, hS.F ht9⟩) hS.2.2 dX12_lookCall_108
              · have n268 : ¬ (q2 ≤ i2) := fun h9 => c239 ((nI_leI (a := q2) (b := i2) (by omega) (by omega)).mpr h9)
                refine lv_iconst (v := 1) hx hb dX12_lookCall_87 (by decide) ?_
                refine lv_goto (tgt := 92) hx hb dX12_lookCall_88 (by decide) ?_
                refine lv_bipush (v := 12) hx hb dX12_lookCall_92 (by decide) ?_
                refine lv_aload_n hx hb dX12_lookCall_94 rfl (lv_at hl 5 rfl) ?_
                refine r_get (v := .ref (a 10)) hx hb hown hq hE hP 18 41 tFX12_18 (by decide) pw_1440 rfl dX12_lookCall_95 ?_
                refine lv_iload hx hb dX12_lookCall_98 (lv_at hl 0 rfl) ?_
                refine r_ldi (f := (B 10)) (j := c146) hx hb hE hP 10 (ma_10 G a _) rfl (by omega) (by decide) dX12_lookCall_100 ?_
                obtain ⟨⟨t269, e270, h271⟩, -⟩ := hF c146 h150
                refine lv_topi (fun x272 e273 => ?_)
                obtain rfl : x272 = nI t269 := e273.trans e270
                have hP : va_P G.1 pCl (mW G h0 a (upd (upd (upd (upd (upd (upd (upd (upd (upd (upd F 15 (nI fa2)) 16 pl2) 44 (nI fd)) 49 (nI md)) 73 (nI sc)) 74 (nI k9)) 77 dn2) 78 wt2) 79 wf2) 15 (nI fa2)) (updA (updA (updA (updA (updA B 14 nc) 17 ty2) 18 mn2) 48 vn) 49 vt)) _ := mW_to (F := F) (l1 := [(15, (nI fa2)), (16, pl2), (44, (nI fd)), (49, (nI md)), (73, (nI sc)), (74, (nI k9)), (77, dn2), (78, wt2), (79, wf2)]) (l2 := [(15, (nI fa2)), (16, pl2), (44, (nI fd)), (49, (nI md)), (73, (nI sc)), (74, (nI k9)), (77, dn2), (78, wt2), (79, wf2), (15, (nI fa2))]) (V := [(nI fa2), pl2, (nI fd), (nI md), (nI sc), (nI k9), dn2, wt2, wf2, (nI fa2), pl2, (nI fd), (nI md), (nI sc), (nI k9), dn2, wt2, wf2, (nI fa2)]) rfl rfl rfl hP
                have hD : va_D A (mW G h0 a (upd (upd (upd (upd (upd (upd (upd (upd (upd (upd F 15 (nI fa2)) 16 pl2) 44 (nI fd)) 49 (nI md)) 73 (nI sc)) 74 (nI k9)) 77 dn2) 78 wt2) 79 wf2) 15 (nI fa2)) (updA (updA (updA (updA (updA B 14 nc) 17 ty2) 18 mn2) 48 vn) 49 vt)) := mW_D hD
                refine pc_V0 (G := G) (As := [.int (nI 1), .int (nI 12), .int (nI t269)]) (rest := []) hx hb hml hown hq hE hX pX0_al hP hD hS hA hl.1 (R_judgeL l G h0 a (upd (upd (upd (upd (upd (upd (upd (upd (upd F 15 (nI fa2)) 16 pl2) 44 (nI fd)) 49 (nI md)) 73 (nI sc)) 74 (nI k9)) 77 dn2) 78 wt2) 79 wf2) (updA (updA (updA (updA (updA B 14 nc) 17 ty2) 18 mn2) 48 vn) 49 vt) 1 12 t269 fa2 (by omega) (by omega) (by omega) (by omega)) (gV pw_1798 pw_1799 pw_1800 pw_1523 pw_1793) hV_X12_judge 0 9 rfl rfl rfl rfl (Nat.le_of_ble_eq_true rfl) dX12_lookCall_101 ⟨Nat.le_of_ble_eq_true rfl, Nat.le_of_ble_eq_true rfl⟩ ⟨(by show 3 + 1 ≤ (4 * z9 + 9); omega), (by show 8 + (4 + 11) + 82 ≤ (160 * z9 + 1360); omega)⟩ (fun v276 u274 H locs hw275 hP hD hS => ?_)
                obtain ⟨r277, fa278, pl279⟩ := u274
                obtain ⟨hw275, h280, h281, h282, h283, h284, h285, h286⟩ := hw275
                replace h280 : r277 ≤ 1 := h280
                replace h281 : fa2 ≤ fa278 := h281
                replace h282 : fa278 ≤ 15 := h282
                replace h283 : fa278 + 15 * r277 ≤ 15 := h283
                replace h284 : 1 ≤ r277 + fa278 := h284
                replace h285 : 1 ≤ 1 + fa278 := h285
                replace h286 : fa278 ≤ fa2 + 15 * (1 - 1) := h286
                obtain rfl : v276 = some (.int (nI r277)) := hw275
                have hP : va_P G.1 pCl (mW G h0 a (upd (upd (upd (upd (upd (upd (upd (upd (upd F 15 (nI fa278)) 16 pl279) 44 (nI fd)) 49 (nI md)) 73 (nI sc)) 74 (nI k9)) 77 dn2) 78 wt2) 79 wf2) (updA (updA (updA (updA (updA B 14 nc) 17 ty2) 18 mn2) 48 vn) 49 vt)) _ := mW_to (F := F) (l1 := [(15, (nI fa2)), (16, pl2), (44, (nI fd)), (49, (nI md)), (73, (nI sc)), (74, (nI k9)), (77, dn2), (78, wt2), (79, wf2), (15, (nI fa278)), (16, pl279)]) (l2 := [(15, (nI fa278)), (16, pl279), (44, (nI fd)), (49, (nI md)), (73, (nI sc)), (74, (nI k9)), (77, dn2), (78, wt2), (79, wf2)]) (V := [(nI fa278), pl279, (nI fd), (nI md), (nI sc), (nI k9), dn2, wt2, wf2, (nI fa278), pl279, (nI fa278), pl279, (nI fd), (nI md), (nI sc), (nI k9), dn2, wt2, wf2]) rfl rfl rfl hP
                have hD : va_D A (mW G h0 a (upd (upd (upd (upd (upd (upd (upd (upd (upd F 15 (nI fa278)) 16 pl279) 44 (nI fd)) 49 (nI md)) 73 (nI sc)) 74 (nI k9)) 77 dn2) 78 wt2) 79 wf2) (updA (updA (updA (updA (updA B 14 nc) 17 ty2) 18 mn2) 48 vn) 49 vt)) := mW_D hD
                refine W.widen (k := 0) (n := 0) (Nat.le_of_ble_eq_true rfl) (Nat.le_of_ble_eq_true rfl) ?_
                refine W.eq (g2 := F0 m 104 ls [.int (nI r277)]) rfl ?_
                refine lv_if_ne (tgt := 109) hx hb dX12_lookCall_104 (by decide) (fun c287 => ?_) (fun c287 => ?_)
                · have n288 : ¬ (r277 = 0) := fun h9 => c287 ((nI_eq (a := r277) (b := 0) (by omega) (by omega)).mpr h9)
                  refine lv_aload_n hx hb dX12_lookCall_109 rfl (lv_at hl 5 rfl) ?_
                  refine lv_iload hx hb dX12_lookCall_110 (lv_at hl 0 rfl) ?_
                  have hP : va_P G.1 pCl (mW G h0 a (upd (upd (upd (upd (upd (upd (upd (upd (upd (upd (upd (upd (upd (upd (upd (upd (upd F 15 (nI fa278)) 16 pl279) 44 (nI fd)) 49 (nI md)) 73 (nI sc)) 74 (nI k9)) 77 dn2) 78 wt2) 79 wf2) 15 (nI fa278)) 44 (nI fd)) 49 (nI md)) 73 (nI sc)) 74 (nI k9)) 77 dn2) 78 wt2) 79 wf2) (updA (updA (updA (updA (updA B 14 nc) 17 ty2) 18 mn2) 48 vn) 49 vt)) _ := mW_to (F := F) (l1 := [(15, (nI fa278)), (16, pl279), (44, (nI fd)), (49, (nI md)), (73, (nI sc)), (74, (nI k9)), (77, dn2), (78, wt2), (79, wf2)]) (l2 := [(15, (nI fa278)), (16, pl279), (44, (nI fd)), (49, (nI md)), (73, (nI sc)), (74, (nI k9)), (77, dn2), (78, wt2), (79, wf2), (15, (nI fa278)), (44, (nI fd)), (49, (nI md)), (73, (nI sc)), (74, (nI k9)), (77, dn2), (78, wt2), (79, wf2)]) (V := [(nI fa278), pl279, (nI fd), (nI md), (nI sc), (nI k9), dn2, wt2, wf2, (nI fa278), pl279, (nI fd), (nI md), (nI sc), (nI k9), dn2, wt2, wf2, (nI fa278), (nI fd), (nI md), (nI sc), (nI k9), dn2, wt2, wf2]) rfl rfl rfl hP
                  have hD : va_D A (mW G h0 a (upd (upd (upd (upd (upd (upd (upd (upd (upd (upd (upd (upd (upd (upd (upd (upd (upd F 15 (nI fa278)) 16 pl279) 44 (nI fd)) 49 (nI md)) 73 (nI sc)) 74 (nI k9)) 77 dn2) 78 wt2) 79 wf2) 15 (nI fa278)) 44 (nI fd)) 49 (nI md)) 73 (nI sc)) 74 (nI k9)) 77 dn2) 78 wt2) 79 wf2) (updA (updA (updA (updA (updA B 14 nc) 17 ty2) 18 mn2) 48 vn) 49 vt)) := mW_D hD
                  refine pc_V0 (G := G) (As := [.int (nI c146)]) (rest := []) hx hb hml hown hq hE hX pX0_al hP hD hS hA hl.1 (ihL h0 a (upd (upd (upd (upd (upd (upd (upd (upd (upd F 15 (nI fa278)) 16 pl279) 44 (nI fd)) 49 (nI md)) 73 (nI sc)) 74 (nI k9)) 77 dn2) 78 wt2) 79 wf2) B c146 fa278 sc k9 nd T nm wr lz dc fd md pr bk gh dn2 wt2 wf2 nc ty2 mn2 vn vt hst hnm h150 (by omega) (by omega) (by omega) hk9 hnc hmn2 hvt hc1) (gV pw_1822 pw_1823 pw_1824 pw_1523 pw_1830) hV_X12_look 0 9 rfl rfl rfl rfl (Nat.le_of_ble_eq_true rfl) dX12_lookCall_112 ⟨Nat.le_of_ble_eq_true rfl, Nat.le_of_ble_eq_true rfl⟩ ⟨(by show (4 * (z9 - 1) + 11) + 1 ≤ (4 * z9 + 9); omega), (by show 8 + (3 + 11) + (160 * (z9 - 1) + 1440) ≤ (160 * z9 + 1360); omega)⟩ (fun v291 u289 H locs hw290 hP hD hS => ?_)
                  obtain ⟨r292, fa293, pl294, dn295, wt296, wf297, ty298, mn299⟩ := u289
                  obtain ⟨hw290, h300, h301, h302, h303, h304, h305, h306, h307⟩ := hw290
                  replace h300 : fa278 ≤ fa293 := h300
                  replace h301 : fa293 ≤ 15 := h301
                  replace h302 : TyC dc r292 := h302
                  replace h303 : r292 ≤ 2050 := h303
                  replace h304 : ChE B nd c146 ty2 ty298 mn2 mn299 := h304
                  replace h305 : mnN B nd mn299 := h305
                  replace h306 : If (fa293 = 0) (Typ B dc fd md nd ty298 mn299 vt sc k9 c146) := h306
                  replace h307 : ty298 c146 = nI r292 := h307
                  obtain rfl : v291 = some (.int (nI r292)) := hw290
                  have hP : va_P G.1 pCl (mW G h0 a (upd (upd (upd (upd (upd (upd (upd (upd (upd F 15 (nI fa293)) 16 pl294) 44 (nI fd)) 49 (nI md)) 73 (nI sc)) 74 (nI k9)) 77 dn295) 78 wt296) 79 wf297) (updA (updA (updA (updA (updA B 14 nc) 17 ty298) 18 mn299) 48 vn) 49 vt)) _ := mW_to (F := F) (l1 := [(15, (nI fa278)), (16, pl279), (44, (nI fd)), (49, (nI md)), (73, (nI sc)), (74, (nI k9)), (77, dn2), (78, wt2), (79, wf2), (15, (nI fa293)), (16, pl294), (44, (nI fd)), (49, (nI md)), (73, (nI sc)), (74, (nI k9)), (77, dn295), (78, wt296), (79, wf297)]) (l2 := [(15, (nI fa293)), (16, pl294), (44, (nI fd)), (49, (nI md)), (73, (nI sc)), (74, (nI k9)), (77, dn295), (78, wt296), (79, wf297)]) (V := [(nI fa293), pl294, (nI fd), (nI md), (nI sc), (nI k9), dn295, wt296, wf297, (nI fa293), pl294, (nI fd), (nI md), (nI sc), (nI k9), dn295, wt296, wf297, (nI fa293), pl294, (nI fd), (nI md), (nI sc), (nI k9), dn295, wt296, wf297]) rfl rfl rfl hP
                  have hD : va_D A (mW G h0 a (upd (upd (upd (upd (upd (upd (upd (upd (upd F 15 (nI fa293)) 16 pl294) 44 (nI fd)) 49 (nI md)) 73 (nI sc)) 74 (nI k9)) 77 dn295) 78 wt296) 79 wf297) (updA (updA (updA (updA (updA B 14 nc) 17 ty298) 18 mn299) 48 vn) 49 vt)) := mW_D hD
                  refine W.widen (k := 0) (n := 0) (Nat.le_of_ble_eq_true rfl) (Nat.le_of_ble_eq_true rfl) ?_
                  refine W.eq (g2 := F0 m 115 ls [.int (nI r292)]) rfl ?_
                  have hch308 : ChLr B nd n9 ty ty298 mn mn299 := (ChLr.trans hch2 (ChLr.mem h304 (by omega) e147))
                  have hme309 : mn299 n9 = nI mm2 := ((h304 n9 hn9 (fun z => by have z1 := (sub.lt2 hF (by omega) h150 z).2; by_cases q : n9 = c146; have z2 := (pch_par hF (by omega) hn9 (by omega) hp153).2.2; rw [← q] at z2; omega; have := z1 q; omega)).2.trans hme2)
                  refine lv_istore (lv' := [(6, .int (nI r292)), (5, .int (nI c146)), (4, .int (nI i2)), (3, .int (nI mm2)), (2, .int (nI kq)), (1, .int (nI n9)), (0, .ref h0)]) hx hb dX12_lookCall_115 hl (by decide) rfl (fun ls hl => ?_)
                  refine lv_aload_n hx hb dX12_lookCall_117 rfl (lv_at hl 6 rfl) ?_
                  refine lv_aload_n hx hb dX12_lookCall_118 rfl (lv_at hl 6 rfl) ?_
                  refine lv_iload hx hb dX12_lookCall_119 (lv_at hl 0 rfl) ?_
                  refine lv_aload_n hx hb dX12_lookCall_121 rfl (lv_at hl 6 rfl) ?_
                  refine r_get (v := .ref (a 21)) hx hb hown hq hE hP 30 75 tFX12_30 (by decide) pw_1452 rfl dX12_lookCall_122 ?_
                  refine lv_aload_n hx hb dX12_lookCall_125 rfl (lv_at hl 6 rfl) ?_
                  refine r_get (v := .ref (a 47)) hx hb hown hq hE hP 63 153 tFX12_63 (by decide) pw_1478 rfl dX12_lookCall_126 ?_
                  refine lv_aload_n hx hb dX12_lookCall_129 rfl (lv_at hl 6 rfl) ?_
                  refine r_get (v := .ref (a 40)) hx hb hown hq hE hP 54 132 tFX12_54 (by decide) pw_1471 rfl dX12_lookCall_130 ?_
                  refine lv_iload_n hx hb dX12_lookCall_133 rfl (lv_at hl 3 rfl) ?_
                  refine r_ldi (f := (B 40)) (j := mm2) hx hb hE hP 40 (ma_40 G a _) rfl (by omega) (by decide) dX12_lookCall_134 ?_
                  refine lv_topi (fun x310 e311 => ?_)
                  obtain rfl : x310 = nI p2 := e311.trans he2
                  refine lv_iload hx hb dX12_lookCall_135 (lv_at hl 2 rfl) ?_
                  refine lv_iadd hx hb dX12_lookCall_137 ?_
                  refine lv_topi (fun x312 e313 => ?_)
                  obtain rfl : x312 = nI (p2 + i2) := e313.trans (nI_add (p2) (i2))
                  refine r_ldi (f := (B 47)) (j := (p2 + i2)) hx hb hE hP 47 (ma_47 G a _) rfl (by omega) (by decide) dX12_lookCall_138 ?_
                  obtain ⟨-, y314, e315, h316⟩ := hPS.2.2.2.1 (p2 + i2) (by omega)
                  refine lv_topi (fun x317 e318 => ?_)
                  obtain rfl : x317 = nI y314 := e318.trans e315
                  refine r_ldi (f := (B 21)) (j := y314) hx hb hE hP 21 (ma_21 G a _) rfl (by omega) (by decide) dX12_lookCall_139 ?_
                  obtain ⟨x319, e320, h321, h322, h323, h324⟩ := tyOK.tc (hTY y314 (by omega)) (by omega)
                  refine lv_topi (fun x325 e326 => ?_)
                  obtain rfl : x325 = nI x319 := e326.trans e320
                  have hP : va_P G.1 pCl (mW G h0 a (upd (upd (upd (upd (upd (upd (upd (upd (upd F 15 (nI fa293)) 16 pl294) 44 (nI fd)) 49 (nI md)) 73 (nI sc)) 74 (nI k9)) 77 dn295) 78 wt296) 79 wf297) (updA (updA (updA (updA (updA (updA B 14 nc) 17 ty298) 18 mn299) 48 vn) 49 vt) 31 (B 31))) _ := mW_to (F := F) (l1 := [(15, (nI fa293)), (16, pl294), (44, (nI fd)), (49, (nI md)), (73, (nI sc)), (74, (nI k9)), (77, dn295), (78, wt296), (79, wf297)]) (l2 := [(15, (nI fa293)), (16, pl294), (44, (nI fd)), (49, (nI md)), (73, (nI sc)), (74, (nI k9)), (77, dn295), (78, wt296), (79, wf297)]) (V := [(nI fa293), pl294, (nI fd), (nI md), (nI sc), (nI k9), dn295, wt296, wf297, (nI fa293), pl294, (nI fd), (nI md), (nI sc), (nI k9), dn295, wt296, wf297]) rfl rfl (show (updA (updA (updA (updA (updA B 14 nc) 17 ty298) 18 mn299) 48 vn) 49 vt) = (updA (updA (updA (updA (updA (updA B 14 nc) 17 ty298) 18 mn299) 48 vn) 49 vt) 31 (B 31)) from updsA_eq2 (F := B) (l1 := [(14, nc), (17, ty298), (18, mn299), (48, vn), (49, vt)]) (l2 := [(14, nc), (17, ty298), (18, mn299), (48, vn), (49, vt), (31, (B 31))]) (V := [nc, ty298, mn299, vn, vt, nc, ty298, mn299, vn, vt, (B 31)]) rfl rfl) hP
                  have hD : va_D A (mW G h0 a (upd (upd (upd (upd (upd (upd (upd (upd (upd F 15 (nI fa293)) 16 pl294) 44 (nI fd)) 49 (nI md)) 73 (nI sc)) 74 (nI k9)) 77 dn295) 78 wt296) 79 wf297) (updA (updA (updA (updA (updA (updA B 14 nc) 17 ty298) 18 mn299) 48 vn) 49 vt) 31 (B 31))) := mW_D hD
                  refine pc_V0 (G := G) (As := [.int (nI r292), .int (nI x319)]) (rest := [.ref h0]) hx hb hml hown hq hE hX pX0_al hP hD hS hA hl.1 (R_fits l G h0 a (upd (upd (upd (upd (upd (upd (upd (upd (upd F 15 (nI fa293)) 16 pl294) 44 (nI fd)) 49 (nI md)) 73 (nI sc)) 74 (nI k9)) 77 dn295) 78 wt296) 79 wf297) (updA (updA (updA (updA (updA B 14 nc) 17 ty298) 18 mn299) 48 vn) 49 vt) r292 x319 dc (B 31) h302 h321 (by omega) hBI) (gV pw_1790 pw_1791 pw_1792 pw_1523 pw_1782) hV_X12_fits 0 9 rfl rfl rfl rfl (Nat.le_of_ble_eq_true rfl) dX12_lookCall_140 ⟨Nat.le_of_ble_eq_true rfl, Nat.le_of_ble_eq_true rfl⟩ ⟨(by show 4 + 1 ≤ (4 * z9 + 9); omega), (by show 8 + (3 + 11) + 104 ≤ (160 * z9 + 1360); omega)⟩ (fun v329 u327 H locs hw328 hP hD hS => ?_)
                  obtain rfl : v329 = some (.int (fitF (B 31) r292 x319)) := hw328
                  have hP : va_P G.1 pCl (mW G h0 a (upd (upd (upd (upd (upd (upd (upd (upd (upd F 15 (nI fa293)) 16 pl294) 44 (nI fd)) 49 (nI md)) 73 (nI sc)) 74 (nI k9)) 77 dn295) 78 wt296) 79 wf297) (updA (updA (updA (updA (updA B 14 nc) 17 ty298) 18 mn299) 48 vn) 49 vt)) _ := mW_to (F := F) (l1 := [(15, (nI fa293)), (16, pl294), (44, (nI fd)), (49, (nI md)), (73, (nI sc)), (74, (nI k9)), (77, dn295), (78, wt296), (79, wf297)]) (l2 := [(15, (nI fa293)), (16, pl294), (44, (nI fd)), (49, (nI md)), (73, (nI sc)), (74, (nI k9)), (77, dn295), (78, wt296), (79, wf297)]) (V := [(nI fa293), pl294, (nI fd), (nI md), (nI sc), (nI k9), dn295, wt296, wf297, (nI fa293), pl294, (nI fd), (nI md), (nI sc), (nI k9), dn295, wt296, wf297]) rfl rfl (show (updA (updA (updA (updA (updA (updA B 14 nc) 17 ty298) 18 mn299) 48 vn) 49 vt) 31 (B 31)) = (updA (updA (updA (updA (updA B 14 nc) 17 ty298) 18 mn299) 48 vn) 49 vt) from updsA_eq2 (F := B) (l1 := [(14, nc), (17, ty298), (18, mn299), (48, vn), (49, vt), (31, (B 31))]) (l2 := [(14, nc), (17, ty298), (18, mn299), (48, vn), (49, vt)]) (V := [nc, ty298, mn299, vn, vt, (B 31), nc, ty298, mn299, vn, vt]) rfl rfl) hP
                  have hD : va_D A (mW G h0 a (upd (upd (upd (upd (upd (upd (upd (upd (upd F 15 (nI fa293)) 16 pl294) 44 (nI fd)) 49 (nI md)) 73 (nI sc)) 74 (nI k9)) 77 dn295) 78 wt296) 79 wf297) (updA (updA (updA (updA (updA B 14 nc) 17 ty298) 18 mn299) 48 vn) 49 vt)) := mW_D hD
                  refine W.widen (k := 0) (n := 0) (Nat.le_of_ble_eq_true rfl) (Nat.le_of_ble_eq_true rfl) ?_
                  refine W.eq (g2 := F0 m 143 ls [.int (fitF (B 31) r292 x319), .ref h0]) rfl ?_
                  obtain ⟨b330, e331, h332⟩ : ∃ b : Nat, fitF (B 31) r292 x319 = nI b ∧ b ≤ 1 := by rcases fit_bit (da := B 31) hBI (show r292 ≤ 2050 by omega) (show x319 ≤ 2050 by omega) (TyC.rg h302 (by omega)) (TyC.rg h321 (by omega)) with z | z; exact ⟨0, z, by omega⟩; exact ⟨1, z, by omega⟩
                  refine lv_topi (fun x333 e334 => ?_)
                  obtain rfl : x333 = nI b330 := e334.trans e331
                  refine lv_bipush (v := 11) hx hb dX12_lookCall_143 (by decide) ?_
                  refine lv_aload_n hx hb dX12_lookCall_145 rfl (lv_at hl 6 rfl) ?_
                  refine r_get (v := .ref (a 10)) hx hb hown hq hE hP 18 41 tFX12_18 (by decide) pw_1440 rfl dX12_lookCall_146 ?_
                  refine lv_iload hx hb dX12_lookCall_149 (lv_at hl 1 rfl) ?_
                  refine r_ldi (f := (B 10)) (j := c146) hx hb hE hP 10 (ma_10 G a _) rfl (by omega) (by decide) dX12_lookCall_151 ?_
                  refine lv_topi (fun x335 e336 => ?_)
                  obtain rfl : x335 = nI t269 := e336.trans e270
                  have hP : va_P G.1 pCl (mW G h0 a (upd (upd (upd (upd (upd (upd (upd (upd (upd (upd F 15 (nI fa293)) 16 pl294) 44 (nI fd)) 49 (nI md)) 73 (nI sc)) 74 (nI k9)) 77 dn295) 78 wt296) 79 wf297) 15 (nI fa293)) (updA (updA (updA (updA (updA B 14 nc) 17 ty298) 18 mn299) 48 vn) 49 vt)) _ := mW_to (F := F) (l1 := [(15, (nI fa293)), (16, pl294), (44, (nI fd)), (49, (nI md)), (73, (nI sc)), (74, (nI k9)), (77, dn295), (78, wt296), (79, wf297)]) (l2 := [(15, (nI fa293)), (16, pl294), (44, (nI fd)), (49, (nI md)), (73, (nI sc)), (74, (nI k9)), (77, dn295), (78, wt296), (79, wf297), (15, (nI fa293))]) (V := [(nI fa293), pl294, (nI fd), (nI md), (nI sc), (nI k9), dn295, wt296, wf297, (nI fa293), pl294, (nI fd), (nI md), (nI sc), (nI k9), dn295, wt296, wf297, (nI fa293)]) rfl rfl rfl hP
                  have hD : va_D A (mW G h0 a (upd (upd (upd (upd (upd (upd (upd (upd (upd (upd F 15 (nI fa293)) 16 pl294) 44 (nI fd)) 49 (nI md)) 73 (nI sc)) 74 (nI k9)) 77 dn295) 78 wt296) 79 wf297) 15 (nI fa293)) (updA (updA (updA (updA (updA B 14 nc) 17 ty298) 18 mn299) 48 vn) 49 vt)) := mW_D hD
                  refine pc_V0 (G := G) (As := [.int (nI b330), .int (nI 11), .int (nI t269)]) (rest := []) hx hb hml hown hq hE hX pX0_al hP hD hS hA hl.1 (R_judgeL l G h0 a (upd (upd (upd (upd (upd (upd (upd (upd (upd F 15 (nI fa293)) 16 pl294) 44 (nI fd)) 49 (nI md)) 73 (nI sc)) 74 (nI k9)) 77 dn295) 78 wt296) 79 wf297) (updA (updA (updA (updA (updA B 14 nc) 17 ty298) 18 mn299) 48 vn) 49 vt) b330 11 t269 fa293 (by omega) (by omega) (by omega) (by omega)) (gV pw_1798 pw_1799 pw_1800 pw_1523 pw_1793) hV_X12_judge 0 9 rfl rfl rfl rfl (Nat.le_of_ble_eq_true rfl) dX12_lookCall_152 ⟨Nat.le_of_ble_eq_true rfl, Nat.le_of_ble_eq_true rfl⟩ ⟨(by show 3 + 1 ≤ (4 * z9 + 9); omega), (by show 8 + (4 + 11) + 82 ≤ (160 * z9 + 1360); omega)⟩ (fun v339 u337 H locs hw338 hP hD hS => ?_)
                  obtain ⟨r340, fa341, pl342⟩ := u337
                  obtain ⟨hw338, h343, h344, h345, h346, h347, h348, h349⟩ := hw338
                  replace h343 : r340 ≤ 1 := h343
                  replace h344 : fa293 ≤ fa341 := h344
                  replace h345 : fa341 ≤ 15 := h345
                  replace h346 : fa341 + 15 * r340 ≤ 15 := h346
                  replace h347 : 1 ≤ r340 + fa341 := h347
                  replace h348 : 1 ≤ b330 + fa341 := h348
                  replace h349 : fa341 ≤ fa293 + 15 * (1 - b330) := h349
                  obtain rfl : v339 = some (.int (nI r340)) := hw338
                  have hP : va_P G.1 pCl (mW G h0 a (upd (upd (upd (upd (upd (upd (upd (upd (upd F 15 (nI fa341)) 16 pl342) 44 (nI fd)) 49 (nI md)) 73 (nI sc)) 74 (nI k9)) 77 dn295) 78 wt296) 79 wf297) (updA (updA (updA (updA (updA B 14 nc) 17 ty298) 18 mn299) 48 vn) 49 vt)) _ := mW_to (F := F) (l1 := [(15, (nI fa293)), (16, pl294), (44, (nI fd)), (49, (nI md)), (73, (nI sc)), (74, (nI k9)), (77, dn295), (78, wt296), (79, wf297), (15, (nI fa341)), (16, pl342)]) (l2 := [(15, (nI fa341)), (16, pl342), (44, (nI fd)), (49, (nI md)), (73, (nI sc)), (74, (nI k9)), (77, dn295), (78, wt296), (79, wf297)]) (V := [(nI fa341), pl342, (nI fd), (nI md), (nI sc), (nI k9), dn295, wt296, wf297, (nI fa341), pl342, (nI fa341), pl342, (nI fd), (nI md), (nI sc), (nI k9), dn295, wt296, wf297]) rfl rfl rfl hP
                  have hD : va_D A (mW G h0 a (upd (upd (upd (upd (upd (upd (upd (upd (upd F 15 (nI fa341)) 16 pl342) 44 (nI fd)) 49 (nI md)) 73 (nI sc)) 74 (nI k9)) 77 dn295) 78 wt296) 79 wf297) (updA (updA (updA (updA (updA B 14 nc) 17 ty298) 18 mn299) 48 vn) 49 vt)) := mW_D hD
                  refine W.widen (k := 0) (n := 0) (Nat.le_of_ble_eq_true rfl) (Nat.le_of_ble_eq_true rfl) ?_
                  refine W.eq (g2 := F0 m 155 ls [.int (nI r340)]) rfl ?_
                  refine lv_pop hx hb dX12_lookCall_155 rfl ?_
                  refine lv_iinc (v := (nI (i2 + 1))) (lv' := [(4, .int (nI (i2 + 1))), (6, .int (nI r292)), (5, .int (nI c146)), (3, .int (nI mm2)), (2, .int (nI kq)), (1, .int (nI n9)), (0, .ref h0)]) hx hb dX12_lookCall_156 hl (k := 2) rfl (nI_1 i2) (by decide) rfl (fun ls hl => ?_)
                  refine lv_aload_n hx hb dX12_lookCall_159 rfl (lv_at hl 6 rfl) ?_
                  refine r_get (v := .ref (a 16)) hx hb hown hq hE hP 24 59 tFX12_24 (by decide) pw_1446 rfl dX12_lookCall_160 ?_
                  refine lv_iload hx hb dX12_lookCall_163 (lv_at hl 2 rfl) ?_
                  refine r_ldi (f := (B 16)) (j := c146) hx hb hE hP 16 (ma_16 G a _) rfl (by omega) (by decide) dX12_lookCall_165 ?_
                  refine lv_topi (fun x350 e351 => ?_)
                  obtain rfl : x350 = itr (B 16) (B 13 n9) (i2 + 1) := e351.trans (itr_s e147 (by omega)).symm
                  refine lv_istore (lv' := [(5, .int (itr (B 16) (B 13 n9) (i2 + 1))), (4, .int (nI (i2 + 1))), (6, .int (nI r292)), (3, .int (nI mm2)), (2, .int (nI kq)), (1, .int (nI n9)), (0, .ref h0)]) hx hb dX12_lookCall_166 hl (by decide) rfl (fun ls hl => ?_)
                  refine lv_goto (tgt := 62) hx hb dX12_lookCall_168 (by decide) ?_
                  have hP : va_P G.1 pCl (mW G h0 a (upd (upd (upd (upd (upd (upd (upd (upd (upd F 15 (nI fa341)) 16 pl342) 44 (nI fd)) 49 (nI md)) 73 (nI sc)) 74 (nI k9)) 77 dn295) 78 wt296) 79 wf297) (updA (updA (updA (updA (updA B 14 nc) 17 ty298) 18 mn299) 48 vn) 49 vt)) _ := hP
                  have hD : va_D A (mW G h0 a (upd (upd (upd (upd (upd (upd (upd (upd (upd F 15 (nI fa341)) 16 pl342) 44 (nI fd)) 49 (nI md)) 73 (nI sc)) 74 (nI k9)) 77 dn295) 78 wt296) 79 wf297) (updA (updA (updA (updA (updA B 14 nc) 17 ty298) 18 mn299) 48 vn) 49 vt)) := mW_D hD
                  exact ih_o (i2 + 1) fa341 mm2 q2 p2 pl342 dn295 wt296 wf297 ty298 mn299 _ _ _ (by omega) (by omega) (by omega) (by omega) (by omega) (by omega) (by omega) he1 he2 haq2 hch308 h305 hme309 (fun e => TyL.succ hF (by omega) hn9 hkd (by omega) (by omega) hv13 (hy2 (by omega)) (by omega) e147 h304 (h306 (by omega))) (fun e => ArgP.succ hF (by omega) hn9 hkd (by omega) (by omega) hv13 (ha2 (by omega)) h150 e147 h304 (by rw [h307, show ytF B (p2 + i2) = nI x319 by unfold ytF; rw [e315, nI_cl (by omega), e320]]; exact Fit.of (e331.trans (by rw [show b330 = 1 by omega]; rfl)) (by omega) (by omega))) hP hD hS (lv_sub hl [0, 1, 3, 4, 5, 6] rfl)
                · have n352 : r277 = 0 := (nI_eq (a := r277) (b := 0) (by omega) (by omega)).mp c287
                  refine lv_iconst (v := 1) hx hb dX12_lookCall_107 (by decide) ?_
                  have hz353 : fa ≤ fa278 := (by omega)
                  have hz354 : fa278 ≤ 15 := (by omega)
                  have hz355 : TyC dc 1 := (by unfold TyC; omega)
                  have hz356 : 1 ≤ 2050 := (by omega)
                  have hz357 : ChLr B nd n9 ty ty2 mn mn2 := hch2
                  have hz358 : mnN B nd mn2 := hmn2
                  have hz359 : If (fa278 = 0) ((∀ z c : Nat, c < 20000 → itr (B 16) (B 13 n9) z = nI c → Typ B dc fd md nd ty2 mn2 vt sc k9 c) ∧ CalP B ty2 mn2 dc md nd kq n9 (nI 1)) := (fun e => absurd e (by omega))
                  have hP : va_P G.1 pCl (mW G h0 a (upd (upd (upd (upd (upd (upd (upd (upd (upd F 15 (nI fa278)) 16 pl279) 44 (nI fd)) 49 (nI md)) 73 (nI sc)) 74 (nI k9)) 77 dn2) 78 wt2) 79 wf2) (updA (updA (updA (updA (updA B 14 nc) 17 ty2) 18 mn2) 48 vn) 49 vt)) _ := hP
                  have hD : va_D A (mW G h0 a (upd (upd (upd (upd (upd (upd (upd (upd (upd F 15 (nI fa278)) 16 pl279) 44 (nI fd)) 49 (nI md)) 73 (nI sc)) 74 (nI k9)) 77 dn2) 78 wt2) 79 wf2) (updA (updA (updA (updA (updA B 14 nc) 17 ty2) 18 mn2) 48 vn) 49 vt)) := mW_D hD
                  exact W.iret (v := 1) hx hb hr (fun t9 ht9 hW9 => ⟨⟨_, (1, fa278, pl279, dn2, wt2, wf2, ty2, mn2), rfl, ⟨rfl, hz353, hz354, hz355, hz356, hz357, hz358, hz359⟩, by rw [ht9]; exact hP, hD⟩, hS.F ht9⟩) hS.2.2 dX12_lookCall_108
      have hP : va_P G.1 pCl (mW G h0 a (upd (upd (upd (upd (upd (upd (upd (upd (upd F 15 (nI fa53)) 16 pl54) 44 (nI fd)) 49 (nI md)) 73 (nI sc)) 74 (nI k9)) 77 dn) 78 wt) 79 wf) (updA (updA (updA (updA (updA B 14 nc) 17 ty) 18 (upd mn n9 (nI mm36))) 48 vn) 49 vt)) _ := mW_to (F := F) (l1 := [(15, (nI fa53)), (16, pl54), (44, (nI fd)), (49, (nI md)), (73, (nI sc)), (74, (nI k9)), (77, dn), (78, wt), (79, wf)]) (l2 := [(15, (nI fa53)), (16, pl54), (44, (nI fd)), (49, (nI md)), (73, (nI sc)), (74, (nI k9)), (77, dn), (78, wt), (79, wf)]) (V := [(nI fa53), pl54, (nI fd), (nI md), (nI sc), (nI k9), dn, wt, wf, (nI fa53), pl54, (nI fd), (nI md), (nI sc), (nI k9), dn, wt, wf]) rfl rfl (show (updA (updA (updA (updA (updA (updA B 14 nc) 17 ty) 18 mn) 48 vn) 49 vt) 18 (upd mn n9 (nI mm36))) = (updA (updA (updA (updA (updA B 14 nc) 17 ty) 18 (upd mn n9 (nI mm36))) 48 vn) 49 vt) from updsA_eq2 (F := B) (l1 := [(14, nc), (17, ty), (18, mn), (48, vn), (49, vt), (18, (upd mn n9 (nI mm36)))]) (l2 := [(14, nc), (17, ty), (18, (upd mn n9 (nI mm36))), (48, vn), (49, vt)]) (V := [nc, ty, (upd mn n9 (nI mm36)), vn, vt, (upd mn n9 (nI mm36)), nc, ty, (upd mn n9 (nI mm36)), vn, vt]) rfl rfl) hP
      have hD : va_D A (mW G h0 a (upd (upd (upd (upd (upd (upd (upd (upd (upd F 15 (nI fa53)) 16 pl54) 44 (nI fd)) 49 (nI md)) 73 (nI sc)) 74 (nI k9)) 77 dn) 78 wt) 79 wf) (updA (updA (updA (updA (updA B 14 nc) 17 ty) 18 (upd mn n9 (nI mm36))) 48 vn) 49 vt)) := mW_D hD
      exact loop_o (8 + 1) 0 fa53 mm36 q42 p41 pl54 dn wt wf ty (upd mn n9 (nI mm36)) _ _ _ (by omega) (by omega) (by omega) (by omega) (by omega) (by omega) (by omega) e44 e43 haq hch64 hmn65 upd_eq (fun _ => TyL.zero) (fun _ => ArgP.zero) hP hD hS (lv_sub hl [0, 1, 2, 5, 4, 3] rfl)
    · have n360 : r52 = 0 := (nI_eq (a := r52) (b := 0) (by omega) (by omega)).mp c62
      refine lv_iconst (v := 1) hx hb dX12_lookCall_42 (by decide) ?_
      have hz361 : fa ≤ fa53 := (by omega)
      have hz362 : fa53 ≤ 15 := (by omega)
      have hz363 : TyC dc 1 := (by unfold TyC; omega)
      have hz364 : 1 ≤ 2050 := (by omega)
      have hz365 : ChLr B nd n9 ty ty mn mn := ChLr.rfl
      have hz366 : mnN B nd mn := hmn
      have hz367 : If (fa53 = 0) ((∀ z c : Nat, c < 20000 → itr (B 16) (B 13 n9) z = nI c → Typ B dc fd md nd ty mn vt sc k9 c) ∧ CalP B ty mn dc md nd kq n9 (nI 1)) := (fun e => absurd e (by omega))
      have hP : va_P G.1 pCl (mW G h0 a (upd (upd (upd (upd (upd (upd (upd (upd (upd F 15 (nI fa53)) 16 pl54) 44 (nI fd)) 49 (nI md)) 73 (nI sc)) 74 (nI k9)) 77 dn) 78 wt) 79 wf) (updA (updA (updA (updA (updA B 14 nc) 17 ty) 18 mn) 48 vn) 49 vt)) _ := hP
      have hD : va_D A (mW G h0 a (upd (upd (upd (upd (upd (upd (upd (upd (upd F 15 (nI fa53)) 16 pl54) 44 (nI fd)) 49 (nI md)) 73 (nI sc)) 74 (nI k9)) 77 dn) 78 wt) 79 wf) (updA (updA (updA (updA (updA B 14 nc) 17 ty) 18 mn) 48 vn) 49 vt)) := mW_D hD
      exact W.iret (v := 1) hx hb hr (fun t9 ht9 hW9 => ⟨⟨_, (1, fa53, pl54, dn, wt, wf, ty, mn), rfl, ⟨rfl, hz361, hz362, hz363, hz364, hz365, hz366, hz367⟩, by rw [ht9]; exact hP, hD⟩, hS.F ht9⟩) hS.2.2 dX12_lookCall_43
