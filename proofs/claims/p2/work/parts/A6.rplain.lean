section M26
theorem nodup_lt : ∀ (N : Nat) (l : List Nat), l.Nodup → (∀ x, x ∈ l → x < N) → l.length ≤ N := by
  intro N
  induction N with
  | zero =>
    intro l _ h
    cases l with
    | nil => exact Nat.le_refl _
    | cons a t => exact absurd (h a (List.mem_cons_self)) (by omega)
  | succ N ih =>
    intro l hn h
    have h1 := ih (l.erase N) (hn.erase N) (fun x hx => by
      have h2 := (hn.mem_erase_iff).mp hx
      have h3 := h x h2.2
      have h4 := h2.1
      omega)
    have h5 : (l.erase N).length = if N ∈ l then l.length - 1 else l.length := List.length_erase
    split at h5 <;> omega
theorem cfF_len {X : Nat → Nat → Int32} {k : Nat} : ∀ n : Nat, ((List.range n).filter (fun f => owF X k f)).length = cfF X k n := by
  intro n
  induction n with
  | zero => rfl
  | succ n ih =>
    rw [List.range_succ, List.filter_append, List.length_append, ih]
    show _ = cfF X k n + _
    by_cases h : owF X k n = true
    · rw [if_pos h, List.filter_cons_of_pos h]; rfl
    · rw [if_neg h, List.filter_cons_of_neg h]; rfl
theorem fpl_onto {X : Nat → Nat → Int32} {dc fd k p : Nat} (P : PrF X dc fd) (hk : k < dc) (ik : X 26 k = 0) (hp : p < cfF X k fd) : ∃ f : Nat, f < fd ∧ owF X k f = true ∧ fplF X fd f = p := by
  refine Classical.byContradiction fun hn => ?_
  have hall : ∀ f : Nat, f < fd → owF X k f = true → ¬ fplF X fd f = p := fun f h1 h2 h3 => hn ⟨f, h1, h2, h3⟩
  have hmem : ∀ f : Nat, f ∈ (List.range fd).filter (fun f => owF X k f) → f < fd ∧ owF X k f = true := fun f h => by
    have z := List.mem_filter.mp h
    exact ⟨List.mem_range.mp z.1, z.2⟩
  have hlen := cfF_len (X := X) (k := k) fd
  generalize hL : (List.range fd).filter (fun f => owF X k f) = L at hmem hlen
  have hnd : L.Nodup := by rw [← hL]; exact (List.nodup_range).sublist (List.filter_sublist)
  have hmap : ∀ t : List Nat, t.Nodup → (∀ f, f ∈ t → f < fd ∧ owF X k f = true) → (t.map (fplF X fd)).Nodup := by
    intro t
    induction t with
    | nil => intro _ _; exact List.nodup_nil
    | cons a t ih =>
      intro h1 h2
      have h3 := List.nodup_cons.mp h1
      refine List.nodup_cons.mpr ⟨fun hm => ?_, ih h3.2 (fun f hf => h2 f (List.mem_cons_of_mem _ hf))⟩
      obtain ⟨b, hb, eb⟩ := List.mem_map.mp hm
      have ha := h2 a List.mem_cons_self
      have hb2 := h2 b (List.mem_cons_of_mem _ hb)
      by_cases e : a = b
      · exact h3.1 (e ▸ hb)
      · exact (fplF_ne P.1 P.2.1 P.2.2.1 P.2.2.2.1 hk ik ha.1 hb2.1 ha.2 hb2.2 e).1 eb.symm
  have h5 := nodup_lt (cfF X k fd) (p :: L.map (fplF X fd)) (List.nodup_cons.mpr ⟨fun hm => by
    obtain ⟨b, hb, eb⟩ := List.mem_map.mp hm
    have z := hmem b hb
    exact hall b z.1 z.2 eb, hmap L hnd hmem⟩) (fun x hx => by
      rcases List.mem_cons.mp hx with e | e
      · omega
      · obtain ⟨b, hb, eb⟩ := List.mem_map.mp e
        have z := hmem b hb
        have z2 := P.lt hk z.1 z.2
        omega)
  rw [List.length_cons, List.length_map] at h5
  omega
variable {Xs Y : Nat → Nat → Int32} {gh : Nat → Nat → Nat} {nd T nm wr lz dc fd md pr bk : Nat} {M : MTb} {on idn fl rmm ct : Nat} {v : Int32}
theorem Thr.got (P : Pg Xs Y gh nd T nm wr lz dc fd md pr bk M) (H : Hp Xs Y dc fd on idn fl rmm ct) (h : Thr Y on dc v) : ∃ x k : Nat, v = nI x ∧ 1 ≤ x ∧ clF (Y 55) x = nI k ∧ k < dc ∧ ((4001 ≤ x ∧ x ≤ 4006) ∨ (x ≤ 3000 ∧ ∃ q p : Nat, Y 57 (x - 1) = nI q ∧ q ≤ 620 ∧ Y 58 (x - 1) = nI p ∧ p ≤ 3000 ∧ (∀ j : Nat, j < q → ∃ f : Nat, f < fd ∧ owF Xs k f = true ∧ fplF Xs fd f = j))) := by
  obtain ⟨x, k, e1, e2, e3, e4, e5⟩ := h
  refine ⟨x, k, e1, e2, e4, e5, ?_⟩
  rcases e3 with ⟨h1, h2⟩ | h1
  · have b := P.bd
    have z := H.2.2 (x - 1) (by omega) h2
    rw [clF, if_neg (by omega)] at e4
    rcases z with ⟨z1, _⟩ | ⟨k2, p, z1, z2, z3, z4, z5, z6, z7⟩
    · exact absurd (z1.symm.trans e4).symm (nI_m1 (by omega))
    · obtain rfl : k2 = k := (nI_eq (by omega) (by omega)).mp (z1.symm.trans e4)
      exact Or.inr ⟨h1, cfF Xs k2 fd, p, z4, Nat.le_trans (cfF_le fd) (by omega), z5, z6, fun j hj => fpl_onto P.prf e5 z3 hj⟩
  · exact Or.inl h1
end M26
theorem isin_m {x : Int32} {n : Nat} (hn : n < 2 ^ 30) (h : ¬ isin x 0 (nI n - 1) = 0) : ∃ k : Nat, x = nI k ∧ k < n := by
  obtain ⟨k, rfl, hk⟩ := nI_nn2 (isin_0 h)
  refine ⟨k, rfl, ?_⟩
  have h2 : ¬ (nI n - 1) < nI k := fun q => h (if_pos (Or.inr q))
  rcases Nat.eq_zero_or_pos n with z | z
  · subst z
    refine absurd ?_ h2
    rw [Int32.lt_iff_toInt_lt, nI_toInt (by omega)]
    have z2 : (nI 0 - 1).toInt = -1 := by decide
    omega
  · rw [show (1 : Int32) = nI 1 from rfl, nI_subN z] at h2
    have := fun q => h2 ((nI_ltI (a := n - 1) (b := k) (by omega) (by omega)).mpr q)
    omega
theorem isin_k {k n : Nat} (h : k < n ∧ n < 2 ^ 30) : isin (nI k) 0 (nI n - 1) = 1 := by
  unfold isin
  rw [show (1 : Int32) = nI 1 from rfl, nI_subN (by omega), if_neg (fun q => ?_)]
  rcases q with q | q
  · have := (nI_ltI (a := k) (b := 0) (by omega) (by omega)).mp q; omega
  · have := (nI_ltI (a := n - 1) (b := k) (by omega) (by omega)).mp q; omega
theorem dX12_type_0 : decode cX12_type 0 = .ok (.aload_n 0, 1) := by decide +kernel
theorem dX12_type_1 : decode cX12_type 1 = .ok (.iconst 0, 1) := by decide +kernel
theorem dX12_type_2 : decode cX12_type 2 = .ok (.putfield 252, 3) := by decide +kernel
theorem dX12_type_5 : decode cX12_type 5 = .ok (.aload_n 0, 1) := by decide +kernel
theorem dX12_type_6 : decode cX12_type 6 = .ok (.getfield 649, 3) := by decide +kernel
theorem dX12_type_9 : decode cX12_type 9 = .ok (.ifCond .eq 17, 3) := by decide +kernel
theorem dX12_type_26 : decode cX12_type 26 = .ok (.iconst (-1), 1) := by decide +kernel
theorem dX12_type_27 : decode cX12_type 27 = .ok (.ireturn, 1) := by decide +kernel
theorem dX12_type_12 : decode cX12_type 12 = .ok (.iload_n 1, 1) := by decide +kernel
theorem dX12_type_13 : decode cX12_type 13 = .ok (.iconst 0, 1) := by decide +kernel
theorem dX12_type_14 : decode cX12_type 14 = .ok (.aload_n 0, 1) := by decide +kernel
theorem dX12_type_15 : decode cX12_type 15 = .ok (.getfield 384, 3) := by decide +kernel
theorem dX12_type_18 : decode cX12_type 18 = .ok (.iconst 1, 1) := by decide +kernel
theorem dX12_type_19 : decode cX12_type 19 = .ok (.isub, 1) := by decide +kernel
theorem dX12_type_20 : decode cX12_type 20 = .ok (.invokestatic 261, 3) := by decide +kernel
theorem dX12_type_23 : decode cX12_type 23 = .ok (.ifCond .ne 5, 3) := by decide +kernel
theorem dX12_type_28 : decode cX12_type 28 = .ok (.iconst 0, 1) := by decide +kernel
theorem dX12_type_29 : decode cX12_type 29 = .ok (.istore_n 3, 1) := by decide +kernel
theorem dX12_type_30 : decode cX12_type 30 = .ok (.iload_n 2, 1) := by decide +kernel
theorem dX12_type_31 : decode cX12_type 31 = .ok (.tableswitch 277 0 5 #[37, 61, 67, 204, 219, 257], 37) := by decide +kernel
theorem dX12_type_68 : decode cX12_type 68 = .ok (.iload_n 1, 1) := by decide +kernel
theorem dX12_type_69 : decode cX12_type 69 = .ok (.ifCond .eq 12, 3) := by decide +kernel
theorem dX12_type_81 : decode cX12_type 81 = .ok (.iconst (-1), 1) := by decide +kernel
theorem dX12_type_82 : decode cX12_type 82 = .ok (.goto 9, 3) := by decide +kernel
theorem dX12_type_91 : decode cX12_type 91 = .ok (.ireturn, 1) := by decide +kernel
theorem dX12_type_72 : decode cX12_type 72 = .ok (.aload_n 0, 1) := by decide +kernel
theorem dX12_type_73 : decode cX12_type 73 = .ok (.getfield 90, 3) := by decide +kernel
theorem dX12_type_76 : decode cX12_type 76 = .ok (.iload_n 1, 1) := by decide +kernel
theorem dX12_type_77 : decode cX12_type 77 = .ok (.baload, 1) := by decide +kernel
theorem dX12_type_78 : decode cX12_type 78 = .ok (.ifCond .eq 7, 3) := by decide +kernel
theorem dX12_type_85 : decode cX12_type 85 = .ok (.aload_n 0, 1) := by decide +kernel
theorem dX12_type_86 : decode cX12_type 86 = .ok (.getfield 99, 3) := by decide +kernel
theorem dX12_type_89 : decode cX12_type 89 = .ok (.iload_n 1, 1) := by decide +kernel
theorem dX12_type_90 : decode cX12_type 90 = .ok (.iaload, 1) := by decide +kernel
theorem dX12_type_92 : decode cX12_type 92 = .ok (.aload_n 0, 1) := by decide +kernel
theorem dX12_type_93 : decode cX12_type 93 = .ok (.iload_n 1, 1) := by decide +kernel
theorem dX12_type_94 : decode cX12_type 94 = .ok (.invokevirtual 680, 3) := by decide +kernel
theorem dX12_type_97 : decode cX12_type 97 = .ok (.ireturn, 1) := by decide +kernel
theorem dX12_type_98 : decode cX12_type 98 = .ok (.iconst 0, 1) := by decide +kernel
theorem dX12_type_99 : decode cX12_type 99 = .ok (.istore 4, 2) := by decide +kernel
theorem dX12_type_101 : decode cX12_type 101 = .ok (.iload 4, 2) := by decide +kernel
theorem dX12_type_103 : decode cX12_type 103 = .ok (.aload_n 0, 1) := by decide +kernel
theorem dX12_type_104 : decode cX12_type 104 = .ok (.getfield 416, 3) := by decide +kernel
theorem dX12_type_107 : decode cX12_type 107 = .ok (.if_icmp .ge 126, 3) := by decide +kernel
theorem dX12_type_233 : decode cX12_type 233 = .ok (.iload_n 3, 1) := by decide +kernel
theorem dX12_type_234 : decode cX12_type 234 = .ok (.ireturn, 1) := by decide +kernel
theorem dX12_type_110 : decode cX12_type 110 = .ok (.aload_n 0, 1) := by decide +kernel
theorem dX12_type_111 : decode cX12_type 111 = .ok (.getfield 120, 3) := by decide +kernel
theorem dX12_type_114 : decode cX12_type 114 = .ok (.iload 4, 2) := by decide +kernel
theorem dX12_type_116 : decode cX12_type 116 = .ok (.iaload, 1) := by decide +kernel
theorem dX12_type_117 : decode cX12_type 117 = .ok (.iload_n 1, 1) := by decide +kernel
theorem dX12_type_118 : decode cX12_type 118 = .ok (.if_icmp .eq 18, 3) := by decide +kernel
theorem dX12_type_136 : decode cX12_type 136 = .ok (.iconst 1, 1) := by decide +kernel
theorem dX12_type_137 : decode cX12_type 137 = .ok (.goto 4, 3) := by decide +kernel
theorem dX12_type_141 : decode cX12_type 141 = .ok (.istore 5, 2) := by decide +kernel
theorem dX12_type_143 : decode cX12_type 143 = .ok (.iconst 0, 1) := by decide +kernel
theorem dX12_type_144 : decode cX12_type 144 = .ok (.istore 6, 2) := by decide +kernel
theorem dX12_type_146 : decode cX12_type 146 = .ok (.iload 5, 2) := by decide +kernel
theorem dX12_type_148 : decode cX12_type 148 = .ok (.ifCond .eq 66, 3) := by decide +kernel
theorem dX12_type_214 : decode cX12_type 214 = .ok (.iload_n 3, 1) := by decide +kernel
theorem dX12_type_215 : decode cX12_type 215 = .ok (.iload 5, 2) := by decide +kernel
theorem dX12_type_217 : decode cX12_type 217 = .ok (.ifCond .eq 7, 3) := by decide +kernel
theorem dX12_type_224 : decode cX12_type 224 = .ok (.iconst 0, 1) := by decide +kernel
theorem dX12_type_225 : decode cX12_type 225 = .ok (.iadd, 1) := by decide +kernel
theorem dX12_type_226 : decode cX12_type 226 = .ok (.istore_n 3, 1) := by decide +kernel
theorem dX12_type_227 : decode cX12_type 227 = .ok (.iinc 4 1, 3) := by decide +kernel
theorem dX12_type_230 : decode cX12_type 230 = .ok (.goto (-129), 3) := by decide +kernel
theorem dX12_type_220 : decode cX12_type 220 = .ok (.iconst 1, 1) := by decide +kernel
theorem dX12_type_221 : decode cX12_type 221 = .ok (.goto 4, 3) := by decide +kernel
theorem dX12_type_151 : decode cX12_type 151 = .ok (.iload 6, 2) := by decide +kernel
theorem dX12_type_153 : decode cX12_type 153 = .ok (.iload 4, 2) := by decide +kernel
theorem dX12_type_155 : decode cX12_type 155 = .ok (.if_icmp .ge 59, 3) := by decide +kernel
theorem dX12_type_158 : decode cX12_type 158 = .ok (.aload_n 0, 1) := by decide +kernel
theorem dX12_type_159 : decode cX12_type 159 = .ok (.getfield 123, 3) := by decide +kernel
theorem dX12_type_162 : decode cX12_type 162 = .ok (.iload 6, 2) := by decide +kernel
theorem dX12_type_164 : decode cX12_type 164 = .ok (.iaload, 1) := by decide +kernel
theorem dX12_type_165 : decode cX12_type 165 = .ok (.aload_n 0, 1) := by decide +kernel
theorem dX12_type_166 : decode cX12_type 166 = .ok (.getfield 123, 3) := by decide +kernel
theorem dX12_type_169 : decode cX12_type 169 = .ok (.iload 4, 2) := by decide +kernel
theorem dX12_type_171 : decode cX12_type 171 = .ok (.iaload, 1) := by decide +kernel
theorem dX12_type_172 : decode cX12_type 172 = .ok (.if_icmp .ne 29, 3) := by decide +kernel
theorem dX12_type_201 : decode cX12_type 201 = .ok (.iconst 1, 1) := by decide +kernel
theorem dX12_type_202 : decode cX12_type 202 = .ok (.goto 4, 3) := by decide +kernel
theorem dX12_type_206 : decode cX12_type 206 = .ok (.istore 5, 2) := by decide +kernel
theorem dX12_type_208 : decode cX12_type 208 = .ok (.iinc 6 1, 3) := by decide +kernel
theorem dX12_type_211 : decode cX12_type 211 = .ok (.goto (-65), 3) := by decide +kernel
theorem dX12_type_175 : decode cX12_type 175 = .ok (.aload_n 0, 1) := by decide +kernel
theorem dX12_type_176 : decode cX12_type 176 = .ok (.getfield 120, 3) := by decide +kernel
theorem dX12_type_179 : decode cX12_type 179 = .ok (.iload 6, 2) := by decide +kernel
theorem dX12_type_181 : decode cX12_type 181 = .ok (.iaload, 1) := by decide +kernel
theorem dX12_type_182 : decode cX12_type 182 = .ok (.iload_n 1, 1) := by decide +kernel
theorem dX12_type_183 : decode cX12_type 183 = .ok (.if_icmp .eq 22, 3) := by decide +kernel
theorem dX12_type_205 : decode cX12_type 205 = .ok (.iconst 0, 1) := by decide +kernel
theorem dX12_type_186 : decode cX12_type 186 = .ok (.aload_n 0, 1) := by decide +kernel
theorem dX12_type_187 : decode cX12_type 187 = .ok (.aload_n 0, 1) := by decide +kernel
theorem dX12_type_188 : decode cX12_type 188 = .ok (.getfield 120, 3) := by decide +kernel
theorem dX12_type_191 : decode cX12_type 191 = .ok (.iload 6, 2) := by decide +kernel
theorem dX12_type_193 : decode cX12_type 193 = .ok (.iaload, 1) := by decide +kernel
theorem dX12_type_194 : decode cX12_type 194 = .ok (.iload_n 1, 1) := by decide +kernel
theorem dX12_type_195 : decode cX12_type 195 = .ok (.invokevirtual 518, 3) := by decide +kernel
theorem dX12_type_198 : decode cX12_type 198 = .ok (.ifCond .ne 7, 3) := by decide +kernel
theorem dX12_type_121 : decode cX12_type 121 = .ok (.aload_n 0, 1) := by decide +kernel
theorem dX12_type_122 : decode cX12_type 122 = .ok (.aload_n 0, 1) := by decide +kernel
theorem dX12_type_123 : decode cX12_type 123 = .ok (.getfield 120, 3) := by decide +kernel
theorem dX12_type_126 : decode cX12_type 126 = .ok (.iload 4, 2) := by decide +kernel
theorem dX12_type_128 : decode cX12_type 128 = .ok (.iaload, 1) := by decide +kernel
theorem dX12_type_129 : decode cX12_type 129 = .ok (.iload_n 1, 1) := by decide +kernel
theorem dX12_type_130 : decode cX12_type 130 = .ok (.invokevirtual 518, 3) := by decide +kernel
theorem dX12_type_133 : decode cX12_type 133 = .ok (.ifCond .eq 7, 3) := by decide +kernel
theorem dX12_type_140 : decode cX12_type 140 = .ok (.iconst 0, 1) := by decide +kernel
theorem dX12_type_235 : decode cX12_type 235 = .ok (.aload_n 0, 1) := by decide +kernel
theorem dX12_type_236 : decode cX12_type 236 = .ok (.getfield 90, 3) := by decide +kernel
theorem dX12_type_239 : decode cX12_type 239 = .ok (.iload_n 1, 1) := by decide +kernel
theorem dX12_type_240 : decode cX12_type 240 = .ok (.baload, 1) := by decide +kernel
theorem dX12_type_241 : decode cX12_type 241 = .ok (.ifCond .eq 7, 3) := by decide +kernel
theorem dX12_type_248 : decode cX12_type 248 = .ok (.iconst 0, 1) := by decide +kernel
theorem dX12_type_249 : decode cX12_type 249 = .ok (.ireturn, 1) := by decide +kernel
theorem dX12_type_244 : decode cX12_type 244 = .ok (.iconst 1, 1) := by decide +kernel
theorem dX12_type_245 : decode cX12_type 245 = .ok (.goto 4, 3) := by decide +kernel
theorem dX12_type_250 : decode cX12_type 250 = .ok (.iconst 0, 1) := by decide +kernel
theorem dX12_type_251 : decode cX12_type 251 = .ok (.istore 4, 2) := by decide +kernel
theorem dX12_type_253 : decode cX12_type 253 = .ok (.iload 4, 2) := by decide +kernel
theorem dX12_type_255 : decode cX12_type 255 = .ok (.aload_n 0, 1) := by decide +kernel
theorem dX12_type_256 : decode cX12_type 256 = .ok (.getfield 384, 3) := by decide +kernel
theorem dX12_type_259 : decode cX12_type 259 = .ok (.if_icmp .ge 27, 3) := by decide +kernel
theorem dX12_type_286 : decode cX12_type 286 = .ok (.iload_n 3, 1) := by decide +kernel
theorem dX12_type_287 : decode cX12_type 287 = .ok (.ireturn, 1) := by decide +kernel
theorem dX12_type_262 : decode cX12_type 262 = .ok (.iload_n 3, 1) := by decide +kernel
theorem dX12_type_263 : decode cX12_type 263 = .ok (.aload_n 0, 1) := by decide +kernel
theorem dX12_type_264 : decode cX12_type 264 = .ok (.iload 4, 2) := by decide +kernel
theorem dX12_type_266 : decode cX12_type 266 = .ok (.iload_n 1, 1) := by decide +kernel
theorem dX12_type_267 : decode cX12_type 267 = .ok (.invokevirtual 518, 3) := by decide +kernel
theorem dX12_type_270 : decode cX12_type 270 = .ok (.ifCond .eq 7, 3) := by decide +kernel
theorem dX12_type_277 : decode cX12_type 277 = .ok (.iconst 0, 1) := by decide +kernel
theorem dX12_type_278 : decode cX12_type 278 = .ok (.iadd, 1) := by decide +kernel
theorem dX12_type_279 : decode cX12_type 279 = .ok (.istore_n 3, 1) := by decide +kernel
theorem dX12_type_280 : decode cX12_type 280 = .ok (.iinc 4 1, 3) := by decide +kernel
theorem dX12_type_283 : decode cX12_type 283 = .ok (.goto (-30), 3) := by decide +kernel
theorem dX12_type_273 : decode cX12_type 273 = .ok (.iconst 1, 1) := by decide +kernel
theorem dX12_type_274 : decode cX12_type 274 = .ok (.goto 4, 3) := by decide +kernel
theorem dX12_type_288 : decode cX12_type 288 = .ok (.aload_n 0, 1) := by decide +kernel
theorem dX12_type_289 : decode cX12_type 289 = .ok (.getfield 90, 3) := by decide +kernel
theorem dX12_type_292 : decode cX12_type 292 = .ok (.iload_n 1, 1) := by decide +kernel
theorem dX12_type_293 : decode cX12_type 293 = .ok (.baload, 1) := by decide +kernel
theorem dX12_type_294 : decode cX12_type 294 = .ok (.ifCond .eq 7, 3) := by decide +kernel
theorem dX12_type_301 : decode cX12_type 301 = .ok (.aload_n 0, 1) := by decide +kernel
theorem dX12_type_302 : decode cX12_type 302 = .ok (.getfield 102, 3) := by decide +kernel
theorem dX12_type_305 : decode cX12_type 305 = .ok (.iload_n 1, 1) := by decide +kernel
theorem dX12_type_306 : decode cX12_type 306 = .ok (.iaload, 1) := by decide +kernel
theorem dX12_type_307 : decode cX12_type 307 = .ok (.ireturn, 1) := by decide +kernel
theorem dX12_type_297 : decode cX12_type 297 = .ok (.iconst (-1), 1) := by decide +kernel
theorem dX12_type_298 : decode cX12_type 298 = .ok (.goto 9, 3) := by decide +kernel
theorem dX12_type_308 : decode cX12_type 308 = .ok (.iconst (-1), 1) := by decide +kernel
theorem dX12_type_309 : decode cX12_type 309 = .ok (.ireturn, 1) := by decide +kernel
set_option maxHeartbeats 20000000 in
set_option maxRecDepth 100000 in
/-- type(k, what) -/
theorem R_type (l : Launch) (G : pT) (h0 : Nat) (a : Nat → Nat) (F : Nat → Int32) (B : Nat → Nat → Int32) (Xs : Nat → Nat → Int32) (gh : Nat → Nat → Nat) (nd : Nat) (T : Nat) (nm : Nat) (wr : Nat) (lz : Nat) (dc : Nat) (fd : Nat) (md : Nat) (pr : Nat) (bk : Nat) (M : MTb) (hp : Int32) (kq : Int32) (wq : Int32) (hpg : If (¬ hp = 0) (Pg Xs B gh nd T nm wr lz dc fd md pr bk M)) : PM l G pX0 yX12_type cX12_type 7 (some .int) ({ frames := 4, cells := 0, slots := 0, locals := 105 }) [.ref h0, .int kq, .int wq] (mW G h0 a (upd (upd (upd (upd (upd F 35 (nI dc)) 44 (nI fd)) 49 (nI md)) 59 (nI bk)) 82 hp) B) (fun (v : Option Value) (u : Int32) => v = some (.int u)) (fun u => (mW G h0 a (upd (upd (upd (upd (upd (upd F 0 0) 35 (nI dc)) 44 (nI fd)) 49 (nI md)) 59 (nI bk)) 82 hp) B)) := by
  intro sz
  refine Met.ofW (cc := cX12_type) (maxL := 7) (ret := (some .int)) (by decide) rfl ?_
  intro p e s m args below meth c s₁ B9 hml hv
  obtain ⟨rfl, hsz, hP, hD0, hE, hX⟩ := hv
  have hx := B9.exec
  have hb := B9.bytes
  have hr := B9.returns
  have hts := atoms_spec (ws := Cond.code yX12_type cX12_type 7 (some .int) :: pw) B9.pre
  have hq : ∀ w ∈ pw, w.before _ s = true := fun w h => hts w (List.mem_cons_of_mem _ h)
  have hown : s.vm.findClass RX12 = some m.cls := findClass_of_methodNamed B9.named
  have hlocks := B9.notSynchronized
  subst hsz
  have hD := hD0.self (sz := s.heap.size)
  have hA : ∀ q : Nat, s.heap.size ≤ q → va_A (mW G h0 a (upd (upd (upd (upd (upd F 35 (nI dc)) 44 (nI fd)) 49 (nI md)) 59 (nI bk)) 82 hp) B) s.heap.size q := fun q h => Or.inr h
  have hP : va_P G.1 pCl (mW G h0 a (upd (upd (upd (upd (upd F 35 (nI dc)) 44 (nI fd)) 49 (nI md)) 59 (nI bk)) 82 hp) B) s.heap := hP
  generalize va_A (mW G h0 a (upd (upd (upd (upd (upd F 35 (nI dc)) 44 (nI fd)) 49 (nI md)) 59 (nI bk)) 82 hp) B) s.heap.size = A at hD hE hA ⊢
  have hS : va_S A s.heap s.heap [] := va_S.rf
  have hl := lv_entry ([.ref h0, .int kq, .int wq]) (n := 7) (Nat.le_of_ble_eq_true rfl)
  rw [lg_entry_eq]
  generalize (lg_sl ([.ref h0, .int kq, .int wq]) ++ List.replicate (7 - (lg_sl ([.ref h0, .int kq, .int wq])).length) Slot.unset).toArray = ls at hl ⊢
  have hl : lv_has ls 7 [(0, .ref h0), (1, .int kq), (2, .int wq)] := hl
  refine lv_aload_n hx hb dX12_type_0 rfl (lv_at hl 0 rfl) ?_
  refine lv_iconst (v := 0) hx hb dX12_type_1 (by decide) ?_
  refine r_put (v := 0) (ty := .int) hx hb hown hq hE hP hD hS 0 252 tFX12_0 (by decide) pw_1515 (by decide) rfl rfl (ms_0 a _ _) dX12_type_2 (fun H locs hP hD hS => ?_)
  refine lv_aload_n hx hb dX12_type_5 rfl (lv_at hl 0 rfl) ?_
  refine r_get (v := .int hp) hx hb hown hq hE hP 82 649 tFX12_82 (by decide) pw_1922 rfl dX12_type_6 ?_
  refine lv_if_eq (tgt := 26) hx hb dX12_type_9 (by decide) (fun c1 => ?_) (fun c1 => ?_)
  · refine lv_iconst (v := (-1)) hx hb dX12_type_26 (by decide) ?_
    have hP : va_P G.1 pCl (mW G h0 a (upd (upd (upd (upd (upd (upd F 0 0) 35 (nI dc)) 44 (nI fd)) 49 (nI md)) 59 (nI bk)) 82 hp) B) _ := hP
    have hD : va_D A (mW G h0 a (upd (upd (upd (upd (upd (upd F 0 0) 35 (nI dc)) 44 (nI fd)) 49 (nI md)) 59 (nI bk)) 82 hp) B) := hD
    exact W.iret (v := (-1)) hx hb hr (fun t9 ht9 hW9 => ⟨⟨_, ((-1) : Int32), rfl, rfl, by rw [ht9]; exact hP, hD⟩, hS.F ht9⟩) hS.2.2 dX12_type_27
  · have hPg := hpg c1
    have hbd := hPg.bd
    have hw31 : B 31 = Xs 31 := hPg.row 31 (by omega) (by omega) (by omega) (by omega) (by omega)
    have hw32 : B 32 = Xs 32 := hPg.row 32 (by omega) (by omega) (by omega) (by omega) (by omega)
    have hw36 : B 36 = Xs 36 := hPg.row 36 (by omega) (by omega) (by omega) (by omega) (by omega)
    have hw26 : B 26 = Xs 26 := hPg.row 26 (by omega) (by omega) (by omega) (by omega) (by omega)
    have hw29 : B 29 = Xs 29 := hPg.row 29 (by omega) (by omega) (by omega) (by omega) (by omega)
    have hw30 : B 30 = Xs 30 := hPg.row 30 (by omega) (by omega) (by omega) (by omega) (by omega)
    have hfb := hPg.ab.1
    refine lv_iload_n hx hb dX12_type_12 rfl (lv_at hl 1 rfl) ?_
    refine lv_iconst (v := 0) hx hb dX12_type_13 (by decide) ?_
    refine lv_aload_n hx hb dX12_type_14 rfl (lv_at hl 0 rfl) ?_
    refine r_get (v := .int (nI dc)) hx hb hown hq hE hP 35 384 tFX12_35 (by decide) pw_1732 rfl dX12_type_15 ?_
    refine lv_iconst (v := 1) hx hb dX12_type_18 (by decide) ?_
    refine lv_isub hx hb dX12_type_19 ?_
    refine lv_topi (fun x2 e3 => ?_)
    refine pc_SN (G := G) (As := [.int kq, .int 0, .int x2]) (rest := []) hx hb hml hown hq hE hX pX0_al hP hS hA hl.1 (s_in l G kq 0 x2) (gS pw_1521 pw_1522 pw_1523 pw_1513) hS_X12_in rfl (Nat.le_of_ble_eq_true rfl) dX12_type_20 ⟨Nat.le_of_ble_eq_true rfl, Nat.le_of_ble_eq_true rfl⟩ ⟨Nat.le_of_ble_eq_true rfl, Nat.le_of_ble_eq_true rfl⟩ (fun v6 u4 H locs hw5 hP hS => ?_)
    obtain rfl : v6 = some (.int (isin kq 0 x2)) := hw5
    refine W.widen (k := 0) (n := 0) (Nat.le_of_ble_eq_true rfl) (Nat.le_of_ble_eq_true rfl) ?_
    refine W.eq (g2 := F0 m 23 ls [.int (isin kq 0 x2)]) rfl ?_
    refine lv_if_ne (tgt := 28) hx hb dX12_type_23 (by decide) (fun c7 => ?_) (fun c7 => ?_)
    · obtain ⟨k9, hkk9, hlk9⟩ := isin_m (by omega) c7
      subst hkk9
      have hP : va_P G.1 pCl (mW G h0 a (upd (upd (upd (upd (upd (upd F 0 0) 35 (nI dc)) 44 (nI fd)) 49 (nI md)) 59 (nI bk)) 82 hp) B) _ := hP
      have hD : va_D A (mW G h0 a (upd (upd (upd (upd (upd (upd F 0 0) 35 (nI dc)) 44 (nI fd)) 49 (nI md)) 59 (nI bk)) 82 hp) B) := hD
      refine lv_iconst (v := 0) hx hb dX12_type_28 (by decide) ?_
      refine lv_istore_n (lv' := [(3, .int 0), (0, .ref h0), (1, .int (nI k9)), (2, .int wq)]) hx hb dX12_type_29 rfl hl (by decide) rfl (fun ls hl => ?_)
      refine lv_iload_n hx hb dX12_type_30 rfl (lv_at hl 3 rfl) ?_
      by_cases h8 : wq = 0
      · subst h8
        refine lv_tableIn (tgt := 68) (off := 37) hx hb dX12_type_31 (by decide) (by decide) (by decide) (by decide) ?_
        refine lv_iload_n hx hb dX12_type_68 rfl (lv_at hl 2 rfl) ?_
        refine lv_if_eq (tgt := 81) hx hb dX12_type_69 (by decide) (fun c9 => ?_) (fun c9 => ?_)
        · have n10 : k9 = 0 := (nI_eq (a := k9) (b := 0) (by omega) (by omega)).mp c9
          refine lv_iconst (v := (-1)) hx hb dX12_type_81 (by decide) ?_
          refine lv_goto (tgt := 91) hx hb dX12_type_82 (by decide) ?_
          have hP : va_P G.1 pCl (mW G h0 a (upd (upd (upd (upd (upd (upd F 0 0) 35 (nI dc)) 44 (nI fd)) 49 (nI md)) 59 (nI bk)) 82 hp) B) _ := hP
          have hD : va_D A (mW G h0 a (upd (upd (upd (upd (upd (upd F 0 0) 35 (nI dc)) 44 (nI fd)) 49 (nI md)) 59 (nI bk)) 82 hp) B) := hD
          exact W.iret (v := (-1)) hx hb hr (fun t9 ht9 hW9 => ⟨⟨_, ((-1) : Int32), rfl, rfl, by rw [ht9]; exact hP, hD⟩, hS.F ht9⟩) hS.2.2 dX12_type_91
        · have n11 : ¬ (k9 = 0) := fun h9 => c9 ((nI_eq (a := k9) (b := 0) (by omega) (by omega)).mpr h9)
          refine lv_aload_n hx hb dX12_type_72 rfl (lv_at hl 1 rfl) ?_
          refine r_get (v := .ref (a 26)) hx hb hown hq hE hP 38 90 tFX12_38 (by decide) pw_1457 rfl dX12_type_73 ?_
          refine lv_iload_n hx hb dX12_type_76 rfl (lv_at hl 2 rfl) ?_
          refine r_ldz (f := (B 26)) (j := k9) hx hb hE hP 26 (ma_26 G a _) rfl (by omega) (by decide) dX12_type_77 ?_
          refine lv_if_eq (tgt := 85) hx hb dX12_type_78 (by decide) (fun c12 => ?_) (fun c12 => ?_)
          · refine lv_aload_n hx hb dX12_type_85 rfl (lv_at hl 1 rfl) ?_
            refine r_get (v := .ref (a 29)) hx hb hown hq hE hP 41 99 tFX12_41 (by decide) pw_1460 rfl dX12_type_86 ?_
            refine lv_iload_n hx hb dX12_type_89 rfl (lv_at hl 2 rfl) ?_
            refine r_ldi (f := (B 29)) (j := k9) hx hb hE hP 29 (ma_29 G a _) rfl (by omega) (by decide) dX12_type_90 ?_
            have hP : va_P G.1 pCl (mW G h0 a (upd (upd (upd (upd (upd (upd F 0 0) 35 (nI dc)) 44 (nI fd)) 49 (nI md)) 59 (nI bk)) 82 hp) B) _ := hP
            have hD : va_D A (mW G h0 a (upd (upd (upd (upd (upd (upd F 0 0) 35 (nI dc)) 44 (nI fd)) 49 (nI md)) 59 (nI bk)) 82 hp) B) := hD
            exact W.iret (v := ((B 29) k9)) hx hb hr (fun t9 ht9 hW9 => ⟨⟨_, ((B 29) k9), rfl, rfl, by rw [ht9]; exact hP, hD⟩, hS.F ht9⟩) hS.2.2 dX12_type_91
          · refine lv_iconst (v := (-1)) hx hb dX12_type_81 (by decide) ?_
            refine lv_goto (tgt := 91) hx hb dX12_type_82 (by decide) ?_
            have hP : va_P G.1 pCl (mW G h0 a (upd (upd (upd (upd (upd (upd F 0 0) 35 (nI dc)) 44 (nI fd)) 49 (nI md)) 59 (nI bk)) 82 hp) B) _ := hP
            have hD : va_D A (mW G h0 a (upd (upd (upd (upd (upd (upd F 0 0) 35 (nI dc)) 44 (nI fd)) 49 (nI md)) 59 (nI bk)) 82 hp) B) := hD
            exact W.iret (v := (-1)) hx hb hr (fun t9 ht9 hW9 => ⟨⟨_, ((-1) : Int32), rfl, rfl, by rw [ht9]; exact hP, hD⟩, hS.F ht9⟩) hS.2.2 dX12_type_91
      by_cases h13 : wq = 1
      · subst h13
        refine lv_tableIn (tgt := 92) (off := 61) hx hb dX12_type_31 (by decide) (by decide) (by decide) (by decide) ?_
        refine lv_aload_n hx hb dX12_type_92 rfl (lv_at hl 1 rfl) ?_
        refine lv_iload_n hx hb dX12_type_93 rfl (lv_at hl 2 rfl) ?_
        have hP : va_P G.1 pCl (mW G h0 a (upd (upd (upd (upd (upd (upd (upd F 0 0) 35 (nI dc)) 44 (nI fd)) 49 (nI md)) 59 (nI bk)) 82 hp) 44 (nI fd)) B) _ := hP
        have hD : va_D A (mW G h0 a (upd (upd (upd (upd (upd (upd (upd F 0 0) 35 (nI dc)) 44 (nI fd)) 49 (nI md)) 59 (nI bk)) 82 hp) 44 (nI fd)) B) := hD
        refine pc_V0 (G := G) (As := [.int (nI k9)]) (rest := []) hx hb hml hown hq hE hX pX0_al hP hD hS hA hl.1 (R_fieldsOf l G h0 a (upd (upd (upd (upd (upd (upd F 0 0) 35 (nI dc)) 44 (nI fd)) 49 (nI md)) 59 (nI bk)) 82 hp) B k9 dc fd (by omega) (by omega) (by omega) (by rw [hw31]; exact hfb) (fun f h => by obtain ⟨⟨d, d1, d2, d3⟩, _⟩ := hPg.ps.2.1 f h; exact ⟨d, by rw [hw32]; exact d1, d3⟩)) (gV pw_1946 pw_1947 pw_1948 pw_1523 pw_1911) hV_X12_fieldsOf 0 9 rfl rfl rfl rfl (Nat.le_of_ble_eq_true rfl) dX12_type_94 ⟨Nat.le_of_ble_eq_true rfl, Nat.le_of_ble_eq_true rfl⟩ ⟨Nat.le_of_ble_eq_true rfl, Nat.le_of_ble_eq_true rfl⟩ (fun v16 u14 H locs hw15 hP hD hS => ?_)
        obtain rfl : v16 = some (.int (nI (cfF B k9 fd))) := hw15
        have hP : va_P G.1 pCl (mW G h0 a (upd (upd (upd (upd (upd (upd F 0 0) 35 (nI dc)) 44 (nI fd)) 49 (nI md)) 59 (nI bk)) 82 hp) B) _ := hP
        have hD : va_D A (mW G h0 a (upd (upd (upd (upd (upd (upd F 0 0) 35 (nI dc)) 44 (nI fd)) 49 (nI md)) 59 (nI bk)) 82 hp) B) := hD
        refine W.widen (k := 0) (n := 0) (Nat.le_of_ble_eq_true rfl) (Nat.le_of_ble_eq_true rfl) ?_
        refine W.eq (g2 := F0 m 97 ls [.int (nI (cfF B k9 fd))]) rfl ?_
        have hP : va_P G.1 pCl (mW G h0 a (upd (upd (upd (upd (upd (upd F 0 0) 35 (nI dc)) 44 (nI fd)) 49 (nI md)) 59 (nI bk)) 82 hp) B) _ := hP
        have hD : va_D A (mW G h0 a (upd (upd (upd (upd (upd (upd F 0 0) 35 (nI dc)) 44 (nI fd)) 49 (nI md)) 59 (nI bk)) 82 hp) B) := hD
        exact W.iret (v := (nI (cfF B k9 fd))) hx hb hr (fun t9 ht9 hW9 => ⟨⟨_, (nI (cfF B k9 fd)), rfl, rfl, by rw [ht9]; exact hP, hD⟩, hS.F ht9⟩) hS.2.2 dX12_type_97
      by_cases h17 : wq = 2
      · subst h17
        refine lv_tableIn (tgt := 98) (off := 67) hx hb dX12_type_31 (by decide) (by decide) (by decide) (by decide) ?_
        refine lv_iconst (v := 0) hx hb dX12_type_98 (by decide) ?_
        refine lv_istore (lv' := [(4, .int 0), (3, .int 0), (0, .ref h0), (1, .int (nI k9)), (2, .int 2)]) hx hb dX12_type_99 hl (by decide) rfl (fun ls hl => ?_)
        have loop_m : ∀ (n_m : Nat) (m2 : Nat) (n2 : Int32) (H : Heap) (locs : List Loc) (ls : Array Slot), m2 ≤ md → md + 1 ≤ m2 + n_m → va_P G.1 pCl (mW G h0 a (upd (upd (upd (upd (upd (upd F 0 0) 35 (nI dc)) 44 (nI fd)) 49 (nI md)) 59 (nI bk)) 82 hp) B) H → va_D A (mW G h0 a (upd (upd (upd (upd (upd (upd F 0 0) 35 (nI dc)) 44 (nI fd)) 49 (nI md)) 59 (nI bk)) 82 hp) B) → va_S A s.heap H locs → lv_has ls 7 [(4, .int (nI m2)), (3, .int n2), (2, .int wq), (1, .int (nI k9)), (0, .ref h0)] → W p l e (headSpec (Cond.code yX12_type cX12_type 7 (some .int) :: pw) ({ frames := 4, cells := 0, slots := 0, locals := 105 } : Room)).room s m ([.ref h0, .int kq, .int wq] : List Value).toArray below meth c H locs 0 0 (MQ below (pQ G A (fun (v : Option Value) (u : Int32) => v = some (.int u)) (fun u => (mW G h0 a (upd (upd (upd (upd (upd (upd F 0 0) 35 (nI dc)) 44 (nI fd)) 49 (nI md)) 59 (nI bk)) 82 hp) B))) ([.ref h0, .int kq, .int wq] : List Value).toArray s ({ frames := 4, cells := 0, slots := 0, locals := 105 } : Room).cells ({ frames := 4, cells := 0, slots := 0, locals := 105 } : Room).slots A) (F0 m 101 ls []) := by
          intro n_m
          induction n_m with
          | zero => intro m2 n2 H locs ls hk_m hn_m; omega
          | succ n_m ih_m =>
            intro m2 n2 H locs ls hk_m hn_m hP hD hS hl
            refine lv_iload hx hb dX12_type_101 (lv_at hl 0 rfl) ?_
            refine lv_aload_n hx hb dX12_type_103 rfl (lv_at hl 4 rfl) ?_
            refine r_get (v := .int (nI md)) hx hb hown hq hE hP 49 416 tFX12_49 (by decide) pw_1721 rfl dX12_type_104 ?_
            refine lv_icmp_ge (tgt := 233) hx hb dX12_type_107 (by decide) (fun c18 => ?_) (fun c18 => ?_)
            · have n19 : md ≤ m2 := (nI_leI (a := md) (b := m2) (by omega) (by omega)).mp c18
              refine lv_iload_n hx hb dX12_type_233 rfl (lv_at hl 1 rfl) ?_
              have hP : va_P G.1 pCl (mW G h0 a (upd (upd (upd (upd (upd (upd F 0 0) 35 (nI dc)) 44 (nI fd)) 49 (nI md)) 59 (nI bk)) 82 hp) B) _ := hP
              have hD : va_D A (mW G h0 a (upd (upd (upd (upd (upd (upd F 0 0) 35 (nI dc)) 44 (nI fd)) 49 (nI md)) 59 (nI bk)) 82 hp) B) := hD
              exact W.iret (v := n2) hx hb hr (fun t9 ht9 hW9 => ⟨⟨_, n2, rfl, rfl, by rw [ht9]; exact hP, hD⟩, hS.F ht9⟩) hS.2.2 dX12_type_234
            · have n20 : ¬ (md ≤ m2) := fun h9 => c18 ((nI_leI (a := md) (b := m2) (by omega) (by omega)).mpr h9)
              refine lv_aload_n hx hb dX12_type_110 rfl (lv_at hl 4 rfl) ?_
              refine r_get (v := .ref (a 36)) hx hb hown hq hE hP 50 120 tFX12_50 (by decide) pw_1467 rfl dX12_type_111 ?_
              refine lv_iload hx hb dX12_type_114 (lv_at hl 0 rfl) ?_
              refine r_ldi (f := (B 36)) (j := m2) hx hb hE hP 36 (ma_36 G a _) rfl (by omega) (by decide) dX12_type_116 ?_
              obtain ⟨d21, e22, -, h23⟩ := (hPg.ps.2.2.1 m2 (by omega)).1
              refine lv_topi (fun x24 e25 => ?_)
              obtain rfl : x24 = nI d21 := e25.trans ((congrFun hw36 _).trans e22)
              refine lv_iload_n hx hb dX12_type_117 rfl (lv_at hl 3 rfl) ?_
              refine lv_icmp_eq (tgt := 136) hx hb dX12_type_118 (by decide) (fun c26 => ?_) (fun c26 => ?_)
              · have n27 : d21 = k9 := (nI_eq (a := d21) (b := k9) (by omega) (by omega)).mp c26
                refine lv_iconst (v := 1) hx hb dX12_type_136 (by decide) ?_
                refine lv_goto (tgt := 141) hx hb dX12_type_137 (by decide) ?_
                refine lv_istore (lv' := [(5, .int 1), (4, .int (nI m2)), (3, .int n2), (2, .int wq), (1, .int (nI k9)), (0, .ref h0)]) hx hb dX12_type_141 hl (by decide) rfl (fun ls hl => ?_)
                refine lv_iconst (v := 0) hx hb dX12_type_143 (by decide) ?_
                refine lv_istore (lv' := [(6, .int 0), (5, .int 1), (4, .int (nI m2)), (3, .int n2), (2, .int wq), (1, .int (nI k9)), (0, .ref h0)]) hx hb dX12_type_144 hl (by decide) rfl (fun ls hl => ?_)
                have loop_o : ∀ (n_o : Nat) (o2 : Nat) (fi2 : Int32) (H : Heap) (locs : List Loc) (ls : Array Slot), o2 ≤ m2 → m2 + 1 ≤ o2 + n_o → va_P G.1 pCl (mW G h0 a (upd (upd (upd (upd (upd (upd F 0 0) 35 (nI dc)) 44 (nI fd)) 49 (nI md)) 59 (nI bk)) 82 hp) B) H → va_D A (mW G h0 a (upd (upd (upd (upd (upd (upd F 0 0) 35 (nI dc)) 44 (nI fd)) 49 (nI md)) 59 (nI bk)) 82 hp) B) → va_S A s.heap H locs → lv_has ls 7 [(6, .int (nI o2)), (5, .int fi2), (4, .int (nI m2)), (3, .int n2), (2, .int wq), (1, .int (nI k9)), (0, .ref h0)] → W p l e (headSpec (Cond.code yX12_type cX12_type 7 (some .int) :: pw) ({ frames := 4, cells := 0, slots := 0, locals := 105 } : Room)).room s m ([.ref h0, .int kq, .int wq] : List Value).toArray below meth c H locs 0 0 (MQ below (pQ G A (fun (v : Option Value) (u : Int32) => v = some (.int u)) (fun u => (mW G h0 a (upd (upd (upd (upd (upd (upd F 0 0) 35 (nI dc)) 44 (nI fd)) 49 (nI md)) 59 (nI bk)) 82 hp) B))) ([.ref h0, .int kq, .int wq] : List Value).toArray s ({ frames := 4, cells := 0, slots := 0, locals := 105 } : Room).cells ({ frames := 4, cells := 0, slots := 0, locals := 105 } : Room).slots A) (F0 m 146 ls []) := by
                  intro n_o
                  induction n_o with
                  | zero => intro o2 fi2 H locs ls hk_o hn_o; omega
                  | succ n_o ih_o =>
                    intro o2 fi2 H locs ls hk_o hn_o hP hD hS hl
                    refine lv_iload hx hb dX12_type_146 (lv_at hl 1 rfl) ?_
                    refine lv_if_eq (tgt := 214) hx hb dX12_type_148 (by decide) (fun c28 => ?_) (fun c28 => ?_)
                    · refine lv_iload_n hx hb dX12_type_214 rfl (lv_at hl 3 rfl) ?_
                      refine lv_iload hx hb dX12_type_215 (lv_at hl 1 rfl) ?_
                      refine lv_if_eq (tgt := 224) hx hb dX12_type_217 (by decide) (fun c29 => ?_) (fun c29 => ?_)
                      · refine lv_iconst (v := 0) hx hb dX12_type_224 (by decide) ?_
                        refine lv_iadd hx hb dX12_type_225 ?_
                        refine lv_topi (fun x30 e31 => ?_)
                        refine lv_istore_n (lv' := [(3, .int x30), (6, .int (nI o2)), (5, .int fi2), (4, .int (nI m2)), (2, .int wq), (1, .int (nI k9)), (0, .ref h0)]) hx hb dX12_type_226 rfl hl (by decide) rfl (fun ls hl => ?_)
                        refine lv_iinc (v := (nI (m2 + 1))) (lv' := [(4, .int (nI (m2 + 1))), (3, .int x30), (6, .int (nI o2)), (5, .int fi2), (2, .int wq), (1, .int (nI k9)), (0, .ref h0)]) hx hb dX12_type_227 hl (k := 3) rfl (nI_1 m2) (by decide) rfl (fun ls hl => ?_)
                        refine lv_goto (tgt := 101) hx hb dX12_type_230 (by decide) ?_
                        have hP : va_P G.1 pCl (mW G h0 a (upd (upd (upd (upd (upd (upd F 0 0) 35 (nI dc)) 44 (nI fd)) 49 (nI md)) 59 (nI bk)) 82 hp) B) _ := hP
                        have hD : va_D A (mW G h0 a (upd (upd (upd (upd (upd (upd F 0 0) 35 (nI dc)) 44 (nI fd)) 49 (nI md)) 59 (nI bk)) 82 hp) B) := hD
                        exact ih_m (m2 + 1) x30 _ _ _ (by omega) (by omega) hP hD hS (lv_sub hl [0, 1, 4, 5, 6] rfl)
                      · refine lv_iconst (v := 1) hx hb dX12_type_220 (by decide) ?_
                        refine lv_goto (tgt := 225) hx hb dX12_type_221 (by decide) ?_
                        refine lv_iadd hx hb dX12_type_225 ?_
                        refine lv_topi (fun x32 e33 => ?_)
                        refine lv_istore_n (lv' := [(3, .int x32), (6, .int (nI o2)), (5, .int fi2), (4, .int (nI m2)), (2, .int wq), (1, .int (nI k9)), (0, .ref h0)]) hx hb dX12_type_226 rfl hl (by decide) rfl (fun ls hl => ?_)
                        refine lv_iinc (v := (nI (m2 + 1))) (lv' := [(4, .int (nI (m2 + 1))), (3, .int x32), (6, .int (nI o2)), (5, .int fi2), (2, .int wq), (1, .int (nI k9)), (0, .ref h0)]) hx hb dX12_type_227 hl (k := 3) rfl (nI_1 m2) (by decide) rfl (fun ls hl => ?_)
                        refine lv_goto (tgt := 101) hx hb dX12_type_230 (by decide) ?_
                        have hP : va_P G.1 pCl (mW G h0 a (upd (upd (upd (upd (upd (upd F 0 0) 35 (nI dc)) 44 (nI fd)) 49 (nI md)) 59 (nI bk)) 82 hp) B) _ := hP
                        have hD : va_D A (mW G h0 a (upd (upd (upd (upd (upd (upd F 0 0) 35 (nI dc)) 44 (nI fd)) 49 (nI md)) 59 (nI bk)) 82 hp) B) := hD
                        exact ih_m (m2 + 1) x32 _ _ _ (by omega) (by omega) hP hD hS (lv_sub hl [0, 1, 4, 5, 6] rfl)
                    · refine lv_iload hx hb dX12_type_151 (lv_at hl 0 rfl) ?_
                      refine lv_iload hx hb dX12_type_153 (lv_at hl 2 rfl) ?_
                      refine lv_icmp_ge (tgt := 214) hx hb dX12_type_155 (by decide) (fun c34 => ?_) (fun c34 => ?_)
                      · have n35 : m2 ≤ o2 := (nI_leI (a := m2) (b := o2) (by omega) (by omega)).mp c34
                        refine lv_iload_n hx hb dX12_type_214 rfl (lv_at hl 3 rfl) ?_
                        refine lv_iload hx hb dX12_type_215 (lv_at hl 1 rfl) ?_
                        refine lv_if_eq (tgt := 224) hx hb dX12_type_217 (by decide) (fun c36 => ?_) (fun c36 => ?_)
                        · refine lv_iconst (v := 0) hx hb dX12_type_224 (by decide) ?_
                          refine lv_iadd hx hb dX12_type_225 ?_
                          refine lv_topi (fun x37 e38 => ?_)
                          refine lv_istore_n (lv' := [(3, .int x37), (6, .int (nI o2)), (5, .int fi2), (4, .int (nI m2)), (2, .int wq), (1, .int (nI k9)), (0, .ref h0)]) hx hb dX12_type_226 rfl hl (by decide) rfl (fun ls hl => ?_)
                          refine lv_iinc (v := (nI (m2 + 1))) (lv' := [(4, .int (nI (m2 + 1))), (3, .int x37), (6, .int (nI o2)), (5, .int fi2), (2, .int wq), (1, .int (nI k9)), (0, .ref h0)]) hx hb dX12_type_227 hl (k := 3) rfl (nI_1 m2) (by decide) rfl (fun ls hl => ?_)
                          refine lv_goto (tgt := 101) hx hb dX12_type_230 (by decide) ?_
                          have hP : va_P G.1 pCl (mW G h0 a (upd (upd (upd (upd (upd (upd F 0 0) 35 (nI dc)) 44 (nI fd)) 49 (nI md)) 59 (nI bk)) 82 hp) B) _ := hP
                          have hD : va_D A (mW G h0 a (upd (upd (upd (upd (upd (upd F 0 0) 35 (nI dc)) 44 (nI fd)) 49 (nI md)) 59 (nI bk)) 82 hp) B) := hD
                          exact ih_m (m2 + 1) x37 _ _ _ (by omega) (by omega) hP hD hS (lv_sub hl [0, 1, 4, 5, 6] rfl)
                        · refine lv_iconst (v := 1) hx hb dX12_type_220 (by decide) ?_
                          refine lv_goto (tgt := 225) hx hb dX12_type_221 (by decide) ?_
                          refine lv_iadd hx hb dX12_type_225 ?_
                          refine lv_topi (fun x39 e40 => ?_)
                          refine lv_istore_n (lv' := [(3, .int x39), (6, .int (nI o2)), (5, .int fi2), (4, .int (nI m2)), (2, .int wq), (1, .int (nI k9)), (0, .ref h0)]) hx hb dX12_type_226 rfl hl (by decide) rfl (fun ls hl => ?_)
                          refine lv_iinc (v := (nI (m2 + 1))) (lv' := [(4, .int (nI (m2 + 1))), (3, .int x39), (6, .int (nI o2)), (5, .int fi2), (2, .int wq), (1, .int (nI k9)), (0, .ref h0)]) hx hb dX12_type_227 hl (k := 3) rfl (nI_1 m2) (by decide) rfl (fun ls hl => ?_)
                          refine lv_goto (tgt := 101) hx hb dX12_type_230 (by decide) ?_
                          have hP : va_P G.1 pCl (mW G h0 a (upd (upd (upd (upd (upd (upd F 0 0) 35 (nI dc)) 44 (nI fd)) 49 (nI md)) 59 (nI bk)) 82 hp) B) _ := hP
                          have hD : va_D A (mW G h0 a (upd (upd (upd (upd (upd (upd F 0 0) 35 (nI dc)) 44 (nI fd)) 49 (nI md)) 59 (nI bk)) 82 hp) B) := hD
                          exact ih_m (m2 + 1) x39 _ _ _ (by omega) (by omega) hP hD hS (lv_sub hl [0, 1, 4, 5, 6] rfl)
                      · have n41 : ¬ (m2 ≤ o2) := fun h9 => c34 ((nI_leI (a := m2) (b := o2) (by omega) (by omega)).mpr h9)
                        refine lv_aload_n hx hb dX12_type_158 rfl (lv_at hl 6 rfl) ?_
                        refine r_get (v := .ref (a 37)) hx hb hown hq hE hP 51 123 tFX12_51 (by decide) pw_1468 rfl dX12_type_159 ?_
                        refine lv_iload hx hb dX12_type_162 (lv_at hl 0 rfl) ?_
                        refine r_ldi (f := (B 37)) (j := o2) hx hb hE hP 37 (ma_37 G a _) rfl (by omega) (by decide) dX12_type_164 ?_
                        refine lv_aload_n hx hb dX12_type_165 rfl (lv_at hl 6 rfl) ?_
                        refine r_get (v := .ref (a 37)) hx hb hown hq hE hP 51 123 tFX12_51 (by decide) pw_1468 rfl dX12_type_166 ?_
                        refine lv_iload hx hb dX12_type_169 (lv_at hl 2 rfl) ?_
                        refine r_ldi (f := (B 37)) (j := m2) hx hb hE hP 37 (ma_37 G a _) rfl (by omega) (by decide) dX12_type_171 ?_
                        refine lv_icmp_ne (tgt := 201) hx hb dX12_type_172 (by decide) (fun c42 => ?_) (fun c42 => ?_)
                        · refine lv_iconst (v := 1) hx hb dX12_type_201 (by decide) ?_
                          refine lv_goto (tgt := 206) hx hb dX12_type_202 (by decide) ?_
                          refine lv_istore (lv' := [(5, .int 1), (6, .int (nI o2)), (4, .int (nI m2)), (3, .int n2), (2, .int wq), (1, .int (nI k9)), (0, .ref h0)]) hx hb dX12_type_206 hl (by decide) rfl (fun ls hl => ?_)
                          refine lv_iinc (v := (nI (o2 + 1))) (lv' := [(6, .int (nI (o2 + 1))), (5, .int 1), (4, .int (nI m2)), (3, .int n2), (2, .int wq), (1, .int (nI k9)), (0, .ref h0)]) hx hb dX12_type_208 hl (k := 1) rfl (nI_1 o2) (by decide) rfl (fun ls hl => ?_)
                          refine lv_goto (tgt := 146) hx hb dX12_type_211 (by decide) ?_
                          have hP : va_P G.1 pCl (mW G h0 a (upd (upd (upd (upd (upd (upd F 0 0) 35 (nI dc)) 44 (nI fd)) 49 (nI md)) 59 (nI bk)) 82 hp) B) _ := hP
                          have hD : va_D A (mW G h0 a (upd (upd (upd (upd (upd (upd F 0 0) 35 (nI dc)) 44 (nI fd)) 49 (nI md)) 59 (nI bk)) 82 hp) B) := hD
                          exact ih_o (o2 + 1) 1 _ _ _ (by omega) (by omega) hP hD hS (lv_sub hl [0, 1, 2, 3, 4, 5, 6] rfl)
                        · refine lv_aload_n hx hb dX12_type_175 rfl (lv_at hl 6 rfl) ?_
                          refine r_get (v := .ref (a 36)) hx hb hown hq hE hP 50 120 tFX12_50 (by decide) pw_1467 rfl dX12_type_176 ?_
                          refine lv_iload hx hb dX12_type_179 (lv_at hl 0 rfl) ?_
                          refine r_ldi (f := (B 36)) (j := o2) hx hb hE hP 36 (ma_36 G a _) rfl (by omega) (by decide) dX12_type_181 ?_
                          obtain ⟨d43, e44, -, h45⟩ := (hPg.ps.2.2.1 o2 (by omega)).1
                          refine lv_topi (fun x46 e47 => ?_)
                          obtain rfl : x46 = nI d43 := e47.trans ((congrFun hw36 _).trans e44)
                          refine lv_iload_n hx hb dX12_type_182 rfl (lv_at hl 5 rfl) ?_
                          refine lv_icmp_eq (tgt := 205) hx hb dX12_type_183 (by decide) (fun c48 => ?_) (fun c48 => ?_)
                          · have n49 : d43 = k9 := (nI_eq (a := d43) (b := k9) (by omega) (by omega)).mp c48
                            refine lv_iconst (v := 0) hx hb dX12_type_205 (by decide) ?_
                            refine lv_istore (lv' := [(5, .int 0), (6, .int (nI o2)), (4, .int (nI m2)), (3, .int n2), (2, .int wq), (1, .int (nI k9)), (0, .ref h0)]) hx hb dX12_type_206 hl (by decide) rfl (fun ls hl => ?_)
                            refine lv_iinc (v := (nI (o2 + 1))) (lv' := [(6, .int (nI (o2 + 1))), (5, .int 0), (4, .int (nI m2)), (3, .int n2), (2, .int wq), (1, .int (nI k9)), (0, .ref h0)]) hx hb dX12_type_208 hl (k := 1) rfl (nI_1 o2) (by decide) rfl (fun ls hl => ?_)
                            refine lv_goto (tgt := 146) hx hb dX12_type_211 (by decide) ?_
                            have hP : va_P G.1 pCl (mW G h0 a (upd (upd (upd (upd (upd (upd F 0 0) 35 (nI dc)) 44 (nI fd)) 49 (nI md)) 59 (nI bk)) 82 hp) B) _ := hP
                            have hD : va_D A (mW G h0 a (upd (upd (upd (upd (upd (upd F 0 0) 35 (nI dc)) 44 (nI fd)) 49 (nI md)) 59 (nI bk)) 82 hp) B) := hD
                            exact ih_o (o2 + 1) 0 _ _ _ (by omega) (by omega) hP hD hS (lv_sub hl [0, 1, 2, 3, 4, 5, 6] rfl)
                          · have n50 : ¬ (d43 = k9) := fun h9 => c48 ((nI_eq (a := d43) (b := k9) (by omega) (by omega)).mpr h9)
                            refine lv_aload_n hx hb dX12_type_186 rfl (lv_at hl 6 rfl) ?_
                            refine lv_aload_n hx hb dX12_type_187 rfl (lv_at hl 6 rfl) ?_
                            refine r_get (v := .ref (a 36)) hx hb hown hq hE hP 50 120 tFX12_50 (by decide) pw_1467 rfl dX12_type_188 ?_
                            refine lv_iload hx hb dX12_type_191 (lv_at hl 0 rfl) ?_
                            refine r_ldi (f := (B 36)) (j := o2) hx hb hE hP 36 (ma_36 G a _) rfl (by omega) (by decide) dX12_type_193 ?_
                            obtain ⟨d51, e52, -, h53⟩ := (hPg.ps.2.2.1 o2 (by omega)).1
                            refine lv_topi (fun x54 e55 => ?_)
                            obtain rfl : x54 = nI d51 := e55.trans ((congrFun hw36 _).trans e52)
                            refine lv_iload_n hx hb dX12_type_194 rfl (lv_at hl 5 rfl) ?_
                            have hP : va_P G.1 pCl (mW G h0 a (upd (upd (upd (upd (upd (upd F 0 0) 35 (nI dc)) 44 (nI fd)) 49 (nI md)) 59 (nI bk)) 82 hp) (updA B 31 (B 31))) _ := hP
                            have hD : va_D A (mW G h0 a (upd (upd (upd (upd (upd (upd F 0 0) 35 (nI dc)) 44 (nI fd)) 49 (nI md)) 59 (nI bk)) 82 hp) (updA B 31 (B 31))) := hD
                            refine pc_V0 (G := G) (As := [.int (nI d51), .int (nI k9)]) (rest := []) hx hb hml hown hq hE hX pX0_al hP hD hS hA hl.1 (R_isAbove l G h0 a (upd (upd (upd (upd (upd (upd F 0 0) 35 (nI dc)) 44 (nI fd)) 49 (nI md)) 59 (nI bk)) 82 hp) B d51 k9 (B 31) (by omega) (by show ∀ i : Nat, i < 1600 → B 31 i = 0 ∨ B 31 i = 1; rw [hw31]; exact hfb)) (gV pw_1772 pw_1773 pw_1774 pw_1523 pw_1760) hV_X12_isAbove 0 9 rfl rfl rfl rfl (Nat.le_of_ble_eq_true rfl) dX12_type_195 ⟨Nat.le_of_ble_eq_true rfl, Nat.le_of_ble_eq_true rfl⟩ ⟨Nat.le_of_ble_eq_true rfl, Nat.le_of_ble_eq_true rfl⟩ (fun v58 u56 H locs hw57 hP hD hS => ?_)
                            obtain rfl : v58 = some (.int ((B 31) (40 * d51 + k9))) := hw57
                            have hP : va_P G.1 pCl (mW G h0 a (upd (upd (upd (upd (upd (upd F 0 0) 35 (nI dc)) 44 (nI fd)) 49 (nI md)) 59 (nI bk)) 82 hp) B) _ := hP
                            have hD : va_D A (mW G h0 a (upd (upd (upd (upd (upd (upd F 0 0) 35 (nI dc)) 44 (nI fd)) 49 (nI md)) 59 (nI bk)) 82 hp) B) := hD
                            refine W.widen (k := 0) (n := 0) (Nat.le_of_ble_eq_true rfl) (Nat.le_of_ble_eq_true rfl) ?_
                            refine W.eq (g2 := F0 m 198 ls [.int ((B 31) (40 * d51 + k9))]) rfl ?_
                            refine lv_if_ne (tgt := 205) hx hb dX12_type_198 (by decide) (fun c59 => ?_) (fun c59 => ?_)
                            · refine lv_iconst (v := 0) hx hb dX12_type_205 (by decide) ?_
                              refine lv_istore (lv' := [(5, .int 0), (6, .int (nI o2)), (4, .int (nI m2)), (3, .int n2), (2, .int wq), (1, .int (nI k9)), (0, .ref h0)]) hx hb dX12_type_206 hl (by decide) rfl (fun ls hl => ?_)
                              refine lv_iinc (v := (nI (o2 + 1))) (lv' := [(6, .int (nI (o2 + 1))), (5, .int 0), (4, .int (nI m2)), (3, .int n2), (2, .int wq), (1, .int (nI k9)), (0, .ref h0)]) hx hb dX12_type_208 hl (k := 1) rfl (nI_1 o2) (by decide) rfl (fun ls hl => ?_)
                              refine lv_goto (tgt := 146) hx hb dX12_type_211 (by decide) ?_
                              have hP : va_P G.1 pCl (mW G h0 a (upd (upd (upd (upd (upd (upd F 0 0) 35 (nI dc)) 44 (nI fd)) 49 (nI md)) 59 (nI bk)) 82 hp) B) _ := hP
                              have hD : va_D A (mW G h0 a (upd (upd (upd (upd (upd (upd F 0 0) 35 (nI dc)) 44 (nI fd)) 49 (nI md)) 59 (nI bk)) 82 hp) B) := hD
                              exact ih_o (o2 + 1) 0 _ _ _ (by omega) (by omega) hP hD hS (lv_sub hl [0, 1, 2, 3, 4, 5, 6] rfl)
                            · refine lv_iconst (v := 1) hx hb dX12_type_201 (by decide) ?_
                              refine lv_goto (tgt := 206) hx hb dX12_type_202 (by decide) ?_
                              refine lv_istore (lv' := [(5, .int 1), (6, .int (nI o2)), (4, .int (nI m2)), (3, .int n2), (2, .int wq), (1, .int (nI k9)), (0, .ref h0)]) hx hb dX12_type_206 hl (by decide) rfl (fun ls hl => ?_)
                              refine lv_iinc (v := (nI (o2 + 1))) (lv' := [(6, .int (nI (o2 + 1))), (5, .int 1), (4, .int (nI m2)), (3, .int n2), (2, .int wq), (1, .int (nI k9)), (0, .ref h0)]) hx hb dX12_type_208 hl (k := 1) rfl (nI_1 o2) (by decide) rfl (fun ls hl => ?_)
                              refine lv_goto (tgt := 146) hx hb dX12_type_211 (by decide) ?_
                              have hP : va_P G.1 pCl (mW G h0 a (upd (upd (upd (upd (upd (upd F 0 0) 35 (nI dc)) 44 (nI fd)) 49 (nI md)) 59 (nI bk)) 82 hp) B) _ := hP
                              have hD : va_D A (mW G h0 a (upd (upd (upd (upd (upd (upd F 0 0) 35 (nI dc)) 44 (nI fd)) 49 (nI md)) 59 (nI bk)) 82 hp) B) := hD
                              exact ih_o (o2 + 1) 1 _ _ _ (by omega) (by omega) hP hD hS (lv_sub hl [0, 1, 2, 3, 4, 5, 6] rfl)
                have hP : va_P G.1 pCl (mW G h0 a (upd (upd (upd (upd (upd (upd F 0 0) 35 (nI dc)) 44 (nI fd)) 49 (nI md)) 59 (nI bk)) 82 hp) B) _ := hP
                have hD : va_D A (mW G h0 a (upd (upd (upd (upd (upd (upd F 0 0) 35 (nI dc)) 44 (nI fd)) 49 (nI md)) 59 (nI bk)) 82 hp) B) := hD
                exact loop_o (m2 + 1) 0 1 _ _ _ (by omega) (by omega) hP hD hS (lv_sub hl [0, 1, 2, 3, 4, 5, 6] rfl)
              · have n60 : ¬ (d21 = k9) := fun h9 => c26 ((nI_eq (a := d21) (b := k9) (by omega) (by omega)).mpr h9)
                refine lv_aload_n hx hb dX12_type_121 rfl (lv_at hl 4 rfl) ?_
                refine lv_aload_n hx hb dX12_type_122 rfl (lv_at hl 4 rfl) ?_
                refine r_get (v := .ref (a 36)) hx hb hown hq hE hP 50 120 tFX12_50 (by decide) pw_1467 rfl dX12_type_123 ?_
                refine lv_iload hx hb dX12_type_126 (lv_at hl 0 rfl) ?_
                refine r_ldi (f := (B 36)) (j := m2) hx hb hE hP 36 (ma_36 G a _) rfl (by omega) (by decide) dX12_type_128 ?_
                obtain ⟨d61, e62, -, h63⟩ := (hPg.ps.2.2.1 m2 (by omega)).1
                refine lv_topi (fun x64 e65 => ?_)
                obtain rfl : x64 = nI d61 := e65.trans ((congrFun hw36 _).trans e62)
                refine lv_iload_n hx hb dX12_type_129 rfl (lv_at hl 3 rfl) ?_
                have hP : va_P G.1 pCl (mW G h0 a (upd (upd (upd (upd (upd (upd F 0 0) 35 (nI dc)) 44 (nI fd)) 49 (nI md)) 59 (nI bk)) 82 hp) (updA B 31 (B 31))) _ := hP
                have hD : va_D A (mW G h0 a (upd (upd (upd (upd (upd (upd F 0 0) 35 (nI dc)) 44 (nI fd)) 49 (nI md)) 59 (nI bk)) 82 hp) (updA B 31 (B 31))) := hD
                refine pc_V0 (G := G) (As := [.int (nI d61), .int (nI k9)]) (rest := []) hx hb hml hown hq hE hX pX0_al hP hD hS hA hl.1 (R_isAbove l G h0 a (upd (upd (upd (upd (upd (upd F 0 0) 35 (nI dc)) 44 (nI fd)) 49 (nI md)) 59 (nI bk)) 82 hp) B d61 k9 (B 31) (by omega) (by show ∀ i : Nat, i < 1600 → B 31 i = 0 ∨ B 31 i = 1; rw [hw31]; exact hfb)) (gV pw_1772 pw_1773 pw_1774 pw_1523 pw_1760) hV_X12_isAbove 0 9 rfl rfl rfl rfl (Nat.le_of_ble_eq_true rfl) dX12_type_130 ⟨Nat.le_of_ble_eq_true rfl, Nat.le_of_ble_eq_true rfl⟩ ⟨Nat.le_of_ble_eq_true rfl, Nat.le_of_ble_eq_true rfl⟩ (fun v68 u66 H locs hw67 hP hD hS => ?_)
                obtain rfl : v68 = some (.int ((B 31) (40 * d61 + k9))) := hw67
                have hP : va_P G.1 pCl (mW G h0 a (upd (upd (upd (upd (upd (upd F 0 0) 35 (nI dc)) 44 (nI fd)) 49 (nI md)) 59 (nI bk)) 82 hp) B) _ := hP
                have hD : va_D A (mW G h0 a (upd (upd (upd (upd (upd (upd F 0 0) 35 (nI dc)) 44 (nI fd)) 49 (nI md)) 59 (nI bk)) 82 hp) B) := hD
                refine W.widen (k := 0) (n := 0) (Nat.le_of_ble_eq_true rfl) (Nat.le_of_ble_eq_true rfl) ?_
                refine W.eq (g2 := F0 m 133 ls [.int ((B 31) (40 * d61 + k9))]) rfl ?_
                refine lv_if_eq (tgt := 140) hx hb dX12_type_133 (by decide) (fun c69 => ?_) (fun c69 => ?_)
                · refine lv_iconst (v := 0) hx hb dX12_type_140 (by decide) ?_
                  refine lv_istore (lv' := [(5, .int 0), (4, .int (nI m2)), (3, .int n2), (2, .int wq), (1, .int (nI k9)), (0, .ref h0)]) hx hb dX12_type_141 hl (by decide) rfl (fun ls hl => ?_)
                  refine lv_iconst (v := 0) hx hb dX12_type_143 (by decide) ?_
                  refine lv_istore (lv' := [(6, .int 0), (5, .int 0), (4, .int (nI m2)), (3, .int n2), (2, .int wq), (1, .int (nI k9)), (0, .ref h0)]) hx hb dX12_type_144 hl (by decide) rfl (fun ls hl => ?_)
                  have loop_o : ∀ (n_o : Nat) (o2 : Nat) (fi2 : Int32) (H : Heap) (locs : List Loc) (ls : Array Slot), o2 ≤ m2 → m2 + 1 ≤ o2 + n_o → va_P G.1 pCl (mW G h0 a (upd (upd (upd (upd (upd (upd F 0 0) 35 (nI dc)) 44 (nI fd)) 49 (nI md)) 59 (nI bk)) 82 hp) B) H → va_D A (mW G h0 a (upd (upd (upd (upd (upd (upd F 0 0) 35 (nI dc)) 44 (nI fd)) 49 (nI md)) 59 (nI bk)) 82 hp) B) → va_S A s.heap H locs → lv_has ls 7 [(6, .int (nI o2)), (5, .int fi2), (4, .int (nI m2)), (3, .int n2), (2, .int wq), (1, .int (nI k9)), (0, .ref h0)] → W p l e (headSpec (Cond.code yX12_type cX12_type 7 (some .int) :: pw) ({ frames := 4, cells := 0, slots := 0, locals := 105 } : Room)).room s m ([.ref h0, .int kq, .int wq] : List Value).toArray below meth c H locs 0 0 (MQ below (pQ G A (fun (v : Option Value) (u : Int32) => v = some (.int u)) (fun u => (mW G h0 a (upd (upd (upd (upd (upd (upd F 0 0) 35 (nI dc)) 44 (nI fd)) 49 (nI md)) 59 (nI bk)) 82 hp) B))) ([.ref h0, .int kq, .int wq] : List Value).toArray s ({ frames := 4, cells := 0, slots := 0, locals := 105 } : Room).cells ({ frames := 4, cells := 0, slots := 0, locals := 105 } : Room).slots A) (F0 m 146 ls []) := by
                    intro n_o
                    induction n_o with
                    | zero => intro o2 fi2 H locs ls hk_o hn_o; omega
                    | succ n_o ih_o =>
                      intro o2 fi2 H locs ls hk_o hn_o hP hD hS hl
                      refine lv_iload hx hb dX12_type_146 (lv_at hl 1 rfl) ?_
                      refine lv_if_eq (tgt := 214) hx hb dX12_type_148 (by decide) (fun c70 => ?_) (fun c70 => ?_)
                      · refine lv_iload_n hx hb dX12_type_214 rfl (lv_at hl 3 rfl) ?_
                        refine lv_iload hx hb dX12_type_215 (lv_at hl 1 rfl) ?_
                        refine lv_if_eq (tgt := 224) hx hb dX12_type_217 (by decide) (fun c71 => ?_) (fun c71 => ?_)
                        · refine lv_iconst (v := 0) hx hb dX12_type_224 (by decide) ?_
                          refine lv_iadd hx hb dX12_type_225 ?_
                          refine lv_topi (fun x72 e73 => ?_)
                          refine lv_istore_n (lv' := [(3, .int x72), (6, .int (nI o2)), (5, .int fi2), (4, .int (nI m2)), (2, .int wq), (1, .int (nI k9)), (0, .ref h0)]) hx hb dX12_type_226 rfl hl (by decide) rfl (fun ls hl => ?_)
                          refine lv_iinc (v := (nI (m2 + 1))) (lv' := [(4, .int (nI (m2 + 1))), (3, .int x72), (6, .int (nI o2)), (5, .int fi2), (2, .int wq), (1, .int (nI k9)), (0, .ref h0)]) hx hb dX12_type_227 hl (k := 3) rfl (nI_1 m2) (by decide) rfl (fun ls hl => ?_)
                          refine lv_goto (tgt := 101) hx hb dX12_type_230 (by decide) ?_
                          have hP : va_P G.1 pCl (mW G h0 a (upd (upd (upd (upd (upd (upd F 0 0) 35 (nI dc)) 44 (nI fd)) 49 (nI md)) 59 (nI bk)) 82 hp) B) _ := hP
                          have hD : va_D A (mW G h0 a (upd (upd (upd (upd (upd (upd F 0 0) 35 (nI dc)) 44 (nI fd)) 49 (nI md)) 59 (nI bk)) 82 hp) B) := hD
                          exact ih_m (m2 + 1) x72 _ _ _ (by omega) (by omega) hP hD hS (lv_sub hl [0, 1, 4, 5, 6] rfl)
                        · refine lv_iconst (v := 1) hx hb dX12_type_220 (by decide) ?_
                          refine lv_goto (tgt := 225) hx hb dX12_type_221 (by decide) ?_
                          refine lv_iadd hx hb dX12_type_225 ?_
                          refine lv_topi (fun x74 e75 => ?_)
                          refine lv_istore_n (lv' := [(3, .int x74), (6, .int (nI o2)), (5, .int fi2), (4, .int (nI m2)), (2, .int wq), (1, .int (nI k9)), (0, .ref h0)]) hx hb dX12_type_226 rfl hl (by decide) rfl (fun ls hl => ?_)
                          refine lv_iinc (v := (nI (m2 + 1))) (lv' := [(4, .int (nI (m2 + 1))), (3, .int x74), (6, .int (nI o2)), (5, .int fi2), (2, .int wq), (1, .int (nI k9)), (0, .ref h0)]) hx hb dX12_type_227 hl (k := 3) rfl (nI_1 m2) (by decide) rfl (fun ls hl => ?_)
                          refine lv_goto (tgt := 101) hx hb dX12_type_230 (by decide) ?_
                          have hP : va_P G.1 pCl (mW G h0 a (upd (upd (upd (upd (upd (upd F 0 0) 35 (nI dc)) 44 (nI fd)) 49 (nI md)) 59 (nI bk)) 82 hp) B) _ := hP
                          have hD : va_D A (mW G h0 a (upd (upd (upd (upd (upd (upd F 0 0) 35 (nI dc)) 44 (nI fd)) 49 (nI md)) 59 (nI bk)) 82 hp) B) := hD
                          exact ih_m (m2 + 1) x74 _ _ _ (by omega) (by omega) hP hD hS (lv_sub hl [0, 1, 4, 5, 6] rfl)
                      · refine lv_iload hx hb dX12_type_151 (lv_at hl 0 rfl) ?_
                        refine lv_iload hx hb dX12_type_153 (lv_at hl 2 rfl) ?_
                        refine lv_icmp_ge (tgt := 214) hx hb dX12_type_155 (by decide) (fun c76 => ?_) (fun c76 => ?_)
                        · have n77 : m2 ≤ o2 := (nI_leI (a := m2) (b := o2) (by omega) (by omega)).mp c76
                          refine lv_iload_n hx hb dX12_type_214 rfl (lv_at hl 3 rfl) ?_
                          refine lv_iload hx hb dX12_type_215 (lv_at hl 1 rfl) ?_
                          refine lv_if_eq (tgt := 224) hx hb dX12_type_217 (by decide) (fun c78 => ?_) (fun c78 => ?_)
                          · refine lv_iconst (v := 0) hx hb dX12_type_224 (by decide) ?_
                            refine lv_iadd hx hb dX12_type_225 ?_
                            refine lv_topi (fun x79 e80 => ?_)
                            refine lv_istore_n (lv' := [(3, .int x79), (6, .int (nI o2)), (5, .int fi2), (4, .int (nI m2)), (2, .int wq), (1, .int (nI k9)), (0, .ref h0)]) hx hb dX12_type_226 rfl hl (by decide) rfl (fun ls hl => ?_)
                            refine lv_iinc (v := (nI (m2 + 1))) (lv' := [(4, .int (nI (m2 + 1))), (3, .int x79), (6, .int (nI o2)), (5, .int fi2), (2, .int wq), (1, .int (nI k9)), (0, .ref h0)]) hx hb dX12_type_227 hl (k := 3) rfl (nI_1 m2) (by decide) rfl (fun ls hl => ?_)
                            refine lv_goto (tgt := 101) hx hb dX12_type_230 (by decide) ?_
                            have hP : va_P G.1 pCl (mW G h0 a (upd (upd (upd (upd (upd (upd F 0 0) 35 (nI dc)) 44 (nI fd)) 49 (nI md)) 59 (nI bk)) 82 hp) B) _ := hP
                            have hD : va_D A (mW G h0 a (upd (upd (upd (upd (upd (upd F 0 0) 35 (nI dc)) 44 (nI fd)) 49 (nI md)) 59 (nI bk)) 82 hp) B) := hD
                            exact ih_m (m2 + 1) x79 _ _ _ (by omega) (by omega) hP hD hS (lv_sub hl [0, 1, 4, 5, 6] rfl)
                          · refine lv_iconst (v := 1) hx hb dX12_type_220 (by decide) ?_
                            refine lv_goto (tgt := 225) hx hb dX12_type_221 (by decide) ?_
                            refine lv_iadd hx hb dX12_type_225 ?_
                            refine lv_topi (fun x81 e82 => ?_)
                            refine lv_istore_n (lv' := [(3, .int x81), (6, .int (nI o2)), (5, .int fi2), (4, .int (nI m2)), (2, .int wq), (1, .int (nI k9)), (0, .ref h0)]) hx hb dX12_type_226 rfl hl (by decide) rfl (fun ls hl => ?_)
                            refine lv_iinc (v := (nI (m2 + 1))) (lv' := [(4, .int (nI (m2 + 1))), (3, .int x81), (6, .int (nI o2)), (5, .int fi2), (2, .int wq), (1, .int (nI k9)), (0, .ref h0)]) hx hb dX12_type_227 hl (k := 3) rfl (nI_1 m2) (by decide) rfl (fun ls hl => ?_)
                            refine lv_goto (tgt := 101) hx hb dX12_type_230 (by decide) ?_
                            have hP : va_P G.1 pCl (mW G h0 a (upd (upd (upd (upd (upd (upd F 0 0) 35 (nI dc)) 44 (nI fd)) 49 (nI md)) 59 (nI bk)) 82 hp) B) _ := hP
                            have hD : va_D A (mW G h0 a (upd (upd (upd (upd (upd (upd F 0 0) 35 (nI dc)) 44 (nI fd)) 49 (nI md)) 59 (nI bk)) 82 hp) B) := hD
                            exact ih_m (m2 + 1) x81 _ _ _ (by omega) (by omega) hP hD hS (lv_sub hl [0, 1, 4, 5, 6] rfl)
                        · have n83 : ¬ (m2 ≤ o2) := fun h9 => c76 ((nI_leI (a := m2) (b := o2) (by omega) (by omega)).mpr h9)
                          refine lv_aload_n hx hb dX12_type_158 rfl (lv_at hl 6 rfl) ?_
                          refine r_get (v := .ref (a 37)) hx hb hown hq hE hP 51 123 tFX12_51 (by decide) pw_1468 rfl dX12_type_159 ?_
                          refine lv_iload hx hb dX12_type_162 (lv_at hl 0 rfl) ?_
                          refine r_ldi (f := (B 37)) (j := o2) hx hb hE hP 37 (ma_37 G a _) rfl (by omega) (by decide) dX12_type_164 ?_
                          refine lv_aload_n hx hb dX12_type_165 rfl (lv_at hl 6 rfl) ?_
                          refine r_get (v := .ref (a 37)) hx hb hown hq hE hP 51 123 tFX12_51 (by decide) pw_1468 rfl dX12_type_166 ?_
                          refine lv_iload hx hb dX12_type_169 (lv_at hl 2 rfl) ?_
                          refine r_ldi (f := (B 37)) (j := m2) hx hb hE hP 37 (ma_37 G a _) rfl (by omega) (by decide) dX12_type_171 ?_
                          refine lv_icmp_ne (tgt := 201) hx hb dX12_type_172 (by decide) (fun c84 => ?_) (fun c84 => ?_)
                          · refine lv_iconst (v := 1) hx hb dX12_type_201 (by decide) ?_
                            refine lv_goto (tgt := 206) hx hb dX12_type_202 (by decide) ?_
                            refine lv_istore (lv' := [(5, .int 1), (6, .int (nI o2)), (4, .int (nI m2)), (3, .int n2), (2, .int wq), (1, .int (nI k9)), (0, .ref h0)]) hx hb dX12_type_206 hl (by decide) rfl (fun ls hl => ?_)
                            refine lv_iinc (v := (nI (o2 + 1))) (lv' := [(6, .int (nI (o2 + 1))), (5, .int 1), (4, .int (nI m2)), (3, .int n2), (2, .int wq), (1, .int (nI k9)), (0, .ref h0)]) hx hb dX12_type_208 hl (k := 1) rfl (nI_1 o2) (by decide) rfl (fun ls hl => ?_)
                            refine lv_goto (tgt := 146) hx hb dX12_type_211 (by decide) ?_
                            have hP : va_P G.1 pCl (mW G h0 a (upd (upd (upd (upd (upd (upd F 0 0) 35 (nI dc)) 44 (nI fd)) 49 (nI md)) 59 (nI bk)) 82 hp) B) _ := hP
                            have hD : va_D A (mW G h0 a (upd (upd (upd (upd (upd (upd F 0 0) 35 (nI dc)) 44 (nI fd)) 49 (nI md)) 59 (nI bk)) 82 hp) B) := hD
                            exact ih_o (o2 + 1) 1 _ _ _ (by omega) (by omega) hP hD hS (lv_sub hl [0, 1, 2, 3, 4, 5, 6] rfl)
                          · refine lv_aload_n hx hb dX12_type_175 rfl (lv_at hl 6 rfl) ?_
                            refine r_get (v := .ref (a 36)) hx hb hown hq hE hP 50 120 tFX12_50 (by decide) pw_1467 rfl dX12_type_176 ?_
                            refine lv_iload hx hb dX12_type_179 (lv_at hl 0 rfl) ?_
                            refine r_ldi (f := (B 36)) (j := o2) hx hb hE hP 36 (ma_36 G a _) rfl (by omega) (by decide) dX12_type_181 ?_
                            obtain ⟨d85, e86, -, h87⟩ := (hPg.ps.2.2.1 o2 (by omega)).1
                            refine lv_topi (fun x88 e89 => ?_)
                            obtain rfl : x88 = nI d85 := e89.trans ((congrFun hw36 _).trans e86)
                            refine lv_iload_n hx hb dX12_type_182 rfl (lv_at hl 5 rfl) ?_
                            refine lv_icmp_eq (tgt := 205) hx hb dX12_type_183 (by decide) (fun c90 => ?_) (fun c90 => ?_)
                            · have n91 : d85 = k9 := (nI_eq (a := d85) (b := k9) (by omega) (by omega)).mp c90
                              refine lv_iconst (v := 0) hx hb dX12_type_205 (by decide) ?_
                              refine lv_istore (lv' := [(5, .int 0), (6, .int (nI o2)), (4, .int (nI m2)), (3, .int n2), (2, .int wq), (1, .int (nI k9)), (0, .ref h0)]) hx hb dX12_type_206 hl (by decide) rfl (fun ls hl => ?_)
                              refine lv_iinc (v := (nI (o2 + 1))) (lv' := [(6, .int (nI (o2 + 1))), (5, .int 0), (4, .int (nI m2)), (3, .int n2), (2, .int wq), (1, .int (nI k9)), (0, .ref h0)]) hx hb dX12_type_208 hl (k := 1) rfl (nI_1 o2) (by decide) rfl (fun ls hl => ?_)
                              refine lv_goto (tgt := 146) hx hb dX12_type_211 (by decide) ?_
                              have hP : va_P G.1 pCl (mW G h0 a (upd (upd (upd (upd (upd (upd F 0 0) 35 (nI dc)) 44 (nI fd)) 49 (nI md)) 59 (nI bk)) 82 hp) B) _ := hP
                              have hD : va_D A (mW G h0 a (upd (upd (upd (upd (upd (upd F 0 0) 35 (nI dc)) 44 (nI fd)) 49 (nI md)) 59 (nI bk)) 82 hp) B) := hD
                              exact ih_o (o2 + 1) 0 _ _ _ (by omega) (by omega) hP hD hS (lv_sub hl [0, 1, 2, 3, 4, 5, 6] rfl)
                            · have n92 : ¬ (d85 = k9) := fun h9 => c90 ((nI_eq (a := d85) (b := k9) (by omega) (by omega)).mpr h9)
                              refine lv_aload_n hx hb dX12_type_186 rfl (lv_at hl 6 rfl) ?_
                              refine lv_aload_n hx hb dX12_type_187 rfl (lv_at hl 6 rfl) ?_
                              refine r_get (v := .ref (a 36)) hx hb hown hq hE hP 50 120 tFX12_50 (by decide) pw_1467 rfl dX12_type_188 ?_
                              refine lv_iload hx hb dX12_type_191 (lv_at hl 0 rfl) ?_
                              refine r_ldi (f := (B 36)) (j := o2) hx hb hE hP 36 (ma_36 G a _) rfl (by omega) (by decide) dX12_type_193 ?_
                              obtain ⟨d93, e94, -, h95⟩ := (hPg.ps.2.2.1 o2 (by omega)).1
                              refine lv_topi (fun x96 e97 => ?_)
                              obtain rfl : x96 = nI d93 := e97.trans ((congrFun hw36 _).trans e94)
                              refine lv_iload_n hx hb dX12_type_194 rfl (lv_at hl 5 rfl) ?_
                              have hP : va_P G.1 pCl (mW G h0 a (upd (upd (upd (upd (upd (upd F 0 0) 35 (nI dc)) 44 (nI fd)) 49 (nI md)) 59 (nI bk)) 82 hp) (updA B 31 (B 31))) _ := hP
                              have hD : va_D A (mW G h0 a (upd (upd (upd (upd (upd (upd F 0 0) 35 (nI dc)) 44 (nI fd)) 49 (nI md)) 59 (nI bk)) 82 hp) (updA B 31 (B 31))) := hD
                              refine pc_V0 (G := G) (As := [.int (nI d93), .int (nI k9)]) (rest := []) hx hb hml hown hq hE hX pX0_al hP hD hS hA hl.1 (R_isAbove l G h0 a (upd (upd (upd (upd (upd (upd F 0 0) 35 (nI dc)) 44 (nI fd)) 49 (nI md)) 59 (nI bk)) 82 hp) B d93 k9 (B 31) (by omega) (by show ∀ i : Nat, i < 1600 → B 31 i = 0 ∨ B 31 i = 1; rw [hw31]; exact hfb)) (gV pw_1772 pw_1773 pw_1774 pw_1523 pw_1760) hV_X12_isAbove 0 9 rfl rfl rfl rfl (Nat.le_of_ble_eq_true rfl) dX12_type_195 ⟨Nat.le_of_ble_eq_true rfl, Nat.le_of_ble_eq_true rfl⟩ ⟨Nat.le_of_ble_eq_true rfl, Nat.le_of_ble_eq_true rfl⟩ (fun v100 u98 H locs hw99 hP hD hS => ?_)
                              obtain rfl : v100 = some (.int ((B 31) (40 * d93 + k9))) := hw99
                              have hP : va_P G.1 pCl (mW G h0 a (upd (upd (upd (upd (upd (upd F 0 0) 35 (nI dc)) 44 (nI fd)) 49 (nI md)) 59 (nI bk)) 82 hp) B) _ := hP
                              have hD : va_D A (mW G h0 a (upd (upd (upd (upd (upd (upd F 0 0) 35 (nI dc)) 44 (nI fd)) 49 (nI md)) 59 (nI bk)) 82 hp) B) := hD
                              refine W.widen (k := 0) (n := 0) (Nat.le_of_ble_eq_true rfl) (Nat.le_of_ble_eq_true rfl) ?_
                              refine W.eq (g2 := F0 m 198 ls [.int ((B 31) (40 * d93 + k9))]) rfl ?_
                              refine lv_if_ne (tgt := 205) hx hb dX12_type_198 (by decide) (fun c101 => ?_) (fun c101 => ?_)
                              · refine lv_iconst (v := 0) hx hb dX12_type_205 (by decide) ?_
                                refine lv_istore (lv' := [(5, .int 0), (6, .int (nI o2)), (4, .int (nI m2)), (3, .int n2), (2, .int wq), (1, .int (nI k9)), (0, .ref h0)]) hx hb dX12_type_206 hl (by decide) rfl (fun ls hl => ?_)
                                refine lv_iinc (v := (nI (o2 + 1))) (lv' := [(6, .int (nI (o2 + 1))), (5, .int 0), (4, .int (nI m2)), (3, .int n2), (2, .int wq), (1, .int (nI k9)), (0, .ref h0)]) hx hb dX12_type_208 hl (k := 1) rfl (nI_1 o2) (by decide) rfl (fun ls hl => ?_)
                                refine lv_goto (tgt := 146) hx hb dX12_type_211 (by decide) ?_
                                have hP : va_P G.1 pCl (mW G h0 a (upd (upd (upd (upd (upd (upd F 0 0) 35 (nI dc)) 44 (nI fd)) 49 (nI md)) 59 (nI bk)) 82 hp) B) _ := hP
                                have hD : va_D A (mW G h0 a (upd (upd (upd (upd (upd (upd F 0 0) 35 (nI dc)) 44 (nI fd)) 49 (nI md)) 59 (nI bk)) 82 hp) B) := hD
                                exact ih_o (o2 + 1) 0 _ _ _ (by omega) (by omega) hP hD hS (lv_sub hl [0, 1, 2, 3, 4, 5, 6] rfl)
                              · refine lv_iconst (v := 1) hx hb dX12_type_201 (by decide) ?_
                                refine lv_goto (tgt := 206) hx hb dX12_type_202 (by decide) ?_
                                refine lv_istore (lv' := [(5, .int 1), (6, .int (nI o2)), (4, .int (nI m2)), (3, .int n2), (2, .int wq), (1, .int (nI k9)), (0, .ref h0)]) hx hb dX12_type_206 hl (by decide) rfl (fun ls hl => ?_)
                                refine lv_iinc (v := (nI (o2 + 1))) (lv' := [(6, .int (nI (o2 + 1))), (5, .int 1), (4, .int (nI m2)), (3, .int n2), (2, .int wq), (1, .int (nI k9)), (0, .ref h0)]) hx hb dX12_type_208 hl (k := 1) rfl (nI_1 o2) (by decide) rfl (fun ls hl => ?_)
                                refine lv_goto (tgt := 146) hx hb dX12_type_211 (by decide) ?_
                                have hP : va_P G.1 pCl (mW G h0 a (upd (upd (upd (upd (upd (upd F 0 0) 35 (nI dc)) 44 (nI fd)) 49 (nI md)) 59 (nI bk)) 82 hp) B) _ := hP
                                have hD : va_D A (mW G h0 a (upd (upd (upd (upd (upd (upd F 0 0) 35 (nI dc)) 44 (nI fd)) 49 (nI md)) 59 (nI bk)) 82 hp) B) := hD
                                exact ih_o (o2 + 1) 1 _ _ _ (by omega) (by omega) hP hD hS (lv_sub hl [0, 1, 2, 3, 4, 5, 6] rfl)
                  have hP : va_P G.1 pCl (mW G h0 a (upd (upd (upd (upd (upd (upd F 0 0) 35 (nI dc)) 44 (nI fd)) 49 (nI md)) 59 (nI bk)) 82 hp) B) _ := hP
                  have hD : va_D A (mW G h0 a (upd (upd (upd (upd (upd (upd F 0 0) 35 (nI dc)) 44 (nI fd)) 49 (nI md)) 59 (nI bk)) 82 hp) B) := hD
                  exact loop_o (m2 + 1) 0 0 _ _ _ (by omega) (by omega) hP hD hS (lv_sub hl [0, 1, 2, 3, 4, 5, 6] rfl)
                · refine lv_iconst (v := 1) hx hb dX12_type_136 (by decide) ?_
                  refine lv_goto (tgt := 141) hx hb dX12_type_137 (by decide) ?_
                  refine lv_istore (lv' := [(5, .int 1), (4, .int (nI m2)), (3, .int n2), (2, .int wq), (1, .int (nI k9)), (0, .ref h0)]) hx hb dX12_type_141 hl (by decide) rfl (fun ls hl => ?_)
                  refine lv_iconst (v := 0) hx hb dX12_type_143 (by decide) ?_
                  refine lv_istore (lv' := [(6, .int 0), (5, .int 1), (4, .int (nI m2)), (3, .int n2), (2, .int wq), (1, .int (nI k9)), (0, .ref h0)]) hx hb dX12_type_144 hl (by decide) rfl (fun ls hl => ?_)
                  have loop_o : ∀ (n_o : Nat) (o2 : Nat) (fi2 : Int32) (H : Heap) (locs : List Loc) (ls : Array Slot), o2 ≤ m2 → m2 + 1 ≤ o2 + n_o → va_P G.1 pCl (mW G h0 a (upd (upd (upd (upd (upd (upd F 0 0) 35 (nI dc)) 44 (nI fd)) 49 (nI md)) 59 (nI bk)) 82 hp) B) H → va_D A (mW G h0 a (upd (upd (upd (upd (upd (upd F 0 0) 35 (nI dc)) 44 (nI fd)) 49 (nI md)) 59 (nI bk)) 82 hp) B) → va_S A s.heap H locs → lv_has ls 7 [(6, .int (nI o2)), (5, .int fi2), (4, .int (nI m2)), (3, .int n2), (2, .int wq), (1, .int (nI k9)), (0, .ref h0)] → W p l e (headSpec (Cond.code yX12_type cX12_type 7 (some .int) :: pw) ({ frames := 4, cells := 0, slots := 0, locals := 105 } : Room)).room s m ([.ref h0, .int kq, .int wq] : List Value).toArray below meth c H locs 0 0 (MQ below (pQ G A (fun (v : Option Value) (u : Int32) => v = some (.int u)) (fun u => (mW G h0 a (upd (upd (upd (upd (upd (upd F 0 0) 35 (nI dc)) 44 (nI fd)) 49 (nI md)) 59 (nI bk)) 82 hp) B))) ([.ref h0, .int kq, .int wq] : List Value).toArray s ({ frames := 4, cells := 0, slots := 0, locals := 105 } : Room).cells ({ frames := 4, cells := 0, slots := 0, locals := 105 } : Room).slots A) (F0 m 146 ls []) := by
                    intro n_o
                    induction n_o with
                    | zero => intro o2 fi2 H locs ls hk_o hn_o; omega
                    | succ n_o ih_o =>
                      intro o2 fi2 H locs ls hk_o hn_o hP hD hS hl
                      refine lv_iload hx hb dX12_type_146 (lv_at hl 1 rfl) ?_
                      refine lv_if_eq (tgt := 214) hx hb dX12_type_148 (by decide) (fun c102 => ?_) (fun c102 => ?_)
                      · refine lv_iload_n hx hb dX12_type_214 rfl (lv_at hl 3 rfl) ?_
                        refine lv_iload hx hb dX12_type_215 (lv_at hl 1 rfl) ?_
                        refine lv_if_eq (tgt := 224) hx hb dX12_type_217 (by decide) (fun c103 => ?_) (fun c103 => ?_)
                        · refine lv_iconst (v := 0) hx hb dX12_type_224 (by decide) ?_
                          refine lv_iadd hx hb dX12_type_225 ?_
                          refine lv_topi (fun x104 e105 => ?_)
                          refine lv_istore_n (lv' := [(3, .int x104), (6, .int (nI o2)), (5, .int fi2), (4, .int (nI m2)), (2, .int wq), (1, .int (nI k9)), (0, .ref h0)]) hx hb dX12_type_226 rfl hl (by decide) rfl (fun ls hl => ?_)
                          refine lv_iinc (v := (nI (m2 + 1))) (lv' := [(4, .int (nI (m2 + 1))), (3, .int x104), (6, .int (nI o2)), (5, .int fi2), (2, .int wq), (1, .int (nI k9)), (0, .ref h0)]) hx hb dX12_type_227 hl (k := 3) rfl (nI_1 m2) (by decide) rfl (fun ls hl => ?_)
                          refine lv_goto (tgt := 101) hx hb dX12_type_230 (by decide) ?_
                          have hP : va_P G.1 pCl (mW G h0 a (upd (upd (upd (upd (upd (upd F 0 0) 35 (nI dc)) 44 (nI fd)) 49 (nI md)) 59 (nI bk)) 82 hp) B) _ := hP
                          have hD : va_D A (mW G h0 a (upd (upd (upd (upd (upd (upd F 0 0) 35 (nI dc)) 44 (nI fd)) 49 (nI md)) 59 (nI bk)) 82 hp) B) := hD
                          exact ih_m (m2 + 1) x104 _ _ _ (by omega) (by omega) hP hD hS (lv_sub hl [0, 1, 4, 5, 6] rfl)
                        · refine lv_iconst (v := 1) hx hb dX12_type_220 (by decide) ?_
                          refine lv_goto (tgt := 225) hx hb dX12_type_221 (by decide) ?_
                          refine lv_iadd hx hb dX12_type_225 ?_
                          refine lv_topi (fun x106 e107 => ?_)
                          refine lv_istore_n (lv' := [(3, .int x106), (6, .int (nI o2)), (5, .int fi2), (4, .int (nI m2)), (2, .int wq), (1, .int (nI k9)), (0, .ref h0)]) hx hb dX12_type_226 rfl hl (by decide) rfl (fun ls hl => ?_)
                          refine lv_iinc (v := (nI (m2 + 1))) (lv' := [(4, .int (nI (m2 + 1))), (3, .int x106), (6, .int (nI o2)), (5, .int fi2), (2, .int wq), (1, .int (nI k9)), (0, .ref h0)]) hx hb dX12_type_227 hl (k := 3) rfl (nI_1 m2) (by decide) rfl (fun ls hl => ?_)
                          refine lv_goto (tgt := 101) hx hb dX12_type_230 (by decide) ?_
                          have hP : va_P G.1 pCl (mW G h0 a (upd (upd (upd (upd (upd (upd F 0 0) 35 (nI dc)) 44 (nI fd)) 49 (nI md)) 59 (nI bk)) 82 hp) B) _ := hP
                          have hD : va_D A (mW G h0 a (upd (upd (upd (upd (upd (upd F 0 0) 35 (nI dc)) 44 (nI fd)) 49 (nI md)) 59 (nI bk)) 82 hp) B) := hD
                          exact ih_m (m2 + 1) x106 _ _ _ (by omega) (by omega) hP hD hS (lv_sub hl [0, 1, 4, 5, 6] rfl)
                      · refine lv_iload hx hb dX12_type_151 (lv_at hl 0 rfl) ?_
                        refine lv_iload hx hb dX12_type_153 (lv_at hl 2 rfl) ?_
                        refine lv_icmp_ge (tgt := 214) hx hb dX12_type_155 (by decide) (fun c108 => ?_) (fun c108 => ?_)
                        · have n109 : m2 ≤ o2 := (nI_leI (a := m2) (b := o2) (by omega) (by omega)).mp c108
                          refine lv_iload_n hx hb dX12_type_214 rfl (lv_at hl 3 rfl) ?_
                          refine lv_iload hx hb dX12_type_215 (lv_at hl 1 rfl) ?_
                          refine lv_if_eq (tgt := 224) hx hb dX12_type_217 (by decide) (fun c110 => ?_) (fun c110 => ?_)
                          · refine lv_iconst (v := 0) hx hb dX12_type_224 (by decide) ?_
                            refine lv_iadd hx hb dX12_type_225 ?_
                            refine lv_topi (fun x111 e112 => ?_)
                            refine lv_istore_n (lv' := [(3, .int x111), (6, .int (nI o2)), (5, .int fi2), (4, .int (nI m2)), (2, .int wq), (1, .int (nI k9)), (0, .ref h0)]) hx hb dX12_type_226 rfl hl (by decide) rfl (fun ls hl => ?_)
                            refine lv_iinc (v := (nI (m2 + 1))) (lv' := [(4, .int (nI (m2 + 1))), (3, .int x111), (6, .int (nI o2)), (5, .int fi2), (2, .int wq), (1, .int (nI k9)), (0, .ref h0)]) hx hb dX12_type_227 hl (k := 3) rfl (nI_1 m2) (by decide) rfl (fun ls hl => ?_)
                            refine lv_goto (tgt := 101) hx hb dX12_type_230 (by decide) ?_
                            have hP : va_P G.1 pCl (mW G h0 a (upd (upd (upd (upd (upd (upd F 0 0) 35 (nI dc)) 44 (nI fd)) 49 (nI md)) 59 (nI bk)) 82 hp) B) _ := hP
                            have hD : va_D A (mW G h0 a (upd (upd (upd (upd (upd (upd F 0 0) 35 (nI dc)) 44 (nI fd)) 49 (nI md)) 59 (nI bk)) 82 hp) B) := hD
                            exact ih_m (m2 + 1) x111 _ _ _ (by omega) (by omega) hP hD hS (lv_sub hl [0, 1, 4, 5, 6] rfl)
                          · refine lv_iconst (v := 1) hx hb dX12_type_220 (by decide) ?_
                            refine lv_goto (tgt := 225) hx hb dX12_type_221 (by decide) ?_
                            refine lv_iadd hx hb dX12_type_225 ?_
                            refine lv_topi (fun x113 e114 => ?_)
                            refine lv_istore_n (lv' := [(3, .int x113), (6, .int (nI o2)), (5, .int fi2), (4, .int (nI m2)), (2, .int wq), (1, .int (nI k9)), (0, .ref h0)]) hx hb dX12_type_226 rfl hl (by decide) rfl (fun ls hl => ?_)
                            refine lv_iinc (v := (nI (m2 + 1))) (lv' := [(4, .int (nI (m2 + 1))), (3, .int x113), (6, .int (nI o2)), (5, .int fi2), (2, .int wq), (1, .int (nI k9)), (0, .ref h0)]) hx hb dX12_type_227 hl (k := 3) rfl (nI_1 m2) (by decide) rfl (fun ls hl => ?_)
                            refine lv_goto (tgt := 101) hx hb dX12_type_230 (by decide) ?_
                            have hP : va_P G.1 pCl (mW G h0 a (upd (upd (upd (upd (upd (upd F 0 0) 35 (nI dc)) 44 (nI fd)) 49 (nI md)) 59 (nI bk)) 82 hp) B) _ := hP
                            have hD : va_D A (mW G h0 a (upd (upd (upd (upd (upd (upd F 0 0) 35 (nI dc)) 44 (nI fd)) 49 (nI md)) 59 (nI bk)) 82 hp) B) := hD
                            exact ih_m (m2 + 1) x113 _ _ _ (by omega) (by omega) hP hD hS (lv_sub hl [0, 1, 4, 5, 6] rfl)
                        · have n115 : ¬ (m2 ≤ o2) := fun h9 => c108 ((nI_leI (a := m2) (b := o2) (by omega) (by omega)).mpr h9)
                          refine lv_aload_n hx hb dX12_type_158 rfl (lv_at hl 6 rfl) ?_
                          refine r_get (v := .ref (a 37)) hx hb hown hq hE hP 51 123 tFX12_51 (by decide) pw_1468 rfl dX12_type_159 ?_
                          refine lv_iload hx hb dX12_type_162 (lv_at hl 0 rfl) ?_
                          refine r_ldi (f := (B 37)) (j := o2) hx hb hE hP 37 (ma_37 G a _) rfl (by omega) (by decide) dX12_type_164 ?_
                          refine lv_aload_n hx hb dX12_type_165 rfl (lv_at hl 6 rfl) ?_
                          refine r_get (v := .ref (a 37)) hx hb hown hq hE hP 51 123 tFX12_51 (by decide) pw_1468 rfl dX12_type_166 ?_
                          refine lv_iload hx hb dX12_type_169 (lv_at hl 2 rfl) ?_
                          refine r_ldi (f := (B 37)) (j := m2) hx hb hE hP 37 (ma_37 G a _) rfl (by omega) (by decide) dX12_type_171 ?_
                          refine lv_icmp_ne (tgt := 201) hx hb dX12_type_172 (by decide) (fun c116 => ?_) (fun c116 => ?_)
                          · refine lv_iconst (v := 1) hx hb dX12_type_201 (by decide) ?_
                            refine lv_goto (tgt := 206) hx hb dX12_type_202 (by decide) ?_
                            refine lv_istore (lv' := [(5, .int 1), (6, .int (nI o2)), (4, .int (nI m2)), (3, .int n2), (2, .int wq), (1, .int (nI k9)), (0, .ref h0)]) hx hb dX12_type_206 hl (by decide) rfl (fun ls hl => ?_)
                            refine lv_iinc (v := (nI (o2 + 1))) (lv' := [(6, .int (nI (o2 + 1))), (5, .int 1), (4, .int (nI m2)), (3, .int n2), (2, .int wq), (1, .int (nI k9)), (0, .ref h0)]) hx hb dX12_type_208 hl (k := 1) rfl (nI_1 o2) (by decide) rfl (fun ls hl => ?_)
                            refine lv_goto (tgt := 146) hx hb dX12_type_211 (by decide) ?_
                            have hP : va_P G.1 pCl (mW G h0 a (upd (upd (upd (upd (upd (upd F 0 0) 35 (nI dc)) 44 (nI fd)) 49 (nI md)) 59 (nI bk)) 82 hp) B) _ := hP
                            have hD : va_D A (mW G h0 a (upd (upd (upd (upd (upd (upd F 0 0) 35 (nI dc)) 44 (nI fd)) 49 (nI md)) 59 (nI bk)) 82 hp) B) := hD
                            exact ih_o (o2 + 1) 1 _ _ _ (by omega) (by omega) hP hD hS (lv_sub hl [0, 1, 2, 3, 4, 5, 6] rfl)
                          · refine lv_aload_n hx hb dX12_type_175 rfl (lv_at hl 6 rfl) ?_
                            refine r_get (v := .ref (a 36)) hx hb hown hq hE hP 50 120 tFX12_50 (by decide) pw_1467 rfl dX12_type_176 ?_
                            refine lv_iload hx hb dX12_type_179 (lv_at hl 0 rfl) ?_
                            refine r_ldi (f := (B 36)) (j := o2) hx hb hE hP 36 (ma_36 G a _) rfl (by omega) (by decide) dX12_type_181 ?_
                            obtain ⟨d117, e118, -, h119⟩ := (hPg.ps.2.2.1 o2 (by omega)).1
                            refine lv_topi (fun x120 e121 => ?_)
                            obtain rfl : x120 = nI d117 := e121.trans ((congrFun hw36 _).trans e118)
                            refine lv_iload_n hx hb dX12_type_182 rfl (lv_at hl 5 rfl) ?_
                            refine lv_icmp_eq (tgt := 205) hx hb dX12_type_183 (by decide) (fun c122 => ?_) (fun c122 => ?_)
                            · have n123 : d117 = k9 := (nI_eq (a := d117) (b := k9) (by omega) (by omega)).mp c122
                              refine lv_iconst (v := 0) hx hb dX12_type_205 (by decide) ?_
                              refine lv_istore (lv' := [(5, .int 0), (6, .int (nI o2)), (4, .int (nI m2)), (3, .int n2), (2, .int wq), (1, .int (nI k9)), (0, .ref h0)]) hx hb dX12_type_206 hl (by decide) rfl (fun ls hl => ?_)
                              refine lv_iinc (v := (nI (o2 + 1))) (lv' := [(6, .int (nI (o2 + 1))), (5, .int 0), (4, .int (nI m2)), (3, .int n2), (2, .int wq), (1, .int (nI k9)), (0, .ref h0)]) hx hb dX12_type_208 hl (k := 1) rfl (nI_1 o2) (by decide) rfl (fun ls hl => ?_)
                              refine lv_goto (tgt := 146) hx hb dX12_type_211 (by decide) ?_
                              have hP : va_P G.1 pCl (mW G h0 a (upd (upd (upd (upd (upd (upd F 0 0) 35 (nI dc)) 44 (nI fd)) 49 (nI md)) 59 (nI bk)) 82 hp) B) _ := hP
                              have hD : va_D A (mW G h0 a (upd (upd (upd (upd (upd (upd F 0 0) 35 (nI dc)) 44 (nI fd)) 49 (nI md)) 59 (nI bk)) 82 hp) B) := hD
                              exact ih_o (o2 + 1) 0 _ _ _ (by omega) (by omega) hP hD hS (lv_sub hl [0, 1, 2, 3, 4, 5, 6] rfl)
                            · have n124 : ¬ (d117 = k9) := fun h9 => c122 ((nI_eq (a := d117) (b := k9) (by omega) (by omega)).mpr h9)
                              refine lv_aload_n hx hb dX12_type_186 rfl (lv_at hl 6 rfl) ?_
                              refine lv_aload_n hx hb dX12_type_187 rfl (lv_at hl 6 rfl) ?_
                              refine r_get (v := .ref (a 36)) hx hb hown hq hE hP 50 120 tFX12_50 (by decide) pw_1467 rfl dX12_type_188 ?_
                              refine lv_iload hx hb dX12_type_191 (lv_at hl 0 rfl) ?_
                              refine r_ldi (f := (B 36)) (j := o2) hx hb hE hP 36 (ma_36 G a _) rfl (by omega) (by decide) dX12_type_193 ?_
                              obtain ⟨d125, e126, -, h127⟩ := (hPg.ps.2.2.1 o2 (by omega)).1
                              refine lv_topi (fun x128 e129 => ?_)
                              obtain rfl : x128 = nI d125 := e129.trans ((congrFun hw36 _).trans e126)
                              refine lv_iload_n hx hb dX12_type_194 rfl (lv_at hl 5 rfl) ?_
                              have hP : va_P G.1 pCl (mW G h0 a (upd (upd (upd (upd (upd (upd F 0 0) 35 (nI dc)) 44 (nI fd)) 49 (nI md)) 59 (nI bk)) 82 hp) (updA B 31 (B 31))) _ := hP
                              have hD : va_D A (mW G h0 a (upd (upd (upd (upd (upd (upd F 0 0) 35 (nI dc)) 44 (nI fd)) 49 (nI md)) 59 (nI bk)) 82 hp) (updA B 31 (B 31))) := hD
                              refine pc_V0 (G := G) (As := [.int (nI d125), .int (nI k9)]) (rest := []) hx hb hml hown hq hE hX pX0_al hP hD hS hA hl.1 (R_isAbove l G h0 a (upd (upd (upd (upd (upd (upd F 0 0) 35 (nI dc)) 44 (nI fd)) 49 (nI md)) 59 (nI bk)) 82 hp) B d125 k9 (B 31) (by omega) (by show ∀ i : Nat, i < 1600 → B 31 i = 0 ∨ B 31 i = 1; rw [hw31]; exact hfb)) (gV pw_1772 pw_1773 pw_1774 pw_1523 pw_1760) hV_X12_isAbove 0 9 rfl rfl rfl rfl (Nat.le_of_ble_eq_true rfl) dX12_type_195 ⟨Nat.le_of_ble_eq_true rfl, Nat.le_of_ble_eq_true rfl⟩ ⟨Nat.le_of_ble_eq_true rfl, Nat.le_of_ble_eq_true rfl⟩ (fun v132 u130 H locs hw131 hP hD hS => ?_)
                              obtain rfl : v132 = some (.int ((B 31) (40 * d125 + k9))) := hw131
                              have hP : va_P G.1 pCl (mW G h0 a (upd (upd (upd (upd (upd (upd F 0 0) 35 (nI dc)) 44 (nI fd)) 49 (nI md)) 59 (nI bk)) 82 hp) B) _ := hP
                              have hD : va_D A (mW G h0 a (upd (upd (upd (upd (upd (upd F 0 0) 35 (nI dc)) 44 (nI fd)) 49 (nI md)) 59 (nI bk)) 82 hp) B) := hD
                              refine W.widen (k := 0) (n := 0) (Nat.le_of_ble_eq_true rfl) (Nat.le_of_ble_eq_true rfl) ?_
                              refine W.eq (g2 := F0 m 198 ls [.int ((B 31) (40 * d125 + k9))]) rfl ?_
                              refine lv_if_ne (tgt := 205) hx hb dX12_type_198 (by decide) (fun c133 => ?_) (fun c133 => ?_)
                              · refine lv_iconst (v := 0) hx hb dX12_type_205 (by decide) ?_
                                refine lv_istore (lv' := [(5, .int 0), (6, .int (nI o2)), (4, .int (nI m2)), (3, .int n2), (2, .int wq), (1, .int (nI k9)), (0, .ref h0)]) hx hb dX12_type_206 hl (by decide) rfl (fun ls hl => ?_)
                                refine lv_iinc (v := (nI (o2 + 1))) (lv' := [(6, .int (nI (o2 + 1))), (5, .int 0), (4, .int (nI m2)), (3, .int n2), (2, .int wq), (1, .int (nI k9)), (0, .ref h0)]) hx hb dX12_type_208 hl (k := 1) rfl (nI_1 o2) (by decide) rfl (fun ls hl => ?_)
                                refine lv_goto (tgt := 146) hx hb dX12_type_211 (by decide) ?_
                                have hP : va_P G.1 pCl (mW G h0 a (upd (upd (upd (upd (upd (upd F 0 0) 35 (nI dc)) 44 (nI fd)) 49 (nI md)) 59 (nI bk)) 82 hp) B) _ := hP
                                have hD : va_D A (mW G h0 a (upd (upd (upd (upd (upd (upd F 0 0) 35 (nI dc)) 44 (nI fd)) 49 (nI md)) 59 (nI bk)) 82 hp) B) := hD
                                exact ih_o (o2 + 1) 0 _ _ _ (by omega) (by omega) hP hD hS (lv_sub hl [0, 1, 2, 3, 4, 5, 6] rfl)
                              · refine lv_iconst (v := 1) hx hb dX12_type_201 (by decide) ?_
                                refine lv_goto (tgt := 206) hx hb dX12_type_202 (by decide) ?_
                                refine lv_istore (lv' := [(5, .int 1), (6, .int (nI o2)), (4, .int (nI m2)), (3, .int n2), (2, .int wq), (1, .int (nI k9)), (0, .ref h0)]) hx hb dX12_type_206 hl (by decide) rfl (fun ls hl => ?_)
                                refine lv_iinc (v := (nI (o2 + 1))) (lv' := [(6, .int (nI (o2 + 1))), (5, .int 1), (4, .int (nI m2)), (3, .int n2), (2, .int wq), (1, .int (nI k9)), (0, .ref h0)]) hx hb dX12_type_208 hl (k := 1) rfl (nI_1 o2) (by decide) rfl (fun ls hl => ?_)
                                refine lv_goto (tgt := 146) hx hb dX12_type_211 (by decide) ?_
                                have hP : va_P G.1 pCl (mW G h0 a (upd (upd (upd (upd (upd (upd F 0 0) 35 (nI dc)) 44 (nI fd)) 49 (nI md)) 59 (nI bk)) 82 hp) B) _ := hP
                                have hD : va_D A (mW G h0 a (upd (upd (upd (upd (upd (upd F 0 0) 35 (nI dc)) 44 (nI fd)) 49 (nI md)) 59 (nI bk)) 82 hp) B) := hD
                                exact ih_o (o2 + 1) 1 _ _ _ (by omega) (by omega) hP hD hS (lv_sub hl [0, 1, 2, 3, 4, 5, 6] rfl)
                  have hP : va_P G.1 pCl (mW G h0 a (upd (upd (upd (upd (upd (upd F 0 0) 35 (nI dc)) 44 (nI fd)) 49 (nI md)) 59 (nI bk)) 82 hp) B) _ := hP
                  have hD : va_D A (mW G h0 a (upd (upd (upd (upd (upd (upd F 0 0) 35 (nI dc)) 44 (nI fd)) 49 (nI md)) 59 (nI bk)) 82 hp) B) := hD
                  exact loop_o (m2 + 1) 0 1 _ _ _ (by omega) (by omega) hP hD hS (lv_sub hl [0, 1, 2, 3, 4, 5, 6] rfl)
        have hP : va_P G.1 pCl (mW G h0 a (upd (upd (upd (upd (upd (upd F 0 0) 35 (nI dc)) 44 (nI fd)) 49 (nI md)) 59 (nI bk)) 82 hp) B) _ := hP
        have hD : va_D A (mW G h0 a (upd (upd (upd (upd (upd (upd F 0 0) 35 (nI dc)) 44 (nI fd)) 49 (nI md)) 59 (nI bk)) 82 hp) B) := hD
        exact loop_m (md + 1) 0 (0 : Int32) _ _ _ (by omega) (by omega) hP hD hS (lv_sub hl [0, 1, 4, 3, 2] rfl)
      by_cases h134 : wq = 3
      · subst h134
        refine lv_tableIn (tgt := 235) (off := 204) hx hb dX12_type_31 (by decide) (by decide) (by decide) (by decide) ?_
        refine lv_aload_n hx hb dX12_type_235 rfl (lv_at hl 1 rfl) ?_
        refine r_get (v := .ref (a 26)) hx hb hown hq hE hP 38 90 tFX12_38 (by decide) pw_1457 rfl dX12_type_236 ?_
        refine lv_iload_n hx hb dX12_type_239 rfl (lv_at hl 2 rfl) ?_
        refine r_ldz (f := (B 26)) (j := k9) hx hb hE hP 26 (ma_26 G a _) rfl (by omega) (by decide) dX12_type_240 ?_
        refine lv_if_eq (tgt := 248) hx hb dX12_type_241 (by decide) (fun c135 => ?_) (fun c135 => ?_)
        · refine lv_iconst (v := 0) hx hb dX12_type_248 (by decide) ?_
          have hP : va_P G.1 pCl (mW G h0 a (upd (upd (upd (upd (upd (upd F 0 0) 35 (nI dc)) 44 (nI fd)) 49 (nI md)) 59 (nI bk)) 82 hp) B) _ := hP
          have hD : va_D A (mW G h0 a (upd (upd (upd (upd (upd (upd F 0 0) 35 (nI dc)) 44 (nI fd)) 49 (nI md)) 59 (nI bk)) 82 hp) B) := hD
          exact W.iret (v := 0) hx hb hr (fun t9 ht9 hW9 => ⟨⟨_, (0 : Int32), rfl, rfl, by rw [ht9]; exact hP, hD⟩, hS.F ht9⟩) hS.2.2 dX12_type_249
        · refine lv_iconst (v := 1) hx hb dX12_type_244 (by decide) ?_
          refine lv_goto (tgt := 249) hx hb dX12_type_245 (by decide) ?_
          have hP : va_P G.1 pCl (mW G h0 a (upd (upd (upd (upd (upd (upd F 0 0) 35 (nI dc)) 44 (nI fd)) 49 (nI md)) 59 (nI bk)) 82 hp) B) _ := hP
          have hD : va_D A (mW G h0 a (upd (upd (upd (upd (upd (upd F 0 0) 35 (nI dc)) 44 (nI fd)) 49 (nI md)) 59 (nI bk)) 82 hp) B) := hD
          exact W.iret (v := 1) hx hb hr (fun t9 ht9 hW9 => ⟨⟨_, (1 : Int32), rfl, rfl, by rw [ht9]; exact hP, hD⟩, hS.F ht9⟩) hS.2.2 dX12_type_249
      by_cases h136 : wq = 4
      · subst h136
        refine lv_tableIn (tgt := 250) (off := 219) hx hb dX12_type_31 (by decide) (by decide) (by decide) (by decide) ?_
        refine lv_iconst (v := 0) hx hb dX12_type_250 (by decide) ?_
        refine lv_istore (lv' := [(4, .int 0), (3, .int 0), (0, .ref h0), (1, .int (nI k9)), (2, .int 4)]) hx hb dX12_type_251 hl (by decide) rfl (fun ls hl => ?_)
        have loop_d : ∀ (n_d : Nat) (d2 : Nat) (n2 : Int32) (H : Heap) (locs : List Loc) (ls : Array Slot), d2 ≤ dc → dc + 1 ≤ d2 + n_d → va_P G.1 pCl (mW G h0 a (upd (upd (upd (upd (upd (upd F 0 0) 35 (nI dc)) 44 (nI fd)) 49 (nI md)) 59 (nI bk)) 82 hp) B) H → va_D A (mW G h0 a (upd (upd (upd (upd (upd (upd F 0 0) 35 (nI dc)) 44 (nI fd)) 49 (nI md)) 59 (nI bk)) 82 hp) B) → va_S A s.heap H locs → lv_has ls 7 [(4, .int (nI d2)), (3, .int n2), (2, .int wq), (1, .int (nI k9)), (0, .ref h0)] → W p l e (headSpec (Cond.code yX12_type cX12_type 7 (some .int) :: pw) ({ frames := 4, cells := 0, slots := 0, locals := 105 } : Room)).room s m ([.ref h0, .int kq, .int wq] : List Value).toArray below meth c H locs 0 0 (MQ below (pQ G A (fun (v : Option Value) (u : Int32) => v = some (.int u)) (fun u => (mW G h0 a (upd (upd (upd (upd (upd (upd F 0 0) 35 (nI dc)) 44 (nI fd)) 49 (nI md)) 59 (nI bk)) 82 hp) B))) ([.ref h0, .int kq, .int wq] : List Value).toArray s ({ frames := 4, cells := 0, slots := 0, locals := 105 } : Room).cells ({ frames := 4, cells := 0, slots := 0, locals := 105 } : Room).slots A) (F0 m 253 ls []) := by
          intro n_d
          induction n_d with
          | zero => intro d2 n2 H locs ls hk_d hn_d; omega
          | succ n_d ih_d =>
            intro d2 n2 H locs ls hk_d hn_d hP hD hS hl
            refine lv_iload hx hb dX12_type_253 (lv_at hl 0 rfl) ?_
            refine lv_aload_n hx hb dX12_type_255 rfl (lv_at hl 4 rfl) ?_
            refine r_get (v := .int (nI dc)) hx hb hown hq hE hP 35 384 tFX12_35 (by decide) pw_1732 rfl dX12_type_256 ?_
            refine lv_icmp_ge (tgt := 286) hx hb dX12_type_259 (by decide) (fun c137 => ?_) (fun c137 => ?_)
            · have n138 : dc ≤ d2 := (nI_leI (a := dc) (b := d2) (by omega) (by omega)).mp c137
              refine lv_iload_n hx hb dX12_type_286 rfl (lv_at hl 1 rfl) ?_
              have hP : va_P G.1 pCl (mW G h0 a (upd (upd (upd (upd (upd (upd F 0 0) 35 (nI dc)) 44 (nI fd)) 49 (nI md)) 59 (nI bk)) 82 hp) B) _ := hP
              have hD : va_D A (mW G h0 a (upd (upd (upd (upd (upd (upd F 0 0) 35 (nI dc)) 44 (nI fd)) 49 (nI md)) 59 (nI bk)) 82 hp) B) := hD
              exact W.iret (v := n2) hx hb hr (fun t9 ht9 hW9 => ⟨⟨_, n2, rfl, rfl, by rw [ht9]; exact hP, hD⟩, hS.F ht9⟩) hS.2.2 dX12_type_287
            · have n139 : ¬ (dc ≤ d2) := fun h9 => c137 ((nI_leI (a := dc) (b := d2) (by omega) (by omega)).mpr h9)
              refine lv_iload_n hx hb dX12_type_262 rfl (lv_at hl 1 rfl) ?_
              refine lv_aload_n hx hb dX12_type_263 rfl (lv_at hl 4 rfl) ?_
              refine lv_iload hx hb dX12_type_264 (lv_at hl 0 rfl) ?_
              refine lv_iload_n hx hb dX12_type_266 rfl (lv_at hl 3 rfl) ?_
              have hP : va_P G.1 pCl (mW G h0 a (upd (upd (upd (upd (upd (upd F 0 0) 35 (nI dc)) 44 (nI fd)) 49 (nI md)) 59 (nI bk)) 82 hp) (updA B 31 (B 31))) _ := hP
              have hD : va_D A (mW G h0 a (upd (upd (upd (upd (upd (upd F 0 0) 35 (nI dc)) 44 (nI fd)) 49 (nI md)) 59 (nI bk)) 82 hp) (updA B 31 (B 31))) := hD
              refine pc_V0 (G := G) (As := [.int (nI d2), .int (nI k9)]) (rest := [.int n2]) hx hb hml hown hq hE hX pX0_al hP hD hS hA hl.1 (R_isAbove l G h0 a (upd (upd (upd (upd (upd (upd F 0 0) 35 (nI dc)) 44 (nI fd)) 49 (nI md)) 59 (nI bk)) 82 hp) B d2 k9 (B 31) (by omega) (by show ∀ i : Nat, i < 1600 → B 31 i = 0 ∨ B 31 i = 1; rw [hw31]; exact hfb)) (gV pw_1772 pw_1773 pw_1774 pw_1523 pw_1760) hV_X12_isAbove 0 9 rfl rfl rfl rfl (Nat.le_of_ble_eq_true rfl) dX12_type_267 ⟨Nat.le_of_ble_eq_true rfl, Nat.le_of_ble_eq_true rfl⟩ ⟨Nat.le_of_ble_eq_true rfl, Nat.le_of_ble_eq_true rfl⟩ (fun v142 u140 H locs hw141 hP hD hS => ?_)
              obtain rfl : v142 = some (.int ((B 31) (40 * d2 + k9))) := hw141
              have hP : va_P G.1 pCl (mW G h0 a (upd (upd (upd (upd (upd (upd F 0 0) 35 (nI dc)) 44 (nI fd)) 49 (nI md)) 59 (nI bk)) 82 hp) B) _ := hP
              have hD : va_D A (mW G h0 a (upd (upd (upd (upd (upd (upd F 0 0) 35 (nI dc)) 44 (nI fd)) 49 (nI md)) 59 (nI bk)) 82 hp) B) := hD
              refine W.widen (k := 0) (n := 0) (Nat.le_of_ble_eq_true rfl) (Nat.le_of_ble_eq_true rfl) ?_
              refine W.eq (g2 := F0 m 270 ls [.int ((B 31) (40 * d2 + k9)), .int n2]) rfl ?_
              refine lv_if_eq (tgt := 277) hx hb dX12_type_270 (by decide) (fun c143 => ?_) (fun c143 => ?_)
              · refine lv_iconst (v := 0) hx hb dX12_type_277 (by decide) ?_
                refine lv_iadd hx hb dX12_type_278 ?_
                refine lv_topi (fun x144 e145 => ?_)
                refine lv_istore_n (lv' := [(3, .int x144), (4, .int (nI d2)), (2, .int wq), (1, .int (nI k9)), (0, .ref h0)]) hx hb dX12_type_279 rfl hl (by decide) rfl (fun ls hl => ?_)
                refine lv_iinc (v := (nI (d2 + 1))) (lv' := [(4, .int (nI (d2 + 1))), (3, .int x144), (2, .int wq), (1, .int (nI k9)), (0, .ref h0)]) hx hb dX12_type_280 hl (k := 1) rfl (nI_1 d2) (by decide) rfl (fun ls hl => ?_)
                refine lv_goto (tgt := 253) hx hb dX12_type_283 (by decide) ?_
                have hP : va_P G.1 pCl (mW G h0 a (upd (upd (upd (upd (upd (upd F 0 0) 35 (nI dc)) 44 (nI fd)) 49 (nI md)) 59 (nI bk)) 82 hp) B) _ := hP
                have hD : va_D A (mW G h0 a (upd (upd (upd (upd (upd (upd F 0 0) 35 (nI dc)) 44 (nI fd)) 49 (nI md)) 59 (nI bk)) 82 hp) B) := hD
                exact ih_d (d2 + 1) x144 _ _ _ (by omega) (by omega) hP hD hS (lv_sub hl [0, 1, 2, 3, 4] rfl)
              · refine lv_iconst (v := 1) hx hb dX12_type_273 (by decide) ?_
                refine lv_goto (tgt := 278) hx hb dX12_type_274 (by decide) ?_
                refine lv_iadd hx hb dX12_type_278 ?_
                refine lv_topi (fun x146 e147 => ?_)
                refine lv_istore_n (lv' := [(3, .int x146), (4, .int (nI d2)), (2, .int wq), (1, .int (nI k9)), (0, .ref h0)]) hx hb dX12_type_279 rfl hl (by decide) rfl (fun ls hl => ?_)
                refine lv_iinc (v := (nI (d2 + 1))) (lv' := [(4, .int (nI (d2 + 1))), (3, .int x146), (2, .int wq), (1, .int (nI k9)), (0, .ref h0)]) hx hb dX12_type_280 hl (k := 1) rfl (nI_1 d2) (by decide) rfl (fun ls hl => ?_)
                refine lv_goto (tgt := 253) hx hb dX12_type_283 (by decide) ?_
                have hP : va_P G.1 pCl (mW G h0 a (upd (upd (upd (upd (upd (upd F 0 0) 35 (nI dc)) 44 (nI fd)) 49 (nI md)) 59 (nI bk)) 82 hp) B) _ := hP
                have hD : va_D A (mW G h0 a (upd (upd (upd (upd (upd (upd F 0 0) 35 (nI dc)) 44 (nI fd)) 49 (nI md)) 59 (nI bk)) 82 hp) B) := hD
                exact ih_d (d2 + 1) x146 _ _ _ (by omega) (by omega) hP hD hS (lv_sub hl [0, 1, 2, 3, 4] rfl)
        have hP : va_P G.1 pCl (mW G h0 a (upd (upd (upd (upd (upd (upd F 0 0) 35 (nI dc)) 44 (nI fd)) 49 (nI md)) 59 (nI bk)) 82 hp) B) _ := hP
        have hD : va_D A (mW G h0 a (upd (upd (upd (upd (upd (upd F 0 0) 35 (nI dc)) 44 (nI fd)) 49 (nI md)) 59 (nI bk)) 82 hp) B) := hD
        exact loop_d (dc + 1) 0 (0 : Int32) _ _ _ (by omega) (by omega) hP hD hS (lv_sub hl [0, 1, 4, 3, 2] rfl)
      by_cases h148 : wq = 5
      · subst h148
        refine lv_tableIn (tgt := 288) (off := 257) hx hb dX12_type_31 (by decide) (by decide) (by decide) (by decide) ?_
        refine lv_aload_n hx hb dX12_type_288 rfl (lv_at hl 1 rfl) ?_
        refine r_get (v := .ref (a 26)) hx hb hown hq hE hP 38 90 tFX12_38 (by decide) pw_1457 rfl dX12_type_289 ?_
        refine lv_iload_n hx hb dX12_type_292 rfl (lv_at hl 2 rfl) ?_
        refine r_ldz (f := (B 26)) (j := k9) hx hb hE hP 26 (ma_26 G a _) rfl (by omega) (by decide) dX12_type_293 ?_
        refine lv_if_eq (tgt := 301) hx hb dX12_type_294 (by decide) (fun c149 => ?_) (fun c149 => ?_)
        · refine lv_aload_n hx hb dX12_type_301 rfl (lv_at hl 1 rfl) ?_
          refine r_get (v := .ref (a 30)) hx hb hown hq hE hP 42 102 tFX12_42 (by decide) pw_1461 rfl dX12_type_302 ?_
          refine lv_iload_n hx hb dX12_type_305 rfl (lv_at hl 2 rfl) ?_
          refine r_ldi (f := (B 30)) (j := k9) hx hb hE hP 30 (ma_30 G a _) rfl (by omega) (by decide) dX12_type_306 ?_
          have hP : va_P G.1 pCl (mW G h0 a (upd (upd (upd (upd (upd (upd F 0 0) 35 (nI dc)) 44 (nI fd)) 49 (nI md)) 59 (nI bk)) 82 hp) B) _ := hP
          have hD : va_D A (mW G h0 a (upd (upd (upd (upd (upd (upd F 0 0) 35 (nI dc)) 44 (nI fd)) 49 (nI md)) 59 (nI bk)) 82 hp) B) := hD
          exact W.iret (v := ((B 30) k9)) hx hb hr (fun t9 ht9 hW9 => ⟨⟨_, ((B 30) k9), rfl, rfl, by rw [ht9]; exact hP, hD⟩, hS.F ht9⟩) hS.2.2 dX12_type_307
        · refine lv_iconst (v := (-1)) hx hb dX12_type_297 (by decide) ?_
          refine lv_goto (tgt := 307) hx hb dX12_type_298 (by decide) ?_
          have hP : va_P G.1 pCl (mW G h0 a (upd (upd (upd (upd (upd (upd F 0 0) 35 (nI dc)) 44 (nI fd)) 49 (nI md)) 59 (nI bk)) 82 hp) B) _ := hP
          have hD : va_D A (mW G h0 a (upd (upd (upd (upd (upd (upd F 0 0) 35 (nI dc)) 44 (nI fd)) 49 (nI md)) 59 (nI bk)) 82 hp) B) := hD
          exact W.iret (v := (-1)) hx hb hr (fun t9 ht9 hW9 => ⟨⟨_, ((-1) : Int32), rfl, rfl, by rw [ht9]; exact hP, hD⟩, hS.F ht9⟩) hS.2.2 dX12_type_307
      refine lv_tableOut (tgt := 308) hx hb dX12_type_31 (sw_out5 h8 h13 h17 h134 h136 h148) (by decide) ?_
      refine lv_iconst (v := (-1)) hx hb dX12_type_308 (by decide) ?_
      have hP : va_P G.1 pCl (mW G h0 a (upd (upd (upd (upd (upd (upd F 0 0) 35 (nI dc)) 44 (nI fd)) 49 (nI md)) 59 (nI bk)) 82 hp) B) _ := hP
      have hD : va_D A (mW G h0 a (upd (upd (upd (upd (upd (upd F 0 0) 35 (nI dc)) 44 (nI fd)) 49 (nI md)) 59 (nI bk)) 82 hp) B) := hD
      exact W.iret (v := (-1)) hx hb hr (fun t9 ht9 hW9 => ⟨⟨_, ((-1) : Int32), rfl, rfl, by rw [ht9]; exact hP, hD⟩, hS.F ht9⟩) hS.2.2 dX12_type_309
    · refine lv_iconst (v := (-1)) hx hb dX12_type_26 (by decide) ?_
      have hP : va_P G.1 pCl (mW G h0 a (upd (upd (upd (upd (upd (upd F 0 0) 35 (nI dc)) 44 (nI fd)) 49 (nI md)) 59 (nI bk)) 82 hp) B) _ := hP
      have hD : va_D A (mW G h0 a (upd (upd (upd (upd (upd (upd F 0 0) 35 (nI dc)) 44 (nI fd)) 49 (nI md)) 59 (nI bk)) 82 hp) B) := hD
      exact W.iret (v := (-1)) hx hb hr (fun t9 ht9 hW9 => ⟨⟨_, ((-1) : Int32), rfl, rfl, by rw [ht9]; exact hP, hD⟩, hS.F ht9⟩) hS.2.2 dX12_type_27
theorem dX12_above_0 : decode cX12_above 0 = .ok (.aload_n 0, 1) := by decide +kernel
theorem dX12_above_1 : decode cX12_above 1 = .ok (.iconst 0, 1) := by decide +kernel
theorem dX12_above_2 : decode cX12_above 2 = .ok (.putfield 252, 3) := by decide +kernel
theorem dX12_above_5 : decode cX12_above 5 = .ok (.aload_n 0, 1) := by decide +kernel
theorem dX12_above_6 : decode cX12_above 6 = .ok (.getfield 649, 3) := by decide +kernel
theorem dX12_above_9 : decode cX12_above 9 = .ok (.ifCond .eq 31, 3) := by decide +kernel
theorem dX12_above_40 : decode cX12_above 40 = .ok (.iconst (-1), 1) := by decide +kernel
theorem dX12_above_41 : decode cX12_above 41 = .ok (.goto 22, 3) := by decide +kernel
theorem dX12_above_63 : decode cX12_above 63 = .ok (.ireturn, 1) := by decide +kernel
theorem dX12_above_12 : decode cX12_above 12 = .ok (.iload_n 1, 1) := by decide +kernel
theorem dX12_above_13 : decode cX12_above 13 = .ok (.iconst 0, 1) := by decide +kernel
theorem dX12_above_14 : decode cX12_above 14 = .ok (.aload_n 0, 1) := by decide +kernel
theorem dX12_above_15 : decode cX12_above 15 = .ok (.getfield 384, 3) := by decide +kernel
theorem dX12_above_18 : decode cX12_above 18 = .ok (.iconst 1, 1) := by decide +kernel
theorem dX12_above_19 : decode cX12_above 19 = .ok (.isub, 1) := by decide +kernel
theorem dX12_above_20 : decode cX12_above 20 = .ok (.invokestatic 261, 3) := by decide +kernel
theorem dX12_above_23 : decode cX12_above 23 = .ok (.ifCond .eq 17, 3) := by decide +kernel
theorem dX12_above_26 : decode cX12_above 26 = .ok (.iload_n 2, 1) := by decide +kernel
theorem dX12_above_27 : decode cX12_above 27 = .ok (.iconst 0, 1) := by decide +kernel
theorem dX12_above_28 : decode cX12_above 28 = .ok (.aload_n 0, 1) := by decide +kernel
theorem dX12_above_29 : decode cX12_above 29 = .ok (.getfield 384, 3) := by decide +kernel
theorem dX12_above_32 : decode cX12_above 32 = .ok (.iconst 1, 1) := by decide +kernel
theorem dX12_above_33 : decode cX12_above 33 = .ok (.isub, 1) := by decide +kernel
theorem dX12_above_34 : decode cX12_above 34 = .ok (.invokestatic 261, 3) := by decide +kernel
theorem dX12_above_37 : decode cX12_above 37 = .ok (.ifCond .ne 7, 3) := by decide +kernel
theorem dX12_above_44 : decode cX12_above 44 = .ok (.iload_n 1, 1) := by decide +kernel
theorem dX12_above_45 : decode cX12_above 45 = .ok (.iload_n 2, 1) := by decide +kernel
theorem dX12_above_46 : decode cX12_above 46 = .ok (.if_icmp .eq 12, 3) := by decide +kernel
theorem dX12_above_58 : decode cX12_above 58 = .ok (.iconst 1, 1) := by decide +kernel
theorem dX12_above_59 : decode cX12_above 59 = .ok (.goto 4, 3) := by decide +kernel
theorem dX12_above_49 : decode cX12_above 49 = .ok (.aload_n 0, 1) := by decide +kernel
theorem dX12_above_50 : decode cX12_above 50 = .ok (.iload_n 1, 1) := by decide +kernel
theorem dX12_above_51 : decode cX12_above 51 = .ok (.iload_n 2, 1) := by decide +kernel
theorem dX12_above_52 : decode cX12_above 52 = .ok (.invokevirtual 518, 3) := by decide +kernel
theorem dX12_above_55 : decode cX12_above 55 = .ok (.ifCond .eq 7, 3) := by decide +kernel
theorem dX12_above_62 : decode cX12_above 62 = .ok (.iconst 0, 1) := by decide +kernel
set_option maxHeartbeats 20000000 in
set_option maxRecDepth 100000 in
/-- above(k, lower) -/
theorem R_above (l : Launch) (G : pT) (h0 : Nat) (a : Nat → Nat) (F : Nat → Int32) (B : Nat → Nat → Int32) (Xs : Nat → Nat → Int32) (gh : Nat → Nat → Nat) (nd : Nat) (T : Nat) (nm : Nat) (wr : Nat) (lz : Nat) (dc : Nat) (fd : Nat) (md : Nat) (pr : Nat) (bk : Nat) (M : MTb) (hp : Int32) (kq : Int32) (wq : Int32) (hpg : If (¬ hp = 0) (Pg Xs B gh nd T nm wr lz dc fd md pr bk M)) : PM l G pX0 yX12_above cX12_above 3 (some .int) ({ frames := 3, cells := 0, slots := 0, locals := 82 }) [.ref h0, .int kq, .int wq] (mW G h0 a (upd (upd (upd (upd (upd F 35 (nI dc)) 44 (nI fd)) 49 (nI md)) 59 (nI bk)) 82 hp) B) (fun (v : Option Value) (u : Int32) => v = some (.int u)) (fun u => (mW G h0 a (upd (upd (upd (upd (upd (upd F 0 0) 35 (nI dc)) 44 (nI fd)) 49 (nI md)) 59 (nI bk)) 82 hp) B)) := by
  intro sz
  refine Met.ofW (cc := cX12_above) (maxL := 3) (ret := (some .int)) (by decide) rfl ?_
  intro p e s m args below meth c s₁ B9 hml hv
  obtain ⟨rfl, hsz, hP, hD0, hE, hX⟩ := hv
  have hx := B9.exec
  have hb := B9.bytes
  have hr := B9.returns
  have hts := atoms_spec (ws := Cond.code yX12_above cX12_above 3 (some .int) :: pw) B9.pre
  have hq : ∀ w ∈ pw, w.before _ s = true := fun w h => hts w (List.mem_cons_of_mem _ h)
  have hown : s.vm.findClass RX12 = some m.cls := findClass_of_methodNamed B9.named
  have hlocks := B9.notSynchronized
  subst hsz
  have hD := hD0.self (sz := s.heap.size)
  have hA : ∀ q : Nat, s.heap.size ≤ q → va_A (mW G h0 a (upd (upd (upd (upd (upd F 35 (nI dc)) 44 (nI fd)) 49 (nI md)) 59 (nI bk)) 82 hp) B) s.heap.size q := fun q h => Or.inr h
  have hP : va_P G.1 pCl (mW G h0 a (upd (upd (upd (upd (upd F 35 (nI dc)) 44 (nI fd)) 49 (nI md)) 59 (nI bk)) 82 hp) B) s.heap := hP
  generalize va_A (mW G h0 a (upd (upd (upd (upd (upd F 35 (nI dc)) 44 (nI fd)) 49 (nI md)) 59 (nI bk)) 82 hp) B) s.heap.size = A at hD hE hA ⊢
  have hS : va_S A s.heap s.heap [] := va_S.rf
  have hl := lv_entry ([.ref h0, .int kq, .int wq]) (n := 3) (Nat.le_of_ble_eq_true rfl)
  rw [lg_entry_eq]
  generalize (lg_sl ([.ref h0, .int kq, .int wq]) ++ List.replicate (3 - (lg_sl ([.ref h0, .int kq, .int wq])).length) Slot.unset).toArray = ls at hl ⊢
  have hl : lv_has ls 3 [(0, .ref h0), (1, .int kq), (2, .int wq)] := hl
  refine lv_aload_n hx hb dX12_above_0 rfl (lv_at hl 0 rfl) ?_
  refine lv_iconst (v := 0) hx hb dX12_above_1 (by decide) ?_
  refine r_put (v := 0) (ty := .int) hx hb hown hq hE hP hD hS 0 252 tFX12_0 (by decide) pw_1515 (by decide) rfl rfl (ms_0 a _ _) dX12_above_2 (fun H locs hP hD hS => ?_)
  refine lv_aload_n hx hb dX12_above_5 rfl (lv_at hl 0 rfl) ?_
  refine r_get (v := .int hp) hx hb hown hq hE hP 82 649 tFX12_82 (by decide) pw_1922 rfl dX12_above_6 ?_
  refine lv_if_eq (tgt := 40) hx hb dX12_above_9 (by decide) (fun c1 => ?_) (fun c1 => ?_)
  · refine lv_iconst (v := (-1)) hx hb dX12_above_40 (by decide) ?_
    refine lv_goto (tgt := 63) hx hb dX12_above_41 (by decide) ?_
    have hP : va_P G.1 pCl (mW G h0 a (upd (upd (upd (upd (upd (upd F 0 0) 35 (nI dc)) 44 (nI fd)) 49 (nI md)) 59 (nI bk)) 82 hp) B) _ := hP
    have hD : va_D A (mW G h0 a (upd (upd (upd (upd (upd (upd F 0 0) 35 (nI dc)) 44 (nI fd)) 49 (nI md)) 59 (nI bk)) 82 hp) B) := hD
    exact W.iret (v := (-1)) hx hb hr (fun t9 ht9 hW9 => ⟨⟨_, ((-1) : Int32), rfl, rfl, by rw [ht9]; exact hP, hD⟩, hS.F ht9⟩) hS.2.2 dX12_above_63
  · have hPg := hpg c1
    have hbd := hPg.bd
    have hw31 : B 31 = Xs 31 := hPg.row 31 (by omega) (by omega) (by omega) (by omega) (by omega)
    have hfb := hPg.ab.1
    refine lv_iload_n hx hb dX12_above_12 rfl (lv_at hl 1 rfl) ?_
    refine lv_iconst (v := 0) hx hb dX12_above_13 (by decide) ?_
    refine lv_aload_n hx hb dX12_above_14 rfl (lv_at hl 0 rfl) ?_
    refine r_get (v := .int (nI dc)) hx hb hown hq hE hP 35 384 tFX12_35 (by decide) pw_1732 rfl dX12_above_15 ?_
    refine lv_iconst (v := 1) hx hb dX12_above_18 (by decide) ?_
    refine lv_isub hx hb dX12_above_19 ?_
    refine lv_topi (fun x2 e3 => ?_)
    refine pc_SN (G := G) (As := [.int kq, .int 0, .int x2]) (rest := []) hx hb hml hown hq hE hX pX0_al hP hS hA hl.1 (s_in l G kq 0 x2) (gS pw_1521 pw_1522 pw_1523 pw_1513) hS_X12_in rfl (Nat.le_of_ble_eq_true rfl) dX12_above_20 ⟨Nat.le_of_ble_eq_true rfl, Nat.le_of_ble_eq_true rfl⟩ ⟨Nat.le_of_ble_eq_true rfl, Nat.le_of_ble_eq_true rfl⟩ (fun v6 u4 H locs hw5 hP hS => ?_)
    obtain rfl : v6 = some (.int (isin kq 0 x2)) := hw5
    refine W.widen (k := 0) (n := 0) (Nat.le_of_ble_eq_true rfl) (Nat.le_of_ble_eq_true rfl) ?_
    refine W.eq (g2 := F0 m 23 ls [.int (isin kq 0 x2)]) rfl ?_
    refine lv_if_eq (tgt := 40) hx hb dX12_above_23 (by decide) (fun c7 => ?_) (fun c7 => ?_)
    · refine lv_iconst (v := (-1)) hx hb dX12_above_40 (by decide) ?_
      refine lv_goto (tgt := 63) hx hb dX12_above_41 (by decide) ?_
      have hP : va_P G.1 pCl (mW G h0 a (upd (upd (upd (upd (upd (upd F 0 0) 35 (nI dc)) 44 (nI fd)) 49 (nI md)) 59 (nI bk)) 82 hp) B) _ := hP
      have hD : va_D A (mW G h0 a (upd (upd (upd (upd (upd (upd F 0 0) 35 (nI dc)) 44 (nI fd)) 49 (nI md)) 59 (nI bk)) 82 hp) B) := hD
      exact W.iret (v := (-1)) hx hb hr (fun t9 ht9 hW9 => ⟨⟨_, ((-1) : Int32), rfl, rfl, by rw [ht9]; exact hP, hD⟩, hS.F ht9⟩) hS.2.2 dX12_above_63
    · obtain ⟨k9, hkk9, hlk9⟩ := isin_m (by omega) c7
      subst hkk9
      have hP : va_P G.1 pCl (mW G h0 a (upd (upd (upd (upd (upd (upd F 0 0) 35 (nI dc)) 44 (nI fd)) 49 (nI md)) 59 (nI bk)) 82 hp) B) _ := hP
      have hD : va_D A (mW G h0 a (upd (upd (upd (upd (upd (upd F 0 0) 35 (nI dc)) 44 (nI fd)) 49 (nI md)) 59 (nI bk)) 82 hp) B) := hD
      refine lv_iload_n hx hb dX12_above_26 rfl (lv_at hl 2 rfl) ?_
      refine lv_iconst (v := 0) hx hb dX12_above_27 (by decide) ?_
      refine lv_aload_n hx hb dX12_above_28 rfl (lv_at hl 0 rfl) ?_
      refine r_get (v := .int (nI dc)) hx hb hown hq hE hP 35 384 tFX12_35 (by decide) pw_1732 rfl dX12_above_29 ?_
      refine lv_iconst (v := 1) hx hb dX12_above_32 (by decide) ?_
      refine lv_isub hx hb dX12_above_33 ?_
      refine lv_topi (fun x8 e9 => ?_)
      refine pc_SN (G := G) (As := [.int wq, .int 0, .int x8]) (rest := []) hx hb hml hown hq hE hX pX0_al hP hS hA hl.1 (s_in l G wq 0 x8) (gS pw_1521 pw_1522 pw_1523 pw_1513) hS_X12_in rfl (Nat.le_of_ble_eq_true rfl) dX12_above_34 ⟨Nat.le_of_ble_eq_true rfl, Nat.le_of_ble_eq_true rfl⟩ ⟨Nat.le_of_ble_eq_true rfl, Nat.le_of_ble_eq_true rfl⟩ (fun v12 u10 H locs hw11 hP hS => ?_)
      obtain rfl : v12 = some (.int (isin wq 0 x8)) := hw11
      refine W.widen (k := 0) (n := 0) (Nat.le_of_ble_eq_true rfl) (Nat.le_of_ble_eq_true rfl) ?_
      refine W.eq (g2 := F0 m 37 ls [.int (isin wq 0 x8)]) rfl ?_
      refine lv_if_ne (tgt := 44) hx hb dX12_above_37 (by decide) (fun c13 => ?_) (fun c13 => ?_)
      · obtain ⟨j9, hkj9, hlj9⟩ := isin_m (by omega) c13
        subst hkj9
        have hP : va_P G.1 pCl (mW G h0 a (upd (upd (upd (upd (upd (upd F 0 0) 35 (nI dc)) 44 (nI fd)) 49 (nI md)) 59 (nI bk)) 82 hp) B) _ := hP
        have hD : va_D A (mW G h0 a (upd (upd (upd (upd (upd (upd F 0 0) 35 (nI dc)) 44 (nI fd)) 49 (nI md)) 59 (nI bk)) 82 hp) B) := hD
        refine lv_iload_n hx hb dX12_above_44 rfl (lv_at hl 1 rfl) ?_
        refine lv_iload_n hx hb dX12_above_45 rfl (lv_at hl 2 rfl) ?_
        refine lv_icmp_eq (tgt := 58) hx hb dX12_above_46 (by decide) (fun c14 => ?_) (fun c14 => ?_)
        · have n15 : k9 = j9 := (nI_eq (a := k9) (b := j9) (by omega) (by omega)).mp c14
          refine lv_iconst (v := 1) hx hb dX12_above_58 (by decide) ?_
          refine lv_goto (tgt := 63) hx hb dX12_above_59 (by decide) ?_
          have hP : va_P G.1 pCl (mW G h0 a (upd (upd (upd (upd (upd (upd F 0 0) 35 (nI dc)) 44 (nI fd)) 49 (nI md)) 59 (nI bk)) 82 hp) B) _ := hP
          have hD : va_D A (mW G h0 a (upd (upd (upd (upd (upd (upd F 0 0) 35 (nI dc)) 44 (nI fd)) 49 (nI md)) 59 (nI bk)) 82 hp) B) := hD
          exact W.iret (v := 1) hx hb hr (fun t9 ht9 hW9 => ⟨⟨_, (1 : Int32), rfl, rfl, by rw [ht9]; exact hP, hD⟩, hS.F ht9⟩) hS.2.2 dX12_above_63
        · have n16 : ¬ (k9 = j9) := fun h9 => c14 ((nI_eq (a := k9) (b := j9) (by omega) (by omega)).mpr h9)
          refine lv_aload_n hx hb dX12_above_49 rfl (lv_at hl 0 rfl) ?_
          refine lv_iload_n hx hb dX12_above_50 rfl (lv_at hl 1 rfl) ?_
          refine lv_iload_n hx hb dX12_above_51 rfl (lv_at hl 2 rfl) ?_
          have hP : va_P G.1 pCl (mW G h0 a (upd (upd (upd (upd (upd (upd F 0 0) 35 (nI dc)) 44 (nI fd)) 49 (nI md)) 59 (nI bk)) 82 hp) (updA B 31 (B 31))) _ := hP
          have hD : va_D A (mW G h0 a (upd (upd (upd (upd (upd (upd F 0 0) 35 (nI dc)) 44 (nI fd)) 49 (nI md)) 59 (nI bk)) 82 hp) (updA B 31 (B 31))) := hD
          refine pc_V0 (G := G) (As := [.int (nI k9), .int (nI j9)]) (rest := []) hx hb hml hown hq hE hX pX0_al hP hD hS hA hl.1 (R_isAbove l G h0 a (upd (upd (upd (upd (upd (upd F 0 0) 35 (nI dc)) 44 (nI fd)) 49 (nI md)) 59 (nI bk)) 82 hp) B k9 j9 (B 31) (by omega) (by show ∀ i : Nat, i < 1600 → B 31 i = 0 ∨ B 31 i = 1; rw [hw31]; exact hfb)) (gV pw_1772 pw_1773 pw_1774 pw_1523 pw_1760) hV_X12_isAbove 0 9 rfl rfl rfl rfl (Nat.le_of_ble_eq_true rfl) dX12_above_52 ⟨Nat.le_of_ble_eq_true rfl, Nat.le_of_ble_eq_true rfl⟩ ⟨Nat.le_of_ble_eq_true rfl, Nat.le_of_ble_eq_true rfl⟩ (fun v19 u17 H locs hw18 hP hD hS => ?_)
          obtain rfl : v19 = some (.int ((B 31) (40 * k9 + j9))) := hw18
          have hP : va_P G.1 pCl (mW G h0 a (upd (upd (upd (upd (upd (upd F 0 0) 35 (nI dc)) 44 (nI fd)) 49 (nI md)) 59 (nI bk)) 82 hp) B) _ := hP
          have hD : va_D A (mW G h0 a (upd (upd (upd (upd (upd (upd F 0 0) 35 (nI dc)) 44 (nI fd)) 49 (nI md)) 59 (nI bk)) 82 hp) B) := hD
          refine W.widen (k := 0) (n := 0) (Nat.le_of_ble_eq_true rfl) (Nat.le_of_ble_eq_true rfl) ?_
          refine W.eq (g2 := F0 m 55 ls [.int ((B 31) (40 * k9 + j9))]) rfl ?_
          refine lv_if_eq (tgt := 62) hx hb dX12_above_55 (by decide) (fun c20 => ?_) (fun c20 => ?_)
          · refine lv_iconst (v := 0) hx hb dX12_above_62 (by decide) ?_
            have hP : va_P G.1 pCl (mW G h0 a (upd (upd (upd (upd (upd (upd F 0 0) 35 (nI dc)) 44 (nI fd)) 49 (nI md)) 59 (nI bk)) 82 hp) B) _ := hP
            have hD : va_D A (mW G h0 a (upd (upd (upd (upd (upd (upd F 0 0) 35 (nI dc)) 44 (nI fd)) 49 (nI md)) 59 (nI bk)) 82 hp) B) := hD
            exact W.iret (v := 0) hx hb hr (fun t9 ht9 hW9 => ⟨⟨_, (0 : Int32), rfl, rfl, by rw [ht9]; exact hP, hD⟩, hS.F ht9⟩) hS.2.2 dX12_above_63
          · refine lv_iconst (v := 1) hx hb dX12_above_58 (by decide) ?_
            refine lv_goto (tgt := 63) hx hb dX12_above_59 (by decide) ?_
            have hP : va_P G.1 pCl (mW G h0 a (upd (upd (upd (upd (upd (upd F 0 0) 35 (nI dc)) 44 (nI fd)) 49 (nI md)) 59 (nI bk)) 82 hp) B) _ := hP
            have hD : va_D A (mW G h0 a (upd (upd (upd (upd (upd (upd F 0 0) 35 (nI dc)) 44 (nI fd)) 49 (nI md)) 59 (nI bk)) 82 hp) B) := hD
            exact W.iret (v := 1) hx hb hr (fun t9 ht9 hW9 => ⟨⟨_, (1 : Int32), rfl, rfl, by rw [ht9]; exact hP, hD⟩, hS.F ht9⟩) hS.2.2 dX12_above_63
      · refine lv_iconst (v := (-1)) hx hb dX12_above_40 (by decide) ?_
        refine lv_goto (tgt := 63) hx hb dX12_above_41 (by decide) ?_
        have hP : va_P G.1 pCl (mW G h0 a (upd (upd (upd (upd (upd (upd F 0 0) 35 (nI dc)) 44 (nI fd)) 49 (nI md)) 59 (nI bk)) 82 hp) B) _ := hP
        have hD : va_D A (mW G h0 a (upd (upd (upd (upd (upd (upd F 0 0) 35 (nI dc)) 44 (nI fd)) 49 (nI md)) 59 (nI bk)) 82 hp) B) := hD
        exact W.iret (v := (-1)) hx hb hr (fun t9 ht9 hW9 => ⟨⟨_, ((-1) : Int32), rfl, rfl, by rw [ht9]; exact hP, hD⟩, hS.F ht9⟩) hS.2.2 dX12_above_63
theorem dX12_letter_0 : decode cX12_letter 0 = .ok (.aload_n 0, 1) := by decide +kernel
theorem dX12_letter_1 : decode cX12_letter 1 = .ok (.iconst 0, 1) := by decide +kernel
theorem dX12_letter_2 : decode cX12_letter 2 = .ok (.putfield 252, 3) := by decide +kernel
theorem dX12_letter_5 : decode cX12_letter 5 = .ok (.aload_n 0, 1) := by decide +kernel
theorem dX12_letter_6 : decode cX12_letter 6 = .ok (.getfield 649, 3) := by decide +kernel
theorem dX12_letter_9 : decode cX12_letter 9 = .ok (.ifCond .eq 36, 3) := by decide +kernel
theorem dX12_letter_45 : decode cX12_letter 45 = .ok (.iconst (-1), 1) := by decide +kernel
theorem dX12_letter_46 : decode cX12_letter 46 = .ok (.ireturn, 1) := by decide +kernel
theorem dX12_letter_12 : decode cX12_letter 12 = .ok (.iload_n 1, 1) := by decide +kernel
theorem dX12_letter_13 : decode cX12_letter 13 = .ok (.iconst 0, 1) := by decide +kernel
theorem dX12_letter_14 : decode cX12_letter 14 = .ok (.aload_n 0, 1) := by decide +kernel
theorem dX12_letter_15 : decode cX12_letter 15 = .ok (.getfield 384, 3) := by decide +kernel
theorem dX12_letter_18 : decode cX12_letter 18 = .ok (.iconst 1, 1) := by decide +kernel
theorem dX12_letter_19 : decode cX12_letter 19 = .ok (.isub, 1) := by decide +kernel
theorem dX12_letter_20 : decode cX12_letter 20 = .ok (.invokestatic 261, 3) := by decide +kernel
theorem dX12_letter_23 : decode cX12_letter 23 = .ok (.ifCond .eq 22, 3) := by decide +kernel
theorem dX12_letter_26 : decode cX12_letter 26 = .ok (.iload_n 2, 1) := by decide +kernel
theorem dX12_letter_27 : decode cX12_letter 27 = .ok (.ifCond .lt 18, 3) := by decide +kernel
theorem dX12_letter_30 : decode cX12_letter 30 = .ok (.iload_n 2, 1) := by decide +kernel
theorem dX12_letter_31 : decode cX12_letter 31 = .ok (.aload_n 0, 1) := by decide +kernel
theorem dX12_letter_32 : decode cX12_letter 32 = .ok (.getfield 31, 3) := by decide +kernel
theorem dX12_letter_35 : decode cX12_letter 35 = .ok (.aload_n 0, 1) := by decide +kernel
theorem dX12_letter_36 : decode cX12_letter 36 = .ok (.getfield 84, 3) := by decide +kernel
theorem dX12_letter_39 : decode cX12_letter 39 = .ok (.iload_n 1, 1) := by decide +kernel
theorem dX12_letter_40 : decode cX12_letter 40 = .ok (.iaload, 1) := by decide +kernel
theorem dX12_letter_41 : decode cX12_letter 41 = .ok (.iaload, 1) := by decide +kernel
theorem dX12_letter_42 : decode cX12_letter 42 = .ok (.if_icmp .lt 5, 3) := by decide +kernel
theorem dX12_letter_47 : decode cX12_letter 47 = .ok (.aload_n 0, 1) := by decide +kernel
theorem dX12_letter_48 : decode cX12_letter 48 = .ok (.getfield 34, 3) := by decide +kernel
theorem dX12_letter_51 : decode cX12_letter 51 = .ok (.aload_n 0, 1) := by decide +kernel
theorem dX12_letter_52 : decode cX12_letter 52 = .ok (.getfield 28, 3) := by decide +kernel
theorem dX12_letter_55 : decode cX12_letter 55 = .ok (.aload_n 0, 1) := by decide +kernel
theorem dX12_letter_56 : decode cX12_letter 56 = .ok (.getfield 84, 3) := by decide +kernel
theorem dX12_letter_59 : decode cX12_letter 59 = .ok (.iload_n 1, 1) := by decide +kernel
theorem dX12_letter_60 : decode cX12_letter 60 = .ok (.iaload, 1) := by decide +kernel
theorem dX12_letter_61 : decode cX12_letter 61 = .ok (.iaload, 1) := by decide +kernel
theorem dX12_letter_62 : decode cX12_letter 62 = .ok (.iload_n 2, 1) := by decide +kernel
theorem dX12_letter_63 : decode cX12_letter 63 = .ok (.iadd, 1) := by decide +kernel
theorem dX12_letter_64 : decode cX12_letter 64 = .ok (.baload, 1) := by decide +kernel
theorem dX12_letter_65 : decode cX12_letter 65 = .ok (.ireturn, 1) := by decide +kernel
set_option maxHeartbeats 20000000 in
set_option maxRecDepth 100000 in
/-- letter(k, i) -/
theorem R_letter (l : Launch) (G : pT) (h0 : Nat) (a : Nat → Nat) (F : Nat → Int32) (B : Nat → Nat → Int32) (Xs : Nat → Nat → Int32) (gh : Nat → Nat → Nat) (nd : Nat) (T : Nat) (nm : Nat) (wr : Nat) (lz : Nat) (dc : Nat) (fd : Nat) (md : Nat) (pr : Nat) (bk : Nat) (M : MTb) (hp : Int32) (kq : Int32) (wq : Int32) (us : Nat) (hpg : If (¬ hp = 0) (Pg Xs B gh nd T nm wr lz dc fd md pr bk M)) (hnm : If (¬ hp = 0) (rNm nm us (B 6) (B 7))) (hus : us ≤ 5040) : PM l G pX0 yX12_letter cX12_letter 3 (some .int) ({ frames := 3, cells := 0, slots := 0, locals := 82 }) [.ref h0, .int kq, .int wq] (mW G h0 a (upd (upd (upd (upd (upd F 35 (nI dc)) 44 (nI fd)) 49 (nI md)) 59 (nI bk)) 82 hp) B) (fun (v : Option Value) (u : Int32) => v = some (.int u)) (fun u => (mW G h0 a (upd (upd (upd (upd (upd (upd F 0 0) 35 (nI dc)) 44 (nI fd)) 49 (nI md)) 59 (nI bk)) 82 hp) B)) := by
  intro sz
  refine Met.ofW (cc := cX12_letter) (maxL := 3) (ret := (some .int)) (by decide) rfl ?_
  intro p e s m args below meth c s₁ B9 hml hv
  obtain ⟨rfl, hsz, hP, hD0, hE, hX⟩ := hv
  have hx := B9.exec
  have hb := B9.bytes
  have hr := B9.returns
  have hts := atoms_spec (ws := Cond.code yX12_letter cX12_letter 3 (some .int) :: pw) B9.pre
  have hq : ∀ w ∈ pw, w.before _ s = true := fun w h => hts w (List.mem_cons_of_mem _ h)
  have hown : s.vm.findClass RX12 = some m.cls := findClass_of_methodNamed B9.named
  have hlocks := B9.notSynchronized
  subst hsz
  have hD := hD0.self (sz := s.heap.size)
  have hA : ∀ q : Nat, s.heap.size ≤ q → va_A (mW G h0 a (upd (upd (upd (upd (upd F 35 (nI dc)) 44 (nI fd)) 49 (nI md)) 59 (nI bk)) 82 hp) B) s.heap.size q := fun q h => Or.inr h
  have hP : va_P G.1 pCl (mW G h0 a (upd (upd (upd (upd (upd F 35 (nI dc)) 44 (nI fd)) 49 (nI md)) 59 (nI bk)) 82 hp) B) s.heap := hP
  generalize va_A (mW G h0 a (upd (upd (upd (upd (upd F 35 (nI dc)) 44 (nI fd)) 49 (nI md)) 59 (nI bk)) 82 hp) B) s.heap.size = A at hD hE hA ⊢
  have hS : va_S A s.heap s.heap [] := va_S.rf
  have hl := lv_entry ([.ref h0, .int kq, .int wq]) (n := 3) (Nat.le_of_ble_eq_true rfl)
  rw [lg_entry_eq]
  generalize (lg_sl ([.ref h0, .int kq, .int wq]) ++ List.replicate (3 - (lg_sl ([.ref h0, .int kq, .int wq])).length) Slot.unset).toArray = ls at hl ⊢
  have hl : lv_has ls 3 [(0, .ref h0), (1, .int kq), (2, .int wq)] := hl
  refine lv_aload_n hx hb dX12_letter_0 rfl (lv_at hl 0 rfl) ?_
  refine lv_iconst (v := 0) hx hb dX12_letter_1 (by decide) ?_
  refine r_put (v := 0) (ty := .int) hx hb hown hq hE hP hD hS 0 252 tFX12_0 (by decide) pw_1515 (by decide) rfl rfl (ms_0 a _ _) dX12_letter_2 (fun H locs hP hD hS => ?_)
  refine lv_aload_n hx hb dX12_letter_5 rfl (lv_at hl 0 rfl) ?_
  refine r_get (v := .int hp) hx hb hown hq hE hP 82 649 tFX12_82 (by decide) pw_1922 rfl dX12_letter_6 ?_
  refine lv_if_eq (tgt := 45) hx hb dX12_letter_9 (by decide) (fun c1 => ?_) (fun c1 => ?_)
  · refine lv_iconst (v := (-1)) hx hb dX12_letter_45 (by decide) ?_
    have hP : va_P G.1 pCl (mW G h0 a (upd (upd (upd (upd (upd (upd F 0 0) 35 (nI dc)) 44 (nI fd)) 49 (nI md)) 59 (nI bk)) 82 hp) B) _ := hP
    have hD : va_D A (mW G h0 a (upd (upd (upd (upd (upd (upd F 0 0) 35 (nI dc)) 44 (nI fd)) 49 (nI md)) 59 (nI bk)) 82 hp) B) := hD
    exact W.iret (v := (-1)) hx hb hr (fun t9 ht9 hW9 => ⟨⟨_, ((-1) : Int32), rfl, rfl, by rw [ht9]; exact hP, hD⟩, hS.F ht9⟩) hS.2.2 dX12_letter_46
  · have hPg := hpg c1
    have hbd := hPg.bd
    have hw24 : B 24 = Xs 24 := hPg.row 24 (by omega) (by omega) (by omega) (by omega) (by omega)
    have hw6 : B 6 = Xs 6 := hPg.row 6 (by omega) (by omega) (by omega) (by omega) (by omega)
    have hw7 : B 7 = Xs 7 := hPg.row 7 (by omega) (by omega) (by omega) (by omega) (by omega)
    have hfb := hPg.ab.1
    refine lv_iload_n hx hb dX12_letter_12 rfl (lv_at hl 1 rfl) ?_
    refine lv_iconst (v := 0) hx hb dX12_letter_13 (by decide) ?_
    refine lv_aload_n hx hb dX12_letter_14 rfl (lv_at hl 0 rfl) ?_
    refine r_get (v := .int (nI dc)) hx hb hown hq hE hP 35 384 tFX12_35 (by decide) pw_1732 rfl dX12_letter_15 ?_
    refine lv_iconst (v := 1) hx hb dX12_letter_18 (by decide) ?_
    refine lv_isub hx hb dX12_letter_19 ?_
    refine lv_topi (fun x2 e3 => ?_)
    refine pc_SN (G := G) (As := [.int kq, .int 0, .int x2]) (rest := []) hx hb hml hown hq hE hX pX0_al hP hS hA hl.1 (s_in l G kq 0 x2) (gS pw_1521 pw_1522 pw_1523 pw_1513) hS_X12_in rfl (Nat.le_of_ble_eq_true rfl) dX12_letter_20 ⟨Nat.le_of_ble_eq_true rfl, Nat.le_of_ble_eq_true rfl⟩ ⟨Nat.le_of_ble_eq_true rfl, Nat.le_of_ble_eq_true rfl⟩ (fun v6 u4 H locs hw5 hP hS => ?_)
    obtain rfl : v6 = some (.int (isin kq 0 x2)) := hw5
    refine W.widen (k := 0) (n := 0) (Nat.le_of_ble_eq_true rfl) (Nat.le_of_ble_eq_true rfl) ?_
    refine W.eq (g2 := F0 m 23 ls [.int (isin kq 0 x2)]) rfl ?_
    refine lv_if_eq (tgt := 45) hx hb dX12_letter_23 (by decide) (fun c7 => ?_) (fun c7 => ?_)
    · refine lv_iconst (v := (-1)) hx hb dX12_letter_45 (by decide) ?_
      have hP : va_P G.1 pCl (mW G h0 a (upd (upd (upd (upd (upd (upd F 0 0) 35 (nI dc)) 44 (nI fd)) 49 (nI md)) 59 (nI bk)) 82 hp) B) _ := hP
      have hD : va_D A (mW G h0 a (upd (upd (upd (upd (upd (upd F 0 0) 35 (nI dc)) 44 (nI fd)) 49 (nI md)) 59 (nI bk)) 82 hp) B) := hD
      exact W.iret (v := (-1)) hx hb hr (fun t9 ht9 hW9 => ⟨⟨_, ((-1) : Int32), rfl, rfl, by rw [ht9]; exact hP, hD⟩, hS.F ht9⟩) hS.2.2 dX12_letter_46
    · obtain ⟨k9, hkk9, hlk9⟩ := isin_m (by omega) c7
      subst hkk9
      have hP : va_P G.1 pCl (mW G h0 a (upd (upd (upd (upd (upd (upd F 0 0) 35 (nI dc)) 44 (nI fd)) 49 (nI md)) 59 (nI bk)) 82 hp) B) _ := hP
      have hD : va_D A (mW G h0 a (upd (upd (upd (upd (upd (upd F 0 0) 35 (nI dc)) 44 (nI fd)) 49 (nI md)) 59 (nI bk)) 82 hp) B) := hD
      refine lv_iload_n hx hb dX12_letter_26 rfl (lv_at hl 2 rfl) ?_
      refine lv_if_lt (tgt := 45) hx hb dX12_letter_27 (by decide) (fun c8 => ?_) (fun c8 => ?_)
      · refine lv_iconst (v := (-1)) hx hb dX12_letter_45 (by decide) ?_
        have hP : va_P G.1 pCl (mW G h0 a (upd (upd (upd (upd (upd (upd F 0 0) 35 (nI dc)) 44 (nI fd)) 49 (nI md)) 59 (nI bk)) 82 hp) B) _ := hP
        have hD : va_D A (mW G h0 a (upd (upd (upd (upd (upd (upd F 0 0) 35 (nI dc)) 44 (nI fd)) 49 (nI md)) 59 (nI bk)) 82 hp) B) := hD
        exact W.iret (v := (-1)) hx hb hr (fun t9 ht9 hW9 => ⟨⟨_, ((-1) : Int32), rfl, rfl, by rw [ht9]; exact hP, hD⟩, hS.F ht9⟩) hS.2.2 dX12_letter_46
      · obtain ⟨i9, hki, hli⟩ := nI_nn2 c8
        subst hki
        have hP : va_P G.1 pCl (mW G h0 a (upd (upd (upd (upd (upd (upd F 0 0) 35 (nI dc)) 44 (nI fd)) 49 (nI md)) 59 (nI bk)) 82 hp) B) _ := hP
        have hD : va_D A (mW G h0 a (upd (upd (upd (upd (upd (upd F 0 0) 35 (nI dc)) 44 (nI fd)) 49 (nI md)) 59 (nI bk)) 82 hp) B) := hD
        refine lv_iload_n hx hb dX12_letter_30 rfl (lv_at hl 2 rfl) ?_
        refine lv_aload_n hx hb dX12_letter_31 rfl (lv_at hl 0 rfl) ?_
        refine r_get (v := .ref (a 7)) hx hb hown hq hE hP 11 31 tFX12_11 (by decide) pw_1437 rfl dX12_letter_32 ?_
        refine lv_aload_n hx hb dX12_letter_35 rfl (lv_at hl 0 rfl) ?_
        refine r_get (v := .ref (a 24)) hx hb hown hq hE hP 36 84 tFX12_36 (by decide) pw_1455 rfl dX12_letter_36 ?_
        refine lv_iload_n hx hb dX12_letter_39 rfl (lv_at hl 1 rfl) ?_
        refine r_ldi (f := (B 24)) (j := k9) hx hb hE hP 24 (ma_24 G a _) rfl (by omega) (by decide) dX12_letter_40 ?_
        obtain ⟨-, ⟨n9, en9, hn9⟩, -⟩ := hPg.ps.1 k9 (by omega)
        obtain ⟨p9, q9, ep9, eq9, hpq⟩ := hnm (fun q => absurd q (by assumption)) n9 (by omega)
        refine lv_topi (fun x9 e10 => ?_)
        obtain rfl : x9 = nI n9 := e10.trans ((congrFun hw24 _).trans en9)
        refine r_ldi (f := (B 7)) (j := n9) hx hb hE hP 7 (ma_7 G a _) rfl (by omega) (by decide) dX12_letter_41 ?_
        refine lv_topi (fun x11 e12 => ?_)
        obtain rfl : x11 = nI q9 := e12.trans eq9
        refine lv_icmp_lt (tgt := 47) hx hb dX12_letter_42 (by decide) (fun c13 => ?_) (fun c13 => ?_)
        · have n14 : i9 < q9 := (nI_ltI (a := i9) (b := q9) (by omega) (by omega)).mp c13
          refine lv_aload_n hx hb dX12_letter_47 rfl (lv_at hl 0 rfl) ?_
          refine r_get (v := .ref (a 8)) hx hb hown hq hE hP 12 34 tFX12_12 (by decide) pw_1438 rfl dX12_letter_48 ?_
          refine lv_aload_n hx hb dX12_letter_51 rfl (lv_at hl 0 rfl) ?_
          refine r_get (v := .ref (a 6)) hx hb hown hq hE hP 10 28 tFX12_10 (by decide) pw_1436 rfl dX12_letter_52 ?_
          refine lv_aload_n hx hb dX12_letter_55 rfl (lv_at hl 0 rfl) ?_
          refine r_get (v := .ref (a 24)) hx hb hown hq hE hP 36 84 tFX12_36 (by decide) pw_1455 rfl dX12_letter_56 ?_
          refine lv_iload_n hx hb dX12_letter_59 rfl (lv_at hl 1 rfl) ?_
          refine r_ldi (f := (B 24)) (j := k9) hx hb hE hP 24 (ma_24 G a _) rfl (by omega) (by decide) dX12_letter_60 ?_
          refine lv_topi (fun x15 e16 => ?_)
          obtain rfl : x15 = nI n9 := e16.trans ((congrFun hw24 _).trans en9)
          refine r_ldi (f := (B 6)) (j := n9) hx hb hE hP 6 (ma_6 G a _) rfl (by omega) (by decide) dX12_letter_61 ?_
          refine lv_topi (fun x17 e18 => ?_)
          obtain rfl : x17 = nI p9 := e18.trans ep9
          refine lv_iload_n hx hb dX12_letter_62 rfl (lv_at hl 2 rfl) ?_
          refine lv_iadd hx hb dX12_letter_63 ?_
          refine lv_topi (fun x19 e20 => ?_)
          obtain rfl : x19 = nI (p9 + i9) := e20.trans (nI_add (p9) (i9))
          refine r_ldb (f := (B 8)) (j := (p9 + i9)) hx hb hE hP 8 (ma_8 G a _) rfl (by omega) (by decide) dX12_letter_64 ?_
          have hP : va_P G.1 pCl (mW G h0 a (upd (upd (upd (upd (upd (upd F 0 0) 35 (nI dc)) 44 (nI fd)) 49 (nI md)) 59 (nI bk)) 82 hp) B) _ := hP
          have hD : va_D A (mW G h0 a (upd (upd (upd (upd (upd (upd F 0 0) 35 (nI dc)) 44 (nI fd)) 49 (nI md)) 59 (nI bk)) 82 hp) B) := hD
          exact W.iret (v := ((B 8) (p9 + i9))) hx hb hr (fun t9 ht9 hW9 => ⟨⟨_, ((B 8) (p9 + i9)), rfl, rfl, by rw [ht9]; exact hP, hD⟩, hS.F ht9⟩) hS.2.2 dX12_letter_65
        · have n21 : ¬ (i9 < q9) := fun h9 => c13 ((nI_ltI (a := i9) (b := q9) (by omega) (by omega)).mpr h9)
          refine lv_iconst (v := (-1)) hx hb dX12_letter_45 (by decide) ?_
          have hP : va_P G.1 pCl (mW G h0 a (upd (upd (upd (upd (upd (upd F 0 0) 35 (nI dc)) 44 (nI fd)) 49 (nI md)) 59 (nI bk)) 82 hp) B) _ := hP
          have hD : va_D A (mW G h0 a (upd (upd (upd (upd (upd (upd F 0 0) 35 (nI dc)) 44 (nI fd)) 49 (nI md)) 59 (nI bk)) 82 hp) B) := hD
          exact W.iret (v := (-1)) hx hb hr (fun t9 ht9 hW9 => ⟨⟨_, ((-1) : Int32), rfl, rfl, by rw [ht9]; exact hP, hD⟩, hS.F ht9⟩) hS.2.2 dX12_letter_46
theorem dX12_called_0 : decode cX12_called 0 = .ok (.aload_n 0, 1) := by decide +kernel
theorem dX12_called_1 : decode cX12_called 1 = .ok (.iconst 0, 1) := by decide +kernel
theorem dX12_called_2 : decode cX12_called 2 = .ok (.putfield 252, 3) := by decide +kernel
theorem dX12_called_5 : decode cX12_called 5 = .ok (.aload_n 0, 1) := by decide +kernel
theorem dX12_called_6 : decode cX12_called 6 = .ok (.getfield 649, 3) := by decide +kernel
theorem dX12_called_9 : decode cX12_called 9 = .ok (.ifCond .eq 58, 3) := by decide +kernel
theorem dX12_called_67 : decode cX12_called 67 = .ok (.iconst (-1), 1) := by decide +kernel
theorem dX12_called_68 : decode cX12_called 68 = .ok (.ireturn, 1) := by decide +kernel
theorem dX12_called_12 : decode cX12_called 12 = .ok (.iload_n 1, 1) := by decide +kernel
theorem dX12_called_13 : decode cX12_called 13 = .ok (.iconst 0, 1) := by decide +kernel
theorem dX12_called_14 : decode cX12_called 14 = .ok (.aload_n 0, 1) := by decide +kernel
theorem dX12_called_15 : decode cX12_called 15 = .ok (.getfield 384, 3) := by decide +kernel
theorem dX12_called_18 : decode cX12_called 18 = .ok (.iconst 1, 1) := by decide +kernel
theorem dX12_called_19 : decode cX12_called 19 = .ok (.isub, 1) := by decide +kernel
theorem dX12_called_20 : decode cX12_called 20 = .ok (.invokestatic 261, 3) := by decide +kernel
theorem dX12_called_23 : decode cX12_called 23 = .ok (.ifCond .eq 44, 3) := by decide +kernel
theorem dX12_called_26 : decode cX12_called 26 = .ok (.aload_n 0, 1) := by decide +kernel
theorem dX12_called_27 : decode cX12_called 27 = .ok (.getfield 90, 3) := by decide +kernel
theorem dX12_called_30 : decode cX12_called 30 = .ok (.iload_n 1, 1) := by decide +kernel
theorem dX12_called_31 : decode cX12_called 31 = .ok (.iconst 0, 1) := by decide +kernel
theorem dX12_called_32 : decode cX12_called 32 = .ok (.aload_n 0, 1) := by decide +kernel
theorem dX12_called_33 : decode cX12_called 33 = .ok (.getfield 384, 3) := by decide +kernel
theorem dX12_called_36 : decode cX12_called 36 = .ok (.iconst 1, 1) := by decide +kernel
theorem dX12_called_37 : decode cX12_called 37 = .ok (.isub, 1) := by decide +kernel
theorem dX12_called_38 : decode cX12_called 38 = .ok (.invokestatic 261, 3) := by decide +kernel
theorem dX12_called_41 : decode cX12_called 41 = .ok (.ifCond .eq 7, 3) := by decide +kernel
theorem dX12_called_44 : decode cX12_called 44 = .ok (.iload_n 1, 1) := by decide +kernel
theorem dX12_called_45 : decode cX12_called 45 = .ok (.goto 4, 3) := by decide +kernel
theorem dX12_called_49 : decode cX12_called 49 = .ok (.baload, 1) := by decide +kernel
theorem dX12_called_50 : decode cX12_called 50 = .ok (.ifCond .ne 17, 3) := by decide +kernel
theorem dX12_called_53 : decode cX12_called 53 = .ok (.iload_n 2, 1) := by decide +kernel
theorem dX12_called_54 : decode cX12_called 54 = .ok (.iconst 0, 1) := by decide +kernel
theorem dX12_called_55 : decode cX12_called 55 = .ok (.aload_n 0, 1) := by decide +kernel
theorem dX12_called_56 : decode cX12_called 56 = .ok (.getfield 422, 3) := by decide +kernel
theorem dX12_called_59 : decode cX12_called 59 = .ok (.iconst 1, 1) := by decide +kernel
theorem dX12_called_60 : decode cX12_called 60 = .ok (.isub, 1) := by decide +kernel
theorem dX12_called_61 : decode cX12_called 61 = .ok (.invokestatic 261, 3) := by decide +kernel
theorem dX12_called_64 : decode cX12_called 64 = .ok (.ifCond .ne 5, 3) := by decide +kernel
theorem dX12_called_69 : decode cX12_called 69 = .ok (.iconst 0, 1) := by decide +kernel
theorem dX12_called_70 : decode cX12_called 70 = .ok (.istore_n 3, 1) := by decide +kernel
theorem dX12_called_71 : decode cX12_called 71 = .ok (.aload_n 0, 1) := by decide +kernel
theorem dX12_called_72 : decode cX12_called 72 = .ok (.getfield 144, 3) := by decide +kernel
theorem dX12_called_75 : decode cX12_called 75 = .ok (.iload_n 3, 1) := by decide +kernel
theorem dX12_called_76 : decode cX12_called 76 = .ok (.iaload, 1) := by decide +kernel
theorem dX12_called_77 : decode cX12_called 77 = .ok (.iload_n 2, 1) := by decide +kernel
theorem dX12_called_78 : decode cX12_called 78 = .ok (.if_icmp .eq 9, 3) := by decide +kernel
theorem dX12_called_87 : decode cX12_called 87 = .ok (.aload_n 0, 1) := by decide +kernel
theorem dX12_called_88 : decode cX12_called 88 = .ok (.iload_n 1, 1) := by decide +kernel
theorem dX12_called_89 : decode cX12_called 89 = .ok (.aload_n 0, 1) := by decide +kernel
theorem dX12_called_90 : decode cX12_called 90 = .ok (.getfield 123, 3) := by decide +kernel
theorem dX12_called_93 : decode cX12_called 93 = .ok (.iload_n 3, 1) := by decide +kernel
theorem dX12_called_94 : decode cX12_called 94 = .ok (.iaload, 1) := by decide +kernel
theorem dX12_called_95 : decode cX12_called 95 = .ok (.invokevirtual 515, 3) := by decide +kernel
theorem dX12_called_98 : decode cX12_called 98 = .ok (.istore 4, 2) := by decide +kernel
theorem dX12_called_100 : decode cX12_called 100 = .ok (.iload 4, 2) := by decide +kernel
theorem dX12_called_102 : decode cX12_called 102 = .ok (.iconst (-1), 1) := by decide +kernel
theorem dX12_called_103 : decode cX12_called 103 = .ok (.if_icmp .ne 7, 3) := by decide +kernel
theorem dX12_called_110 : decode cX12_called 110 = .ok (.aload_n 0, 1) := by decide +kernel
theorem dX12_called_111 : decode cX12_called 111 = .ok (.getfield 144, 3) := by decide +kernel
theorem dX12_called_114 : decode cX12_called 114 = .ok (.iload 4, 2) := by decide +kernel
theorem dX12_called_116 : decode cX12_called 116 = .ok (.iaload, 1) := by decide +kernel
theorem dX12_called_117 : decode cX12_called 117 = .ok (.ireturn, 1) := by decide +kernel
theorem dX12_called_106 : decode cX12_called 106 = .ok (.iconst (-1), 1) := by decide +kernel
theorem dX12_called_107 : decode cX12_called 107 = .ok (.goto 10, 3) := by decide +kernel
theorem dX12_called_81 : decode cX12_called 81 = .ok (.iinc 3 1, 3) := by decide +kernel
theorem dX12_called_84 : decode cX12_called 84 = .ok (.goto (-13), 3) := by decide +kernel
set_option maxHeartbeats 20000000 in
set_option maxRecDepth 100000 in
/-- called(k, m) -/
theorem R_called (l : Launch) (G : pT) (h0 : Nat) (a : Nat → Nat) (F : Nat → Int32) (B : Nat → Nat → Int32) (Xs : Nat → Nat → Int32) (gh : Nat → Nat → Nat) (nd : Nat) (T : Nat) (nm : Nat) (wr : Nat) (lz : Nat) (dc : Nat) (fd : Nat) (md : Nat) (pr : Nat) (bk : Nat) (M : MTb) (hp : Int32) (kq : Int32) (wq : Int32) (hpg : If (¬ hp = 0) (Pg Xs B gh nd T nm wr lz dc fd md pr bk M)) : PM l G pX0 yX12_called cX12_called 5 (some .int) ({ frames := 3, cells := 0, slots := 0, locals := 84 }) [.ref h0, .int kq, .int wq] (mW G h0 a (upd (upd (upd (upd (upd F 35 (nI dc)) 44 (nI fd)) 49 (nI md)) 59 (nI bk)) 82 hp) B) (fun (v : Option Value) (u : Int32) => v = some (.int u)) (fun u => (mW G h0 a (upd (upd (upd (upd (upd (upd F 0 0) 35 (nI dc)) 44 (nI fd)) 49 (nI md)) 59 (nI bk)) 82 hp) B)) := by
  intro sz
  refine Met.ofW (cc := cX12_called) (maxL := 5) (ret := (some .int)) (by decide) rfl ?_
  intro p e s m args below meth c s₁ B9 hml hv
  obtain ⟨rfl, hsz, hP, hD0, hE, hX⟩ := hv
  have hx := B9.exec
  have hb := B9.bytes
  have hr := B9.returns
  have hts := atoms_spec (ws := Cond.code yX12_called cX12_called 5 (some .int) :: pw) B9.pre
  have hq : ∀ w ∈ pw, w.before _ s = true := fun w h => hts w (List.mem_cons_of_mem _ h)
  have hown : s.vm.findClass RX12 = some m.cls := findClass_of_methodNamed B9.named
  have hlocks := B9.notSynchronized
  subst hsz
  have hD := hD0.self (sz := s.heap.size)
  have hA : ∀ q : Nat, s.heap.size ≤ q → va_A (mW G h0 a (upd (upd (upd (upd (upd F 35 (nI dc)) 44 (nI fd)) 49 (nI md)) 59 (nI bk)) 82 hp) B) s.heap.size q := fun q h => Or.inr h
  have hP : va_P G.1 pCl (mW G h0 a (upd (upd (upd (upd (upd F 35 (nI dc)) 44 (nI fd)) 49 (nI md)) 59 (nI bk)) 82 hp) B) s.heap := hP
  generalize va_A (mW G h0 a (upd (upd (upd (upd (upd F 35 (nI dc)) 44 (nI fd)) 49 (nI md)) 59 (nI bk)) 82 hp) B) s.heap.size = A at hD hE hA ⊢
  have hS : va_S A s.heap s.heap [] := va_S.rf
  have hl := lv_entry ([.ref h0, .int kq, .int wq]) (n := 5) (Nat.le_of_ble_eq_true rfl)
  rw [lg_entry_eq]
  generalize (lg_sl ([.ref h0, .int kq, .int wq]) ++ List.replicate (5 - (lg_sl ([.ref h0, .int kq, .int wq])).length) Slot.unset).toArray = ls at hl ⊢
  have hl : lv_has ls 5 [(0, .ref h0), (1, .int kq), (2, .int wq)] := hl
  refine lv_aload_n hx hb dX12_called_0 rfl (lv_at hl 0 rfl) ?_
  refine lv_iconst (v := 0) hx hb dX12_called_1 (by decide) ?_
  refine r_put (v := 0) (ty := .int) hx hb hown hq hE hP hD hS 0 252 tFX12_0 (by decide) pw_1515 (by decide) rfl rfl (ms_0 a _ _) dX12_called_2 (fun H locs hP hD hS => ?_)
  refine lv_aload_n hx hb dX12_called_5 rfl (lv_at hl 0 rfl) ?_
  refine r_get (v := .int hp) hx hb hown hq hE hP 82 649 tFX12_82 (by decide) pw_1922 rfl dX12_called_6 ?_
  refine lv_if_eq (tgt := 67) hx hb dX12_called_9 (by decide) (fun c1 => ?_) (fun c1 => ?_)
  · refine lv_iconst (v := (-1)) hx hb dX12_called_67 (by decide) ?_
    have hP : va_P G.1 pCl (mW G h0 a (upd (upd (upd (upd (upd (upd F 0 0) 35 (nI dc)) 44 (nI fd)) 49 (nI md)) 59 (nI bk)) 82 hp) B) _ := hP
    have hD : va_D A (mW G h0 a (upd (upd (upd (upd (upd (upd F 0 0) 35 (nI dc)) 44 (nI fd)) 49 (nI md)) 59 (nI bk)) 82 hp) B) := hD
    exact W.iret (v := (-1)) hx hb hr (fun t9 ht9 hW9 => ⟨⟨_, ((-1) : Int32), rfl, rfl, by rw [ht9]; exact hP, hD⟩, hS.F ht9⟩) hS.2.2 dX12_called_68
  · have hPg := hpg c1
    have hbd := hPg.bd
    have hw24 : B 24 = Xs 24 := hPg.row 24 (by omega) (by omega) (by omega) (by omega) (by omega)
    have hw26 : B 26 = Xs 26 := hPg.row 26 (by omega) (by omega) (by omega) (by omega) (by omega)
    have hw29 : B 29 = Xs 29 := hPg.row 29 (by omega) (by omega) (by omega) (by omega) (by omega)
    have hw36 : B 36 = Xs 36 := hPg.row 36 (by omega) (by omega) (by omega) (by omega) (by omega)
    have hw37 : B 37 = Xs 37 := hPg.row 37 (by omega) (by omega) (by omega) (by omega) (by omega)
    have hw44 : B 44 = Xs 44 := hPg.row 44 (by omega) (by omega) (by omega) (by omega) (by omega)
    have hfb := hPg.ab.1
    refine lv_iload_n hx hb dX12_called_12 rfl (lv_at hl 1 rfl) ?_
    refine lv_iconst (v := 0) hx hb dX12_called_13 (by decide) ?_
    refine lv_aload_n hx hb dX12_called_14 rfl (lv_at hl 0 rfl) ?_
    refine r_get (v := .int (nI dc)) hx hb hown hq hE hP 35 384 tFX12_35 (by decide) pw_1732 rfl dX12_called_15 ?_
    refine lv_iconst (v := 1) hx hb dX12_called_18 (by decide) ?_
    refine lv_isub hx hb dX12_called_19 ?_
    refine lv_topi (fun x2 e3 => ?_)
    refine pc_SN (G := G) (As := [.int kq, .int 0, .int x2]) (rest := []) hx hb hml hown hq hE hX pX0_al hP hS hA hl.1 (s_in l G kq 0 x2) (gS pw_1521 pw_1522 pw_1523 pw_1513) hS_X12_in rfl (Nat.le_of_ble_eq_true rfl) dX12_called_20 ⟨Nat.le_of_ble_eq_true rfl, Nat.le_of_ble_eq_true rfl⟩ ⟨Nat.le_of_ble_eq_true rfl, Nat.le_of_ble_eq_true rfl⟩ (fun v6 u4 H locs hw5 hP hS => ?_)
    obtain rfl : v6 = some (.int (isin kq 0 x2)) := hw5
    refine W.widen (k := 0) (n := 0) (Nat.le_of_ble_eq_true rfl) (Nat.le_of_ble_eq_true rfl) ?_
    refine W.eq (g2 := F0 m 23 ls [.int (isin kq 0 x2)]) rfl ?_
    refine lv_if_eq (tgt := 67) hx hb dX12_called_23 (by decide) (fun c7 => ?_) (fun c7 => ?_)
    · refine lv_iconst (v := (-1)) hx hb dX12_called_67 (by decide) ?_
      have hP : va_P G.1 pCl (mW G h0 a (upd (upd (upd (upd (upd (upd F 0 0) 35 (nI dc)) 44 (nI fd)) 49 (nI md)) 59 (nI bk)) 82 hp) B) _ := hP
      have hD : va_D A (mW G h0 a (upd (upd (upd (upd (upd (upd F 0 0) 35 (nI dc)) 44 (nI fd)) 49 (nI md)) 59 (nI bk)) 82 hp) B) := hD
      exact W.iret (v := (-1)) hx hb hr (fun t9 ht9 hW9 => ⟨⟨_, ((-1) : Int32), rfl, rfl, by rw [ht9]; exact hP, hD⟩, hS.F ht9⟩) hS.2.2 dX12_called_68
    · obtain ⟨k9, hkk9, hlk9⟩ := isin_m (by omega) c7
      subst hkk9
      have hP : va_P G.1 pCl (mW G h0 a (upd (upd (upd (upd (upd (upd F 0 0) 35 (nI dc)) 44 (nI fd)) 49 (nI md)) 59 (nI bk)) 82 hp) B) _ := hP
      have hD : va_D A (mW G h0 a (upd (upd (upd (upd (upd (upd F 0 0) 35 (nI dc)) 44 (nI fd)) 49 (nI md)) 59 (nI bk)) 82 hp) B) := hD
      refine lv_aload_n hx hb dX12_called_26 rfl (lv_at hl 0 rfl) ?_
      refine r_get (v := .ref (a 26)) hx hb hown hq hE hP 38 90 tFX12_38 (by decide) pw_1457 rfl dX12_called_27 ?_
      refine lv_iload_n hx hb dX12_called_30 rfl (lv_at hl 1 rfl) ?_
      refine lv_iconst (v := 0) hx hb dX12_called_31 (by decide) ?_
      refine lv_aload_n hx hb dX12_called_32 rfl (lv_at hl 0 rfl) ?_
      refine r_get (v := .int (nI dc)) hx hb hown hq hE hP 35 384 tFX12_35 (by decide) pw_1732 rfl dX12_called_33 ?_
      refine lv_iconst (v := 1) hx hb dX12_called_36 (by decide) ?_
      refine lv_isub hx hb dX12_called_37 ?_
      refine lv_topi (fun x8 e9 => ?_)
      refine pc_SN (G := G) (As := [.int (nI k9), .int 0, .int x8]) (rest := [.ref (a 26)]) hx hb hml hown hq hE hX pX0_al hP hS hA hl.1 (s_in l G (nI k9) 0 x8) (gS pw_1521 pw_1522 pw_1523 pw_1513) hS_X12_in rfl (Nat.le_of_ble_eq_true rfl) dX12_called_38 ⟨Nat.le_of_ble_eq_true rfl, Nat.le_of_ble_eq_true rfl⟩ ⟨Nat.le_of_ble_eq_true rfl, Nat.le_of_ble_eq_true rfl⟩ (fun v12 u10 H locs hw11 hP hS => ?_)
      obtain rfl : v12 = some (.int (isin (nI k9) 0 x8)) := hw11
      refine W.widen (k := 0) (n := 0) (Nat.le_of_ble_eq_true rfl) (Nat.le_of_ble_eq_true rfl) ?_
      refine W.eq (g2 := F0 m 41 ls [.int (isin (nI k9) 0 x8), .ref (a 26)]) rfl ?_
      refine lv_topi (fun x13 e14 => ?_)
      obtain rfl : x13 = 1 := e14.trans (isin_k (by omega))
      refine lv_if_eq (tgt := 48) hx hb dX12_called_41 (by decide) (fun c15 => absurd c15 (by decide)) (fun c15 => ?_)
      refine lv_iload_n hx hb dX12_called_44 rfl (lv_at hl 1 rfl) ?_
      refine lv_goto (tgt := 49) hx hb dX12_called_45 (by decide) ?_
      refine r_ldz (f := (B 26)) (j := k9) hx hb hE hP 26 (ma_26 G a _) rfl (by omega) (by decide) dX12_called_49 ?_
      refine lv_if_ne (tgt := 67) hx hb dX12_called_50 (by decide) (fun c16 => ?_) (fun c16 => ?_)
      · refine lv_iconst (v := (-1)) hx hb dX12_called_67 (by decide) ?_
        have hP : va_P G.1 pCl (mW G h0 a (upd (upd (upd (upd (upd (upd F 0 0) 35 (nI dc)) 44 (nI fd)) 49 (nI md)) 59 (nI bk)) 82 hp) B) _ := hP
        have hD : va_D A (mW G h0 a (upd (upd (upd (upd (upd (upd F 0 0) 35 (nI dc)) 44 (nI fd)) 49 (nI md)) 59 (nI bk)) 82 hp) B) := hD
        exact W.iret (v := (-1)) hx hb hr (fun t9 ht9 hW9 => ⟨⟨_, ((-1) : Int32), rfl, rfl, by rw [ht9]; exact hP, hD⟩, hS.F ht9⟩) hS.2.2 dX12_called_68
      · refine lv_iload_n hx hb dX12_called_53 rfl (lv_at hl 2 rfl) ?_
        refine lv_iconst (v := 0) hx hb dX12_called_54 (by decide) ?_
        refine lv_aload_n hx hb dX12_called_55 rfl (lv_at hl 0 rfl) ?_
        refine r_get (v := .int (nI bk)) hx hb hown hq hE hP 59 422 tFX12_59 (by decide) pw_1724 rfl dX12_called_56 ?_
        refine lv_iconst (v := 1) hx hb dX12_called_59 (by decide) ?_
        refine lv_isub hx hb dX12_called_60 ?_
        refine lv_topi (fun x17 e18 => ?_)
        refine pc_SN (G := G) (As := [.int wq, .int 0, .int x17]) (rest := []) hx hb hml hown hq hE hX pX0_al hP hS hA hl.1 (s_in l G wq 0 x17) (gS pw_1521 pw_1522 pw_1523 pw_1513) hS_X12_in rfl (Nat.le_of_ble_eq_true rfl) dX12_called_61 ⟨Nat.le_of_ble_eq_true rfl, Nat.le_of_ble_eq_true rfl⟩ ⟨Nat.le_of_ble_eq_true rfl, Nat.le_of_ble_eq_true rfl⟩ (fun v21 u19 H locs hw20 hP hS => ?_)
        obtain rfl : v21 = some (.int (isin wq 0 x17)) := hw20
        refine W.widen (k := 0) (n := 0) (Nat.le_of_ble_eq_true rfl) (Nat.le_of_ble_eq_true rfl) ?_
        refine W.eq (g2 := F0 m 64 ls [.int (isin wq 0 x17)]) rfl ?_
        refine lv_if_ne (tgt := 69) hx hb dX12_called_64 (by decide) (fun c22 => ?_) (fun c22 => ?_)
        · obtain ⟨j9, hkj9, hlj9⟩ := isin_m (by omega) c22
          subst hkj9
          have hP : va_P G.1 pCl (mW G h0 a (upd (upd (upd (upd (upd (upd F 0 0) 35 (nI dc)) 44 (nI fd)) 49 (nI md)) 59 (nI bk)) 82 hp) B) _ := hP
          have hD : va_D A (mW G h0 a (upd (upd (upd (upd (upd (upd F 0 0) 35 (nI dc)) 44 (nI fd)) 49 (nI md)) 59 (nI bk)) 82 hp) B) := hD
          obtain ⟨m0, hm0, em0⟩ := hPg.ps.2.2.2.2.1 j9 (by omega)
          refine lv_iconst (v := 0) hx hb dX12_called_69 (by decide) ?_
          refine lv_istore_n (lv' := [(3, .int 0), (0, .ref h0), (1, .int (nI k9)), (2, .int (nI j9))]) hx hb dX12_called_70 rfl hl (by decide) rfl (fun ls hl => ?_)
          have loop_o : ∀ (n_o : Nat) (o2 : Nat) (H : Heap) (locs : List Loc) (ls : Array Slot), o2 ≤ m0 → m0 + 1 ≤ o2 + n_o → va_P G.1 pCl (mW G h0 a (upd (upd (upd (upd (upd (upd F 0 0) 35 (nI dc)) 44 (nI fd)) 49 (nI md)) 59 (nI bk)) 82 hp) B) H → va_D A (mW G h0 a (upd (upd (upd (upd (upd (upd F 0 0) 35 (nI dc)) 44 (nI fd)) 49 (nI md)) 59 (nI bk)) 82 hp) B) → va_S A s.heap H locs → lv_has ls 5 [(3, .int (nI o2)), (2, .int (nI j9)), (1, .int (nI k9)), (0, .ref h0)] → W p l e (headSpec (Cond.code yX12_called cX12_called 5 (some .int) :: pw) ({ frames := 3, cells := 0, slots := 0, locals := 84 } : Room)).room s m ([.ref h0, .int kq, .int wq] : List Value).toArray below meth c H locs 0 0 (MQ below (pQ G A (fun (v : Option Value) (u : Int32) => v = some (.int u)) (fun u => (mW G h0 a (upd (upd (upd (upd (upd (upd F 0 0) 35 (nI dc)) 44 (nI fd)) 49 (nI md)) 59 (nI bk)) 82 hp) B))) ([.ref h0, .int kq, .int wq] : List Value).toArray s ({ frames := 3, cells := 0, slots := 0, locals := 84 } : Room).cells ({ frames := 3, cells := 0, slots := 0, locals := 84 } : Room).slots A) (F0 m 71 ls []) := by
            intro n_o
            induction n_o with
            | zero => intro o2 H locs ls hk_o hn_o; omega
            | succ n_o ih_o =>
              intro o2 H locs ls hk_o hn_o hP hD hS hl
              refine lv_aload_n hx hb dX12_called_71 rfl (lv_at hl 3 rfl) ?_
              refine r_get (v := .ref (a 44)) hx hb hown hq hE hP 58 144 tFX12_58 (by decide) pw_1475 rfl dX12_called_72 ?_
              refine lv_iload_n hx hb dX12_called_75 rfl (lv_at hl 0 rfl) ?_
              refine r_ldi (f := (B 44)) (j := o2) hx hb hE hP 44 (ma_44 G a _) rfl (by omega) (by decide) dX12_called_76 ?_
              refine lv_iload_n hx hb dX12_called_77 rfl (lv_at hl 1 rfl) ?_
              refine lv_icmp_eq (tgt := 87) hx hb dX12_called_78 (by decide) (fun c23 => ?_) (fun c23 => ?_)
              · refine lv_aload_n hx hb dX12_called_87 rfl (lv_at hl 3 rfl) ?_
                refine lv_iload_n hx hb dX12_called_88 rfl (lv_at hl 2 rfl) ?_
                refine lv_aload_n hx hb dX12_called_89 rfl (lv_at hl 3 rfl) ?_
                refine r_get (v := .ref (a 37)) hx hb hown hq hE hP 51 123 tFX12_51 (by decide) pw_1468 rfl dX12_called_90 ?_
                refine lv_iload_n hx hb dX12_called_93 rfl (lv_at hl 0 rfl) ?_
                refine r_ldi (f := (B 37)) (j := o2) hx hb hE hP 37 (ma_37 G a _) rfl (by omega) (by decide) dX12_called_94 ?_
                have hP : va_P G.1 pCl (mW G h0 a (upd (upd (upd (upd (upd (upd (upd F 0 0) 35 (nI dc)) 44 (nI fd)) 49 (nI md)) 59 (nI bk)) 82 hp) 49 (nI md)) (updA (updA (updA B 29 (B 29)) 36 (B 36)) 37 (B 37))) _ := hP
                have hD : va_D A (mW G h0 a (upd (upd (upd (upd (upd (upd (upd F 0 0) 35 (nI dc)) 44 (nI fd)) 49 (nI md)) 59 (nI bk)) 82 hp) 49 (nI md)) (updA (updA (updA B 29 (B 29)) 36 (B 36)) 37 (B 37))) := hD
                refine pc_V0 (G := G) (As := [.int (nI k9), .int ((B 37) o2)]) (rest := []) hx hb hml hown hq hE hX pX0_al hP hD hS hA hl.1 (R_methodOf l G h0 a (upd (upd (upd (upd (upd (upd F 0 0) 35 (nI dc)) 44 (nI fd)) 49 (nI md)) 59 (nI bk)) 82 hp) B k9 dc md ((B 37) o2) (B 36) (B 37) (B 29) (by omega) (by omega) (by omega) (by show Rk (B 29) dc; rw [hw29]; exact hPg.1.1.2.2.2.1)) (gV pw_1769 pw_1770 pw_1771 pw_1523 pw_1767) hV_X12_methodOf 0 9 rfl rfl rfl rfl (Nat.le_of_ble_eq_true rfl) dX12_called_95 ⟨Nat.le_of_ble_eq_true rfl, Nat.le_of_ble_eq_true rfl⟩ ⟨Nat.le_of_ble_eq_true rfl, Nat.le_of_ble_eq_true rfl⟩ (fun v26 u24 H locs hw25 hP hD hS => ?_)
                obtain rfl : v26 = some (.int (mthF (B 36) (B 37) (B 29) md ((B 37) o2) 40 k9)) := hw25
                have hP : va_P G.1 pCl (mW G h0 a (upd (upd (upd (upd (upd (upd F 0 0) 35 (nI dc)) 44 (nI fd)) 49 (nI md)) 59 (nI bk)) 82 hp) B) _ := hP
                have hD : va_D A (mW G h0 a (upd (upd (upd (upd (upd (upd F 0 0) 35 (nI dc)) 44 (nI fd)) 49 (nI md)) 59 (nI bk)) 82 hp) B) := hD
                refine W.widen (k := 0) (n := 0) (Nat.le_of_ble_eq_true rfl) (Nat.le_of_ble_eq_true rfl) ?_
                refine W.eq (g2 := F0 m 98 ls [.int (mthF (B 36) (B 37) (B 29) md ((B 37) o2) 40 k9)]) rfl ?_
                obtain ⟨g9, hg9⟩ : ∃ z : Int32, z = (mthF (B 36) (B 37) (B 29) md ((B 37) o2) 40 k9) := ⟨_, rfl⟩
                refine lv_topi (fun x27 e28 => ?_)
                obtain rfl : x27 = g9 := e28.trans hg9.symm
                have hgr := mth_or (f := B 36) (g := B 37) (ds := B 29) (x := B 37 o2) (md := md) 40 k9
                refine lv_istore (lv' := [(4, .int g9), (3, .int (nI o2)), (2, .int (nI j9)), (1, .int (nI k9)), (0, .ref h0)]) hx hb dX12_called_98 hl (by decide) rfl (fun ls hl => ?_)
                refine lv_iload hx hb dX12_called_100 (lv_at hl 0 rfl) ?_
                refine lv_iconst (v := (-1)) hx hb dX12_called_102 (by decide) ?_
                refine lv_icmp_ne (tgt := 110) hx hb dX12_called_103 (by decide) (fun c29 => ?_) (fun c29 => ?_)
                · obtain ⟨m9, hm9, hm8, -⟩ := hgr.resolve_left (fun q => c29 (hg9.trans q))
                  obtain rfl : g9 = nI m9 := hg9.trans hm9
                  have hP : va_P G.1 pCl (mW G h0 a (upd (upd (upd (upd (upd (upd F 0 0) 35 (nI dc)) 44 (nI fd)) 49 (nI md)) 59 (nI bk)) 82 hp) B) _ := hP
                  have hD : va_D A (mW G h0 a (upd (upd (upd (upd (upd (upd F 0 0) 35 (nI dc)) 44 (nI fd)) 49 (nI md)) 59 (nI bk)) 82 hp) B) := hD
                  refine lv_aload_n hx hb dX12_called_110 rfl (lv_at hl 4 rfl) ?_
                  refine r_get (v := .ref (a 44)) hx hb hown hq hE hP 58 144 tFX12_58 (by decide) pw_1475 rfl dX12_called_111 ?_
                  refine lv_iload hx hb dX12_called_114 (lv_at hl 0 rfl) ?_
                  refine r_ldi (f := (B 44)) (j := m9) hx hb hE hP 44 (ma_44 G a _) rfl (by omega) (by decide) dX12_called_116 ?_
                  have hP : va_P G.1 pCl (mW G h0 a (upd (upd (upd (upd (upd (upd F 0 0) 35 (nI dc)) 44 (nI fd)) 49 (nI md)) 59 (nI bk)) 82 hp) B) _ := hP
                  have hD : va_D A (mW G h0 a (upd (upd (upd (upd (upd (upd F 0 0) 35 (nI dc)) 44 (nI fd)) 49 (nI md)) 59 (nI bk)) 82 hp) B) := hD
                  exact W.iret (v := ((B 44) m9)) hx hb hr (fun t9 ht9 hW9 => ⟨⟨_, ((B 44) m9), rfl, rfl, by rw [ht9]; exact hP, hD⟩, hS.F ht9⟩) hS.2.2 dX12_called_117
                · refine lv_iconst (v := (-1)) hx hb dX12_called_106 (by decide) ?_
                  refine lv_goto (tgt := 117) hx hb dX12_called_107 (by decide) ?_
                  have hP : va_P G.1 pCl (mW G h0 a (upd (upd (upd (upd (upd (upd F 0 0) 35 (nI dc)) 44 (nI fd)) 49 (nI md)) 59 (nI bk)) 82 hp) B) _ := hP
                  have hD : va_D A (mW G h0 a (upd (upd (upd (upd (upd (upd F 0 0) 35 (nI dc)) 44 (nI fd)) 49 (nI md)) 59 (nI bk)) 82 hp) B) := hD
                  exact W.iret (v := (-1)) hx hb hr (fun t9 ht9 hW9 => ⟨⟨_, ((-1) : Int32), rfl, rfl, by rw [ht9]; exact hP, hD⟩, hS.F ht9⟩) hS.2.2 dX12_called_117
              · refine lv_iinc (v := (nI (o2 + 1))) (lv' := [(3, .int (nI (o2 + 1))), (2, .int (nI j9)), (1, .int (nI k9)), (0, .ref h0)]) hx hb dX12_called_81 hl (k := 0) rfl (nI_1 o2) (by decide) rfl (fun ls hl => ?_)
                refine lv_goto (tgt := 71) hx hb dX12_called_84 (by decide) ?_
                have hP : va_P G.1 pCl (mW G h0 a (upd (upd (upd (upd (upd (upd F 0 0) 35 (nI dc)) 44 (nI fd)) 49 (nI md)) 59 (nI bk)) 82 hp) B) _ := hP
                have hD : va_D A (mW G h0 a (upd (upd (upd (upd (upd (upd F 0 0) 35 (nI dc)) 44 (nI fd)) 49 (nI md)) 59 (nI bk)) 82 hp) B) := hD
                exact ih_o (o2 + 1) _ _ _ (by have z : ¬ o2 = m0 := (fun z => c23 (by rw [hw44, z]; exact em0)); omega) (by omega) hP hD hS (lv_sub hl [0, 1, 2, 3] rfl)
          have hP : va_P G.1 pCl (mW G h0 a (upd (upd (upd (upd (upd (upd F 0 0) 35 (nI dc)) 44 (nI fd)) 49 (nI md)) 59 (nI bk)) 82 hp) B) _ := hP
          have hD : va_D A (mW G h0 a (upd (upd (upd (upd (upd (upd F 0 0) 35 (nI dc)) 44 (nI fd)) 49 (nI md)) 59 (nI bk)) 82 hp) B) := hD
          exact loop_o (m0 + 1) 0 _ _ _ (by omega) (by omega) hP hD hS (lv_sub hl [0, 3, 2, 1] rfl)
        · refine lv_iconst (v := (-1)) hx hb dX12_called_67 (by decide) ?_
          have hP : va_P G.1 pCl (mW G h0 a (upd (upd (upd (upd (upd (upd F 0 0) 35 (nI dc)) 44 (nI fd)) 49 (nI md)) 59 (nI bk)) 82 hp) B) _ := hP
          have hD : va_D A (mW G h0 a (upd (upd (upd (upd (upd (upd F 0 0) 35 (nI dc)) 44 (nI fd)) 49 (nI md)) 59 (nI bk)) 82 hp) B) := hD
          exact W.iret (v := (-1)) hx hb hr (fun t9 ht9 hW9 => ⟨⟨_, ((-1) : Int32), rfl, rfl, by rw [ht9]; exact hP, hD⟩, hS.F ht9⟩) hS.2.2 dX12_called_68
theorem dX12_input_0 : decode cX12_input 0 = .ok (.aload_n 0, 1) := by decide +kernel
theorem dX12_input_1 : decode cX12_input 1 = .ok (.iconst 0, 1) := by decide +kernel
theorem dX12_input_2 : decode cX12_input 2 = .ok (.putfield 252, 3) := by decide +kernel
theorem dX12_input_5 : decode cX12_input 5 = .ok (.aload_n 0, 1) := by decide +kernel
theorem dX12_input_6 : decode cX12_input 6 = .ok (.getfield 689, 3) := by decide +kernel
theorem dX12_input_9 : decode cX12_input 9 = .ok (.sipush 200, 3) := by decide +kernel
theorem dX12_input_12 : decode cX12_input 12 = .ok (.if_icmp .ne 5, 3) := by decide +kernel
theorem dX12_input_17 : decode cX12_input 17 = .ok (.aload_n 0, 1) := by decide +kernel
theorem dX12_input_18 : decode cX12_input 18 = .ok (.getfield 162, 3) := by decide +kernel
theorem dX12_input_21 : decode cX12_input 21 = .ok (.aload_n 0, 1) := by decide +kernel
theorem dX12_input_22 : decode cX12_input 22 = .ok (.getfield 689, 3) := by decide +kernel
theorem dX12_input_25 : decode cX12_input 25 = .ok (.iload_n 1, 1) := by decide +kernel
theorem dX12_input_26 : decode cX12_input 26 = .ok (.iastore, 1) := by decide +kernel
theorem dX12_input_27 : decode cX12_input 27 = .ok (.aload_n 0, 1) := by decide +kernel
theorem dX12_input_28 : decode cX12_input 28 = .ok (.dup, 1) := by decide +kernel
theorem dX12_input_29 : decode cX12_input 29 = .ok (.getfield 689, 3) := by decide +kernel
theorem dX12_input_32 : decode cX12_input 32 = .ok (.iconst 1, 1) := by decide +kernel
theorem dX12_input_33 : decode cX12_input 33 = .ok (.iadd, 1) := by decide +kernel
theorem dX12_input_34 : decode cX12_input 34 = .ok (.putfield 689, 3) := by decide +kernel
theorem dX12_input_37 : decode cX12_input 37 = .ok (.aload_n 0, 1) := by decide +kernel
theorem dX12_input_38 : decode cX12_input 38 = .ok (.getfield 689, 3) := by decide +kernel
theorem dX12_input_41 : decode cX12_input 41 = .ok (.ireturn, 1) := by decide +kernel
theorem dX12_input_15 : decode cX12_input 15 = .ok (.iconst (-1), 1) := by decide +kernel
theorem dX12_input_16 : decode cX12_input 16 = .ok (.ireturn, 1) := by decide +kernel
set_option maxHeartbeats 2000000 in
set_option maxRecDepth 100000 in
/-- input(v) -/
theorem R_input (l : Launch) (G : pT) (h0 : Nat) (a : Nat → Nat) (F : Nat → Int32) (B : Nat → Nat → Int32) (x : Int32) (im : Nat) (him : im ≤ 200) : PM l G pX0 yX12_input cX12_input 2 (some .int) ({ frames := 2, cells := 0, slots := 0, locals := 60 }) [.ref h0, .int x] (mW G h0 a (upd F 85 (nI im)) B) (fun (v : Option Value) (u : Nat × (Nat → Int32) × Int32) => v = some (.int u.2.2) ∧ (u.1 ≤ 200)) (fun u => (mW G h0 a (upd (upd F 0 0) 85 (nI u.1)) (updA B 50 u.2.1))) := by
  intro sz
  refine Met.ofW (cc := cX12_input) (maxL := 2) (ret := (some .int)) (by decide) rfl ?_
  intro p e s m args below meth c s₁ B9 hml hv
  obtain ⟨rfl, hsz, hP, hD0, hE, hX⟩ := hv
  have hx := B9.exec
  have hb := B9.bytes
  have hr := B9.returns
  have hts := atoms_spec (ws := Cond.code yX12_input cX12_input 2 (some .int) :: pw) B9.pre
  have hq : ∀ w ∈ pw, w.before _ s = true := fun w h => hts w (List.mem_cons_of_mem _ h)
  have hown : s.vm.findClass RX12 = some m.cls := findClass_of_methodNamed B9.named
  have hlocks := B9.notSynchronized
  subst hsz
  have hD := hD0.self (sz := s.heap.size)
  have hA : ∀ q : Nat, s.heap.size ≤ q → va_A (mW G h0 a (upd F 85 (nI im)) B) s.heap.size q := fun q h => Or.inr h
  have hP : va_P G.1 pCl (mW G h0 a (upd F 85 (nI im)) B) s.heap := hP
  generalize va_A (mW G h0 a (upd F 85 (nI im)) B) s.heap.size = A at hD hE hA ⊢
  have hS : va_S A s.heap s.heap [] := va_S.rf
  have hl := lv_entry ([.ref h0, .int x]) (n := 2) (Nat.le_of_ble_eq_true rfl)
  rw [lg_entry_eq]
  generalize (lg_sl ([.ref h0, .int x]) ++ List.replicate (2 - (lg_sl ([.ref h0, .int x])).length) Slot.unset).toArray = ls at hl ⊢
  have hl : lv_has ls 2 [(0, .ref h0), (1, .int x)] := hl
  refine lv_aload_n hx hb dX12_input_0 rfl (lv_at hl 0 rfl) ?_
  refine lv_iconst (v := 0) hx hb dX12_input_1 (by decide) ?_
  refine r_put (v := 0) (ty := .int) hx hb hown hq hE hP hD hS 0 252 tFX12_0 (by decide) pw_1515 (by decide) rfl rfl (ms_0 a _ _) dX12_input_2 (fun H locs hP hD hS => ?_)
  refine lv_aload_n hx hb dX12_input_5 rfl (lv_at hl 0 rfl) ?_
  refine r_get (v := .int (nI im)) hx hb hown hq hE hP 85 689 tFX12_85 (by decide) pw_1961 rfl dX12_input_6 ?_
  refine lv_sipush (v := 200) hx hb dX12_input_9 (by decide) ?_
  refine lv_icmp_ne (tgt := 17) hx hb dX12_input_12 (by decide) (fun c1 => ?_) (fun c1 => ?_)
  · have n2 : ¬ (im = 200) := fun h9 => c1 ((nI_eq (a := im) (b := 200) (by omega) (by omega)).mpr h9)
    refine lv_aload_n hx hb dX12_input_17 rfl (lv_at hl 0 rfl) ?_
    refine r_get (v := .ref (a 50)) hx hb hown hq hE hP 84 162 tFX12_84 (by decide) pw_1481 rfl dX12_input_18 ?_
    refine lv_aload_n hx hb dX12_input_21 rfl (lv_at hl 0 rfl) ?_
    refine r_get (v := .int (nI im)) hx hb hown hq hE hP 85 689 tFX12_85 (by decide) pw_1961 rfl dX12_input_22 ?_
    refine lv_iload_n hx hb dX12_input_25 rfl (lv_at hl 1 rfl) ?_
    refine r_sti (f := (B 50)) (j := im) hx hb hE hP hD hS 50 (ma_50 G a _) rfl (mas_50 G a _) (by omega) (by decide) dX12_input_26 (fun H locs hP hD hS => ?_)
    refine lv_aload_n hx hb dX12_input_27 rfl (lv_at hl 0 rfl) ?_
    refine lv_dup hx hb dX12_input_28 rfl ?_
    refine r_get (v := .int (nI im)) hx hb hown hq hE hP 85 689 tFX12_85 (by decide) pw_1961 rfl dX12_input_29 ?_
    refine lv_iconst (v := 1) hx hb dX12_input_32 (by decide) ?_
    refine lv_iadd hx hb dX12_input_33 ?_
    refine lv_topi (fun x3 e4 => ?_)
    obtain rfl : x3 = nI (im + 1) := e4.trans (nI_add (im) (1))
    refine r_put (v := (nI (im + 1))) (ty := .int) hx hb hown hq hE hP hD hS 85 689 tFX12_85 (by decide) pw_1961 (by decide) rfl rfl (ms_85 a _ _) dX12_input_34 (fun H locs hP hD hS => ?_)
    refine lv_aload_n hx hb dX12_input_37 rfl (lv_at hl 0 rfl) ?_
    refine r_get (v := .int (nI (im + 1))) hx hb hown hq hE hP 85 689 tFX12_85 (by decide) pw_1961 rfl dX12_input_38 ?_
    have hz5 : (im + 1) ≤ 200 := (by omega)
    have hP : va_P G.1 pCl (mW G h0 a (upd (upd F 0 0) 85 (nI (im + 1))) (updA B 50 (upd (B 50) im x))) _ := hP
    have hD : va_D A (mW G h0 a (upd (upd F 0 0) 85 (nI (im + 1))) (updA B 50 (upd (B 50) im x))) := hD
    exact W.iret (v := (nI (im + 1))) hx hb hr (fun t9 ht9 hW9 => ⟨⟨_, ((im + 1), (upd (B 50) im x), (nI (im + 1))), rfl, ⟨rfl, hz5⟩, by rw [ht9]; exact hP, hD⟩, hS.F ht9⟩) hS.2.2 dX12_input_41
  · have n6 : im = 200 := (nI_eq (a := im) (b := 200) (by omega) (by omega)).mp c1
    refine lv_iconst (v := (-1)) hx hb dX12_input_15 (by decide) ?_
    have hz7 : im ≤ 200 := (by omega)
    have hP : va_P G.1 pCl (mW G h0 a (upd (upd F 0 0) 85 (nI im)) (updA B 50 (B 50))) _ := hP
    have hD : va_D A (mW G h0 a (upd (upd F 0 0) 85 (nI im)) (updA B 50 (B 50))) := hD
    exact W.iret (v := (-1)) hx hb hr (fun t9 ht9 hW9 => ⟨⟨_, (im, (B 50), ((-1) : Int32)), rfl, ⟨rfl, hz7⟩, by rw [ht9]; exact hP, hD⟩, hS.F ht9⟩) hS.2.2 dX12_input_16
theorem dX12_forget_0 : decode cX12_forget 0 = .ok (.aload_n 0, 1) := by decide +kernel
theorem dX12_forget_1 : decode cX12_forget 1 = .ok (.iconst 0, 1) := by decide +kernel
theorem dX12_forget_2 : decode cX12_forget 2 = .ok (.putfield 252, 3) := by decide +kernel
theorem dX12_forget_5 : decode cX12_forget 5 = .ok (.aload_n 0, 1) := by decide +kernel
theorem dX12_forget_6 : decode cX12_forget 6 = .ok (.iconst 0, 1) := by decide +kernel
theorem dX12_forget_7 : decode cX12_forget 7 = .ok (.putfield 689, 3) := by decide +kernel
theorem dX12_forget_10 : decode cX12_forget 10 = .ok (.return_, 1) := by decide +kernel
set_option maxHeartbeats 2000000 in
set_option maxRecDepth 100000 in
/-- forget() -/
theorem R_forget (l : Launch) (G : pT) (h0 : Nat) (a : Nat → Nat) (F : Nat → Int32) (B : Nat → Nat → Int32) : PM l G pX0 yX12_forget cX12_forget 1 none ({ frames := 2, cells := 0, slots := 0, locals := 60 }) [.ref h0] (mW G h0 a F B) (fun (v : Option Value) (u : Unit) => v = none) (fun u => (mW G h0 a (upd (upd F 0 0) 85 0) B)) := by
  intro sz
  refine Met.ofW (cc := cX12_forget) (maxL := 1) (ret := none) (by decide) rfl ?_
  intro p e s m args below meth c s₁ B9 hml hv
  obtain ⟨rfl, hsz, hP, hD0, hE, hX⟩ := hv
  have hx := B9.exec
  have hb := B9.bytes
  have hr := B9.returns
  have hts := atoms_spec (ws := Cond.code yX12_forget cX12_forget 1 none :: pw) B9.pre
  have hq : ∀ w ∈ pw, w.before _ s = true := fun w h => hts w (List.mem_cons_of_mem _ h)
  have hown : s.vm.findClass RX12 = some m.cls := findClass_of_methodNamed B9.named
  have hlocks := B9.notSynchronized
  subst hsz
  have hD := hD0.self (sz := s.heap.size)
  have hA : ∀ q : Nat, s.heap.size ≤ q → va_A (mW G h0 a F B) s.heap.size q := fun q h => Or.inr h
  have hP : va_P G.1 pCl (mW G h0 a F B) s.heap := hP
  generalize va_A (mW G h0 a F B) s.heap.size = A at hD hE hA ⊢
  have hS : va_S A s.heap s.heap [] := va_S.rf
  have hl := lv_entry ([.ref h0]) (n := 1) (Nat.le_of_ble_eq_true rfl)
  rw [lg_entry_eq]
  generalize (lg_sl ([.ref h0]) ++ List.replicate (1 - (lg_sl ([.ref h0])).length) Slot.unset).toArray = ls at hl ⊢
  have hl : lv_has ls 1 [(0, .ref h0)] := hl
  refine lv_aload_n hx hb dX12_forget_0 rfl (lv_at hl 0 rfl) ?_
  refine lv_iconst (v := 0) hx hb dX12_forget_1 (by decide) ?_
  refine r_put (v := 0) (ty := .int) hx hb hown hq hE hP hD hS 0 252 tFX12_0 (by decide) pw_1515 (by decide) rfl rfl (ms_0 a _ _) dX12_forget_2 (fun H locs hP hD hS => ?_)
  refine lv_aload_n hx hb dX12_forget_5 rfl (lv_at hl 0 rfl) ?_
  refine lv_iconst (v := 0) hx hb dX12_forget_6 (by decide) ?_
  refine r_put (v := 0) (ty := .int) hx hb hown hq hE hP hD hS 85 689 tFX12_85 (by decide) pw_1961 (by decide) rfl rfl (ms_85 a _ _) dX12_forget_7 (fun H locs hP hD hS => ?_)
  have hP : va_P G.1 pCl (mW G h0 a (upd (upd F 0 0) 85 0) B) _ := hP
  have hD : va_D A (mW G h0 a (upd (upd F 0 0) 85 0) B) := hD
  exact W.vret hx hb hr (fun t9 ht9 hW9 => ⟨⟨_, (), rfl, rfl, by rw [ht9]; exact hP, hD⟩, hS.F ht9⟩) hS.2.2 dX12_forget_10
theorem dX12_result_0 : decode cX12_result 0 = .ok (.aload_n 0, 1) := by decide +kernel
theorem dX12_result_1 : decode cX12_result 1 = .ok (.iconst 0, 1) := by decide +kernel
theorem dX12_result_2 : decode cX12_result 2 = .ok (.putfield 252, 3) := by decide +kernel
theorem dX12_result_5 : decode cX12_result 5 = .ok (.aload_n 0, 1) := by decide +kernel
theorem dX12_result_6 : decode cX12_result 6 = .ok (.getfield 233, 3) := by decide +kernel
theorem dX12_result_9 : decode cX12_result 9 = .ok (.ifCond .ne 10, 3) := by decide +kernel
theorem dX12_result_19 : decode cX12_result 19 = .ok (.iconst 0, 1) := by decide +kernel
theorem dX12_result_20 : decode cX12_result 20 = .ok (.ireturn, 1) := by decide +kernel
theorem dX12_result_12 : decode cX12_result 12 = .ok (.aload_n 0, 1) := by decide +kernel
theorem dX12_result_13 : decode cX12_result 13 = .ok (.getfield 763, 3) := by decide +kernel
theorem dX12_result_16 : decode cX12_result 16 = .ok (.goto 4, 3) := by decide +kernel
set_option maxHeartbeats 2000000 in
set_option maxRecDepth 100000 in
/-- result() -/
theorem R_result (l : Launch) (G : pT) (h0 : Nat) (a : Nat → Nat) (F : Nat → Int32) (B : Nat → Nat → Int32) : PM l G pX0 yX12_result cX12_result 1 (some .int) ({ frames := 2, cells := 0, slots := 0, locals := 60 }) [.ref h0] (mW G h0 a F B) (fun (v : Option Value) (u : Int32) => v = some (.int u)) (fun u => (mW G h0 a (upd F 0 0) B)) := by
  intro sz
  refine Met.ofW (cc := cX12_result) (maxL := 1) (ret := (some .int)) (by decide) rfl ?_
  intro p e s m args below meth c s₁ B9 hml hv
  obtain ⟨rfl, hsz, hP, hD0, hE, hX⟩ := hv
  have hx := B9.exec
  have hb := B9.bytes
  have hr := B9.returns
  have hts := atoms_spec (ws := Cond.code yX12_result cX12_result 1 (some .int) :: pw) B9.pre
  have hq : ∀ w ∈ pw, w.before _ s = true := fun w h => hts w (List.mem_cons_of_mem _ h)
  have hown : s.vm.findClass RX12 = some m.cls := findClass_of_methodNamed B9.named
  have hlocks := B9.notSynchronized
  subst hsz
  have hD := hD0.self (sz := s.heap.size)
  have hA : ∀ q : Nat, s.heap.size ≤ q → va_A (mW G h0 a F B) s.heap.size q := fun q h => Or.inr h
  have hP : va_P G.1 pCl (mW G h0 a F B) s.heap := hP
  generalize va_A (mW G h0 a F B) s.heap.size = A at hD hE hA ⊢
  have hS : va_S A s.heap s.heap [] := va_S.rf
  have hl := lv_entry ([.ref h0]) (n := 1) (Nat.le_of_ble_eq_true rfl)
  rw [lg_entry_eq]
  generalize (lg_sl ([.ref h0]) ++ List.replicate (1 - (lg_sl ([.ref h0])).length) Slot.unset).toArray = ls at hl ⊢
  have hl : lv_has ls 1 [(0, .ref h0)] := hl
  refine lv_aload_n hx hb dX12_result_0 rfl (lv_at hl 0 rfl) ?_
  refine lv_iconst (v := 0) hx hb dX12_result_1 (by decide) ?_
  refine r_put (v := 0) (ty := .int) hx hb hown hq hE hP hD hS 0 252 tFX12_0 (by decide) pw_1515 (by decide) rfl rfl (ms_0 a _ _) dX12_result_2 (fun H locs hP hD hS => ?_)
  refine lv_aload_n hx hb dX12_result_5 rfl (lv_at hl 0 rfl) ?_
  refine r_get (v := .int (F 116)) hx hb hown hq hE hP 116 233 tFX12_116 (by decide) pw_1506 rfl dX12_result_6 ?_
  refine lv_if_ne (tgt := 19) hx hb dX12_result_9 (by decide) (fun c1 => ?_) (fun c1 => ?_)
  · refine lv_iconst (v := 0) hx hb dX12_result_19 (by decide) ?_
    have hP : va_P G.1 pCl (mW G h0 a (upd F 0 0) B) _ := hP
    have hD : va_D A (mW G h0 a (upd F 0 0) B) := hD
    exact W.iret (v := 0) hx hb hr (fun t9 ht9 hW9 => ⟨⟨_, (0 : Int32), rfl, rfl, by rw [ht9]; exact hP, hD⟩, hS.F ht9⟩) hS.2.2 dX12_result_20
  · refine lv_aload_n hx hb dX12_result_12 rfl (lv_at hl 0 rfl) ?_
    refine r_get (v := .int (F 118)) hx hb hown hq hE hP 118 763 tFX12_118 (by decide) pw_2022 rfl dX12_result_13 ?_
    refine lv_goto (tgt := 20) hx hb dX12_result_16 (by decide) ?_
    have hP : va_P G.1 pCl (mW G h0 a (upd F 0 0) B) _ := hP
    have hD : va_D A (mW G h0 a (upd F 0 0) B) := hD
    exact W.iret (v := (F 118)) hx hb hr (fun t9 ht9 hW9 => ⟨⟨_, (F 118), rfl, rfl, by rw [ht9]; exact hP, hD⟩, hS.F ht9⟩) hS.2.2 dX12_result_20
theorem dX12_output_0 : decode cX12_output 0 = .ok (.aload_n 0, 1) := by decide +kernel
theorem dX12_output_1 : decode cX12_output 1 = .ok (.iconst 0, 1) := by decide +kernel
theorem dX12_output_2 : decode cX12_output 2 = .ok (.putfield 252, 3) := by decide +kernel
theorem dX12_output_5 : decode cX12_output 5 = .ok (.iload_n 1, 1) := by decide +kernel
theorem dX12_output_6 : decode cX12_output 6 = .ok (.iconst 0, 1) := by decide +kernel
theorem dX12_output_7 : decode cX12_output 7 = .ok (.aload_n 0, 1) := by decide +kernel
theorem dX12_output_8 : decode cX12_output 8 = .ok (.getfield 656, 3) := by decide +kernel
theorem dX12_output_11 : decode cX12_output 11 = .ok (.iconst 1, 1) := by decide +kernel
theorem dX12_output_12 : decode cX12_output 12 = .ok (.isub, 1) := by decide +kernel
theorem dX12_output_13 : decode cX12_output 13 = .ok (.invokestatic 261, 3) := by decide +kernel
theorem dX12_output_16 : decode cX12_output 16 = .ok (.ifCond .eq 12, 3) := by decide +kernel
theorem dX12_output_28 : decode cX12_output 28 = .ok (.iconst 0, 1) := by decide +kernel
theorem dX12_output_29 : decode cX12_output 29 = .ok (.ireturn, 1) := by decide +kernel
theorem dX12_output_19 : decode cX12_output 19 = .ok (.aload_n 0, 1) := by decide +kernel
theorem dX12_output_20 : decode cX12_output 20 = .ok (.getfield 165, 3) := by decide +kernel
theorem dX12_output_23 : decode cX12_output 23 = .ok (.iload_n 1, 1) := by decide +kernel
theorem dX12_output_24 : decode cX12_output 24 = .ok (.iaload, 1) := by decide +kernel
theorem dX12_output_25 : decode cX12_output 25 = .ok (.goto 4, 3) := by decide +kernel
set_option maxHeartbeats 2000000 in
set_option maxRecDepth 100000 in
/-- output(i) -/
theorem R_output (l : Launch) (G : pT) (h0 : Nat) (a : Nat → Nat) (F : Nat → Int32) (B : Nat → Nat → Int32) (x : Int32) (ou : Nat) (hou : ou ≤ 400) : PM l G pX0 yX12_output cX12_output 2 (some .int) ({ frames := 3, cells := 0, slots := 0, locals := 82 }) [.ref h0, .int x] (mW G h0 a (upd F 87 (nI ou)) B) (fun (v : Option Value) (u : Int32) => v = some (.int u)) (fun u => (mW G h0 a (upd (upd F 0 0) 87 (nI ou)) B)) := by
  intro sz
  refine Met.ofW (cc := cX12_output) (maxL := 2) (ret := (some .int)) (by decide) rfl ?_
  intro p e s m args below meth c s₁ B9 hml hv
  obtain ⟨rfl, hsz, hP, hD0, hE, hX⟩ := hv
  have hx := B9.exec
  have hb := B9.bytes
  have hr := B9.returns
  have hts := atoms_spec (ws := Cond.code yX12_output cX12_output 2 (some .int) :: pw) B9.pre
  have hq : ∀ w ∈ pw, w.before _ s = true := fun w h => hts w (List.mem_cons_of_mem _ h)
  have hown : s.vm.findClass RX12 = some m.cls := findClass_of_methodNamed B9.named
  have hlocks := B9.notSynchronized
  subst hsz
  have hD := hD0.self (sz := s.heap.size)
  have hA : ∀ q : Nat, s.heap.size ≤ q → va_A (mW G h0 a (upd F 87 (nI ou)) B) s.heap.size q := fun q h => Or.inr h
  have hP : va_P G.1 pCl (mW G h0 a (upd F 87 (nI ou)) B) s.heap := hP
  generalize va_A (mW G h0 a (upd F 87 (nI ou)) B) s.heap.size = A at hD hE hA ⊢
  have hS : va_S A s.heap s.heap [] := va_S.rf
  have hl := lv_entry ([.ref h0, .int x]) (n := 2) (Nat.le_of_ble_eq_true rfl)
  rw [lg_entry_eq]
  generalize (lg_sl ([.ref h0, .int x]) ++ List.replicate (2 - (lg_sl ([.ref h0, .int x])).length) Slot.unset).toArray = ls at hl ⊢
  have hl : lv_has ls 2 [(0, .ref h0), (1, .int x)] := hl
  refine lv_aload_n hx hb dX12_output_0 rfl (lv_at hl 0 rfl) ?_
  refine lv_iconst (v := 0) hx hb dX12_output_1 (by decide) ?_
  refine r_put (v := 0) (ty := .int) hx hb hown hq hE hP hD hS 0 252 tFX12_0 (by decide) pw_1515 (by decide) rfl rfl (ms_0 a _ _) dX12_output_2 (fun H locs hP hD hS => ?_)
  refine lv_iload_n hx hb dX12_output_5 rfl (lv_at hl 1 rfl) ?_
  refine lv_iconst (v := 0) hx hb dX12_output_6 (by decide) ?_
  refine lv_aload_n hx hb dX12_output_7 rfl (lv_at hl 0 rfl) ?_
  refine r_get (v := .int (nI ou)) hx hb hown hq hE hP 87 656 tFX12_87 (by decide) pw_1924 rfl dX12_output_8 ?_
  refine lv_iconst (v := 1) hx hb dX12_output_11 (by decide) ?_
  refine lv_isub hx hb dX12_output_12 ?_
  refine lv_topi (fun x1 e2 => ?_)
  refine pc_SN (G := G) (As := [.int x, .int 0, .int x1]) (rest := []) hx hb hml hown hq hE hX pX0_al hP hS hA hl.1 (s_in l G x 0 x1) (gS pw_1521 pw_1522 pw_1523 pw_1513) hS_X12_in rfl (Nat.le_of_ble_eq_true rfl) dX12_output_13 ⟨Nat.le_of_ble_eq_true rfl, Nat.le_of_ble_eq_true rfl⟩ ⟨Nat.le_of_ble_eq_true rfl, Nat.le_of_ble_eq_true rfl⟩ (fun v5 u3 H locs hw4 hP hS => ?_)
  obtain rfl : v5 = some (.int (isin x 0 x1)) := hw4
  refine W.widen (k := 0) (n := 0) (Nat.le_of_ble_eq_true rfl) (Nat.le_of_ble_eq_true rfl) ?_
  refine W.eq (g2 := F0 m 16 ls [.int (isin x 0 x1)]) rfl ?_
  refine lv_if_eq (tgt := 28) hx hb dX12_output_16 (by decide) (fun c6 => ?_) (fun c6 => ?_)
  · refine lv_iconst (v := 0) hx hb dX12_output_28 (by decide) ?_
    have hP : va_P G.1 pCl (mW G h0 a (upd (upd F 0 0) 87 (nI ou)) B) _ := hP
    have hD : va_D A (mW G h0 a (upd (upd F 0 0) 87 (nI ou)) B) := hD
    exact W.iret (v := 0) hx hb hr (fun t9 ht9 hW9 => ⟨⟨_, (0 : Int32), rfl, rfl, by rw [ht9]; exact hP, hD⟩, hS.F ht9⟩) hS.2.2 dX12_output_29
  · obtain ⟨i9, hki9, hli9⟩ := isin_m (by omega) c6
    subst hki9
    have hP : va_P G.1 pCl (mW G h0 a (upd (upd F 0 0) 87 (nI ou)) B) _ := hP
    have hD : va_D A (mW G h0 a (upd (upd F 0 0) 87 (nI ou)) B) := hD
    refine lv_aload_n hx hb dX12_output_19 rfl (lv_at hl 0 rfl) ?_
    refine r_get (v := .ref (a 51)) hx hb hown hq hE hP 86 165 tFX12_86 (by decide) pw_1482 rfl dX12_output_20 ?_
    refine lv_iload_n hx hb dX12_output_23 rfl (lv_at hl 1 rfl) ?_
    refine r_ldi (f := (B 51)) (j := i9) hx hb hE hP 51 (ma_51 G a _) rfl (by omega) (by decide) dX12_output_24 ?_
    refine lv_goto (tgt := 29) hx hb dX12_output_25 (by decide) ?_
    have hP : va_P G.1 pCl (mW G h0 a (upd (upd F 0 0) 87 (nI ou)) B) _ := hP
    have hD : va_D A (mW G h0 a (upd (upd F 0 0) 87 (nI ou)) B) := hD
    exact W.iret (v := ((B 51) i9)) hx hb hr (fun t9 ht9 hW9 => ⟨⟨_, ((B 51) i9), rfl, rfl, by rw [ht9]; exact hP, hD⟩, hS.F ht9⟩) hS.2.2 dX12_output_29
theorem dX12_count_0 : decode cX12_count 0 = .ok (.aload_n 0, 1) := by decide +kernel
theorem dX12_count_1 : decode cX12_count 1 = .ok (.iconst 0, 1) := by decide +kernel
theorem dX12_count_2 : decode cX12_count 2 = .ok (.putfield 252, 3) := by decide +kernel
theorem dX12_count_5 : decode cX12_count 5 = .ok (.iload_n 1, 1) := by decide +kernel
theorem dX12_count_6 : decode cX12_count 6 = .ok (.iconst 2, 1) := by decide +kernel
theorem dX12_count_7 : decode cX12_count 7 = .ok (.if_icmp .lt 9, 3) := by decide +kernel
theorem dX12_count_16 : decode cX12_count 16 = .ok (.iload_n 1, 1) := by decide +kernel
theorem dX12_count_17 : decode cX12_count 17 = .ok (.ifCond .ne 10, 3) := by decide +kernel
theorem dX12_count_27 : decode cX12_count 27 = .ok (.iload_n 1, 1) := by decide +kernel
theorem dX12_count_28 : decode cX12_count 28 = .ok (.iconst 1, 1) := by decide +kernel
theorem dX12_count_29 : decode cX12_count 29 = .ok (.if_icmp .ne 10, 3) := by decide +kernel
theorem dX12_count_39 : decode cX12_count 39 = .ok (.iconst (-1), 1) := by decide +kernel
theorem dX12_count_40 : decode cX12_count 40 = .ok (.ireturn, 1) := by decide +kernel
theorem dX12_count_32 : decode cX12_count 32 = .ok (.aload_n 0, 1) := by decide +kernel
theorem dX12_count_33 : decode cX12_count 33 = .ok (.getfield 689, 3) := by decide +kernel
theorem dX12_count_36 : decode cX12_count 36 = .ok (.goto 4, 3) := by decide +kernel
theorem dX12_count_20 : decode cX12_count 20 = .ok (.aload_n 0, 1) := by decide +kernel
theorem dX12_count_21 : decode cX12_count 21 = .ok (.getfield 255, 3) := by decide +kernel
theorem dX12_count_24 : decode cX12_count 24 = .ok (.goto 16, 3) := by decide +kernel
theorem dX12_count_10 : decode cX12_count 10 = .ok (.iload_n 1, 1) := by decide +kernel
theorem dX12_count_11 : decode cX12_count 11 = .ok (.bipush 11, 2) := by decide +kernel
theorem dX12_count_13 : decode cX12_count 13 = .ok (.if_icmp .le 28, 3) := by decide +kernel
theorem dX12_count_41 : decode cX12_count 41 = .ok (.iload_n 1, 1) := by decide +kernel
theorem dX12_count_42 : decode cX12_count 42 = .ok (.iconst 5, 1) := by decide +kernel
theorem dX12_count_43 : decode cX12_count 43 = .ok (.if_icmp .ge 43, 3) := by decide +kernel
theorem dX12_count_86 : decode cX12_count 86 = .ok (.aload_n 0, 1) := by decide +kernel
theorem dX12_count_87 : decode cX12_count 87 = .ok (.getfield 653, 3) := by decide +kernel
theorem dX12_count_90 : decode cX12_count 90 = .ok (.ifCond .ne 5, 3) := by decide +kernel
theorem dX12_count_95 : decode cX12_count 95 = .ok (.iload_n 1, 1) := by decide +kernel
theorem dX12_count_96 : decode cX12_count 96 = .ok (.tableswitch 70 5 10 #[40, 45, 50, 55, 60, 65], 40) := by decide +kernel
theorem dX12_count_136 : decode cX12_count 136 = .ok (.aload_n 0, 1) := by decide +kernel
theorem dX12_count_137 : decode cX12_count 137 = .ok (.getfield 748, 3) := by decide +kernel
theorem dX12_count_140 : decode cX12_count 140 = .ok (.ireturn, 1) := by decide +kernel
theorem dX12_count_141 : decode cX12_count 141 = .ok (.aload_n 0, 1) := by decide +kernel
theorem dX12_count_142 : decode cX12_count 142 = .ok (.getfield 656, 3) := by decide +kernel
theorem dX12_count_145 : decode cX12_count 145 = .ok (.ireturn, 1) := by decide +kernel
theorem dX12_count_146 : decode cX12_count 146 = .ok (.aload_n 0, 1) := by decide +kernel
theorem dX12_count_147 : decode cX12_count 147 = .ok (.getfield 769, 3) := by decide +kernel
theorem dX12_count_150 : decode cX12_count 150 = .ok (.ireturn, 1) := by decide +kernel
theorem dX12_count_151 : decode cX12_count 151 = .ok (.aload_n 0, 1) := by decide +kernel
theorem dX12_count_152 : decode cX12_count 152 = .ok (.getfield 739, 3) := by decide +kernel
theorem dX12_count_155 : decode cX12_count 155 = .ok (.ireturn, 1) := by decide +kernel
theorem dX12_count_156 : decode cX12_count 156 = .ok (.aload_n 0, 1) := by decide +kernel
theorem dX12_count_157 : decode cX12_count 157 = .ok (.getfield 742, 3) := by decide +kernel
theorem dX12_count_160 : decode cX12_count 160 = .ok (.ireturn, 1) := by decide +kernel
theorem dX12_count_161 : decode cX12_count 161 = .ok (.aload_n 0, 1) := by decide +kernel
theorem dX12_count_162 : decode cX12_count 162 = .ok (.getfield 772, 3) := by decide +kernel
theorem dX12_count_165 : decode cX12_count 165 = .ok (.ireturn, 1) := by decide +kernel
theorem dX12_count_166 : decode cX12_count 166 = .ok (.aload_n 0, 1) := by decide +kernel
theorem dX12_count_167 : decode cX12_count 167 = .ok (.getfield 775, 3) := by decide +kernel
theorem dX12_count_170 : decode cX12_count 170 = .ok (.ireturn, 1) := by decide +kernel
theorem dX12_count_93 : decode cX12_count 93 = .ok (.iconst 0, 1) := by decide +kernel
theorem dX12_count_94 : decode cX12_count 94 = .ok (.ireturn, 1) := by decide +kernel
theorem dX12_count_46 : decode cX12_count 46 = .ok (.aload_n 0, 1) := by decide +kernel
theorem dX12_count_47 : decode cX12_count 47 = .ok (.getfield 649, 3) := by decide +kernel
theorem dX12_count_50 : decode cX12_count 50 = .ok (.ifCond .ne 7, 3) := by decide +kernel
theorem dX12_count_57 : decode cX12_count 57 = .ok (.iload_n 1, 1) := by decide +kernel
theorem dX12_count_58 : decode cX12_count 58 = .ok (.iconst 2, 1) := by decide +kernel
theorem dX12_count_59 : decode cX12_count 59 = .ok (.if_icmp .ne 10, 3) := by decide +kernel
theorem dX12_count_69 : decode cX12_count 69 = .ok (.iload_n 1, 1) := by decide +kernel
theorem dX12_count_70 : decode cX12_count 70 = .ok (.iconst 3, 1) := by decide +kernel
theorem dX12_count_71 : decode cX12_count 71 = .ok (.if_icmp .ne 10, 3) := by decide +kernel
theorem dX12_count_81 : decode cX12_count 81 = .ok (.aload_n 0, 1) := by decide +kernel
theorem dX12_count_82 : decode cX12_count 82 = .ok (.getfield 422, 3) := by decide +kernel
theorem dX12_count_85 : decode cX12_count 85 = .ok (.ireturn, 1) := by decide +kernel
theorem dX12_count_74 : decode cX12_count 74 = .ok (.aload_n 0, 1) := by decide +kernel
theorem dX12_count_75 : decode cX12_count 75 = .ok (.getfield 384, 3) := by decide +kernel
theorem dX12_count_78 : decode cX12_count 78 = .ok (.goto 7, 3) := by decide +kernel
theorem dX12_count_62 : decode cX12_count 62 = .ok (.aload_n 0, 1) := by decide +kernel
theorem dX12_count_63 : decode cX12_count 63 = .ok (.getfield 314, 3) := by decide +kernel
theorem dX12_count_66 : decode cX12_count 66 = .ok (.goto 19, 3) := by decide +kernel
theorem dX12_count_53 : decode cX12_count 53 = .ok (.iconst 0, 1) := by decide +kernel
theorem dX12_count_54 : decode cX12_count 54 = .ok (.goto 31, 3) := by decide +kernel
set_option maxHeartbeats 2000000 in
set_option maxRecDepth 100000 in
/-- count(what) -/
theorem R_count (l : Launch) (G : pT) (h0 : Nat) (a : Nat → Nat) (F : Nat → Int32) (B : Nat → Nat → Int32) (x : Int32) : PM l G pX0 yX12_count cX12_count 2 (some .int) ({ frames := 2, cells := 0, slots := 0, locals := 60 }) [.ref h0, .int x] (mW G h0 a F B) (fun (v : Option Value) (u : Int32) => v = some (.int u)) (fun u => (mW G h0 a (upd F 0 0) B)) := by
  intro sz
  refine Met.ofW (cc := cX12_count) (maxL := 2) (ret := (some .int)) (by decide) rfl ?_
  intro p e s m args below meth c s₁ B9 hml hv
  obtain ⟨rfl, hsz, hP, hD0, hE, hX⟩ := hv
  have hx := B9.exec
  have hb := B9.bytes
  have hr := B9.returns
  have hts := atoms_spec (ws := Cond.code yX12_count cX12_count 2 (some .int) :: pw) B9.pre
  have hq : ∀ w ∈ pw, w.before _ s = true := fun w h => hts w (List.mem_cons_of_mem _ h)
  have hown : s.vm.findClass RX12 = some m.cls := findClass_of_methodNamed B9.named
  have hlocks := B9.notSynchronized
  subst hsz
  have hD := hD0.self (sz := s.heap.size)
  have hA : ∀ q : Nat, s.heap.size ≤ q → va_A (mW G h0 a F B) s.heap.size q := fun q h => Or.inr h
  have hP : va_P G.1 pCl (mW G h0 a F B) s.heap := hP
  generalize va_A (mW G h0 a F B) s.heap.size = A at hD hE hA ⊢
  have hS : va_S A s.heap s.heap [] := va_S.rf
  have hl := lv_entry ([.ref h0, .int x]) (n := 2) (Nat.le_of_ble_eq_true rfl)
  rw [lg_entry_eq]
  generalize (lg_sl ([.ref h0, .int x]) ++ List.replicate (2 - (lg_sl ([.ref h0, .int x])).length) Slot.unset).toArray = ls at hl ⊢
  have hl : lv_has ls 2 [(0, .ref h0), (1, .int x)] := hl
  refine lv_aload_n hx hb dX12_count_0 rfl (lv_at hl 0 rfl) ?_
  refine lv_iconst (v := 0) hx hb dX12_count_1 (by decide) ?_
  refine r_put (v := 0) (ty := .int) hx hb hown hq hE hP hD hS 0 252 tFX12_0 (by decide) pw_1515 (by decide) rfl rfl (ms_0 a _ _) dX12_count_2 (fun H locs hP hD hS => ?_)
  refine lv_iload_n hx hb dX12_count_5 rfl (lv_at hl 1 rfl) ?_
  refine lv_iconst (v := 2) hx hb dX12_count_6 (by decide) ?_
  refine lv_icmp_lt (tgt := 16) hx hb dX12_count_7 (by decide) (fun c1 => ?_) (fun c1 => ?_)
  · refine lv_iload_n hx hb dX12_count_16 rfl (lv_at hl 1 rfl) ?_
    refine lv_if_ne (tgt := 27) hx hb dX12_count_17 (by decide) (fun c2 => ?_) (fun c2 => ?_)
    · refine lv_iload_n hx hb dX12_count_27 rfl (lv_at hl 1 rfl) ?_
      refine lv_iconst (v := 1) hx hb dX12_count_28 (by decide) ?_
      refine lv_icmp_ne (tgt := 39) hx hb dX12_count_29 (by decide) (fun c3 => ?_) (fun c3 => ?_)
      · refine lv_iconst (v := (-1)) hx hb dX12_count_39 (by decide) ?_
        have hP : va_P G.1 pCl (mW G h0 a (upd F 0 0) B) _ := hP
        have hD : va_D A (mW G h0 a (upd F 0 0) B) := hD
        exact W.iret (v := (-1)) hx hb hr (fun t9 ht9 hW9 => ⟨⟨_, ((-1) : Int32), rfl, rfl, by rw [ht9]; exact hP, hD⟩, hS.F ht9⟩) hS.2.2 dX12_count_40
      · refine lv_aload_n hx hb dX12_count_32 rfl (lv_at hl 0 rfl) ?_
        refine r_get (v := .int (F 85)) hx hb hown hq hE hP 85 689 tFX12_85 (by decide) pw_1961 rfl dX12_count_33 ?_
        refine lv_goto (tgt := 40) hx hb dX12_count_36 (by decide) ?_
        have hP : va_P G.1 pCl (mW G h0 a (upd F 0 0) B) _ := hP
        have hD : va_D A (mW G h0 a (upd F 0 0) B) := hD
        exact W.iret (v := (F 85)) hx hb hr (fun t9 ht9 hW9 => ⟨⟨_, (F 85), rfl, rfl, by rw [ht9]; exact hP, hD⟩, hS.F ht9⟩) hS.2.2 dX12_count_40
    · refine lv_aload_n hx hb dX12_count_20 rfl (lv_at hl 0 rfl) ?_
      refine r_get (v := .int (F 2)) hx hb hown hq hE hP 2 255 tFX12_2 (by decide) pw_1516 rfl dX12_count_21 ?_
      refine lv_goto (tgt := 40) hx hb dX12_count_24 (by decide) ?_
      have hP : va_P G.1 pCl (mW G h0 a (upd F 0 0) B) _ := hP
      have hD : va_D A (mW G h0 a (upd F 0 0) B) := hD
      exact W.iret (v := (F 2)) hx hb hr (fun t9 ht9 hW9 => ⟨⟨_, (F 2), rfl, rfl, by rw [ht9]; exact hP, hD⟩, hS.F ht9⟩) hS.2.2 dX12_count_40
  · refine lv_iload_n hx hb dX12_count_10 rfl (lv_at hl 1 rfl) ?_
    refine lv_bipush (v := 11) hx hb dX12_count_11 (by decide) ?_
    refine lv_icmp_le (tgt := 41) hx hb dX12_count_13 (by decide) (fun c4 => ?_) (fun c4 => ?_)
    · refine lv_iload_n hx hb dX12_count_41 rfl (lv_at hl 1 rfl) ?_
      refine lv_iconst (v := 5) hx hb dX12_count_42 (by decide) ?_
      refine lv_icmp_ge (tgt := 86) hx hb dX12_count_43 (by decide) (fun c5 => ?_) (fun c5 => ?_)
      · refine lv_aload_n hx hb dX12_count_86 rfl (lv_at hl 0 rfl) ?_
        refine r_get (v := .int (F 83)) hx hb hown hq hE hP 83 653 tFX12_83 (by decide) pw_1923 rfl dX12_count_87 ?_
        refine lv_if_ne (tgt := 95) hx hb dX12_count_90 (by decide) (fun c6 => ?_) (fun c6 => ?_)
        · refine lv_iload_n hx hb dX12_count_95 rfl (lv_at hl 1 rfl) ?_
          by_cases h7 : x = 5
          · subst h7
            refine lv_tableIn (tgt := 136) (off := 40) hx hb dX12_count_96 (by decide) (by decide) (by decide) (by decide) ?_
            refine lv_aload_n hx hb dX12_count_136 rfl (lv_at hl 0 rfl) ?_
            refine r_get (v := .int (F 117)) hx hb hown hq hE hP 117 748 tFX12_117 (by decide) pw_2001 rfl dX12_count_137 ?_
            have hP : va_P G.1 pCl (mW G h0 a (upd F 0 0) B) _ := hP
            have hD : va_D A (mW G h0 a (upd F 0 0) B) := hD
            exact W.iret (v := (F 117)) hx hb hr (fun t9 ht9 hW9 => ⟨⟨_, (F 117), rfl, rfl, by rw [ht9]; exact hP, hD⟩, hS.F ht9⟩) hS.2.2 dX12_count_140
          by_cases h8 : x = 6
          · subst h8
            refine lv_tableIn (tgt := 141) (off := 45) hx hb dX12_count_96 (by decide) (by decide) (by decide) (by decide) ?_
            refine lv_aload_n hx hb dX12_count_141 rfl (lv_at hl 0 rfl) ?_
            refine r_get (v := .int (F 87)) hx hb hown hq hE hP 87 656 tFX12_87 (by decide) pw_1924 rfl dX12_count_142 ?_
            have hP : va_P G.1 pCl (mW G h0 a (upd F 0 0) B) _ := hP
            have hD : va_D A (mW G h0 a (upd F 0 0) B) := hD
            exact W.iret (v := (F 87)) hx hb hr (fun t9 ht9 hW9 => ⟨⟨_, (F 87), rfl, rfl, by rw [ht9]; exact hP, hD⟩, hS.F ht9⟩) hS.2.2 dX12_count_145
          by_cases h9 : x = 7
          · subst h9
            refine lv_tableIn (tgt := 146) (off := 50) hx hb dX12_count_96 (by decide) (by decide) (by decide) (by decide) ?_
            refine lv_aload_n hx hb dX12_count_146 rfl (lv_at hl 0 rfl) ?_
            refine r_get (v := .int (F 120)) hx hb hown hq hE hP 120 769 tFX12_120 (by decide) pw_2065 rfl dX12_count_147 ?_
            have hP : va_P G.1 pCl (mW G h0 a (upd F 0 0) B) _ := hP
            have hD : va_D A (mW G h0 a (upd F 0 0) B) := hD
            exact W.iret (v := (F 120)) hx hb hr (fun t9 ht9 hW9 => ⟨⟨_, (F 120), rfl, rfl, by rw [ht9]; exact hP, hD⟩, hS.F ht9⟩) hS.2.2 dX12_count_150
          by_cases h10 : x = 8
          · subst h10
            refine lv_tableIn (tgt := 151) (off := 55) hx hb dX12_count_96 (by decide) (by decide) (by decide) (by decide) ?_
            refine lv_aload_n hx hb dX12_count_151 rfl (lv_at hl 0 rfl) ?_
            refine r_get (v := .int (F 121)) hx hb hown hq hE hP 121 739 tFX12_121 (by decide) pw_1988 rfl dX12_count_152 ?_
            have hP : va_P G.1 pCl (mW G h0 a (upd F 0 0) B) _ := hP
            have hD : va_D A (mW G h0 a (upd F 0 0) B) := hD
            exact W.iret (v := (F 121)) hx hb hr (fun t9 ht9 hW9 => ⟨⟨_, (F 121), rfl, rfl, by rw [ht9]; exact hP, hD⟩, hS.F ht9⟩) hS.2.2 dX12_count_155
          by_cases h11 : x = 9
          · subst h11
            refine lv_tableIn (tgt := 156) (off := 60) hx hb dX12_count_96 (by decide) (by decide) (by decide) (by decide) ?_
            refine lv_aload_n hx hb dX12_count_156 rfl (lv_at hl 0 rfl) ?_
            refine r_get (v := .int (F 122)) hx hb hown hq hE hP 122 742 tFX12_122 (by decide) pw_1989 rfl dX12_count_157 ?_
            have hP : va_P G.1 pCl (mW G h0 a (upd F 0 0) B) _ := hP
            have hD : va_D A (mW G h0 a (upd F 0 0) B) := hD
            exact W.iret (v := (F 122)) hx hb hr (fun t9 ht9 hW9 => ⟨⟨_, (F 122), rfl, rfl, by rw [ht9]; exact hP, hD⟩, hS.F ht9⟩) hS.2.2 dX12_count_160
          by_cases h12 : x = 10
          · subst h12
            refine lv_tableIn (tgt := 161) (off := 65) hx hb dX12_count_96 (by decide) (by decide) (by decide) (by decide) ?_
            refine lv_aload_n hx hb dX12_count_161 rfl (lv_at hl 0 rfl) ?_
            refine r_get (v := .int (F 123)) hx hb hown hq hE hP 123 772 tFX12_123 (by decide) pw_2014 rfl dX12_count_162 ?_
            have hP : va_P G.1 pCl (mW G h0 a (upd F 0 0) B) _ := hP
            have hD : va_D A (mW G h0 a (upd F 0 0) B) := hD
            exact W.iret (v := (F 123)) hx hb hr (fun t9 ht9 hW9 => ⟨⟨_, (F 123), rfl, rfl, by rw [ht9]; exact hP, hD⟩, hS.F ht9⟩) hS.2.2 dX12_count_165
          refine lv_tableOut (tgt := 166) hx hb dX12_count_96 (sw_out10 h7 h8 h9 h10 h11 h12) (by decide) ?_
          refine lv_aload_n hx hb dX12_count_166 rfl (lv_at hl 0 rfl) ?_
          refine r_get (v := .int (F 124)) hx hb hown hq hE hP 124 775 tFX12_124 (by decide) pw_2015 rfl dX12_count_167 ?_
          have hP : va_P G.1 pCl (mW G h0 a (upd F 0 0) B) _ := hP
          have hD : va_D A (mW G h0 a (upd F 0 0) B) := hD
          exact W.iret (v := (F 124)) hx hb hr (fun t9 ht9 hW9 => ⟨⟨_, (F 124), rfl, rfl, by rw [ht9]; exact hP, hD⟩, hS.F ht9⟩) hS.2.2 dX12_count_170
        · refine lv_iconst (v := 0) hx hb dX12_count_93 (by decide) ?_
          have hP : va_P G.1 pCl (mW G h0 a (upd F 0 0) B) _ := hP
          have hD : va_D A (mW G h0 a (upd F 0 0) B) := hD
          exact W.iret (v := 0) hx hb hr (fun t9 ht9 hW9 => ⟨⟨_, (0 : Int32), rfl, rfl, by rw [ht9]; exact hP, hD⟩, hS.F ht9⟩) hS.2.2 dX12_count_94
      · refine lv_aload_n hx hb dX12_count_46 rfl (lv_at hl 0 rfl) ?_
        refine r_get (v := .int (F 82)) hx hb hown hq hE hP 82 649 tFX12_82 (by decide) pw_1922 rfl dX12_count_47 ?_
        refine lv_if_ne (tgt := 57) hx hb dX12_count_50 (by decide) (fun c13 => ?_) (fun c13 => ?_)
        · refine lv_iload_n hx hb dX12_count_57 rfl (lv_at hl 1 rfl) ?_
          refine lv_iconst (v := 2) hx hb dX12_count_58 (by decide) ?_
          refine lv_icmp_ne (tgt := 69) hx hb dX12_count_59 (by decide) (fun c14 => ?_) (fun c14 => ?_)
          · refine lv_iload_n hx hb dX12_count_69 rfl (lv_at hl 1 rfl) ?_
            refine lv_iconst (v := 3) hx hb dX12_count_70 (by decide) ?_
            refine lv_icmp_ne (tgt := 81) hx hb dX12_count_71 (by decide) (fun c15 => ?_) (fun c15 => ?_)
            · refine lv_aload_n hx hb dX12_count_81 rfl (lv_at hl 0 rfl) ?_
              refine r_get (v := .int (F 59)) hx hb hown hq hE hP 59 422 tFX12_59 (by decide) pw_1724 rfl dX12_count_82 ?_
              have hP : va_P G.1 pCl (mW G h0 a (upd F 0 0) B) _ := hP
              have hD : va_D A (mW G h0 a (upd F 0 0) B) := hD
              exact W.iret (v := (F 59)) hx hb hr (fun t9 ht9 hW9 => ⟨⟨_, (F 59), rfl, rfl, by rw [ht9]; exact hP, hD⟩, hS.F ht9⟩) hS.2.2 dX12_count_85
            · refine lv_aload_n hx hb dX12_count_74 rfl (lv_at hl 0 rfl) ?_
              refine r_get (v := .int (F 35)) hx hb hown hq hE hP 35 384 tFX12_35 (by decide) pw_1732 rfl dX12_count_75 ?_
              refine lv_goto (tgt := 85) hx hb dX12_count_78 (by decide) ?_
              have hP : va_P G.1 pCl (mW G h0 a (upd F 0 0) B) _ := hP
              have hD : va_D A (mW G h0 a (upd F 0 0) B) := hD
              exact W.iret (v := (F 35)) hx hb hr (fun t9 ht9 hW9 => ⟨⟨_, (F 35), rfl, rfl, by rw [ht9]; exact hP, hD⟩, hS.F ht9⟩) hS.2.2 dX12_count_85
          · refine lv_aload_n hx hb dX12_count_62 rfl (lv_at hl 0 rfl) ?_
            refine r_get (v := .int (F 9)) hx hb hown hq hE hP 9 314 tFX12_9 (by decide) pw_1568 rfl dX12_count_63 ?_
            refine lv_goto (tgt := 85) hx hb dX12_count_66 (by decide) ?_
            have hP : va_P G.1 pCl (mW G h0 a (upd F 0 0) B) _ := hP
            have hD : va_D A (mW G h0 a (upd F 0 0) B) := hD
            exact W.iret (v := (F 9)) hx hb hr (fun t9 ht9 hW9 => ⟨⟨_, (F 9), rfl, rfl, by rw [ht9]; exact hP, hD⟩, hS.F ht9⟩) hS.2.2 dX12_count_85
        · refine lv_iconst (v := 0) hx hb dX12_count_53 (by decide) ?_
          refine lv_goto (tgt := 85) hx hb dX12_count_54 (by decide) ?_
          have hP : va_P G.1 pCl (mW G h0 a (upd F 0 0) B) _ := hP
          have hD : va_D A (mW G h0 a (upd F 0 0) B) := hD
          exact W.iret (v := 0) hx hb hr (fun t9 ht9 hW9 => ⟨⟨_, (0 : Int32), rfl, rfl, by rw [ht9]; exact hP, hD⟩, hS.F ht9⟩) hS.2.2 dX12_count_85
    · refine lv_iload_n hx hb dX12_count_16 rfl (lv_at hl 1 rfl) ?_
      refine lv_if_ne (tgt := 27) hx hb dX12_count_17 (by decide) (fun c16 => ?_) (fun c16 => ?_)
      · refine lv_iload_n hx hb dX12_count_27 rfl (lv_at hl 1 rfl) ?_
        refine lv_iconst (v := 1) hx hb dX12_count_28 (by decide) ?_
        refine lv_icmp_ne (tgt := 39) hx hb dX12_count_29 (by decide) (fun c17 => ?_) (fun c17 => ?_)
        · refine lv_iconst (v := (-1)) hx hb dX12_count_39 (by decide) ?_
          have hP : va_P G.1 pCl (mW G h0 a (upd F 0 0) B) _ := hP
          have hD : va_D A (mW G h0 a (upd F 0 0) B) := hD
          exact W.iret (v := (-1)) hx hb hr (fun t9 ht9 hW9 => ⟨⟨_, ((-1) : Int32), rfl, rfl, by rw [ht9]; exact hP, hD⟩, hS.F ht9⟩) hS.2.2 dX12_count_40
        · refine lv_aload_n hx hb dX12_count_32 rfl (lv_at hl 0 rfl) ?_
          refine r_get (v := .int (F 85)) hx hb hown hq hE hP 85 689 tFX12_85 (by decide) pw_1961 rfl dX12_count_33 ?_
          refine lv_goto (tgt := 40) hx hb dX12_count_36 (by decide) ?_
          have hP : va_P G.1 pCl (mW G h0 a (upd F 0 0) B) _ := hP
          have hD : va_D A (mW G h0 a (upd F 0 0) B) := hD
          exact W.iret (v := (F 85)) hx hb hr (fun t9 ht9 hW9 => ⟨⟨_, (F 85), rfl, rfl, by rw [ht9]; exact hP, hD⟩, hS.F ht9⟩) hS.2.2 dX12_count_40
      · refine lv_aload_n hx hb dX12_count_20 rfl (lv_at hl 0 rfl) ?_
        refine r_get (v := .int (F 2)) hx hb hown hq hE hP 2 255 tFX12_2 (by decide) pw_1516 rfl dX12_count_21 ?_
        refine lv_goto (tgt := 40) hx hb dX12_count_24 (by decide) ?_
        have hP : va_P G.1 pCl (mW G h0 a (upd F 0 0) B) _ := hP
        have hD : va_D A (mW G h0 a (upd F 0 0) B) := hD
        exact W.iret (v := (F 2)) hx hb hr (fun t9 ht9 hW9 => ⟨⟨_, (F 2), rfl, rfl, by rw [ht9]; exact hP, hD⟩, hS.F ht9⟩) hS.2.2 dX12_count_40
theorem dX12_refusals_0 : decode cX12_refusals 0 = .ok (.aload_n 0, 1) := by decide +kernel
theorem dX12_refusals_1 : decode cX12_refusals 1 = .ok (.iconst 0, 1) := by decide +kernel
theorem dX12_refusals_2 : decode cX12_refusals 2 = .ok (.putfield 252, 3) := by decide +kernel
theorem dX12_refusals_5 : decode cX12_refusals 5 = .ok (.iconst 0, 1) := by decide +kernel
theorem dX12_refusals_6 : decode cX12_refusals 6 = .ok (.ireturn, 1) := by decide +kernel
set_option maxHeartbeats 2000000 in
set_option maxRecDepth 100000 in
/-- refusals() -/
theorem R_refusals (l : Launch) (G : pT) (h0 : Nat) (a : Nat → Nat) (F : Nat → Int32) (B : Nat → Nat → Int32) : PM l G pX0 yX12_refusals cX12_refusals 1 (some .int) ({ frames := 2, cells := 0, slots := 0, locals := 60 }) [.ref h0] (mW G h0 a F B) (fun (v : Option Value) (u : Unit) => v = some (.int 0)) (fun u => (mW G h0 a (upd F 0 0) B)) := by
  intro sz
  refine Met.ofW (cc := cX12_refusals) (maxL := 1) (ret := (some .int)) (by decide) rfl ?_
  intro p e s m args below meth c s₁ B9 hml hv
  obtain ⟨rfl, hsz, hP, hD0, hE, hX⟩ := hv
  have hx := B9.exec
  have hb := B9.bytes
  have hr := B9.returns
  have hts := atoms_spec (ws := Cond.code yX12_refusals cX12_refusals 1 (some .int) :: pw) B9.pre
  have hq : ∀ w ∈ pw, w.before _ s = true := fun w h => hts w (List.mem_cons_of_mem _ h)
  have hown : s.vm.findClass RX12 = some m.cls := findClass_of_methodNamed B9.named
  have hlocks := B9.notSynchronized
  subst hsz
  have hD := hD0.self (sz := s.heap.size)
  have hA : ∀ q : Nat, s.heap.size ≤ q → va_A (mW G h0 a F B) s.heap.size q := fun q h => Or.inr h
  have hP : va_P G.1 pCl (mW G h0 a F B) s.heap := hP
  generalize va_A (mW G h0 a F B) s.heap.size = A at hD hE hA ⊢
  have hS : va_S A s.heap s.heap [] := va_S.rf
  have hl := lv_entry ([.ref h0]) (n := 1) (Nat.le_of_ble_eq_true rfl)
  rw [lg_entry_eq]
  generalize (lg_sl ([.ref h0]) ++ List.replicate (1 - (lg_sl ([.ref h0])).length) Slot.unset).toArray = ls at hl ⊢
  have hl : lv_has ls 1 [(0, .ref h0)] := hl
  refine lv_aload_n hx hb dX12_refusals_0 rfl (lv_at hl 0 rfl) ?_
  refine lv_iconst (v := 0) hx hb dX12_refusals_1 (by decide) ?_
  refine r_put (v := 0) (ty := .int) hx hb hown hq hE hP hD hS 0 252 tFX12_0 (by decide) pw_1515 (by decide) rfl rfl (ms_0 a _ _) dX12_refusals_2 (fun H locs hP hD hS => ?_)
  refine lv_iconst (v := 0) hx hb dX12_refusals_5 (by decide) ?_
  have hP : va_P G.1 pCl (mW G h0 a (upd F 0 0) B) _ := hP
  have hD : va_D A (mW G h0 a (upd F 0 0) B) := hD
  exact W.iret (v := 0) hx hb hr (fun t9 ht9 hW9 => ⟨⟨_, (), rfl, rfl, by rw [ht9]; exact hP, hD⟩, hS.F ht9⟩) hS.2.2 dX12_refusals_6
theorem dX12_run_39 : decode cX12_run 39 = .ok (.iconst 1, 1) := by decide +kernel
theorem dX12_run_50 : decode cX12_run 50 = .ok (.iconst 0, 1) := by decide +kernel
theorem dX12_run_51 : decode cX12_run 51 = .ok (.ireturn, 1) := by decide +kernel
theorem dX12_run_35 : decode cX12_run 35 = .ok (.iconst 2, 1) := by decide +kernel
theorem dX12_run_36 : decode cX12_run 36 = .ok (.goto 4, 3) := by decide +kernel
set_option maxHeartbeats 2000000 in
set_option maxRecDepth 100000 in
/-- run(f, c), refused -/
theorem R_run0 (l : Launch) (G : pT) (h0 : Nat) (a : Nat → Nat) (F : Nat → Int32) (B : Nat → Nat → Int32) (f9 : Int32) (c9 : Int32) (hp : Int32) (hz9 : isin f9 0 20000 = 0 ∨ isin c9 10 3000 = 0 ∨ hp = 0) : PM l G pX0 yX12_run cX12_run 5 (some .int) ({ frames := 3, cells := 0, slots := 0, locals := 82 }) [.ref h0, .int f9, .int c9] (mW G h0 a (upd F 82 hp) B) (fun (v : Option Value) (u : Int32) => v = some (.int 0)) (fun u => (mW G h0 a (upd (upd F 0 u) 82 hp) B)) := by
  intro sz
  refine Met.ofW (cc := cX12_run) (maxL := 5) (ret := (some .int)) (by decide) rfl ?_
  intro p e s m args below meth c s₁ B9 hml hv
  obtain ⟨rfl, hsz, hP, hD0, hE, hX⟩ := hv
  have hx := B9.exec
  have hb := B9.bytes
  have hr := B9.returns
  have hts := atoms_spec (ws := Cond.code yX12_run cX12_run 5 (some .int) :: pw) B9.pre
  have hq : ∀ w ∈ pw, w.before _ s = true := fun w h => hts w (List.mem_cons_of_mem _ h)
  have hown : s.vm.findClass RX12 = some m.cls := findClass_of_methodNamed B9.named
  have hlocks := B9.notSynchronized
  subst hsz
  have hD := hD0.self (sz := s.heap.size)
  have hA : ∀ q : Nat, s.heap.size ≤ q → va_A (mW G h0 a (upd F 82 hp) B) s.heap.size q := fun q h => Or.inr h
  have hP : va_P G.1 pCl (mW G h0 a (upd F 82 hp) B) s.heap := hP
  generalize va_A (mW G h0 a (upd F 82 hp) B) s.heap.size = A at hD hE hA ⊢
  have hS : va_S A s.heap s.heap [] := va_S.rf
  have hl := lv_entry ([.ref h0, .int f9, .int c9]) (n := 5) (Nat.le_of_ble_eq_true rfl)
  rw [lg_entry_eq]
  generalize (lg_sl ([.ref h0, .int f9, .int c9]) ++ List.replicate (5 - (lg_sl ([.ref h0, .int f9, .int c9])).length) Slot.unset).toArray = ls at hl ⊢
  have hl : lv_has ls 5 [(0, .ref h0), (1, .int f9), (2, .int c9)] := hl
  refine lv_aload_n hx hb dX12_run_0 rfl (lv_at hl 0 rfl) ?_
  refine lv_iload_n hx hb dX12_run_1 rfl (lv_at hl 1 rfl) ?_
  refine lv_iconst (v := 0) hx hb dX12_run_2 (by decide) ?_
  refine lv_sipush (v := 20000) hx hb dX12_run_3 (by decide) ?_
  refine pc_SN (G := G) (As := [.int f9, .int 0, .int 20000]) (rest := [.ref h0]) hx hb hml hown hq hE hX pX0_al hP hS hA hl.1 (s_in l G f9 0 20000) (gS pw_1521 pw_1522 pw_1523 pw_1513) hS_X12_in rfl (Nat.le_of_ble_eq_true rfl) dX12_run_6 ⟨Nat.le_of_ble_eq_true rfl, Nat.le_of_ble_eq_true rfl⟩ ⟨Nat.le_of_ble_eq_true rfl, Nat.le_of_ble_eq_true rfl⟩ (fun v3 u1 H locs hw2 hP hS => ?_)
  obtain rfl : v3 = some (.int (isin f9 0 20000)) := hw2
  refine W.widen (k := 0) (n := 0) (Nat.le_of_ble_eq_true rfl) (Nat.le_of_ble_eq_true rfl) ?_
  refine W.eq (g2 := F0 m 9 ls [.int (isin f9 0 20000), .ref h0]) rfl ?_
  refine lv_if_eq (tgt := 39) hx hb dX12_run_9 (by decide) (fun c4 => ?_) (fun c4 => ?_)
  · refine lv_iconst (v := 1) hx hb dX12_run_39 (by decide) ?_
    refine r_put (v := 1) (ty := .int) hx hb hown hq hE hP hD hS 0 252 tFX12_0 (by decide) pw_1515 (by decide) rfl rfl (ms_0 a _ _) dX12_run_40 (fun H locs hP hD hS => ?_)
    refine lv_aload_n hx hb dX12_run_43 rfl (lv_at hl 0 rfl) ?_
    refine r_get (v := .int 1) hx hb hown hq hE hP 0 252 tFX12_0 (by decide) pw_1515 rfl dX12_run_44 ?_
    refine lv_if_le (tgt := 52) hx hb dX12_run_47 (by decide) (fun c5 => absurd c5 (by decide)) (fun c5 => ?_)
    refine lv_iconst (v := 0) hx hb dX12_run_50 (by decide) ?_
    have hP : va_P G.1 pCl (mW G h0 a (upd (upd F 0 (1 : Int32)) 82 hp) B) _ := hP
    have hD : va_D A (mW G h0 a (upd (upd F 0 (1 : Int32)) 82 hp) B) := hD
    exact W.iret (v := 0) hx hb hr (fun t9 ht9 hW9 => ⟨⟨_, (1 : Int32), rfl, rfl, by rw [ht9]; exact hP, hD⟩, hS.F ht9⟩) hS.2.2 dX12_run_51
  · refine lv_iload_n hx hb dX12_run_12 rfl (lv_at hl 2 rfl) ?_
    refine lv_bipush (v := 10) hx hb dX12_run_13 (by decide) ?_
    refine lv_sipush (v := 3000) hx hb dX12_run_15 (by decide) ?_
    refine pc_SN (G := G) (As := [.int c9, .int 10, .int 3000]) (rest := [.ref h0]) hx hb hml hown hq hE hX pX0_al hP hS hA hl.1 (s_in l G c9 10 3000) (gS pw_1521 pw_1522 pw_1523 pw_1513) hS_X12_in rfl (Nat.le_of_ble_eq_true rfl) dX12_run_18 ⟨Nat.le_of_ble_eq_true rfl, Nat.le_of_ble_eq_true rfl⟩ ⟨Nat.le_of_ble_eq_true rfl, Nat.le_of_ble_eq_true rfl⟩ (fun v8 u6 H locs hw7 hP hS => ?_)
    obtain rfl : v8 = some (.int (isin c9 10 3000)) := hw7
    refine W.widen (k := 0) (n := 0) (Nat.le_of_ble_eq_true rfl) (Nat.le_of_ble_eq_true rfl) ?_
    refine W.eq (g2 := F0 m 21 ls [.int (isin c9 10 3000), .ref h0]) rfl ?_
    refine lv_if_eq (tgt := 39) hx hb dX12_run_21 (by decide) (fun c10 => ?_) (fun c10 => ?_)
    · refine lv_iconst (v := 1) hx hb dX12_run_39 (by decide) ?_
      refine r_put (v := 1) (ty := .int) hx hb hown hq hE hP hD hS 0 252 tFX12_0 (by decide) pw_1515 (by decide) rfl rfl (ms_0 a _ _) dX12_run_40 (fun H locs hP hD hS => ?_)
      refine lv_aload_n hx hb dX12_run_43 rfl (lv_at hl 0 rfl) ?_
      refine r_get (v := .int 1) hx hb hown hq hE hP 0 252 tFX12_0 (by decide) pw_1515 rfl dX12_run_44 ?_
      refine lv_if_le (tgt := 52) hx hb dX12_run_47 (by decide) (fun c11 => absurd c11 (by decide)) (fun c11 => ?_)
      refine lv_iconst (v := 0) hx hb dX12_run_50 (by decide) ?_
      have hP : va_P G.1 pCl (mW G h0 a (upd (upd F 0 (1 : Int32)) 82 hp) B) _ := hP
      have hD : va_D A (mW G h0 a (upd (upd F 0 (1 : Int32)) 82 hp) B) := hD
      exact W.iret (v := 0) hx hb hr (fun t9 ht9 hW9 => ⟨⟨_, (1 : Int32), rfl, rfl, by rw [ht9]; exact hP, hD⟩, hS.F ht9⟩) hS.2.2 dX12_run_51
    · refine lv_aload_n hx hb dX12_run_24 rfl (lv_at hl 0 rfl) ?_
      refine r_get (v := .int hp) hx hb hown hq hE hP 82 649 tFX12_82 (by decide) pw_1922 rfl dX12_run_25 ?_
      refine lv_if_eq (tgt := 35) hx hb dX12_run_28 (by decide) (fun c12 => ?_) (fun c12 => (absurd hz9 (fun z => z.elim c4 (fun z => z.elim c10 c12))))
      refine lv_iconst (v := 2) hx hb dX12_run_35 (by decide) ?_
      refine lv_goto (tgt := 40) hx hb dX12_run_36 (by decide) ?_
      refine r_put (v := 2) (ty := .int) hx hb hown hq hE hP hD hS 0 252 tFX12_0 (by decide) pw_1515 (by decide) rfl rfl (ms_0 a _ _) dX12_run_40 (fun H locs hP hD hS => ?_)
      refine lv_aload_n hx hb dX12_run_43 rfl (lv_at hl 0 rfl) ?_
      refine r_get (v := .int 2) hx hb hown hq hE hP 0 252 tFX12_0 (by decide) pw_1515 rfl dX12_run_44 ?_
      refine lv_if_le (tgt := 52) hx hb dX12_run_47 (by decide) (fun c13 => absurd c13 (by decide)) (fun c13 => ?_)
      refine lv_iconst (v := 0) hx hb dX12_run_50 (by decide) ?_
      have hP : va_P G.1 pCl (mW G h0 a (upd (upd F 0 (2 : Int32)) 82 hp) B) _ := hP
      have hD : va_D A (mW G h0 a (upd (upd F 0 (2 : Int32)) 82 hp) B) := hD
      exact W.iret (v := 0) hx hb hr (fun t9 ht9 hW9 => ⟨⟨_, (2 : Int32), rfl, rfl, by rw [ht9]; exact hP, hD⟩, hS.F ht9⟩) hS.2.2 dX12_run_51
