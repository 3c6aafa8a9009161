/-! the reference's heap: what is reached -/
def Lvd (od : Nat → Int32) (on o : Nat) : Prop := ∃ k : Nat, k < on ∧ od k = nI o
/-- none, a thing that there is, or one of the six that are thrown by the rules -/
def RfV (od : Nat → Int32) (on : Nat) (v : Int32) : Prop := ∃ x : Nat, v = nI x ∧ (x = 0 ∨ (1 ≤ x ∧ x ≤ 3000 ∧ Lvd od on (x - 1)) ∨ (4001 ≤ x ∧ x ≤ 4006))
/-- it is seen, if it is a thing -/
def RfS (sn : Nat → Int32) (v : Int32) : Prop := ∀ x : Nat, v = nI x → 1 ≤ x → x ≤ 3000 → ¬ sn (x - 1) = 0
/-- v is a reference that thing o holds -/
def Chd (oc os om oa cl rf rm rp : Nat → Int32) (o : Nat) (v : Int32) : Prop := (oc o = -1 ∧ ∃ so q p i : Nat, os o = nI so ∧ 3 ≤ so ∧ so ≤ 5000 ∧ om o = nI q ∧ oa o = nI p ∧ i < q ∧ q ≤ 3100 ∧ p ≤ 3100 ∧ v = cl (p + i)) ∨ ∃ k n u p i w : Nat, oc o = nI k ∧ k < 40 ∧ rm k = nI n ∧ rf k = nI u ∧ oa o = nI p ∧ i < n ∧ n ≤ 30000 ∧ u ≤ 30000 ∧ p ≤ 3100 ∧ rp (u + i) = nI w ∧ w ≤ 3100 ∧ v = cl (p + w)
/-- what the marking may rely on, thing by thing -/
def ObR (od : Nat → Int32) (on : Nat) (oc os om oa cl rf rm rp : Nat → Int32) (o : Nat) : Prop := (oc o = -1 ∧ ∃ so q p : Nat, os o = nI so ∧ so ≤ 5000 ∧ om o = nI q ∧ oa o = nI p ∧ p + q ≤ 3100 ∧ (3 ≤ so → ∀ i : Nat, i < q → RfV od on (cl (p + i)))) ∨ ∃ k n u p : Nat, oc o = nI k ∧ k < 40 ∧ rm k = nI n ∧ rf k = nI u ∧ u + n ≤ 23000 ∧ oa o = nI p ∧ p ≤ 3100 ∧ ∀ i : Nat, i < n → ∃ w : Nat, rp (u + i) = nI w ∧ p + w < 3100 ∧ RfV od on (cl (p + w))
section HP
variable {od sn sn1 td td1 : Nat → Int32} {on tn tn1 o x o0 : Nat} {v : Int32} {P : Nat → Int32 → Prop}
theorem RfV.see (h : RfV od on (nI x)) (hx : x < 2 ^ 31) : x ≤ 3000 ∨ (4001 ≤ x ∧ x ≤ 4006) := by
  obtain ⟨y, e, h⟩ := h
  by_cases q : y < 2 ^ 31
  · have : x = y := (nI_eq hx q).mp e
    omega
  · omega
/-- the marking: each thing seen waits in the list, or all that it holds is seen, or it is o0 -/
def Mrk (od sn td : Nat → Int32) (on tn o0 : Nat) (P : Nat → Int32 → Prop) : Prop := (∀ o : Nat, o < 3000 → Lvd od on o → ¬ sn o = 0 → (∃ k : Nat, k < tn ∧ td k = nI o) ∨ (∀ v : Int32, P o v → RfS sn v) ∨ o = o0) ∧ ∀ k : Nat, k < tn → ∃ o : Nat, td k = nI o ∧ o < 3000 ∧ Lvd od on o ∧ ¬ sn o = 0
def SnM (sn sn1 : Nat → Int32) : Prop := ∀ o : Nat, ¬ sn o = 0 → ¬ sn1 o = 0
theorem SnM.rfl : SnM sn sn := fun _ h => h
theorem SnM.trans {sn2 : Nat → Int32} (h : SnM sn sn1) (g : SnM sn1 sn2) : SnM sn sn2 := fun o q => g o (h o q)
theorem RfS.mono (h : RfS sn v) (g : SnM sn sn1) : RfS sn1 v := fun x e h1 h2 => g _ (h x e h1 h2)
theorem Mrk.see (h : Mrk od sn td on tn o0 P) (hv : RfV od on (nI x)) (hx : x ≤ 3000 ∨ (4001 ≤ x ∧ x ≤ 4006)) (q : (sn1 = sn ∧ td1 = td ∧ tn1 = tn ∧ (x = 0 ∨ 4001 ≤ x ∨ ¬ sn (x - 1) = 0)) ∨ (1 ≤ x ∧ x ≤ 3000 ∧ sn (x - 1) = 0 ∧ sn1 = upd sn (x - 1) 1 ∧ td1 = upd td tn (nI (x - 1)) ∧ tn1 = tn + 1)) : Mrk od sn1 td1 on tn1 o0 P ∧ SnM sn sn1 ∧ RfS sn1 (nI x) := by
  rcases q with ⟨e1, e2, e3, e4⟩ | ⟨q1, q2, q3, e1, e2, e3⟩
  · subst e1; subst e2; subst e3
    refine ⟨h, SnM.rfl, fun y e h1 h2 => ?_⟩
    have : x = y := (nI_eq (by omega) (by omega)).mp e
    subst this
    rcases e4 with z | z | z
    · omega
    · omega
    · exact z
  · subst e1; subst e2; subst e3
    have mono : SnM sn (upd sn (x - 1) 1) := fun o z w => z (by
      by_cases e : o = x - 1
      · rw [e]; exact q3
      · rw [show upd sn (x - 1) 1 o = sn o from if_neg e] at w; exact w)
    obtain ⟨y, e, hy⟩ := hv
    have lv : Lvd od on (x - 1) := by
      rcases hy with z | z | z
      · rw [z] at e; have := (nI_eq (by omega) (by omega)).mp e; omega
      · have : x = y := (nI_eq (by omega) (by omega)).mp e
        subst this; exact z.2.2
      · have : x = y := (nI_eq (by omega) (by omega)).mp e; omega
    refine ⟨⟨fun o ho lo so => ?_, fun k hk => ?_⟩, mono, fun z w h1 h2 => ?_⟩
    · by_cases e : o = x - 1
      · subst e; exact Or.inl ⟨tn, by omega, if_pos rfl⟩
      · rw [show upd sn (x - 1) 1 o = sn o from if_neg e] at so
        rcases h.1 o ho lo so with ⟨k, k1, k2⟩ | z | z
        · exact Or.inl ⟨k, by omega, by rw [show upd td tn (nI (x - 1)) k = td k from if_neg (by omega)]; exact k2⟩
        · exact Or.inr (Or.inl (fun v p => (z v p).mono mono))
        · exact Or.inr (Or.inr z)
    · by_cases e : k = tn
      · exact ⟨x - 1, by rw [e]; exact if_pos rfl, by omega, lv, by rw [show upd sn (x - 1) 1 (x - 1) = 1 from if_pos rfl]; decide⟩
      · obtain ⟨o, z1, z2, z3, z4⟩ := h.2 k (by omega)
        exact ⟨o, by rw [show upd td tn (nI (x - 1)) k = td k from if_neg e]; exact z1, z2, z3, mono o z4⟩
    · have : x = z := (nI_eq (by omega) (by omega)).mp w
      subst this
      rw [show upd sn (x - 1) 1 (x - 1) = 1 from if_pos rfl]; decide
theorem Mrk.pop (h : Mrk od sn td on (tn + 1) 3000 P) (e : td tn = nI o) (ho : o < 3000) : Mrk od sn td on tn o P := ⟨fun b hb lb sb => by
    rcases h.1 b hb lb sb with ⟨k, k1, k2⟩ | z | z
    · by_cases q : k = tn
      · rw [q, e] at k2
        exact Or.inr (Or.inr ((nI_eq (by omega) (by omega)).mp k2).symm)
      · exact Or.inl ⟨k, by omega, k2⟩
    · exact Or.inr (Or.inl z)
    · omega, fun k hk => h.2 k (by omega)⟩
theorem Mrk.done (h : Mrk od sn td on tn o P) (g : ∀ v : Int32, P o v → RfS sn v) : Mrk od sn td on tn 3000 P := ⟨fun b hb lb sb => by
    rcases h.1 b hb lb sb with z | z | z
    · exact Or.inl z
    · exact Or.inr (Or.inl z)
    · rw [z]; exact Or.inr (Or.inl g), h.2⟩
end HP
theorem RfV.nat {od : Nat → Int32} {on : Nat} {v : Int32} (h : RfV od on v) : ∃ x : Nat, v = nI x ∧ (x ≤ 3000 ∨ (4001 ≤ x ∧ x ≤ 4006)) ∧ RfV od on (nI x) := by
  obtain ⟨x, e, h⟩ := h
  exact ⟨x, e, by omega, x, rfl, h⟩
theorem Mrk.nil {od sn td : Nat → Int32} {on : Nat} {P : Nat → Int32 → Prop} (h : ∀ o : Nat, o < 3000 → Lvd od on o → sn o = 0) : Mrk od sn td on 0 3000 P := ⟨fun o ho lo so => absurd (h o ho lo) so, fun k hk => absurd hk (by omega)⟩
def msr (sn : Nat → Int32) (tn : Nat) : Nat := tn + 2 * (3000 - cntS sn 3000)
theorem see_msr {sn sn1 td td1 : Nat → Int32} {tn tn1 x : Nat} (q : (sn1 = sn ∧ td1 = td ∧ tn1 = tn ∧ (x = 0 ∨ 4001 ≤ x ∨ ¬ sn (x - 1) = 0)) ∨ (1 ≤ x ∧ x ≤ 3000 ∧ sn (x - 1) = 0 ∧ sn1 = upd sn (x - 1) 1 ∧ td1 = upd td tn (nI (x - 1)) ∧ tn1 = tn + 1)) : msr sn1 tn1 ≤ msr sn tn := by
  rcases q with ⟨e1, e2, e3, _⟩ | ⟨q1, q2, q3, e1, e2, e3⟩
  · rw [e1, e3]; exact Nat.le_refl _
  · have h := cntS_upd q3 3000
    have l := cntS_lt q3 3000 (by omega)
    unfold msr
    rw [e1, e3, h, if_pos (by omega)]
    omega
theorem dX12_findReachable_0 : decode cX12_findReachable 0 = .ok (.iconst 0, 1) := by decide +kernel
theorem dX12_findReachable_1 : decode cX12_findReachable 1 = .ok (.istore_n 1, 1) := by decide +kernel
theorem dX12_findReachable_2 : decode cX12_findReachable 2 = .ok (.iload_n 1, 1) := by decide +kernel
theorem dX12_findReachable_3 : decode cX12_findReachable 3 = .ok (.aload_n 0, 1) := by decide +kernel
theorem dX12_findReachable_4 : decode cX12_findReachable 4 = .ok (.getfield 704, 3) := by decide +kernel
theorem dX12_findReachable_7 : decode cX12_findReachable 7 = .ok (.if_icmp .ge 21, 3) := by decide +kernel
theorem dX12_findReachable_28 : decode cX12_findReachable 28 = .ok (.aload_n 0, 1) := by decide +kernel
theorem dX12_findReachable_29 : decode cX12_findReachable 29 = .ok (.iconst 0, 1) := by decide +kernel
theorem dX12_findReachable_30 : decode cX12_findReachable 30 = .ok (.putfield 701, 3) := by decide +kernel
theorem dX12_findReachable_33 : decode cX12_findReachable 33 = .ok (.iconst 0, 1) := by decide +kernel
theorem dX12_findReachable_34 : decode cX12_findReachable 34 = .ok (.istore_n 1, 1) := by decide +kernel
theorem dX12_findReachable_35 : decode cX12_findReachable 35 = .ok (.iload_n 1, 1) := by decide +kernel
theorem dX12_findReachable_36 : decode cX12_findReachable 36 = .ok (.aload_n 0, 1) := by decide +kernel
theorem dX12_findReachable_37 : decode cX12_findReachable 37 = .ok (.getfield 707, 3) := by decide +kernel
theorem dX12_findReachable_40 : decode cX12_findReachable 40 = .ok (.if_icmp .ge 66, 3) := by decide +kernel
theorem dX12_findReachable_106 : decode cX12_findReachable 106 = .ok (.iconst 0, 1) := by decide +kernel
theorem dX12_findReachable_107 : decode cX12_findReachable 107 = .ok (.istore_n 1, 1) := by decide +kernel
theorem dX12_findReachable_108 : decode cX12_findReachable 108 = .ok (.iload_n 1, 1) := by decide +kernel
theorem dX12_findReachable_109 : decode cX12_findReachable 109 = .ok (.aload_n 0, 1) := by decide +kernel
theorem dX12_findReachable_110 : decode cX12_findReachable 110 = .ok (.getfield 698, 3) := by decide +kernel
theorem dX12_findReachable_113 : decode cX12_findReachable 113 = .ok (.if_icmp .ge 28, 3) := by decide +kernel
theorem dX12_findReachable_141 : decode cX12_findReachable 141 = .ok (.iconst 0, 1) := by decide +kernel
theorem dX12_findReachable_142 : decode cX12_findReachable 142 = .ok (.istore_n 1, 1) := by decide +kernel
theorem dX12_findReachable_143 : decode cX12_findReachable 143 = .ok (.iload_n 1, 1) := by decide +kernel
theorem dX12_findReachable_144 : decode cX12_findReachable 144 = .ok (.aload_n 0, 1) := by decide +kernel
theorem dX12_findReachable_145 : decode cX12_findReachable 145 = .ok (.getfield 713, 3) := by decide +kernel
theorem dX12_findReachable_148 : decode cX12_findReachable 148 = .ok (.if_icmp .ge 28, 3) := by decide +kernel
theorem dX12_findReachable_176 : decode cX12_findReachable 176 = .ok (.aload_n 0, 1) := by decide +kernel
theorem dX12_findReachable_177 : decode cX12_findReachable 177 = .ok (.getfield 701, 3) := by decide +kernel
theorem dX12_findReachable_180 : decode cX12_findReachable 180 = .ok (.ifCond .le 144, 3) := by decide +kernel
theorem dX12_findReachable_324 : decode cX12_findReachable 324 = .ok (.return_, 1) := by decide +kernel
theorem dX12_findReachable_183 : decode cX12_findReachable 183 = .ok (.aload_n 0, 1) := by decide +kernel
theorem dX12_findReachable_184 : decode cX12_findReachable 184 = .ok (.dup, 1) := by decide +kernel
theorem dX12_findReachable_185 : decode cX12_findReachable 185 = .ok (.getfield 701, 3) := by decide +kernel
theorem dX12_findReachable_188 : decode cX12_findReachable 188 = .ok (.iconst 1, 1) := by decide +kernel
theorem dX12_findReachable_189 : decode cX12_findReachable 189 = .ok (.isub, 1) := by decide +kernel
theorem dX12_findReachable_190 : decode cX12_findReachable 190 = .ok (.putfield 701, 3) := by decide +kernel
theorem dX12_findReachable_193 : decode cX12_findReachable 193 = .ok (.aload_n 0, 1) := by decide +kernel
theorem dX12_findReachable_194 : decode cX12_findReachable 194 = .ok (.getfield 196, 3) := by decide +kernel
theorem dX12_findReachable_197 : decode cX12_findReachable 197 = .ok (.aload_n 0, 1) := by decide +kernel
theorem dX12_findReachable_198 : decode cX12_findReachable 198 = .ok (.getfield 701, 3) := by decide +kernel
theorem dX12_findReachable_201 : decode cX12_findReachable 201 = .ok (.iaload, 1) := by decide +kernel
theorem dX12_findReachable_202 : decode cX12_findReachable 202 = .ok (.istore_n 1, 1) := by decide +kernel
theorem dX12_findReachable_203 : decode cX12_findReachable 203 = .ok (.aload_n 0, 1) := by decide +kernel
theorem dX12_findReachable_204 : decode cX12_findReachable 204 = .ok (.getfield 178, 3) := by decide +kernel
theorem dX12_findReachable_207 : decode cX12_findReachable 207 = .ok (.iload_n 1, 1) := by decide +kernel
theorem dX12_findReachable_208 : decode cX12_findReachable 208 = .ok (.iaload, 1) := by decide +kernel
theorem dX12_findReachable_209 : decode cX12_findReachable 209 = .ok (.iconst (-1), 1) := by decide +kernel
theorem dX12_findReachable_210 : decode cX12_findReachable 210 = .ok (.if_icmp .ne 54, 3) := by decide +kernel
theorem dX12_findReachable_213 : decode cX12_findReachable 213 = .ok (.iconst 0, 1) := by decide +kernel
theorem dX12_findReachable_214 : decode cX12_findReachable 214 = .ok (.istore_n 2, 1) := by decide +kernel
theorem dX12_findReachable_215 : decode cX12_findReachable 215 = .ok (.iload_n 2, 1) := by decide +kernel
theorem dX12_findReachable_216 : decode cX12_findReachable 216 = .ok (.aload_n 0, 1) := by decide +kernel
theorem dX12_findReachable_217 : decode cX12_findReachable 217 = .ok (.getfield 184, 3) := by decide +kernel
theorem dX12_findReachable_220 : decode cX12_findReachable 220 = .ok (.iload_n 1, 1) := by decide +kernel
theorem dX12_findReachable_221 : decode cX12_findReachable 221 = .ok (.iaload, 1) := by decide +kernel
theorem dX12_findReachable_222 : decode cX12_findReachable 222 = .ok (.if_icmp .ge 39, 3) := by decide +kernel
theorem dX12_findReachable_261 : decode cX12_findReachable 261 = .ok (.goto 60, 3) := by decide +kernel
theorem dX12_findReachable_321 : decode cX12_findReachable 321 = .ok (.goto (-145), 3) := by decide +kernel
theorem dX12_findReachable_225 : decode cX12_findReachable 225 = .ok (.aload_n 0, 1) := by decide +kernel
theorem dX12_findReachable_226 : decode cX12_findReachable 226 = .ok (.aload_n 0, 1) := by decide +kernel
theorem dX12_findReachable_227 : decode cX12_findReachable 227 = .ok (.getfield 181, 3) := by decide +kernel
theorem dX12_findReachable_230 : decode cX12_findReachable 230 = .ok (.iload_n 1, 1) := by decide +kernel
theorem dX12_findReachable_231 : decode cX12_findReachable 231 = .ok (.iaload, 1) := by decide +kernel
theorem dX12_findReachable_232 : decode cX12_findReachable 232 = .ok (.invokevirtual 525, 3) := by decide +kernel
theorem dX12_findReachable_235 : decode cX12_findReachable 235 = .ok (.ifCond .eq 26, 3) := by decide +kernel
theorem dX12_findReachable_238 : decode cX12_findReachable 238 = .ok (.aload_n 0, 1) := by decide +kernel
theorem dX12_findReachable_239 : decode cX12_findReachable 239 = .ok (.aload_n 0, 1) := by decide +kernel
theorem dX12_findReachable_240 : decode cX12_findReachable 240 = .ok (.getfield 193, 3) := by decide +kernel
theorem dX12_findReachable_243 : decode cX12_findReachable 243 = .ok (.aload_n 0, 1) := by decide +kernel
theorem dX12_findReachable_244 : decode cX12_findReachable 244 = .ok (.getfield 187, 3) := by decide +kernel
theorem dX12_findReachable_247 : decode cX12_findReachable 247 = .ok (.iload_n 1, 1) := by decide +kernel
theorem dX12_findReachable_248 : decode cX12_findReachable 248 = .ok (.iaload, 1) := by decide +kernel
theorem dX12_findReachable_249 : decode cX12_findReachable 249 = .ok (.iload_n 2, 1) := by decide +kernel
theorem dX12_findReachable_250 : decode cX12_findReachable 250 = .ok (.iadd, 1) := by decide +kernel
theorem dX12_findReachable_251 : decode cX12_findReachable 251 = .ok (.iaload, 1) := by decide +kernel
theorem dX12_findReachable_252 : decode cX12_findReachable 252 = .ok (.invokevirtual 710, 3) := by decide +kernel
theorem dX12_findReachable_255 : decode cX12_findReachable 255 = .ok (.iinc 2 1, 3) := by decide +kernel
theorem dX12_findReachable_258 : decode cX12_findReachable 258 = .ok (.goto (-43), 3) := by decide +kernel
theorem dX12_findReachable_264 : decode cX12_findReachable 264 = .ok (.iconst 0, 1) := by decide +kernel
theorem dX12_findReachable_265 : decode cX12_findReachable 265 = .ok (.istore_n 2, 1) := by decide +kernel
theorem dX12_findReachable_266 : decode cX12_findReachable 266 = .ok (.iload_n 2, 1) := by decide +kernel
theorem dX12_findReachable_267 : decode cX12_findReachable 267 = .ok (.aload_n 0, 1) := by decide +kernel
theorem dX12_findReachable_268 : decode cX12_findReachable 268 = .ok (.getfield 246, 3) := by decide +kernel
theorem dX12_findReachable_271 : decode cX12_findReachable 271 = .ok (.aload_n 0, 1) := by decide +kernel
theorem dX12_findReachable_272 : decode cX12_findReachable 272 = .ok (.getfield 178, 3) := by decide +kernel
theorem dX12_findReachable_275 : decode cX12_findReachable 275 = .ok (.iload_n 1, 1) := by decide +kernel
theorem dX12_findReachable_276 : decode cX12_findReachable 276 = .ok (.iaload, 1) := by decide +kernel
theorem dX12_findReachable_277 : decode cX12_findReachable 277 = .ok (.iaload, 1) := by decide +kernel
theorem dX12_findReachable_278 : decode cX12_findReachable 278 = .ok (.if_icmp .ge 43, 3) := by decide +kernel
theorem dX12_findReachable_281 : decode cX12_findReachable 281 = .ok (.aload_n 0, 1) := by decide +kernel
theorem dX12_findReachable_282 : decode cX12_findReachable 282 = .ok (.aload_n 0, 1) := by decide +kernel
theorem dX12_findReachable_283 : decode cX12_findReachable 283 = .ok (.getfield 193, 3) := by decide +kernel
theorem dX12_findReachable_286 : decode cX12_findReachable 286 = .ok (.aload_n 0, 1) := by decide +kernel
theorem dX12_findReachable_287 : decode cX12_findReachable 287 = .ok (.getfield 187, 3) := by decide +kernel
theorem dX12_findReachable_290 : decode cX12_findReachable 290 = .ok (.iload_n 1, 1) := by decide +kernel
theorem dX12_findReachable_291 : decode cX12_findReachable 291 = .ok (.iaload, 1) := by decide +kernel
theorem dX12_findReachable_292 : decode cX12_findReachable 292 = .ok (.aload_n 0, 1) := by decide +kernel
theorem dX12_findReachable_293 : decode cX12_findReachable 293 = .ok (.getfield 249, 3) := by decide +kernel
theorem dX12_findReachable_296 : decode cX12_findReachable 296 = .ok (.aload_n 0, 1) := by decide +kernel
theorem dX12_findReachable_297 : decode cX12_findReachable 297 = .ok (.getfield 243, 3) := by decide +kernel
theorem dX12_findReachable_300 : decode cX12_findReachable 300 = .ok (.aload_n 0, 1) := by decide +kernel
theorem dX12_findReachable_301 : decode cX12_findReachable 301 = .ok (.getfield 178, 3) := by decide +kernel
theorem dX12_findReachable_304 : decode cX12_findReachable 304 = .ok (.iload_n 1, 1) := by decide +kernel
theorem dX12_findReachable_305 : decode cX12_findReachable 305 = .ok (.iaload, 1) := by decide +kernel
theorem dX12_findReachable_306 : decode cX12_findReachable 306 = .ok (.iaload, 1) := by decide +kernel
theorem dX12_findReachable_307 : decode cX12_findReachable 307 = .ok (.iload_n 2, 1) := by decide +kernel
theorem dX12_findReachable_308 : decode cX12_findReachable 308 = .ok (.iadd, 1) := by decide +kernel
theorem dX12_findReachable_309 : decode cX12_findReachable 309 = .ok (.iaload, 1) := by decide +kernel
theorem dX12_findReachable_310 : decode cX12_findReachable 310 = .ok (.iadd, 1) := by decide +kernel
theorem dX12_findReachable_311 : decode cX12_findReachable 311 = .ok (.iaload, 1) := by decide +kernel
theorem dX12_findReachable_312 : decode cX12_findReachable 312 = .ok (.invokevirtual 710, 3) := by decide +kernel
theorem dX12_findReachable_315 : decode cX12_findReachable 315 = .ok (.iinc 2 1, 3) := by decide +kernel
theorem dX12_findReachable_318 : decode cX12_findReachable 318 = .ok (.goto (-52), 3) := by decide +kernel
theorem dX12_findReachable_151 : decode cX12_findReachable 151 = .ok (.aload_n 0, 1) := by decide +kernel
theorem dX12_findReachable_152 : decode cX12_findReachable 152 = .ok (.getfield 230, 3) := by decide +kernel
theorem dX12_findReachable_155 : decode cX12_findReachable 155 = .ok (.iload_n 1, 1) := by decide +kernel
theorem dX12_findReachable_156 : decode cX12_findReachable 156 = .ok (.baload, 1) := by decide +kernel
theorem dX12_findReachable_157 : decode cX12_findReachable 157 = .ok (.ifCond .eq 13, 3) := by decide +kernel
theorem dX12_findReachable_170 : decode cX12_findReachable 170 = .ok (.iinc 1 1, 3) := by decide +kernel
theorem dX12_findReachable_173 : decode cX12_findReachable 173 = .ok (.goto (-30), 3) := by decide +kernel
theorem dX12_findReachable_160 : decode cX12_findReachable 160 = .ok (.aload_n 0, 1) := by decide +kernel
theorem dX12_findReachable_161 : decode cX12_findReachable 161 = .ok (.aload_n 0, 1) := by decide +kernel
theorem dX12_findReachable_162 : decode cX12_findReachable 162 = .ok (.getfield 227, 3) := by decide +kernel
theorem dX12_findReachable_165 : decode cX12_findReachable 165 = .ok (.iload_n 1, 1) := by decide +kernel
theorem dX12_findReachable_166 : decode cX12_findReachable 166 = .ok (.iaload, 1) := by decide +kernel
theorem dX12_findReachable_167 : decode cX12_findReachable 167 = .ok (.invokevirtual 710, 3) := by decide +kernel
theorem dX12_findReachable_116 : decode cX12_findReachable 116 = .ok (.aload_n 0, 1) := by decide +kernel
theorem dX12_findReachable_117 : decode cX12_findReachable 117 = .ok (.getfield 221, 3) := by decide +kernel
theorem dX12_findReachable_120 : decode cX12_findReachable 120 = .ok (.iload_n 1, 1) := by decide +kernel
theorem dX12_findReachable_121 : decode cX12_findReachable 121 = .ok (.baload, 1) := by decide +kernel
theorem dX12_findReachable_122 : decode cX12_findReachable 122 = .ok (.ifCond .eq 13, 3) := by decide +kernel
theorem dX12_findReachable_135 : decode cX12_findReachable 135 = .ok (.iinc 1 1, 3) := by decide +kernel
theorem dX12_findReachable_138 : decode cX12_findReachable 138 = .ok (.goto (-30), 3) := by decide +kernel
theorem dX12_findReachable_125 : decode cX12_findReachable 125 = .ok (.aload_n 0, 1) := by decide +kernel
theorem dX12_findReachable_126 : decode cX12_findReachable 126 = .ok (.aload_n 0, 1) := by decide +kernel
theorem dX12_findReachable_127 : decode cX12_findReachable 127 = .ok (.getfield 218, 3) := by decide +kernel
theorem dX12_findReachable_130 : decode cX12_findReachable 130 = .ok (.iload_n 1, 1) := by decide +kernel
theorem dX12_findReachable_131 : decode cX12_findReachable 131 = .ok (.iaload, 1) := by decide +kernel
theorem dX12_findReachable_132 : decode cX12_findReachable 132 = .ok (.invokevirtual 710, 3) := by decide +kernel
theorem dX12_findReachable_43 : decode cX12_findReachable 43 = .ok (.aload_n 0, 1) := by decide +kernel
theorem dX12_findReachable_44 : decode cX12_findReachable 44 = .ok (.aload_n 0, 1) := by decide +kernel
theorem dX12_findReachable_45 : decode cX12_findReachable 45 = .ok (.getfield 199, 3) := by decide +kernel
theorem dX12_findReachable_48 : decode cX12_findReachable 48 = .ok (.iload_n 1, 1) := by decide +kernel
theorem dX12_findReachable_49 : decode cX12_findReachable 49 = .ok (.iaload, 1) := by decide +kernel
theorem dX12_findReachable_50 : decode cX12_findReachable 50 = .ok (.invokevirtual 710, 3) := by decide +kernel
theorem dX12_findReachable_53 : decode cX12_findReachable 53 = .ok (.iconst 0, 1) := by decide +kernel
theorem dX12_findReachable_54 : decode cX12_findReachable 54 = .ok (.istore_n 2, 1) := by decide +kernel
theorem dX12_findReachable_55 : decode cX12_findReachable 55 = .ok (.iload_n 2, 1) := by decide +kernel
theorem dX12_findReachable_56 : decode cX12_findReachable 56 = .ok (.aload_n 0, 1) := by decide +kernel
theorem dX12_findReachable_57 : decode cX12_findReachable 57 = .ok (.getfield 202, 3) := by decide +kernel
theorem dX12_findReachable_60 : decode cX12_findReachable 60 = .ok (.iload_n 1, 1) := by decide +kernel
theorem dX12_findReachable_61 : decode cX12_findReachable 61 = .ok (.iaload, 1) := by decide +kernel
theorem dX12_findReachable_62 : decode cX12_findReachable 62 = .ok (.if_icmp .ge 38, 3) := by decide +kernel
theorem dX12_findReachable_100 : decode cX12_findReachable 100 = .ok (.iinc 1 1, 3) := by decide +kernel
theorem dX12_findReachable_103 : decode cX12_findReachable 103 = .ok (.goto (-68), 3) := by decide +kernel
theorem dX12_findReachable_65 : decode cX12_findReachable 65 = .ok (.aload_n 0, 1) := by decide +kernel
theorem dX12_findReachable_66 : decode cX12_findReachable 66 = .ok (.getfield 214, 3) := by decide +kernel
theorem dX12_findReachable_69 : decode cX12_findReachable 69 = .ok (.bipush 32, 2) := by decide +kernel
theorem dX12_findReachable_71 : decode cX12_findReachable 71 = .ok (.iload_n 1, 1) := by decide +kernel
theorem dX12_findReachable_72 : decode cX12_findReachable 72 = .ok (.imul, 1) := by decide +kernel
theorem dX12_findReachable_73 : decode cX12_findReachable 73 = .ok (.iload_n 2, 1) := by decide +kernel
theorem dX12_findReachable_74 : decode cX12_findReachable 74 = .ok (.iadd, 1) := by decide +kernel
theorem dX12_findReachable_75 : decode cX12_findReachable 75 = .ok (.baload, 1) := by decide +kernel
theorem dX12_findReachable_76 : decode cX12_findReachable 76 = .ok (.ifCond .eq 18, 3) := by decide +kernel
theorem dX12_findReachable_94 : decode cX12_findReachable 94 = .ok (.iinc 2 1, 3) := by decide +kernel
theorem dX12_findReachable_97 : decode cX12_findReachable 97 = .ok (.goto (-42), 3) := by decide +kernel
theorem dX12_findReachable_79 : decode cX12_findReachable 79 = .ok (.aload_n 0, 1) := by decide +kernel
theorem dX12_findReachable_80 : decode cX12_findReachable 80 = .ok (.aload_n 0, 1) := by decide +kernel
theorem dX12_findReachable_81 : decode cX12_findReachable 81 = .ok (.getfield 211, 3) := by decide +kernel
theorem dX12_findReachable_84 : decode cX12_findReachable 84 = .ok (.bipush 32, 2) := by decide +kernel
theorem dX12_findReachable_86 : decode cX12_findReachable 86 = .ok (.iload_n 1, 1) := by decide +kernel
theorem dX12_findReachable_87 : decode cX12_findReachable 87 = .ok (.imul, 1) := by decide +kernel
theorem dX12_findReachable_88 : decode cX12_findReachable 88 = .ok (.iload_n 2, 1) := by decide +kernel
theorem dX12_findReachable_89 : decode cX12_findReachable 89 = .ok (.iadd, 1) := by decide +kernel
theorem dX12_findReachable_90 : decode cX12_findReachable 90 = .ok (.iaload, 1) := by decide +kernel
theorem dX12_findReachable_91 : decode cX12_findReachable 91 = .ok (.invokevirtual 710, 3) := by decide +kernel
theorem dX12_findReachable_10 : decode cX12_findReachable 10 = .ok (.aload_n 0, 1) := by decide +kernel
theorem dX12_findReachable_11 : decode cX12_findReachable 11 = .ok (.getfield 190, 3) := by decide +kernel
theorem dX12_findReachable_14 : decode cX12_findReachable 14 = .ok (.aload_n 0, 1) := by decide +kernel
theorem dX12_findReachable_15 : decode cX12_findReachable 15 = .ok (.getfield 237, 3) := by decide +kernel
theorem dX12_findReachable_18 : decode cX12_findReachable 18 = .ok (.iload_n 1, 1) := by decide +kernel
theorem dX12_findReachable_19 : decode cX12_findReachable 19 = .ok (.iaload, 1) := by decide +kernel
theorem dX12_findReachable_20 : decode cX12_findReachable 20 = .ok (.iconst 0, 1) := by decide +kernel
theorem dX12_findReachable_21 : decode cX12_findReachable 21 = .ok (.bastore, 1) := by decide +kernel
theorem dX12_findReachable_22 : decode cX12_findReachable 22 = .ok (.iinc 1 1, 3) := by decide +kernel
theorem dX12_findReachable_25 : decode cX12_findReachable 25 = .ok (.goto (-23), 3) := by decide +kernel
theorem hV_X12_see : yX12_see.cls = RX12 ∧ yX12_see.cls ≠ "java/lang/invoke/MethodHandle" ∧ yX12_see.cls ≠ "java/lang/invoke/VarHandle" ∧ (parseMethodDescriptor yX12_see.desc).map (fun d => d.parameters.length) = some 1 := by decide +kernel
set_option maxHeartbeats 16000000 in
set_option maxRecDepth 100000 in
/-- findReachable() -/
theorem R_findReachable (l : Launch) (G : pT) (h0 : Nat) (a : Nat → Nat) (F : Nat → Int32) (B : Nat → Nat → Int32) (on : Nat) (op : Nat) (tp : Nat) (wn : Nat) (sn : Nat → Int32) (td : Nat → Int32) (hon : on ≤ 3000) (hop : op ≤ 100) (htp : tp ≤ 40000) (hwn : wn ≤ 2100) (hod : ∀ k : Nat, k < on → ∃ o : Nat, o < 3000 ∧ B 73 k = nI o) (hth : ∀ c : Nat, c < op → RfV (B 73) on (B 62 c)) (hscp : ∀ c : Nat, c < op → ∃ s : Nat, s ≤ 30 ∧ B 63 c = nI s ∧ ∀ v : Nat, v < s → ¬ B 67 (32 * c + v) = 0 → RfV (B 73) on (B 66 (32 * c + v))) (hstk : ∀ k : Nat, k < tp → ¬ B 69 k = 0 → RfV (B 73) on (B 68 k)) (hwt : ∀ k : Nat, k < wn → ¬ B 72 k = 0 → RfV (B 73) on (B 71 k)) (hob : ∀ o : Nat, o < 3000 → Lvd (B 73) on o → ObR (B 73) on (B 55) (B 56) (B 57) (B 58) (B 60) (B 75) (B 76) (B 77) o) : PM l G pX0 yX12_findReachable cX12_findReachable 3 none ({ frames := 3, cells := 0, slots := 0, locals := 81 }) [.ref h0] (mW G h0 a (upd (upd (upd (upd F 102 (nI op)) 111 (nI tp)) 115 (nI wn)) 128 (nI on)) (updA (updA B 59 sn) 61 td)) (fun (v : Option Value) (u : Nat × (Nat → Int32) × (Nat → Int32)) => v = none ∧ (∀ c : Nat, c < op → RfS u.2.1 (B 62 c)) ∧ (∀ c s v : Nat, c < op → B 63 c = nI s → s ≤ 30 → v < s → ¬ B 67 (32 * c + v) = 0 → RfS u.2.1 (B 66 (32 * c + v))) ∧ (∀ k : Nat, k < tp → ¬ B 69 k = 0 → RfS u.2.1 (B 68 k)) ∧ (∀ k : Nat, k < wn → ¬ B 72 k = 0 → RfS u.2.1 (B 71 k)) ∧ (∀ o : Nat, o < 3000 → Lvd (B 73) on o → ¬ u.2.1 o = 0 → ∀ v : Int32, (Chd (B 55) (B 56) (B 57) (B 58) (B 60) (B 75) (B 76) (B 77)) o v → RfS u.2.1 v)) (fun u => (mW G h0 a (upd (upd (upd (upd (upd F 101 (nI u.1)) 102 (nI op)) 111 (nI tp)) 115 (nI wn)) 128 (nI on)) (updA (updA B 59 u.2.1) 61 u.2.2))) := by
  intro sz
  refine Met.ofW (cc := cX12_findReachable) (maxL := 3) (ret := none) (by decide) rfl ?_
  intro p e s m args below meth c s₁ B9 hml hv
  obtain ⟨rfl, hsz, hP, hD0, hE, hX⟩ := hv
  have hx := B9.exec
  have hb := B9.bytes
  have hr := B9.returns
  have hts := atoms_spec (ws := Cond.code yX12_findReachable cX12_findReachable 3 none :: pw) B9.pre
  have hq : ∀ w ∈ pw, w.before _ s = true := fun w h => hts w (List.mem_cons_of_mem _ h)
  have hown : s.vm.findClass RX12 = some m.cls := findClass_of_methodNamed B9.named
  have hlocks := B9.notSynchronized
  subst hsz
  have hD := hD0.self (sz := s.heap.size)
  have hA : ∀ q : Nat, s.heap.size ≤ q → va_A (mW G h0 a (upd (upd (upd (upd F 102 (nI op)) 111 (nI tp)) 115 (nI wn)) 128 (nI on)) (updA (updA B 59 sn) 61 td)) s.heap.size q := fun q h => Or.inr h
  have hP : va_P G.1 pCl (mW G h0 a (upd (upd (upd (upd F 102 (nI op)) 111 (nI tp)) 115 (nI wn)) 128 (nI on)) (updA (updA B 59 sn) 61 td)) s.heap := hP
  generalize va_A (mW G h0 a (upd (upd (upd (upd F 102 (nI op)) 111 (nI tp)) 115 (nI wn)) 128 (nI on)) (updA (updA B 59 sn) 61 td)) s.heap.size = A at hD hE hA ⊢
  have hS : va_S A s.heap s.heap [] := va_S.rf
  have hl := lv_entry ([.ref h0]) (n := 3) (Nat.le_of_ble_eq_true rfl)
  rw [lg_entry_eq]
  generalize (lg_sl ([.ref h0]) ++ List.replicate (3 - (lg_sl ([.ref h0])).length) Slot.unset).toArray = ls at hl ⊢
  have hl : lv_has ls 3 [(0, .ref h0)] := hl
  refine lv_iconst (v := 0) hx hb dX12_findReachable_0 (by decide) ?_
  refine lv_istore_n (lv' := [(1, .int 0), (0, .ref h0)]) hx hb dX12_findReachable_1 rfl hl (by decide) rfl (fun ls hl => ?_)
  have loop_a : ∀ (n_a : Nat) (k2 : Nat) (sn2 : Nat → Int32) (H : Heap) (locs : List Loc) (ls : Array Slot), k2 ≤ on → on + 1 ≤ k2 + n_a → (∀ j o : Nat, j < k2 → o < 3000 → B 73 j = nI o → sn2 o = 0) → va_P G.1 pCl (mW G h0 a (upd (upd (upd (upd F 102 (nI op)) 111 (nI tp)) 115 (nI wn)) 128 (nI on)) (updA (updA B 59 sn2) 61 td)) H → va_D A (mW G h0 a (upd (upd (upd (upd F 102 (nI op)) 111 (nI tp)) 115 (nI wn)) 128 (nI on)) (updA (updA B 59 sn2) 61 td)) → va_S A s.heap H locs → lv_has ls 3 [(1, .int (nI k2)), (0, .ref h0)] → W p l e (headSpec (Cond.code yX12_findReachable cX12_findReachable 3 none :: pw) ({ frames := 3, cells := 0, slots := 0, locals := 81 } : Room)).room s m ([.ref h0] : List Value).toArray below meth c H locs 0 0 (MQ below (pQ G A (fun (v : Option Value) (u : Nat × (Nat → Int32) × (Nat → Int32)) => v = none ∧ (∀ c : Nat, c < op → RfS u.2.1 (B 62 c)) ∧ (∀ c s v : Nat, c < op → B 63 c = nI s → s ≤ 30 → v < s → ¬ B 67 (32 * c + v) = 0 → RfS u.2.1 (B 66 (32 * c + v))) ∧ (∀ k : Nat, k < tp → ¬ B 69 k = 0 → RfS u.2.1 (B 68 k)) ∧ (∀ k : Nat, k < wn → ¬ B 72 k = 0 → RfS u.2.1 (B 71 k)) ∧ (∀ o : Nat, o < 3000 → Lvd (B 73) on o → ¬ u.2.1 o = 0 → ∀ v : Int32, (Chd (B 55) (B 56) (B 57) (B 58) (B 60) (B 75) (B 76) (B 77)) o v → RfS u.2.1 v)) (fun u => (mW G h0 a (upd (upd (upd (upd (upd F 101 (nI u.1)) 102 (nI op)) 111 (nI tp)) 115 (nI wn)) 128 (nI on)) (updA (updA B 59 u.2.1) 61 u.2.2)))) ([.ref h0] : List Value).toArray s ({ frames := 3, cells := 0, slots := 0, locals := 81 } : Room).cells ({ frames := 3, cells := 0, slots := 0, locals := 81 } : Room).slots A) (F0 m 2 ls []) := by
    intro n_a
    induction n_a with
    | zero => intro k2 sn2 H locs ls hk_a hn_a; omega
    | succ n_a ih_a =>
      intro k2 sn2 H locs ls hk_a hn_a hcl2 hP hD hS hl
      refine lv_iload_n hx hb dX12_findReachable_2 rfl (lv_at hl 0 rfl) ?_
      refine lv_aload_n hx hb dX12_findReachable_3 rfl (lv_at hl 1 rfl) ?_
      refine r_get (v := .int (nI on)) hx hb hown hq hE hP 128 704 tFX12_128 (by decide) pw_1968 rfl dX12_findReachable_4 ?_
      refine lv_icmp_ge (tgt := 28) hx hb dX12_findReachable_7 (by decide) (fun c1 => ?_) (fun c1 => ?_)
      · have n2 : on ≤ k2 := (nI_leI (a := on) (b := k2) (by omega) (by omega)).mp c1
        refine lv_aload_n hx hb dX12_findReachable_28 rfl (lv_at hl 1 rfl) ?_
        refine lv_iconst (v := 0) hx hb dX12_findReachable_29 (by decide) ?_
        refine r_put (v := 0) (ty := .int) hx hb hown hq hE hP hD hS 101 701 tFX12_101 (by decide) pw_1967 (by decide) rfl rfl (ms_101 a _ _) dX12_findReachable_30 (fun H locs hP hD hS => ?_)
        refine lv_iconst (v := 0) hx hb dX12_findReachable_33 (by decide) ?_
        refine lv_istore_n (lv' := [(1, .int 0), (0, .ref h0)]) hx hb dX12_findReachable_34 rfl hl (by decide) rfl (fun ls hl => ?_)
        have loop_b : ∀ (n_b : Nat) (cq3 : Nat) (tn3 : Nat) (sn3 : Nat → Int32) (td3 : Nat → Int32) (H : Heap) (locs : List Loc) (ls : Array Slot), cq3 ≤ op → op + 1 ≤ cq3 + n_b → (Mrk (B 73) sn3 td3 on tn3 3000 (Chd (B 55) (B 56) (B 57) (B 58) (B 60) (B 75) (B 76) (B 77))) → (tn3 ≤ 3000) → (tn3 ≤ cntS sn3 3000) → (∀ c : Nat, c < cq3 → RfS sn3 (B 62 c) ∧ ∀ s v : Nat, B 63 c = nI s → s ≤ 30 → v < s → ¬ B 67 (32 * c + v) = 0 → RfS sn3 (B 66 (32 * c + v))) → va_P G.1 pCl (mW G h0 a (upd (upd (upd (upd (upd F 101 (nI tn3)) 102 (nI op)) 111 (nI tp)) 115 (nI wn)) 128 (nI on)) (updA (updA B 59 sn3) 61 td3)) H → va_D A (mW G h0 a (upd (upd (upd (upd (upd F 101 (nI tn3)) 102 (nI op)) 111 (nI tp)) 115 (nI wn)) 128 (nI on)) (updA (updA B 59 sn3) 61 td3)) → va_S A s.heap H locs → lv_has ls 3 [(1, .int (nI cq3)), (0, .ref h0)] → W p l e (headSpec (Cond.code yX12_findReachable cX12_findReachable 3 none :: pw) ({ frames := 3, cells := 0, slots := 0, locals := 81 } : Room)).room s m ([.ref h0] : List Value).toArray below meth c H locs 0 0 (MQ below (pQ G A (fun (v : Option Value) (u : Nat × (Nat → Int32) × (Nat → Int32)) => v = none ∧ (∀ c : Nat, c < op → RfS u.2.1 (B 62 c)) ∧ (∀ c s v : Nat, c < op → B 63 c = nI s → s ≤ 30 → v < s → ¬ B 67 (32 * c + v) = 0 → RfS u.2.1 (B 66 (32 * c + v))) ∧ (∀ k : Nat, k < tp → ¬ B 69 k = 0 → RfS u.2.1 (B 68 k)) ∧ (∀ k : Nat, k < wn → ¬ B 72 k = 0 → RfS u.2.1 (B 71 k)) ∧ (∀ o : Nat, o < 3000 → Lvd (B 73) on o → ¬ u.2.1 o = 0 → ∀ v : Int32, (Chd (B 55) (B 56) (B 57) (B 58) (B 60) (B 75) (B 76) (B 77)) o v → RfS u.2.1 v)) (fun u => (mW G h0 a (upd (upd (upd (upd (upd F 101 (nI u.1)) 102 (nI op)) 111 (nI tp)) 115 (nI wn)) 128 (nI on)) (updA (updA B 59 u.2.1) 61 u.2.2)))) ([.ref h0] : List Value).toArray s ({ frames := 3, cells := 0, slots := 0, locals := 81 } : Room).cells ({ frames := 3, cells := 0, slots := 0, locals := 81 } : Room).slots A) (F0 m 35 ls []) := by
          intro n_b
          induction n_b with
          | zero => intro cq3 tn3 sn3 td3 H locs ls hk_b hn_b; omega
          | succ n_b ih_b =>
            intro cq3 tn3 sn3 td3 H locs ls hk_b hn_b hm3 hb3 ht3 hr3 hP hD hS hl
            refine lv_iload_n hx hb dX12_findReachable_35 rfl (lv_at hl 0 rfl) ?_
            refine lv_aload_n hx hb dX12_findReachable_36 rfl (lv_at hl 1 rfl) ?_
            refine r_get (v := .int (nI op)) hx hb hown hq hE hP 102 707 tFX12_102 (by decide) pw_1969 rfl dX12_findReachable_37 ?_
            refine lv_icmp_ge (tgt := 106) hx hb dX12_findReachable_40 (by decide) (fun c3 => ?_) (fun c3 => ?_)
            · have n4 : op ≤ cq3 := (nI_leI (a := op) (b := cq3) (by omega) (by omega)).mp c3
              refine lv_iconst (v := 0) hx hb dX12_findReachable_106 (by decide) ?_
              refine lv_istore_n (lv' := [(1, .int 0), (0, .ref h0)]) hx hb dX12_findReachable_107 rfl hl (by decide) rfl (fun ls hl => ?_)
              have loop_d : ∀ (n_d : Nat) (kq5 : Nat) (tn5 : Nat) (sn5 : Nat → Int32) (td5 : Nat → Int32) (H : Heap) (locs : List Loc) (ls : Array Slot), kq5 ≤ tp → tp + 1 ≤ kq5 + n_d → (Mrk (B 73) sn5 td5 on tn5 3000 (Chd (B 55) (B 56) (B 57) (B 58) (B 60) (B 75) (B 76) (B 77))) → (tn5 ≤ 3000) → (tn5 ≤ cntS sn5 3000) → (SnM sn3 sn5) → (∀ j : Nat, j < kq5 → ¬ B 69 j = 0 → RfS sn5 (B 68 j)) → va_P G.1 pCl (mW G h0 a (upd (upd (upd (upd (upd F 101 (nI tn5)) 102 (nI op)) 111 (nI tp)) 115 (nI wn)) 128 (nI on)) (updA (updA B 59 sn5) 61 td5)) H → va_D A (mW G h0 a (upd (upd (upd (upd (upd F 101 (nI tn5)) 102 (nI op)) 111 (nI tp)) 115 (nI wn)) 128 (nI on)) (updA (updA B 59 sn5) 61 td5)) → va_S A s.heap H locs → lv_has ls 3 [(1, .int (nI kq5)), (0, .ref h0)] → W p l e (headSpec (Cond.code yX12_findReachable cX12_findReachable 3 none :: pw) ({ frames := 3, cells := 0, slots := 0, locals := 81 } : Room)).room s m ([.ref h0] : List Value).toArray below meth c H locs 0 0 (MQ below (pQ G A (fun (v : Option Value) (u : Nat × (Nat → Int32) × (Nat → Int32)) => v = none ∧ (∀ c : Nat, c < op → RfS u.2.1 (B 62 c)) ∧ (∀ c s v : Nat, c < op → B 63 c = nI s → s ≤ 30 → v < s → ¬ B 67 (32 * c + v) = 0 → RfS u.2.1 (B 66 (32 * c + v))) ∧ (∀ k : Nat, k < tp → ¬ B 69 k = 0 → RfS u.2.1 (B 68 k)) ∧ (∀ k : Nat, k < wn → ¬ B 72 k = 0 → RfS u.2.1 (B 71 k)) ∧ (∀ o : Nat, o < 3000 → Lvd (B 73) on o → ¬ u.2.1 o = 0 → ∀ v : Int32, (Chd (B 55) (B 56) (B 57) (B 58) (B 60) (B 75) (B 76) (B 77)) o v → RfS u.2.1 v)) (fun u => (mW G h0 a (upd (upd (upd (upd (upd F 101 (nI u.1)) 102 (nI op)) 111 (nI tp)) 115 (nI wn)) 128 (nI on)) (updA (updA B 59 u.2.1) 61 u.2.2)))) ([.ref h0] : List Value).toArray s ({ frames := 3, cells := 0, slots := 0, locals := 81 } : Room).cells ({ frames := 3, cells := 0, slots := 0, locals := 81 } : Room).slots A) (F0 m 108 ls []) := by
                intro n_d
                induction n_d with
                | zero => intro kq5 tn5 sn5 td5 H locs ls hk_d hn_d; omega
                | succ n_d ih_d =>
                  intro kq5 tn5 sn5 td5 H locs ls hk_d hn_d hm5 hb5 ht5 hs5 hk5 hP hD hS hl
                  refine lv_iload_n hx hb dX12_findReachable_108 rfl (lv_at hl 0 rfl) ?_
                  refine lv_aload_n hx hb dX12_findReachable_109 rfl (lv_at hl 1 rfl) ?_
                  refine r_get (v := .int (nI tp)) hx hb hown hq hE hP 111 698 tFX12_111 (by decide) pw_1964 rfl dX12_findReachable_110 ?_
                  refine lv_icmp_ge (tgt := 141) hx hb dX12_findReachable_113 (by decide) (fun c5 => ?_) (fun c5 => ?_)
                  · have n6 : tp ≤ kq5 := (nI_leI (a := tp) (b := kq5) (by omega) (by omega)).mp c5
                    refine lv_iconst (v := 0) hx hb dX12_findReachable_141 (by decide) ?_
                    refine lv_istore_n (lv' := [(1, .int 0), (0, .ref h0)]) hx hb dX12_findReachable_142 rfl hl (by decide) rfl (fun ls hl => ?_)
                    have loop_e : ∀ (n_e : Nat) (kq6 : Nat) (tn6 : Nat) (sn6 : Nat → Int32) (td6 : Nat → Int32) (H : Heap) (locs : List Loc) (ls : Array Slot), kq6 ≤ wn → wn + 1 ≤ kq6 + n_e → (Mrk (B 73) sn6 td6 on tn6 3000 (Chd (B 55) (B 56) (B 57) (B 58) (B 60) (B 75) (B 76) (B 77))) → (tn6 ≤ 3000) → (tn6 ≤ cntS sn6 3000) → (SnM sn5 sn6) → (∀ j : Nat, j < kq6 → ¬ B 72 j = 0 → RfS sn6 (B 71 j)) → va_P G.1 pCl (mW G h0 a (upd (upd (upd (upd (upd F 101 (nI tn6)) 102 (nI op)) 111 (nI tp)) 115 (nI wn)) 128 (nI on)) (updA (updA B 59 sn6) 61 td6)) H → va_D A (mW G h0 a (upd (upd (upd (upd (upd F 101 (nI tn6)) 102 (nI op)) 111 (nI tp)) 115 (nI wn)) 128 (nI on)) (updA (updA B 59 sn6) 61 td6)) → va_S A s.heap H locs → lv_has ls 3 [(1, .int (nI kq6)), (0, .ref h0)] → W p l e (headSpec (Cond.code yX12_findReachable cX12_findReachable 3 none :: pw) ({ frames := 3, cells := 0, slots := 0, locals := 81 } : Room)).room s m ([.ref h0] : List Value).toArray below meth c H locs 0 0 (MQ below (pQ G A (fun (v : Option Value) (u : Nat × (Nat → Int32) × (Nat → Int32)) => v = none ∧ (∀ c : Nat, c < op → RfS u.2.1 (B 62 c)) ∧ (∀ c s v : Nat, c < op → B 63 c = nI s → s ≤ 30 → v < s → ¬ B 67 (32 * c + v) = 0 → RfS u.2.1 (B 66 (32 * c + v))) ∧ (∀ k : Nat, k < tp → ¬ B 69 k = 0 → RfS u.2.1 (B 68 k)) ∧ (∀ k : Nat, k < wn → ¬ B 72 k = 0 → RfS u.2.1 (B 71 k)) ∧ (∀ o : Nat, o < 3000 → Lvd (B 73) on o → ¬ u.2.1 o = 0 → ∀ v : Int32, (Chd (B 55) (B 56) (B 57) (B 58) (B 60) (B 75) (B 76) (B 77)) o v → RfS u.2.1 v)) (fun u => (mW G h0 a (upd (upd (upd (upd (upd F 101 (nI u.1)) 102 (nI op)) 111 (nI tp)) 115 (nI wn)) 128 (nI on)) (updA (updA B 59 u.2.1) 61 u.2.2)))) ([.ref h0] : List Value).toArray s ({ frames := 3, cells := 0, slots := 0, locals := 81 } : Room).cells ({ frames := 3, cells := 0, slots := 0, locals := 81 } : Room).slots A) (F0 m 143 ls []) := by
                      intro n_e
                      induction n_e with
                      | zero => intro kq6 tn6 sn6 td6 H locs ls hk_e hn_e; omega
                      | succ n_e ih_e =>
                        intro kq6 tn6 sn6 td6 H locs ls hk_e hn_e hm6 hb6 ht6 hs6 hk6 hP hD hS hl
                        refine lv_iload_n hx hb dX12_findReachable_143 rfl (lv_at hl 0 rfl) ?_
                        refine lv_aload_n hx hb dX12_findReachable_144 rfl (lv_at hl 1 rfl) ?_
                        refine r_get (v := .int (nI wn)) hx hb hown hq hE hP 115 713 tFX12_115 (by decide) pw_1970 rfl dX12_findReachable_145 ?_
                        refine lv_icmp_ge (tgt := 176) hx hb dX12_findReachable_148 (by decide) (fun c7 => ?_) (fun c7 => ?_)
                        · have n8 : wn ≤ kq6 := (nI_leI (a := wn) (b := kq6) (by omega) (by omega)).mp c7
                          have loop_f : ∀ (n_f : Nat) (zq7 : Nat) (tn7 : Nat) (sn7 : Nat → Int32) (td7 : Nat → Int32) (H : Heap) (locs : List Loc) (ls : Array Slot), zq7 ≤ 9000 → 9000 + 1 ≤ zq7 + n_f → (Mrk (B 73) sn7 td7 on tn7 3000 (Chd (B 55) (B 56) (B 57) (B 58) (B 60) (B 75) (B 76) (B 77))) → (tn7 ≤ 3000) → (tn7 ≤ cntS sn7 3000) → (SnM sn6 sn7) → (zq7 + msr sn7 tn7 ≤ 9000) → va_P G.1 pCl (mW G h0 a (upd (upd (upd (upd (upd F 101 (nI tn7)) 102 (nI op)) 111 (nI tp)) 115 (nI wn)) 128 (nI on)) (updA (updA B 59 sn7) 61 td7)) H → va_D A (mW G h0 a (upd (upd (upd (upd (upd F 101 (nI tn7)) 102 (nI op)) 111 (nI tp)) 115 (nI wn)) 128 (nI on)) (updA (updA B 59 sn7) 61 td7)) → va_S A s.heap H locs → lv_has ls 3 [(0, .ref h0)] → W p l e (headSpec (Cond.code yX12_findReachable cX12_findReachable 3 none :: pw) ({ frames := 3, cells := 0, slots := 0, locals := 81 } : Room)).room s m ([.ref h0] : List Value).toArray below meth c H locs 0 0 (MQ below (pQ G A (fun (v : Option Value) (u : Nat × (Nat → Int32) × (Nat → Int32)) => v = none ∧ (∀ c : Nat, c < op → RfS u.2.1 (B 62 c)) ∧ (∀ c s v : Nat, c < op → B 63 c = nI s → s ≤ 30 → v < s → ¬ B 67 (32 * c + v) = 0 → RfS u.2.1 (B 66 (32 * c + v))) ∧ (∀ k : Nat, k < tp → ¬ B 69 k = 0 → RfS u.2.1 (B 68 k)) ∧ (∀ k : Nat, k < wn → ¬ B 72 k = 0 → RfS u.2.1 (B 71 k)) ∧ (∀ o : Nat, o < 3000 → Lvd (B 73) on o → ¬ u.2.1 o = 0 → ∀ v : Int32, (Chd (B 55) (B 56) (B 57) (B 58) (B 60) (B 75) (B 76) (B 77)) o v → RfS u.2.1 v)) (fun u => (mW G h0 a (upd (upd (upd (upd (upd F 101 (nI u.1)) 102 (nI op)) 111 (nI tp)) 115 (nI wn)) 128 (nI on)) (updA (updA B 59 u.2.1) 61 u.2.2)))) ([.ref h0] : List Value).toArray s ({ frames := 3, cells := 0, slots := 0, locals := 81 } : Room).cells ({ frames := 3, cells := 0, slots := 0, locals := 81 } : Room).slots A) (F0 m 176 ls []) := by
                            intro n_f
                            induction n_f with
                            | zero => intro zq7 tn7 sn7 td7 H locs ls hk_f hn_f; omega
                            | succ n_f ih_f =>
                              intro zq7 tn7 sn7 td7 H locs ls hk_f hn_f hm7 hb7 ht7 hs7 hM7 hP hD hS hl
                              refine lv_aload_n hx hb dX12_findReachable_176 rfl (lv_at hl 0 rfl) ?_
                              refine r_get (v := .int (nI tn7)) hx hb hown hq hE hP 101 701 tFX12_101 (by decide) pw_1967 rfl dX12_findReachable_177 ?_
                              refine lv_if_le (tgt := 324) hx hb dX12_findReachable_180 (by decide) (fun c9 => ?_) (fun c9 => ?_)
                              · have n10 : tn7 ≤ 0 := (nI_leI (a := tn7) (b := 0) (by omega) (by omega)).mp c9
                                have hz11 : ∀ c : Nat, c < op → RfS sn7 (B 62 c) := (fun c h => (hr3 c (by omega)).1.mono (SnM.trans hs5 (SnM.trans hs6 hs7)))
                                have hz12 : ∀ c s v : Nat, c < op → B 63 c = nI s → s ≤ 30 → v < s → ¬ B 67 (32 * c + v) = 0 → RfS sn7 (B 66 (32 * c + v)) := (fun c s v h1 e1 h2 h3 h4 => ((hr3 c (by omega)).2 s v e1 h2 h3 h4).mono (SnM.trans hs5 (SnM.trans hs6 hs7)))
                                have hz13 : ∀ k : Nat, k < tp → ¬ B 69 k = 0 → RfS sn7 (B 68 k) := (fun k h g => (hk5 k (by omega) g).mono (SnM.trans hs6 hs7))
                                have hz14 : ∀ k : Nat, k < wn → ¬ B 72 k = 0 → RfS sn7 (B 71 k) := (fun k h g => (hk6 k (by omega) g).mono hs7)
                                have hz15 : ∀ o : Nat, o < 3000 → Lvd (B 73) on o → ¬ sn7 o = 0 → ∀ v : Int32, (Chd (B 55) (B 56) (B 57) (B 58) (B 60) (B 75) (B 76) (B 77)) o v → RfS sn7 v := (fun o h1 h2 h3 => by rcases hm7.1 o h1 h2 h3 with ⟨k, z, _⟩ | z | z; omega; exact z; omega)
                                have hP : va_P G.1 pCl (mW G h0 a (upd (upd (upd (upd (upd F 101 (nI tn7)) 102 (nI op)) 111 (nI tp)) 115 (nI wn)) 128 (nI on)) (updA (updA B 59 sn7) 61 td7)) _ := hP
                                have hD : va_D A (mW G h0 a (upd (upd (upd (upd (upd F 101 (nI tn7)) 102 (nI op)) 111 (nI tp)) 115 (nI wn)) 128 (nI on)) (updA (updA B 59 sn7) 61 td7)) := mW_D hD
                                exact W.vret hx hb hr (fun t9 ht9 hW9 => ⟨⟨_, (tn7, sn7, td7), rfl, ⟨rfl, hz11, hz12, hz13, hz14, hz15⟩, by rw [ht9]; exact hP, hD⟩, hS.F ht9⟩) hS.2.2 dX12_findReachable_324
                              · have n16 : ¬ (tn7 ≤ 0) := fun h9 => c9 ((nI_leI (a := tn7) (b := 0) (by omega) (by omega)).mpr h9)
                                refine lv_aload_n hx hb dX12_findReachable_183 rfl (lv_at hl 0 rfl) ?_
                                refine lv_dup hx hb dX12_findReachable_184 rfl ?_
                                refine r_get (v := .int (nI tn7)) hx hb hown hq hE hP 101 701 tFX12_101 (by decide) pw_1967 rfl dX12_findReachable_185 ?_
                                refine lv_iconst (v := 1) hx hb dX12_findReachable_188 (by decide) ?_
                                refine lv_isub hx hb dX12_findReachable_189 ?_
                                refine lv_topi (fun x17 e18 => ?_)
                                obtain rfl : x17 = nI (tn7 - 1) := e18.trans (nI_subN (a := 1) (b := tn7) (by omega))
                                refine r_put (v := (nI (tn7 - 1))) (ty := .int) hx hb hown hq hE hP hD hS 101 701 tFX12_101 (by decide) pw_1967 (by decide) rfl rfl (ms_101 a _ _) dX12_findReachable_190 (fun H locs hP hD hS => ?_)
                                refine lv_aload_n hx hb dX12_findReachable_193 rfl (lv_at hl 0 rfl) ?_
                                refine r_get (v := .ref (a 61)) hx hb hown hq hE hP 100 196 tFX12_100 (by decide) pw_1493 rfl dX12_findReachable_194 ?_
                                refine lv_aload_n hx hb dX12_findReachable_197 rfl (lv_at hl 0 rfl) ?_
                                refine r_get (v := .int (nI (tn7 - 1))) hx hb hown hq hE hP 101 701 tFX12_101 (by decide) pw_1967 rfl dX12_findReachable_198 ?_
                                refine r_ldi (f := td7) (j := (tn7 - 1)) hx hb hE hP 61 (ma_61 G a _) rfl (by omega) (by decide) dX12_findReachable_201 ?_
                                obtain ⟨o19, e20, h21, hl22, h23⟩ := hm7.2 (tn7 - 1) (by omega)
                                refine lv_topi (fun x24 e25 => ?_)
                                obtain rfl : x24 = nI o19 := e25.trans e20
                                have hmp : Mrk (B 73) sn7 td7 on (tn7 - 1) o19 (Chd (B 55) (B 56) (B 57) (B 58) (B 60) (B 75) (B 76) (B 77)) := Mrk.pop (by rw [show tn7 - 1 + 1 = tn7 by omega]; exact hm7) e20 h21
                                have hmz : msr sn7 (tn7 - 1) + 1 ≤ msr sn7 tn7 := by unfold msr; omega
                                refine lv_istore_n (lv' := [(1, .int (nI o19)), (0, .ref h0)]) hx hb dX12_findReachable_202 rfl hl (by decide) rfl (fun ls hl => ?_)
                                refine lv_aload_n hx hb dX12_findReachable_203 rfl (lv_at hl 1 rfl) ?_
                                refine r_get (v := .ref (a 55)) hx hb hown hq hE hP 91 178 tFX12_91 (by decide) pw_1487 rfl dX12_findReachable_204 ?_
                                refine lv_iload_n hx hb dX12_findReachable_207 rfl (lv_at hl 0 rfl) ?_
                                refine r_ldi (f := (B 55)) (j := o19) hx hb hE hP 55 (ma_55 G a _) rfl (by omega) (by decide) dX12_findReachable_208 ?_
                                rcases hob o19 h21 hl22 with ⟨e26, so27, q28, p29, e30, h31, e32, e33, h34, hr35⟩ | ⟨k36, n37, u38, p39, e40, h41, e42, e43, h44, e45, h46, hr47⟩
                                · refine lv_topi (fun x48 e49 => ?_)
                                  obtain rfl : x48 = (-1) := e49.trans e26
                                  refine lv_iconst (v := (-1)) hx hb dX12_findReachable_209 (by decide) ?_
                                  refine lv_icmp_ne (tgt := 264) hx hb dX12_findReachable_210 (by decide) (fun c50 => absurd c50 (by decide)) (fun c50 => ?_)
                                  refine lv_iconst (v := 0) hx hb dX12_findReachable_213 (by decide) ?_
                                  refine lv_istore_n (lv' := [(2, .int 0), (1, .int (nI o19)), (0, .ref h0)]) hx hb dX12_findReachable_214 rfl hl (by decide) rfl (fun ls hl => ?_)
                                  have loop_g : ∀ (n_g : Nat) (iq8 : Nat) (tn8 : Nat) (sn8 : Nat → Int32) (td8 : Nat → Int32) (H : Heap) (locs : List Loc) (ls : Array Slot), iq8 ≤ q28 → q28 + 1 ≤ iq8 + n_g → (Mrk (B 73) sn8 td8 on tn8 o19 (Chd (B 55) (B 56) (B 57) (B 58) (B 60) (B 75) (B 76) (B 77))) → (tn8 ≤ 3000) → (tn8 ≤ cntS sn8 3000) → (SnM sn7 sn8) → (msr sn8 tn8 ≤ msr sn7 (tn7 - 1)) → (∀ i : Nat, i < iq8 → RfS sn8 (B 60 (p29 + i))) → va_P G.1 pCl (mW G h0 a (upd (upd (upd (upd (upd F 101 (nI tn8)) 102 (nI op)) 111 (nI tp)) 115 (nI wn)) 128 (nI on)) (updA (updA B 59 sn8) 61 td8)) H → va_D A (mW G h0 a (upd (upd (upd (upd (upd F 101 (nI tn8)) 102 (nI op)) 111 (nI tp)) 115 (nI wn)) 128 (nI on)) (updA (updA B 59 sn8) 61 td8)) → va_S A s.heap H locs → lv_has ls 3 [(2, .int (nI iq8)), (1, .int (nI o19)), (0, .ref h0)] → W p l e (headSpec (Cond.code yX12_findReachable cX12_findReachable 3 none :: pw) ({ frames := 3, cells := 0, slots := 0, locals := 81 } : Room)).room s m ([.ref h0] : List Value).toArray below meth c H locs 0 0 (MQ below (pQ G A (fun (v : Option Value) (u : Nat × (Nat → Int32) × (Nat → Int32)) => v = none ∧ (∀ c : Nat, c < op → RfS u.2.1 (B 62 c)) ∧ (∀ c s v : Nat, c < op → B 63 c = nI s → s ≤ 30 → v < s → ¬ B 67 (32 * c + v) = 0 → RfS u.2.1 (B 66 (32 * c + v))) ∧ (∀ k : Nat, k < tp → ¬ B 69 k = 0 → RfS u.2.1 (B 68 k)) ∧ (∀ k : Nat, k < wn → ¬ B 72 k = 0 → RfS u.2.1 (B 71 k)) ∧ (∀ o : Nat, o < 3000 → Lvd (B 73) on o → ¬ u.2.1 o = 0 → ∀ v : Int32, (Chd (B 55) (B 56) (B 57) (B 58) (B 60) (B 75) (B 76) (B 77)) o v → RfS u.2.1 v)) (fun u => (mW G h0 a (upd (upd (upd (upd (upd F 101 (nI u.1)) 102 (nI op)) 111 (nI tp)) 115 (nI wn)) 128 (nI on)) (updA (updA B 59 u.2.1) 61 u.2.2)))) ([.ref h0] : List Value).toArray s ({ frames := 3, cells := 0, slots := 0, locals := 81 } : Room).cells ({ frames := 3, cells := 0, slots := 0, locals := 81 } : Room).slots A) (F0 m 215 ls []) := by
                                    intro n_g
                                    induction n_g with
                                    | zero => intro iq8 tn8 sn8 td8 H locs ls hk_g hn_g; omega
                                    | succ n_g ih_g =>
                                      intro iq8 tn8 sn8 td8 H locs ls hk_g hn_g hm8 hb8 ht8 hs8 hM8 hq8 hP hD hS hl
                                      refine lv_iload_n hx hb dX12_findReachable_215 rfl (lv_at hl 0 rfl) ?_
                                      refine lv_aload_n hx hb dX12_findReachable_216 rfl (lv_at hl 2 rfl) ?_
                                      refine r_get (v := .ref (a 57)) hx hb hown hq hE hP 93 184 tFX12_93 (by decide) pw_1489 rfl dX12_findReachable_217 ?_
                                      refine lv_iload_n hx hb dX12_findReachable_220 rfl (lv_at hl 1 rfl) ?_
                                      refine r_ldi (f := (B 57)) (j := o19) hx hb hE hP 57 (ma_57 G a _) rfl (by omega) (by decide) dX12_findReachable_221 ?_
                                      refine lv_topi (fun x51 e52 => ?_)
                                      obtain rfl : x51 = nI q28 := e52.trans e32
                                      refine lv_icmp_ge (tgt := 261) hx hb dX12_findReachable_222 (by decide) (fun c53 => ?_) (fun c53 => ?_)
                                      · have n54 : q28 ≤ iq8 := (nI_leI (a := q28) (b := iq8) (by omega) (by omega)).mp c53
                                        refine lv_goto (tgt := 321) hx hb dX12_findReachable_261 (by decide) ?_
                                        refine lv_goto (tgt := 176) hx hb dX12_findReachable_321 (by decide) ?_
                                        have hP : va_P G.1 pCl (mW G h0 a (upd (upd (upd (upd (upd F 101 (nI tn8)) 102 (nI op)) 111 (nI tp)) 115 (nI wn)) 128 (nI on)) (updA (updA B 59 sn8) 61 td8)) _ := hP
                                        have hD : va_D A (mW G h0 a (upd (upd (upd (upd (upd F 101 (nI tn8)) 102 (nI op)) 111 (nI tp)) 115 (nI wn)) 128 (nI on)) (updA (updA B 59 sn8) 61 td8)) := mW_D hD
                                        exact ih_f (zq7 + 1) tn8 sn8 td8 _ _ _ (by omega) (by omega) (Mrk.done hm8 (fun v g => by rcases g with ⟨z1, so, q, p, i, z2, z3, z4, z5, z6, zq7, z8, z9, z10⟩ | ⟨k, n, u, p, i, x, z1, z2, z3⟩; have y1 : so = so27 := (nI_eq (by omega) (by omega)).mp (z2.symm.trans e30); have y2 : q = q28 := (nI_eq (by omega) (by omega)).mp (z5.symm.trans e32); have y3 : p = p29 := (nI_eq (by omega) (by omega)).mp (z6.symm.trans e33); rw [z10, y3]; exact hq8 i (by omega); exact absurd (e26.symm.trans z1).symm (nI_m1 (by omega)))) (by omega) ht8 (SnM.trans hs7 hs8) (by omega) hP hD hS (lv_sub hl [2] rfl)
                                      · have n55 : ¬ (q28 ≤ iq8) := fun h9 => c53 ((nI_leI (a := q28) (b := iq8) (by omega) (by omega)).mpr h9)
                                        refine lv_aload_n hx hb dX12_findReachable_225 rfl (lv_at hl 2 rfl) ?_
                                        refine lv_aload_n hx hb dX12_findReachable_226 rfl (lv_at hl 2 rfl) ?_
                                        refine r_get (v := .ref (a 56)) hx hb hown hq hE hP 92 181 tFX12_92 (by decide) pw_1488 rfl dX12_findReachable_227 ?_
                                        refine lv_iload_n hx hb dX12_findReachable_230 rfl (lv_at hl 1 rfl) ?_
                                        refine r_ldi (f := (B 56)) (j := o19) hx hb hE hP 56 (ma_56 G a _) rfl (by omega) (by decide) dX12_findReachable_231 ?_
                                        refine lv_topi (fun x56 e57 => ?_)
                                        obtain rfl : x56 = nI so27 := e57.trans e30
                                        have hP : va_P G.1 pCl (mW G h0 a (upd (upd (upd (upd (upd F 101 (nI tn8)) 102 (nI op)) 111 (nI tp)) 115 (nI wn)) 128 (nI on)) (updA (updA B 59 sn8) 61 td8)) _ := hP
                                        have hD : va_D A (mW G h0 a (upd (upd (upd (upd (upd F 101 (nI tn8)) 102 (nI op)) 111 (nI tp)) 115 (nI wn)) 128 (nI on)) (updA (updA B 59 sn8) 61 td8)) := mW_D hD
                                        refine pc_V0 (G := G) (As := [.int (nI so27)]) (rest := []) hx hb hml hown hq hE hX pX0_al hP hD hS hA hl.1 (R_isReference l G h0 a (upd (upd (upd (upd (upd F 101 (nI tn8)) 102 (nI op)) 111 (nI tp)) 115 (nI wn)) 128 (nI on)) (updA (updA B 59 sn8) 61 td8) so27 (by omega)) (gV pw_1783 pw_1784 pw_1785 pw_1523 pw_1779) hV_X12_isReference 0 9 rfl rfl rfl rfl (Nat.le_of_ble_eq_true rfl) dX12_findReachable_232 ⟨Nat.le_of_ble_eq_true rfl, Nat.le_of_ble_eq_true rfl⟩ ⟨Nat.le_of_ble_eq_true rfl, Nat.le_of_ble_eq_true rfl⟩ (fun v60 u58 H locs hw59 hP hD hS => ?_)
                                        obtain ⟨r61, rfl⟩ : ∃ z, z = u58 := ⟨_, rfl⟩
                                        obtain ⟨hw59, h62, h63, h64⟩ := hw59
                                        replace h62 : r61 ≤ 1 := h62
                                        replace h63 : 3 * r61 ≤ so27 := h63
                                        replace h64 : so27 ≤ 2 + 9000 * r61 := h64
                                        obtain rfl : v60 = some (.int (nI r61)) := hw59
                                        have hP : va_P G.1 pCl (mW G h0 a (upd (upd (upd (upd (upd F 101 (nI tn8)) 102 (nI op)) 111 (nI tp)) 115 (nI wn)) 128 (nI on)) (updA (updA B 59 sn8) 61 td8)) _ := hP
                                        have hD : va_D A (mW G h0 a (upd (upd (upd (upd (upd F 101 (nI tn8)) 102 (nI op)) 111 (nI tp)) 115 (nI wn)) 128 (nI on)) (updA (updA B 59 sn8) 61 td8)) := mW_D hD
                                        refine W.widen (k := 0) (n := 0) (Nat.le_of_ble_eq_true rfl) (Nat.le_of_ble_eq_true rfl) ?_
                                        refine W.eq (g2 := F0 m 235 ls [.int (nI r61)]) rfl ?_
                                        refine lv_if_eq (tgt := 261) hx hb dX12_findReachable_235 (by decide) (fun c65 => ?_) (fun c65 => ?_)
                                        · have n66 : r61 = 0 := (nI_eq (a := r61) (b := 0) (by omega) (by omega)).mp c65
                                          refine lv_goto (tgt := 321) hx hb dX12_findReachable_261 (by decide) ?_
                                          refine lv_goto (tgt := 176) hx hb dX12_findReachable_321 (by decide) ?_
                                          have hP : va_P G.1 pCl (mW G h0 a (upd (upd (upd (upd (upd F 101 (nI tn8)) 102 (nI op)) 111 (nI tp)) 115 (nI wn)) 128 (nI on)) (updA (updA B 59 sn8) 61 td8)) _ := hP
                                          have hD : va_D A (mW G h0 a (upd (upd (upd (upd (upd F 101 (nI tn8)) 102 (nI op)) 111 (nI tp)) 115 (nI wn)) 128 (nI on)) (updA (updA B 59 sn8) 61 td8)) := mW_D hD
                                          exact ih_f (zq7 + 1) tn8 sn8 td8 _ _ _ (by omega) (by omega) (Mrk.done hm8 (fun v g => by rcases g with ⟨z1, so, q, p, i, z2, z3, z4, z5, z6, zq7, z8, z9, z10⟩ | ⟨k, n, u, p, i, x, z1, z2, z3⟩; have y1 : so = so27 := (nI_eq (by omega) (by omega)).mp (z2.symm.trans e30); have y2 : q = q28 := (nI_eq (by omega) (by omega)).mp (z5.symm.trans e32); have y3 : p = p29 := (nI_eq (by omega) (by omega)).mp (z6.symm.trans e33); rw [z10, y3]; exact hq8 i (by omega); exact absurd (e26.symm.trans z1).symm (nI_m1 (by omega)))) (by omega) ht8 (SnM.trans hs7 hs8) (by omega) hP hD hS (lv_sub hl [2] rfl)
                                        · have n67 : ¬ (r61 = 0) := fun h9 => c65 ((nI_eq (a := r61) (b := 0) (by omega) (by omega)).mpr h9)
                                          refine lv_aload_n hx hb dX12_findReachable_238 rfl (lv_at hl 2 rfl) ?_
                                          refine lv_aload_n hx hb dX12_findReachable_239 rfl (lv_at hl 2 rfl) ?_
                                          refine r_get (v := .ref (a 60)) hx hb hown hq hE hP 96 193 tFX12_96 (by decide) pw_1492 rfl dX12_findReachable_240 ?_
                                          refine lv_aload_n hx hb dX12_findReachable_243 rfl (lv_at hl 2 rfl) ?_
                                          refine r_get (v := .ref (a 58)) hx hb hown hq hE hP 94 187 tFX12_94 (by decide) pw_1490 rfl dX12_findReachable_244 ?_
                                          refine lv_iload_n hx hb dX12_findReachable_247 rfl (lv_at hl 1 rfl) ?_
                                          refine r_ldi (f := (B 58)) (j := o19) hx hb hE hP 58 (ma_58 G a _) rfl (by omega) (by decide) dX12_findReachable_248 ?_
                                          refine lv_topi (fun x68 e69 => ?_)
                                          obtain rfl : x68 = nI p29 := e69.trans e33
                                          refine lv_iload_n hx hb dX12_findReachable_249 rfl (lv_at hl 0 rfl) ?_
                                          refine lv_iadd hx hb dX12_findReachable_250 ?_
                                          refine lv_topi (fun x70 e71 => ?_)
                                          obtain rfl : x70 = nI (p29 + iq8) := e71.trans (nI_add (p29) (iq8))
                                          refine r_ldi (f := (B 60)) (j := (p29 + iq8)) hx hb hE hP 60 (ma_60 G a _) rfl (by omega) (by decide) dX12_findReachable_251 ?_
                                          obtain ⟨x72, e73, h74, hr75⟩ := RfV.nat (hr35 (by omega) iq8 (by omega))
                                          refine lv_topi (fun x76 e77 => ?_)
                                          obtain rfl : x76 = nI x72 := e77.trans e73
                                          have hP : va_P G.1 pCl (mW G h0 a (upd (upd (upd (upd (upd (upd F 101 (nI tn8)) 102 (nI op)) 111 (nI tp)) 115 (nI wn)) 128 (nI on)) 101 (nI tn8)) (updA (updA (updA (updA B 59 sn8) 61 td8) 59 sn8) 61 td8)) _ := mW_to (F := F) (l1 := [(101, (nI tn8)), (102, (nI op)), (111, (nI tp)), (115, (nI wn)), (128, (nI on))]) (l2 := [(101, (nI tn8)), (102, (nI op)), (111, (nI tp)), (115, (nI wn)), (128, (nI on)), (101, (nI tn8))]) (V := [(nI tn8), (nI op), (nI tp), (nI wn), (nI on), (nI tn8), (nI op), (nI tp), (nI wn), (nI on), (nI tn8)]) rfl rfl (show (updA (updA B 59 sn8) 61 td8) = (updA (updA (updA (updA B 59 sn8) 61 td8) 59 sn8) 61 td8) from updsA_eq2 (F := B) (l1 := [(59, sn8), (61, td8)]) (l2 := [(59, sn8), (61, td8), (59, sn8), (61, td8)]) (V := [sn8, td8, sn8, td8, sn8, td8]) rfl rfl) hP
                                          have hD : va_D A (mW G h0 a (upd (upd (upd (upd (upd (upd F 101 (nI tn8)) 102 (nI op)) 111 (nI tp)) 115 (nI wn)) 128 (nI on)) 101 (nI tn8)) (updA (updA (updA (updA B 59 sn8) 61 td8) 59 sn8) 61 td8)) := mW_D hD
                                          refine pc_V0 (G := G) (As := [.int (nI x72)]) (rest := []) hx hb hml hown hq hE hX pX0_al hP hD hS hA hl.1 (R_see l G h0 a (upd (upd (upd (upd (upd F 101 (nI tn8)) 102 (nI op)) 111 (nI tp)) 115 (nI wn)) 128 (nI on)) (updA (updA B 59 sn8) 61 td8) x72 tn8 sn8 td8 h74 ht8) (gV pw_1971 pw_1972 pw_1973 pw_1523 pw_1966) hV_X12_see 0 9 rfl rfl rfl rfl (Nat.le_of_ble_eq_true rfl) dX12_findReachable_252 ⟨Nat.le_of_ble_eq_true rfl, Nat.le_of_ble_eq_true rfl⟩ ⟨Nat.le_of_ble_eq_true rfl, Nat.le_of_ble_eq_true rfl⟩ (fun v80 u78 H locs hw79 hP hD hS => ?_)
                                          obtain ⟨tn81, sn82, td83⟩ := u78
                                          obtain ⟨hw79, h84, h85⟩ := hw79
                                          replace h84 : tn81 ≤ cntS sn82 3000 := h84
                                          replace h85 : (sn82 = sn8 ∧ td83 = td8 ∧ tn81 = tn8 ∧ (x72 = 0 ∨ 4001 ≤ x72 ∨ ¬ sn8 (x72 - 1) = 0)) ∨ (1 ≤ x72 ∧ x72 ≤ 3000 ∧ sn8 (x72 - 1) = 0 ∧ sn82 = upd sn8 (x72 - 1) 1 ∧ td83 = upd td8 tn8 (nI (x72 - 1)) ∧ tn81 = tn8 + 1) := h85
                                          obtain rfl : v80 = none := hw79
                                          have hP : va_P G.1 pCl (mW G h0 a (upd (upd (upd (upd (upd F 101 (nI tn81)) 102 (nI op)) 111 (nI tp)) 115 (nI wn)) 128 (nI on)) (updA (updA B 59 sn82) 61 td83)) _ := mW_to (F := F) (l1 := [(101, (nI tn8)), (102, (nI op)), (111, (nI tp)), (115, (nI wn)), (128, (nI on)), (101, (nI tn81))]) (l2 := [(101, (nI tn81)), (102, (nI op)), (111, (nI tp)), (115, (nI wn)), (128, (nI on))]) (V := [(nI tn81), (nI op), (nI tp), (nI wn), (nI on), (nI tn81), (nI tn81), (nI op), (nI tp), (nI wn), (nI on)]) rfl rfl (show (updA (updA (updA (updA B 59 sn8) 61 td8) 59 sn82) 61 td83) = (updA (updA B 59 sn82) 61 td83) from updsA_eq2 (F := B) (l1 := [(59, sn8), (61, td8), (59, sn82), (61, td83)]) (l2 := [(59, sn82), (61, td83)]) (V := [sn82, td83, sn82, td83, sn82, td83]) rfl rfl) hP
                                          have hD : va_D A (mW G h0 a (upd (upd (upd (upd (upd F 101 (nI tn81)) 102 (nI op)) 111 (nI tp)) 115 (nI wn)) 128 (nI on)) (updA (updA B 59 sn82) 61 td83)) := mW_D hD
                                          refine W.widen (k := 0) (n := 0) (Nat.le_of_ble_eq_true rfl) (Nat.le_of_ble_eq_true rfl) ?_
                                          refine W.eq (g2 := F0 m 255 ls []) rfl ?_
                                          have h86 := Nat.le_trans h84 (cntS_le 3000)
                                          obtain ⟨hm87, hs88, hr89⟩ := Mrk.see hm8 hr75 h74 h85
                                          refine lv_iinc (v := (nI (iq8 + 1))) (lv' := [(2, .int (nI (iq8 + 1))), (1, .int (nI o19)), (0, .ref h0)]) hx hb dX12_findReachable_255 hl (k := 0) rfl (nI_1 iq8) (by decide) rfl (fun ls hl => ?_)
                                          refine lv_goto (tgt := 215) hx hb dX12_findReachable_258 (by decide) ?_
                                          have hP : va_P G.1 pCl (mW G h0 a (upd (upd (upd (upd (upd F 101 (nI tn81)) 102 (nI op)) 111 (nI tp)) 115 (nI wn)) 128 (nI on)) (updA (updA B 59 sn82) 61 td83)) _ := hP
                                          have hD : va_D A (mW G h0 a (upd (upd (upd (upd (upd F 101 (nI tn81)) 102 (nI op)) 111 (nI tp)) 115 (nI wn)) 128 (nI on)) (updA (updA B 59 sn82) 61 td83)) := mW_D hD
                                          exact ih_g (iq8 + 1) tn81 sn82 td83 _ _ _ (by omega) (by omega) hm87 (by omega) h84 (SnM.trans hs8 hs88) (Nat.le_trans (see_msr h85) hM8) (fun i h => by by_cases z : i = iq8; rw [z]; exact (by rw [e73]; exact hr89); exact (hq8 i (by omega)).mono hs88) hP hD hS (lv_sub hl [0, 1, 2] rfl)
                                  have hP : va_P G.1 pCl (mW G h0 a (upd (upd (upd (upd (upd F 101 (nI (tn7 - 1))) 102 (nI op)) 111 (nI tp)) 115 (nI wn)) 128 (nI on)) (updA (updA B 59 sn7) 61 td7)) _ := mW_to (F := F) (l1 := [(101, (nI tn7)), (102, (nI op)), (111, (nI tp)), (115, (nI wn)), (128, (nI on)), (101, (nI (tn7 - 1)))]) (l2 := [(101, (nI (tn7 - 1))), (102, (nI op)), (111, (nI tp)), (115, (nI wn)), (128, (nI on))]) (V := [(nI (tn7 - 1)), (nI op), (nI tp), (nI wn), (nI on), (nI (tn7 - 1)), (nI (tn7 - 1)), (nI op), (nI tp), (nI wn), (nI on)]) rfl rfl rfl hP
                                  have hD : va_D A (mW G h0 a (upd (upd (upd (upd (upd F 101 (nI (tn7 - 1))) 102 (nI op)) 111 (nI tp)) 115 (nI wn)) 128 (nI on)) (updA (updA B 59 sn7) 61 td7)) := mW_D hD
                                  exact loop_g (q28 + 1) 0 (tn7 - 1) sn7 td7 _ _ _ (by omega) (by omega) hmp (by omega) (by omega) SnM.rfl (by omega) (fun i h => absurd h (by omega)) hP hD hS (lv_sub hl [0, 1, 2] rfl)
                                · refine lv_topi (fun x90 e91 => ?_)
                                  obtain rfl : x90 = nI k36 := e91.trans e40
                                  refine lv_iconst (v := (-1)) hx hb dX12_findReachable_209 (by decide) ?_
                                  refine lv_icmp_ne (tgt := 264) hx hb dX12_findReachable_210 (by decide) (fun c92 => ?_) (fun c92 => absurd c92 (nI_m1 (by omega)))
                                  refine lv_iconst (v := 0) hx hb dX12_findReachable_264 (by decide) ?_
                                  refine lv_istore_n (lv' := [(2, .int 0), (1, .int (nI o19)), (0, .ref h0)]) hx hb dX12_findReachable_265 rfl hl (by decide) rfl (fun ls hl => ?_)
                                  have loop_h : ∀ (n_h : Nat) (iq8 : Nat) (tn8 : Nat) (sn8 : Nat → Int32) (td8 : Nat → Int32) (H : Heap) (locs : List Loc) (ls : Array Slot), iq8 ≤ n37 → n37 + 1 ≤ iq8 + n_h → (Mrk (B 73) sn8 td8 on tn8 o19 (Chd (B 55) (B 56) (B 57) (B 58) (B 60) (B 75) (B 76) (B 77))) → (tn8 ≤ 3000) → (tn8 ≤ cntS sn8 3000) → (SnM sn7 sn8) → (msr sn8 tn8 ≤ msr sn7 (tn7 - 1)) → (∀ i v : Nat, i < iq8 → B 77 (u38 + i) = nI v → v ≤ 3100 → RfS sn8 (B 60 (p39 + v))) → va_P G.1 pCl (mW G h0 a (upd (upd (upd (upd (upd F 101 (nI tn8)) 102 (nI op)) 111 (nI tp)) 115 (nI wn)) 128 (nI on)) (updA (updA B 59 sn8) 61 td8)) H → va_D A (mW G h0 a (upd (upd (upd (upd (upd F 101 (nI tn8)) 102 (nI op)) 111 (nI tp)) 115 (nI wn)) 128 (nI on)) (updA (updA B 59 sn8) 61 td8)) → va_S A s.heap H locs → lv_has ls 3 [(2, .int (nI iq8)), (1, .int (nI o19)), (0, .ref h0)] → W p l e (headSpec (Cond.code yX12_findReachable cX12_findReachable 3 none :: pw) ({ frames := 3, cells := 0, slots := 0, locals := 81 } : Room)).room s m ([.ref h0] : List Value).toArray below meth c H locs 0 0 (MQ below (pQ G A (fun (v : Option Value) (u : Nat × (Nat → Int32) × (Nat → Int32)) => v = none ∧ (∀ c : Nat, c < op → RfS u.2.1 (B 62 c)) ∧ (∀ c s v : Nat, c < op → B 63 c = nI s → s ≤ 30 → v < s → ¬ B 67 (32 * c + v) = 0 → RfS u.2.1 (B 66 (32 * c + v))) ∧ (∀ k : Nat, k < tp → ¬ B 69 k = 0 → RfS u.2.1 (B 68 k)) ∧ (∀ k : Nat, k < wn → ¬ B 72 k = 0 → RfS u.2.1 (B 71 k)) ∧ (∀ o : Nat, o < 3000 → Lvd (B 73) on o → ¬ u.2.1 o = 0 → ∀ v : Int32, (Chd (B 55) (B 56) (B 57) (B 58) (B 60) (B 75) (B 76) (B 77)) o v → RfS u.2.1 v)) (fun u => (mW G h0 a (upd (upd (upd (upd (upd F 101 (nI u.1)) 102 (nI op)) 111 (nI tp)) 115 (nI wn)) 128 (nI on)) (updA (updA B 59 u.2.1) 61 u.2.2)))) ([.ref h0] : List Value).toArray s ({ frames := 3, cells := 0, slots := 0, locals := 81 } : Room).cells ({ frames := 3, cells := 0, slots := 0, locals := 81 } : Room).slots A) (F0 m 266 ls []) := by
                                    intro n_h
                                    induction n_h with
                                    | zero => intro iq8 tn8 sn8 td8 H locs ls hk_h hn_h; omega
                                    | succ n_h ih_h =>
                                      intro iq8 tn8 sn8 td8 H locs ls hk_h hn_h hm8 hb8 ht8 hs8 hM8 hq8 hP hD hS hl
                                      refine lv_iload_n hx hb dX12_findReachable_266 rfl (lv_at hl 0 rfl) ?_
                                      refine lv_aload_n hx hb dX12_findReachable_267 rfl (lv_at hl 2 rfl) ?_
                                      refine r_get (v := .ref (a 76)) hx hb hown hq hE hP 132 246 tFX12_132 (by decide) pw_1510 rfl dX12_findReachable_268 ?_
                                      refine lv_aload_n hx hb dX12_findReachable_271 rfl (lv_at hl 2 rfl) ?_
                                      refine r_get (v := .ref (a 55)) hx hb hown hq hE hP 91 178 tFX12_91 (by decide) pw_1487 rfl dX12_findReachable_272 ?_
                                      refine lv_iload_n hx hb dX12_findReachable_275 rfl (lv_at hl 1 rfl) ?_
                                      refine r_ldi (f := (B 55)) (j := o19) hx hb hE hP 55 (ma_55 G a _) rfl (by omega) (by decide) dX12_findReachable_276 ?_
                                      refine lv_topi (fun x93 e94 => ?_)
                                      obtain rfl : x93 = nI k36 := e94.trans e40
                                      refine r_ldi (f := (B 76)) (j := k36) hx hb hE hP 76 (ma_76 G a _) rfl (by omega) (by decide) dX12_findReachable_277 ?_
                                      refine lv_topi (fun x95 e96 => ?_)
                                      obtain rfl : x95 = nI n37 := e96.trans e42
                                      refine lv_icmp_ge (tgt := 321) hx hb dX12_findReachable_278 (by decide) (fun c97 => ?_) (fun c97 => ?_)
                                      · have n98 : n37 ≤ iq8 := (nI_leI (a := n37) (b := iq8) (by omega) (by omega)).mp c97
                                        refine lv_goto (tgt := 176) hx hb dX12_findReachable_321 (by decide) ?_
                                        have hP : va_P G.1 pCl (mW G h0 a (upd (upd (upd (upd (upd F 101 (nI tn8)) 102 (nI op)) 111 (nI tp)) 115 (nI wn)) 128 (nI on)) (updA (updA B 59 sn8) 61 td8)) _ := hP
                                        have hD : va_D A (mW G h0 a (upd (upd (upd (upd (upd F 101 (nI tn8)) 102 (nI op)) 111 (nI tp)) 115 (nI wn)) 128 (nI on)) (updA (updA B 59 sn8) 61 td8)) := mW_D hD
                                        exact ih_f (zq7 + 1) tn8 sn8 td8 _ _ _ (by omega) (by omega) (Mrk.done hm8 (fun v g => by rcases g with ⟨z1, _⟩ | ⟨k, n, u, p, i, x, z1, z2, z3, z4, z5, z6, zq7, z8, z9, z10, z11, z12⟩; exact absurd (z1.symm.trans e40).symm (nI_m1 (by omega)); have y0 : k = k36 := (nI_eq (by omega) (by omega)).mp (z1.symm.trans e40); rw [y0] at z3 z4; have y1 : n = n37 := (nI_eq (by omega) (by omega)).mp (z3.symm.trans e42); have y2 : u = u38 := (nI_eq (by omega) (by omega)).mp (z4.symm.trans e43); have y3 : p = p39 := (nI_eq (by omega) (by omega)).mp (z5.symm.trans e45); rw [z12, y3]; exact hq8 i x (by omega) (by rw [← y2]; exact z10) z11)) (by omega) ht8 (SnM.trans hs7 hs8) (by omega) hP hD hS (lv_sub hl [2] rfl)
                                      · have n99 : ¬ (n37 ≤ iq8) := fun h9 => c97 ((nI_leI (a := n37) (b := iq8) (by omega) (by omega)).mpr h9)
                                        refine lv_aload_n hx hb dX12_findReachable_281 rfl (lv_at hl 2 rfl) ?_
                                        refine lv_aload_n hx hb dX12_findReachable_282 rfl (lv_at hl 2 rfl) ?_
                                        refine r_get (v := .ref (a 60)) hx hb hown hq hE hP 96 193 tFX12_96 (by decide) pw_1492 rfl dX12_findReachable_283 ?_
                                        refine lv_aload_n hx hb dX12_findReachable_286 rfl (lv_at hl 2 rfl) ?_
                                        refine r_get (v := .ref (a 58)) hx hb hown hq hE hP 94 187 tFX12_94 (by decide) pw_1490 rfl dX12_findReachable_287 ?_
                                        refine lv_iload_n hx hb dX12_findReachable_290 rfl (lv_at hl 1 rfl) ?_
                                        refine r_ldi (f := (B 58)) (j := o19) hx hb hE hP 58 (ma_58 G a _) rfl (by omega) (by decide) dX12_findReachable_291 ?_
                                        refine lv_topi (fun x100 e101 => ?_)
                                        obtain rfl : x100 = nI p39 := e101.trans e45
                                        refine lv_aload_n hx hb dX12_findReachable_292 rfl (lv_at hl 2 rfl) ?_
                                        refine r_get (v := .ref (a 77)) hx hb hown hq hE hP 133 249 tFX12_133 (by decide) pw_1511 rfl dX12_findReachable_293 ?_
                                        refine lv_aload_n hx hb dX12_findReachable_296 rfl (lv_at hl 2 rfl) ?_
                                        refine r_get (v := .ref (a 75)) hx hb hown hq hE hP 131 243 tFX12_131 (by decide) pw_1509 rfl dX12_findReachable_297 ?_
                                        refine lv_aload_n hx hb dX12_findReachable_300 rfl (lv_at hl 2 rfl) ?_
                                        refine r_get (v := .ref (a 55)) hx hb hown hq hE hP 91 178 tFX12_91 (by decide) pw_1487 rfl dX12_findReachable_301 ?_
                                        refine lv_iload_n hx hb dX12_findReachable_304 rfl (lv_at hl 1 rfl) ?_
                                        refine r_ldi (f := (B 55)) (j := o19) hx hb hE hP 55 (ma_55 G a _) rfl (by omega) (by decide) dX12_findReachable_305 ?_
                                        refine lv_topi (fun x102 e103 => ?_)
                                        obtain rfl : x102 = nI k36 := e103.trans e40
                                        refine r_ldi (f := (B 75)) (j := k36) hx hb hE hP 75 (ma_75 G a _) rfl (by omega) (by decide) dX12_findReachable_306 ?_
                                        refine lv_topi (fun x104 e105 => ?_)
                                        obtain rfl : x104 = nI u38 := e105.trans e43
                                        refine lv_iload_n hx hb dX12_findReachable_307 rfl (lv_at hl 0 rfl) ?_
                                        refine lv_iadd hx hb dX12_findReachable_308 ?_
                                        refine lv_topi (fun x106 e107 => ?_)
                                        obtain rfl : x106 = nI (u38 + iq8) := e107.trans (nI_add (u38) (iq8))
                                        refine r_ldi (f := (B 77)) (j := (u38 + iq8)) hx hb hE hP 77 (ma_77 G a _) rfl (by omega) (by decide) dX12_findReachable_309 ?_
                                        obtain ⟨x108, e109, h110, hr111⟩ := hr47 iq8 (by omega)
                                        refine lv_topi (fun x112 e113 => ?_)
                                        obtain rfl : x112 = nI x108 := e113.trans e109
                                        refine lv_iadd hx hb dX12_findReachable_310 ?_
                                        refine lv_topi (fun x114 e115 => ?_)
                                        obtain rfl : x114 = nI (p39 + x108) := e115.trans (nI_add (p39) (x108))
                                        refine r_ldi (f := (B 60)) (j := (p39 + x108)) hx hb hE hP 60 (ma_60 G a _) rfl (by omega) (by decide) dX12_findReachable_311 ?_
                                        obtain ⟨x116, e117, h118, hr119⟩ := RfV.nat (hr111)
                                        refine lv_topi (fun x120 e121 => ?_)
                                        obtain rfl : x120 = nI x116 := e121.trans e117
                                        have hP : va_P G.1 pCl (mW G h0 a (upd (upd (upd (upd (upd (upd F 101 (nI tn8)) 102 (nI op)) 111 (nI tp)) 115 (nI wn)) 128 (nI on)) 101 (nI tn8)) (updA (updA (updA (updA B 59 sn8) 61 td8) 59 sn8) 61 td8)) _ := mW_to (F := F) (l1 := [(101, (nI tn8)), (102, (nI op)), (111, (nI tp)), (115, (nI wn)), (128, (nI on))]) (l2 := [(101, (nI tn8)), (102, (nI op)), (111, (nI tp)), (115, (nI wn)), (128, (nI on)), (101, (nI tn8))]) (V := [(nI tn8), (nI op), (nI tp), (nI wn), (nI on), (nI tn8), (nI op), (nI tp), (nI wn), (nI on), (nI tn8)]) rfl rfl (show (updA (updA B 59 sn8) 61 td8) = (updA (updA (updA (updA B 59 sn8) 61 td8) 59 sn8) 61 td8) from updsA_eq2 (F := B) (l1 := [(59, sn8), (61, td8)]) (l2 := [(59, sn8), (61, td8), (59, sn8), (61, td8)]) (V := [sn8, td8, sn8, td8, sn8, td8]) rfl rfl) hP
                                        have hD : va_D A (mW G h0 a (upd (upd (upd (upd (upd (upd F 101 (nI tn8)) 102 (nI op)) 111 (nI tp)) 115 (nI wn)) 128 (nI on)) 101 (nI tn8)) (updA (updA (updA (updA B 59 sn8) 61 td8) 59 sn8) 61 td8)) := mW_D hD
                                        refine pc_V0 (G := G) (As := [.int (nI x116)]) (rest := []) hx hb hml hown hq hE hX pX0_al hP hD hS hA hl.1 (R_see l G h0 a (upd (upd (upd (upd (upd F 101 (nI tn8)) 102 (nI op)) 111 (nI tp)) 115 (nI wn)) 128 (nI on)) (updA (updA B 59 sn8) 61 td8) x116 tn8 sn8 td8 h118 ht8) (gV pw_1971 pw_1972 pw_1973 pw_1523 pw_1966) hV_X12_see 0 9 rfl rfl rfl rfl (Nat.le_of_ble_eq_true rfl) dX12_findReachable_312 ⟨Nat.le_of_ble_eq_true rfl, Nat.le_of_ble_eq_true rfl⟩ ⟨Nat.le_of_ble_eq_true rfl, Nat.le_of_ble_eq_true rfl⟩ (fun v124 u122 H locs hw123 hP hD hS => ?_)
                                        obtain ⟨tn125, sn126, td127⟩ := u122
                                        obtain ⟨hw123, h128, h129⟩ := hw123
                                        replace h128 : tn125 ≤ cntS sn126 3000 := h128
                                        replace h129 : (sn126 = sn8 ∧ td127 = td8 ∧ tn125 = tn8 ∧ (x116 = 0 ∨ 4001 ≤ x116 ∨ ¬ sn8 (x116 - 1) = 0)) ∨ (1 ≤ x116 ∧ x116 ≤ 3000 ∧ sn8 (x116 - 1) = 0 ∧ sn126 = upd sn8 (x116 - 1) 1 ∧ td127 = upd td8 tn8 (nI (x116 - 1)) ∧ tn125 = tn8 + 1) := h129
                                        obtain rfl : v124 = none := hw123
                                        have hP : va_P G.1 pCl (mW G h0 a (upd (upd (upd (upd (upd F 101 (nI tn125)) 102 (nI op)) 111 (nI tp)) 115 (nI wn)) 128 (nI on)) (updA (updA B 59 sn126) 61 td127)) _ := mW_to (F := F) (l1 := [(101, (nI tn8)), (102, (nI op)), (111, (nI tp)), (115, (nI wn)), (128, (nI on)), (101, (nI tn125))]) (l2 := [(101, (nI tn125)), (102, (nI op)), (111, (nI tp)), (115, (nI wn)), (128, (nI on))]) (V := [(nI tn125), (nI op), (nI tp), (nI wn), (nI on), (nI tn125), (nI tn125), (nI op), (nI tp), (nI wn), (nI on)]) rfl rfl (show (updA (updA (updA (updA B 59 sn8) 61 td8) 59 sn126) 61 td127) = (updA (updA B 59 sn126) 61 td127) from updsA_eq2 (F := B) (l1 := [(59, sn8), (61, td8), (59, sn126), (61, td127)]) (l2 := [(59, sn126), (61, td127)]) (V := [sn126, td127, sn126, td127, sn126, td127]) rfl rfl) hP
                                        have hD : va_D A (mW G h0 a (upd (upd (upd (upd (upd F 101 (nI tn125)) 102 (nI op)) 111 (nI tp)) 115 (nI wn)) 128 (nI on)) (updA (updA B 59 sn126) 61 td127)) := mW_D hD
                                        refine W.widen (k := 0) (n := 0) (Nat.le_of_ble_eq_true rfl) (Nat.le_of_ble_eq_true rfl) ?_
                                        refine W.eq (g2 := F0 m 315 ls []) rfl ?_
                                        have h130 := Nat.le_trans h128 (cntS_le 3000)
                                        obtain ⟨hm131, hs132, hr133⟩ := Mrk.see hm8 hr119 h118 h129
                                        refine lv_iinc (v := (nI (iq8 + 1))) (lv' := [(2, .int (nI (iq8 + 1))), (1, .int (nI o19)), (0, .ref h0)]) hx hb dX12_findReachable_315 hl (k := 0) rfl (nI_1 iq8) (by decide) rfl (fun ls hl => ?_)
                                        refine lv_goto (tgt := 266) hx hb dX12_findReachable_318 (by decide) ?_
                                        have hP : va_P G.1 pCl (mW G h0 a (upd (upd (upd (upd (upd F 101 (nI tn125)) 102 (nI op)) 111 (nI tp)) 115 (nI wn)) 128 (nI on)) (updA (updA B 59 sn126) 61 td127)) _ := hP
                                        have hD : va_D A (mW G h0 a (upd (upd (upd (upd (upd F 101 (nI tn125)) 102 (nI op)) 111 (nI tp)) 115 (nI wn)) 128 (nI on)) (updA (updA B 59 sn126) 61 td127)) := mW_D hD
                                        exact ih_h (iq8 + 1) tn125 sn126 td127 _ _ _ (by omega) (by omega) hm131 (by omega) h128 (SnM.trans hs8 hs132) (Nat.le_trans (see_msr h129) hM8) (fun i v h1 h2 h3 => by by_cases z : i = iq8; rw [z] at h2; have y : v = x108 := (nI_eq (by omega) (by omega)).mp (h2.symm.trans e109); rw [y]; exact (by rw [e117]; exact hr133); exact (hq8 i v (by omega) h2 h3).mono hs132) hP hD hS (lv_sub hl [0, 1, 2] rfl)
                                  have hP : va_P G.1 pCl (mW G h0 a (upd (upd (upd (upd (upd F 101 (nI (tn7 - 1))) 102 (nI op)) 111 (nI tp)) 115 (nI wn)) 128 (nI on)) (updA (updA B 59 sn7) 61 td7)) _ := mW_to (F := F) (l1 := [(101, (nI tn7)), (102, (nI op)), (111, (nI tp)), (115, (nI wn)), (128, (nI on)), (101, (nI (tn7 - 1)))]) (l2 := [(101, (nI (tn7 - 1))), (102, (nI op)), (111, (nI tp)), (115, (nI wn)), (128, (nI on))]) (V := [(nI (tn7 - 1)), (nI op), (nI tp), (nI wn), (nI on), (nI (tn7 - 1)), (nI (tn7 - 1)), (nI op), (nI tp), (nI wn), (nI on)]) rfl rfl rfl hP
                                  have hD : va_D A (mW G h0 a (upd (upd (upd (upd (upd F 101 (nI (tn7 - 1))) 102 (nI op)) 111 (nI tp)) 115 (nI wn)) 128 (nI on)) (updA (updA B 59 sn7) 61 td7)) := mW_D hD
                                  exact loop_h (n37 + 1) 0 (tn7 - 1) sn7 td7 _ _ _ (by omega) (by omega) hmp (by omega) (by omega) SnM.rfl (by omega) (fun i v h => absurd h (by omega)) hP hD hS (lv_sub hl [0, 1, 2] rfl)
                          have hP : va_P G.1 pCl (mW G h0 a (upd (upd (upd (upd (upd F 101 (nI tn6)) 102 (nI op)) 111 (nI tp)) 115 (nI wn)) 128 (nI on)) (updA (updA B 59 sn6) 61 td6)) _ := hP
                          have hD : va_D A (mW G h0 a (upd (upd (upd (upd (upd F 101 (nI tn6)) 102 (nI op)) 111 (nI tp)) 115 (nI wn)) 128 (nI on)) (updA (updA B 59 sn6) 61 td6)) := mW_D hD
                          exact loop_f (9000 + 1) 0 tn6 sn6 td6 _ _ _ (by omega) (by omega) hm6 (by omega) ht6 SnM.rfl (by unfold msr; have := cntS_le (sn := sn6) 3000; omega) hP hD hS (lv_sub hl [1] rfl)
                        · have n134 : ¬ (wn ≤ kq6) := fun h9 => c7 ((nI_leI (a := wn) (b := kq6) (by omega) (by omega)).mpr h9)
                          refine lv_aload_n hx hb dX12_findReachable_151 rfl (lv_at hl 1 rfl) ?_
                          refine r_get (v := .ref (a 72)) hx hb hown hq hE hP 114 230 tFX12_114 (by decide) pw_1505 rfl dX12_findReachable_152 ?_
                          refine lv_iload_n hx hb dX12_findReachable_155 rfl (lv_at hl 0 rfl) ?_
                          refine r_ldz (f := (B 72)) (j := kq6) hx hb hE hP 72 (ma_72 G a _) rfl (by omega) (by decide) dX12_findReachable_156 ?_
                          refine lv_if_eq (tgt := 170) hx hb dX12_findReachable_157 (by decide) (fun c135 => ?_) (fun c135 => ?_)
                          · refine lv_iinc (v := (nI (kq6 + 1))) (lv' := [(1, .int (nI (kq6 + 1))), (0, .ref h0)]) hx hb dX12_findReachable_170 hl (k := 0) rfl (nI_1 kq6) (by decide) rfl (fun ls hl => ?_)
                            refine lv_goto (tgt := 143) hx hb dX12_findReachable_173 (by decide) ?_
                            have hP : va_P G.1 pCl (mW G h0 a (upd (upd (upd (upd (upd F 101 (nI tn6)) 102 (nI op)) 111 (nI tp)) 115 (nI wn)) 128 (nI on)) (updA (updA B 59 sn6) 61 td6)) _ := hP
                            have hD : va_D A (mW G h0 a (upd (upd (upd (upd (upd F 101 (nI tn6)) 102 (nI op)) 111 (nI tp)) 115 (nI wn)) 128 (nI on)) (updA (updA B 59 sn6) 61 td6)) := mW_D hD
                            exact ih_e (kq6 + 1) tn6 sn6 td6 _ _ _ (by omega) (by omega) hm6 (by omega) ht6 hs6 (fun j h g => by by_cases z : j = kq6; rw [z] at g; exact absurd c135 g; exact hk6 j (by omega) g) hP hD hS (lv_sub hl [0, 1] rfl)
                          · refine lv_aload_n hx hb dX12_findReachable_160 rfl (lv_at hl 1 rfl) ?_
                            refine lv_aload_n hx hb dX12_findReachable_161 rfl (lv_at hl 1 rfl) ?_
                            refine r_get (v := .ref (a 71)) hx hb hown hq hE hP 113 227 tFX12_113 (by decide) pw_1504 rfl dX12_findReachable_162 ?_
                            refine lv_iload_n hx hb dX12_findReachable_165 rfl (lv_at hl 0 rfl) ?_
                            refine r_ldi (f := (B 71)) (j := kq6) hx hb hE hP 71 (ma_71 G a _) rfl (by omega) (by decide) dX12_findReachable_166 ?_
                            obtain ⟨x136, e137, h138, hr139⟩ := RfV.nat (hwt kq6 (by omega) c135)
                            refine lv_topi (fun x140 e141 => ?_)
                            obtain rfl : x140 = nI x136 := e141.trans e137
                            have hP : va_P G.1 pCl (mW G h0 a (upd (upd (upd (upd (upd (upd F 101 (nI tn6)) 102 (nI op)) 111 (nI tp)) 115 (nI wn)) 128 (nI on)) 101 (nI tn6)) (updA (updA (updA (updA B 59 sn6) 61 td6) 59 sn6) 61 td6)) _ := mW_to (F := F) (l1 := [(101, (nI tn6)), (102, (nI op)), (111, (nI tp)), (115, (nI wn)), (128, (nI on))]) (l2 := [(101, (nI tn6)), (102, (nI op)), (111, (nI tp)), (115, (nI wn)), (128, (nI on)), (101, (nI tn6))]) (V := [(nI tn6), (nI op), (nI tp), (nI wn), (nI on), (nI tn6), (nI op), (nI tp), (nI wn), (nI on), (nI tn6)]) rfl rfl (show (updA (updA B 59 sn6) 61 td6) = (updA (updA (updA (updA B 59 sn6) 61 td6) 59 sn6) 61 td6) from updsA_eq2 (F := B) (l1 := [(59, sn6), (61, td6)]) (l2 := [(59, sn6), (61, td6), (59, sn6), (61, td6)]) (V := [sn6, td6, sn6, td6, sn6, td6]) rfl rfl) hP
                            have hD : va_D A (mW G h0 a (upd (upd (upd (upd (upd (upd F 101 (nI tn6)) 102 (nI op)) 111 (nI tp)) 115 (nI wn)) 128 (nI on)) 101 (nI tn6)) (updA (updA (updA (updA B 59 sn6) 61 td6) 59 sn6) 61 td6)) := mW_D hD
                            refine pc_V0 (G := G) (As := [.int (nI x136)]) (rest := []) hx hb hml hown hq hE hX pX0_al hP hD hS hA hl.1 (R_see l G h0 a (upd (upd (upd (upd (upd F 101 (nI tn6)) 102 (nI op)) 111 (nI tp)) 115 (nI wn)) 128 (nI on)) (updA (updA B 59 sn6) 61 td6) x136 tn6 sn6 td6 h138 ht6) (gV pw_1971 pw_1972 pw_1973 pw_1523 pw_1966) hV_X12_see 0 9 rfl rfl rfl rfl (Nat.le_of_ble_eq_true rfl) dX12_findReachable_167 ⟨Nat.le_of_ble_eq_true rfl, Nat.le_of_ble_eq_true rfl⟩ ⟨Nat.le_of_ble_eq_true rfl, Nat.le_of_ble_eq_true rfl⟩ (fun v144 u142 H locs hw143 hP hD hS => ?_)
                            obtain ⟨tn145, sn146, td147⟩ := u142
                            obtain ⟨hw143, h148, h149⟩ := hw143
                            replace h148 : tn145 ≤ cntS sn146 3000 := h148
                            replace h149 : (sn146 = sn6 ∧ td147 = td6 ∧ tn145 = tn6 ∧ (x136 = 0 ∨ 4001 ≤ x136 ∨ ¬ sn6 (x136 - 1) = 0)) ∨ (1 ≤ x136 ∧ x136 ≤ 3000 ∧ sn6 (x136 - 1) = 0 ∧ sn146 = upd sn6 (x136 - 1) 1 ∧ td147 = upd td6 tn6 (nI (x136 - 1)) ∧ tn145 = tn6 + 1) := h149
                            obtain rfl : v144 = none := hw143
                            have hP : va_P G.1 pCl (mW G h0 a (upd (upd (upd (upd (upd F 101 (nI tn145)) 102 (nI op)) 111 (nI tp)) 115 (nI wn)) 128 (nI on)) (updA (updA B 59 sn146) 61 td147)) _ := mW_to (F := F) (l1 := [(101, (nI tn6)), (102, (nI op)), (111, (nI tp)), (115, (nI wn)), (128, (nI on)), (101, (nI tn145))]) (l2 := [(101, (nI tn145)), (102, (nI op)), (111, (nI tp)), (115, (nI wn)), (128, (nI on))]) (V := [(nI tn145), (nI op), (nI tp), (nI wn), (nI on), (nI tn145), (nI tn145), (nI op), (nI tp), (nI wn), (nI on)]) rfl rfl (show (updA (updA (updA (updA B 59 sn6) 61 td6) 59 sn146) 61 td147) = (updA (updA B 59 sn146) 61 td147) from updsA_eq2 (F := B) (l1 := [(59, sn6), (61, td6), (59, sn146), (61, td147)]) (l2 := [(59, sn146), (61, td147)]) (V := [sn146, td147, sn146, td147, sn146, td147]) rfl rfl) hP
                            have hD : va_D A (mW G h0 a (upd (upd (upd (upd (upd F 101 (nI tn145)) 102 (nI op)) 111 (nI tp)) 115 (nI wn)) 128 (nI on)) (updA (updA B 59 sn146) 61 td147)) := mW_D hD
                            refine W.widen (k := 0) (n := 0) (Nat.le_of_ble_eq_true rfl) (Nat.le_of_ble_eq_true rfl) ?_
                            refine W.eq (g2 := F0 m 170 ls []) rfl ?_
                            have h150 := Nat.le_trans h148 (cntS_le 3000)
                            obtain ⟨hm151, hs152, hr153⟩ := Mrk.see hm6 hr139 h138 h149
                            refine lv_iinc (v := (nI (kq6 + 1))) (lv' := [(1, .int (nI (kq6 + 1))), (0, .ref h0)]) hx hb dX12_findReachable_170 hl (k := 0) rfl (nI_1 kq6) (by decide) rfl (fun ls hl => ?_)
                            refine lv_goto (tgt := 143) hx hb dX12_findReachable_173 (by decide) ?_
                            have hP : va_P G.1 pCl (mW G h0 a (upd (upd (upd (upd (upd F 101 (nI tn145)) 102 (nI op)) 111 (nI tp)) 115 (nI wn)) 128 (nI on)) (updA (updA B 59 sn146) 61 td147)) _ := hP
                            have hD : va_D A (mW G h0 a (upd (upd (upd (upd (upd F 101 (nI tn145)) 102 (nI op)) 111 (nI tp)) 115 (nI wn)) 128 (nI on)) (updA (updA B 59 sn146) 61 td147)) := mW_D hD
                            exact ih_e (kq6 + 1) tn145 sn146 td147 _ _ _ (by omega) (by omega) hm151 (by omega) h148 (SnM.trans hs6 hs152) (fun j h g => by by_cases z : j = kq6; rw [z]; exact (by rw [e137]; exact hr153); exact (hk6 j (by omega) g).mono hs152) hP hD hS (lv_sub hl [0, 1] rfl)
                    have hP : va_P G.1 pCl (mW G h0 a (upd (upd (upd (upd (upd F 101 (nI tn5)) 102 (nI op)) 111 (nI tp)) 115 (nI wn)) 128 (nI on)) (updA (updA B 59 sn5) 61 td5)) _ := hP
                    have hD : va_D A (mW G h0 a (upd (upd (upd (upd (upd F 101 (nI tn5)) 102 (nI op)) 111 (nI tp)) 115 (nI wn)) 128 (nI on)) (updA (updA B 59 sn5) 61 td5)) := mW_D hD
                    exact loop_e (wn + 1) 0 tn5 sn5 td5 _ _ _ (by omega) (by omega) hm5 (by omega) ht5 SnM.rfl (fun j h => absurd h (by omega)) hP hD hS (lv_sub hl [0, 1] rfl)
                  · have n154 : ¬ (tp ≤ kq5) := fun h9 => c5 ((nI_leI (a := tp) (b := kq5) (by omega) (by omega)).mpr h9)
                    refine lv_aload_n hx hb dX12_findReachable_116 rfl (lv_at hl 1 rfl) ?_
                    refine r_get (v := .ref (a 69)) hx hb hown hq hE hP 110 221 tFX12_110 (by decide) pw_1502 rfl dX12_findReachable_117 ?_
                    refine lv_iload_n hx hb dX12_findReachable_120 rfl (lv_at hl 0 rfl) ?_
                    refine r_ldz (f := (B 69)) (j := kq5) hx hb hE hP 69 (ma_69 G a _) rfl (by omega) (by decide) dX12_findReachable_121 ?_
                    refine lv_if_eq (tgt := 135) hx hb dX12_findReachable_122 (by decide) (fun c155 => ?_) (fun c155 => ?_)
                    · refine lv_iinc (v := (nI (kq5 + 1))) (lv' := [(1, .int (nI (kq5 + 1))), (0, .ref h0)]) hx hb dX12_findReachable_135 hl (k := 0) rfl (nI_1 kq5) (by decide) rfl (fun ls hl => ?_)
                      refine lv_goto (tgt := 108) hx hb dX12_findReachable_138 (by decide) ?_
                      have hP : va_P G.1 pCl (mW G h0 a (upd (upd (upd (upd (upd F 101 (nI tn5)) 102 (nI op)) 111 (nI tp)) 115 (nI wn)) 128 (nI on)) (updA (updA B 59 sn5) 61 td5)) _ := hP
                      have hD : va_D A (mW G h0 a (upd (upd (upd (upd (upd F 101 (nI tn5)) 102 (nI op)) 111 (nI tp)) 115 (nI wn)) 128 (nI on)) (updA (updA B 59 sn5) 61 td5)) := mW_D hD
                      exact ih_d (kq5 + 1) tn5 sn5 td5 _ _ _ (by omega) (by omega) hm5 (by omega) ht5 hs5 (fun j h g => by by_cases z : j = kq5; rw [z] at g; exact absurd c155 g; exact hk5 j (by omega) g) hP hD hS (lv_sub hl [0, 1] rfl)
                    · refine lv_aload_n hx hb dX12_findReachable_125 rfl (lv_at hl 1 rfl) ?_
                      refine lv_aload_n hx hb dX12_findReachable_126 rfl (lv_at hl 1 rfl) ?_
                      refine r_get (v := .ref (a 68)) hx hb hown hq hE hP 109 218 tFX12_109 (by decide) pw_1501 rfl dX12_findReachable_127 ?_
                      refine lv_iload_n hx hb dX12_findReachable_130 rfl (lv_at hl 0 rfl) ?_
                      refine r_ldi (f := (B 68)) (j := kq5) hx hb hE hP 68 (ma_68 G a _) rfl (by omega) (by decide) dX12_findReachable_131 ?_
                      obtain ⟨x156, e157, h158, hr159⟩ := RfV.nat (hstk kq5 (by omega) c155)
                      refine lv_topi (fun x160 e161 => ?_)
                      obtain rfl : x160 = nI x156 := e161.trans e157
                      have hP : va_P G.1 pCl (mW G h0 a (upd (upd (upd (upd (upd (upd F 101 (nI tn5)) 102 (nI op)) 111 (nI tp)) 115 (nI wn)) 128 (nI on)) 101 (nI tn5)) (updA (updA (updA (updA B 59 sn5) 61 td5) 59 sn5) 61 td5)) _ := mW_to (F := F) (l1 := [(101, (nI tn5)), (102, (nI op)), (111, (nI tp)), (115, (nI wn)), (128, (nI on))]) (l2 := [(101, (nI tn5)), (102, (nI op)), (111, (nI tp)), (115, (nI wn)), (128, (nI on)), (101, (nI tn5))]) (V := [(nI tn5), (nI op), (nI tp), (nI wn), (nI on), (nI tn5), (nI op), (nI tp), (nI wn), (nI on), (nI tn5)]) rfl rfl (show (updA (updA B 59 sn5) 61 td5) = (updA (updA (updA (updA B 59 sn5) 61 td5) 59 sn5) 61 td5) from updsA_eq2 (F := B) (l1 := [(59, sn5), (61, td5)]) (l2 := [(59, sn5), (61, td5), (59, sn5), (61, td5)]) (V := [sn5, td5, sn5, td5, sn5, td5]) rfl rfl) hP
                      have hD : va_D A (mW G h0 a (upd (upd (upd (upd (upd (upd F 101 (nI tn5)) 102 (nI op)) 111 (nI tp)) 115 (nI wn)) 128 (nI on)) 101 (nI tn5)) (updA (updA (updA (updA B 59 sn5) 61 td5) 59 sn5) 61 td5)) := mW_D hD
                      refine pc_V0 (G := G) (As := [.int (nI x156)]) (rest := []) hx hb hml hown hq hE hX pX0_al hP hD hS hA hl.1 (R_see l G h0 a (upd (upd (upd (upd (upd F 101 (nI tn5)) 102 (nI op)) 111 (nI tp)) 115 (nI wn)) 128 (nI on)) (updA (updA B 59 sn5) 61 td5) x156 tn5 sn5 td5 h158 ht5) (gV pw_1971 pw_1972 pw_1973 pw_1523 pw_1966) hV_X12_see 0 9 rfl rfl rfl rfl (Nat.le_of_ble_eq_true rfl) dX12_findReachable_132 ⟨Nat.le_of_ble_eq_true rfl, Nat.le_of_ble_eq_true rfl⟩ ⟨Nat.le_of_ble_eq_true rfl, Nat.le_of_ble_eq_true rfl⟩ (fun v164 u162 H locs hw163 hP hD hS => ?_)
                      obtain ⟨tn165, sn166, td167⟩ := u162
                      obtain ⟨hw163, h168, h169⟩ := hw163
                      replace h168 : tn165 ≤ cntS sn166 3000 := h168
                      replace h169 : (sn166 = sn5 ∧ td167 = td5 ∧ tn165 = tn5 ∧ (x156 = 0 ∨ 4001 ≤ x156 ∨ ¬ sn5 (x156 - 1) = 0)) ∨ (1 ≤ x156 ∧ x156 ≤ 3000 ∧ sn5 (x156 - 1) = 0 ∧ sn166 = upd sn5 (x156 - 1) 1 ∧ td167 = upd td5 tn5 (nI (x156 - 1)) ∧ tn165 = tn5 + 1) := h169
                      obtain rfl : v164 = none := hw163
                      have hP : va_P G.1 pCl (mW G h0 a (upd (upd (upd (upd (upd F 101 (nI tn165)) 102 (nI op)) 111 (nI tp)) 115 (nI wn)) 128 (nI on)) (updA (updA B 59 sn166) 61 td167)) _ := mW_to (F := F) (l1 := [(101, (nI tn5)), (102, (nI op)), (111, (nI tp)), (115, (nI wn)), (128, (nI on)), (101, (nI tn165))]) (l2 := [(101, (nI tn165)), (102, (nI op)), (111, (nI tp)), (115, (nI wn)), (128, (nI on))]) (V := [(nI tn165), (nI op), (nI tp), (nI wn), (nI on), (nI tn165), (nI tn165), (nI op), (nI tp), (nI wn), (nI on)]) rfl rfl (show (updA (updA (updA (updA B 59 sn5) 61 td5) 59 sn166) 61 td167) = (updA (updA B 59 sn166) 61 td167) from updsA_eq2 (F := B) (l1 := [(59, sn5), (61, td5), (59, sn166), (61, td167)]) (l2 := [(59, sn166), (61, td167)]) (V := [sn166, td167, sn166, td167, sn166, td167]) rfl rfl) hP
                      have hD : va_D A (mW G h0 a (upd (upd (upd (upd (upd F 101 (nI tn165)) 102 (nI op)) 111 (nI tp)) 115 (nI wn)) 128 (nI on)) (updA (updA B 59 sn166) 61 td167)) := mW_D hD
                      refine W.widen (k := 0) (n := 0) (Nat.le_of_ble_eq_true rfl) (Nat.le_of_ble_eq_true rfl) ?_
                      refine W.eq (g2 := F0 m 135 ls []) rfl ?_
                      have h170 := Nat.le_trans h168 (cntS_le 3000)
                      obtain ⟨hm171, hs172, hr173⟩ := Mrk.see hm5 hr159 h158 h169
                      refine lv_iinc (v := (nI (kq5 + 1))) (lv' := [(1, .int (nI (kq5 + 1))), (0, .ref h0)]) hx hb dX12_findReachable_135 hl (k := 0) rfl (nI_1 kq5) (by decide) rfl (fun ls hl => ?_)
                      refine lv_goto (tgt := 108) hx hb dX12_findReachable_138 (by decide) ?_
                      have hP : va_P G.1 pCl (mW G h0 a (upd (upd (upd (upd (upd F 101 (nI tn165)) 102 (nI op)) 111 (nI tp)) 115 (nI wn)) 128 (nI on)) (updA (updA B 59 sn166) 61 td167)) _ := hP
                      have hD : va_D A (mW G h0 a (upd (upd (upd (upd (upd F 101 (nI tn165)) 102 (nI op)) 111 (nI tp)) 115 (nI wn)) 128 (nI on)) (updA (updA B 59 sn166) 61 td167)) := mW_D hD
                      exact ih_d (kq5 + 1) tn165 sn166 td167 _ _ _ (by omega) (by omega) hm171 (by omega) h168 (SnM.trans hs5 hs172) (fun j h g => by by_cases z : j = kq5; rw [z]; exact (by rw [e157]; exact hr173); exact (hk5 j (by omega) g).mono hs172) hP hD hS (lv_sub hl [0, 1] rfl)
              have hP : va_P G.1 pCl (mW G h0 a (upd (upd (upd (upd (upd F 101 (nI tn3)) 102 (nI op)) 111 (nI tp)) 115 (nI wn)) 128 (nI on)) (updA (updA B 59 sn3) 61 td3)) _ := hP
              have hD : va_D A (mW G h0 a (upd (upd (upd (upd (upd F 101 (nI tn3)) 102 (nI op)) 111 (nI tp)) 115 (nI wn)) 128 (nI on)) (updA (updA B 59 sn3) 61 td3)) := mW_D hD
              exact loop_d (tp + 1) 0 tn3 sn3 td3 _ _ _ (by omega) (by omega) hm3 (by omega) ht3 SnM.rfl (fun j h => absurd h (by omega)) hP hD hS (lv_sub hl [0, 1] rfl)
            · have n174 : ¬ (op ≤ cq3) := fun h9 => c3 ((nI_leI (a := op) (b := cq3) (by omega) (by omega)).mpr h9)
              refine lv_aload_n hx hb dX12_findReachable_43 rfl (lv_at hl 1 rfl) ?_
              refine lv_aload_n hx hb dX12_findReachable_44 rfl (lv_at hl 1 rfl) ?_
              refine r_get (v := .ref (a 62)) hx hb hown hq hE hP 103 199 tFX12_103 (by decide) pw_1494 rfl dX12_findReachable_45 ?_
              refine lv_iload_n hx hb dX12_findReachable_48 rfl (lv_at hl 0 rfl) ?_
              refine r_ldi (f := (B 62)) (j := cq3) hx hb hE hP 62 (ma_62 G a _) rfl (by omega) (by decide) dX12_findReachable_49 ?_
              obtain ⟨x175, e176, h177, hr178⟩ := RfV.nat (hth cq3 (by omega))
              refine lv_topi (fun x179 e180 => ?_)
              obtain rfl : x179 = nI x175 := e180.trans e176
              have hP : va_P G.1 pCl (mW G h0 a (upd (upd (upd (upd (upd (upd F 101 (nI tn3)) 102 (nI op)) 111 (nI tp)) 115 (nI wn)) 128 (nI on)) 101 (nI tn3)) (updA (updA (updA (updA B 59 sn3) 61 td3) 59 sn3) 61 td3)) _ := mW_to (F := F) (l1 := [(101, (nI tn3)), (102, (nI op)), (111, (nI tp)), (115, (nI wn)), (128, (nI on))]) (l2 := [(101, (nI tn3)), (102, (nI op)), (111, (nI tp)), (115, (nI wn)), (128, (nI on)), (101, (nI tn3))]) (V := [(nI tn3), (nI op), (nI tp), (nI wn), (nI on), (nI tn3), (nI op), (nI tp), (nI wn), (nI on), (nI tn3)]) rfl rfl (show (updA (updA B 59 sn3) 61 td3) = (updA (updA (updA (updA B 59 sn3) 61 td3) 59 sn3) 61 td3) from updsA_eq2 (F := B) (l1 := [(59, sn3), (61, td3)]) (l2 := [(59, sn3), (61, td3), (59, sn3), (61, td3)]) (V := [sn3, td3, sn3, td3, sn3, td3]) rfl rfl) hP
              have hD : va_D A (mW G h0 a (upd (upd (upd (upd (upd (upd F 101 (nI tn3)) 102 (nI op)) 111 (nI tp)) 115 (nI wn)) 128 (nI on)) 101 (nI tn3)) (updA (updA (updA (updA B 59 sn3) 61 td3) 59 sn3) 61 td3)) := mW_D hD
              refine pc_V0 (G := G) (As := [.int (nI x175)]) (rest := []) hx hb hml hown hq hE hX pX0_al hP hD hS hA hl.1 (R_see l G h0 a (upd (upd (upd (upd (upd F 101 (nI tn3)) 102 (nI op)) 111 (nI tp)) 115 (nI wn)) 128 (nI on)) (updA (updA B 59 sn3) 61 td3) x175 tn3 sn3 td3 h177 ht3) (gV pw_1971 pw_1972 pw_1973 pw_1523 pw_1966) hV_X12_see 0 9 rfl rfl rfl rfl (Nat.le_of_ble_eq_true rfl) dX12_findReachable_50 ⟨Nat.le_of_ble_eq_true rfl, Nat.le_of_ble_eq_true rfl⟩ ⟨Nat.le_of_ble_eq_true rfl, Nat.le_of_ble_eq_true rfl⟩ (fun v183 u181 H locs hw182 hP hD hS => ?_)
              obtain ⟨tn184, sn185, td186⟩ := u181
              obtain ⟨hw182, h187, h188⟩ := hw182
              replace h187 : tn184 ≤ cntS sn185 3000 := h187
              replace h188 : (sn185 = sn3 ∧ td186 = td3 ∧ tn184 = tn3 ∧ (x175 = 0 ∨ 4001 ≤ x175 ∨ ¬ sn3 (x175 - 1) = 0)) ∨ (1 ≤ x175 ∧ x175 ≤ 3000 ∧ sn3 (x175 - 1) = 0 ∧ sn185 = upd sn3 (x175 - 1) 1 ∧ td186 = upd td3 tn3 (nI (x175 - 1)) ∧ tn184 = tn3 + 1) := h188
              obtain rfl : v183 = none := hw182
              have hP : va_P G.1 pCl (mW G h0 a (upd (upd (upd (upd (upd F 101 (nI tn184)) 102 (nI op)) 111 (nI tp)) 115 (nI wn)) 128 (nI on)) (updA (updA B 59 sn185) 61 td186)) _ := mW_to (F := F) (l1 := [(101, (nI tn3)), (102, (nI op)), (111, (nI tp)), (115, (nI wn)), (128, (nI on)), (101, (nI tn184))]) (l2 := [(101, (nI tn184)), (102, (nI op)), (111, (nI tp)), (115, (nI wn)), (128, (nI on))]) (V := [(nI tn184), (nI op), (nI tp), (nI wn), (nI on), (nI tn184), (nI tn184), (nI op), (nI tp), (nI wn), (nI on)]) rfl rfl (show (updA (updA (updA (updA B 59 sn3) 61 td3) 59 sn185) 61 td186) = (updA (updA B 59 sn185) 61 td186) from updsA_eq2 (F := B) (l1 := [(59, sn3), (61, td3), (59, sn185), (61, td186)]) (l2 := [(59, sn185), (61, td186)]) (V := [sn185, td186, sn185, td186, sn185, td186]) rfl rfl) hP
              have hD : va_D A (mW G h0 a (upd (upd (upd (upd (upd F 101 (nI tn184)) 102 (nI op)) 111 (nI tp)) 115 (nI wn)) 128 (nI on)) (updA (updA B 59 sn185) 61 td186)) := mW_D hD
              refine W.widen (k := 0) (n := 0) (Nat.le_of_ble_eq_true rfl) (Nat.le_of_ble_eq_true rfl) ?_
              refine W.eq (g2 := F0 m 53 ls []) rfl ?_
              have h189 := Nat.le_trans h187 (cntS_le 3000)
              obtain ⟨hm190, hs191, hr192⟩ := Mrk.see hm3 hr178 h177 h188
              refine lv_iconst (v := 0) hx hb dX12_findReachable_53 (by decide) ?_
              refine lv_istore_n (lv' := [(2, .int 0), (1, .int (nI cq3)), (0, .ref h0)]) hx hb dX12_findReachable_54 rfl hl (by decide) rfl (fun ls hl => ?_)
              obtain ⟨s193, h194, e195, hv196⟩ := hscp cq3 (by omega)
              have loop_c : ∀ (n_c : Nat) (vq4 : Nat) (tn4 : Nat) (sn4 : Nat → Int32) (td4 : Nat → Int32) (H : Heap) (locs : List Loc) (ls : Array Slot), vq4 ≤ s193 → s193 + 1 ≤ vq4 + n_c → (Mrk (B 73) sn4 td4 on tn4 3000 (Chd (B 55) (B 56) (B 57) (B 58) (B 60) (B 75) (B 76) (B 77))) → (tn4 ≤ 3000) → (tn4 ≤ cntS sn4 3000) → (SnM sn3 sn4) → (RfS sn4 (B 62 cq3)) → (∀ v : Nat, v < vq4 → ¬ B 67 (32 * cq3 + v) = 0 → RfS sn4 (B 66 (32 * cq3 + v))) → va_P G.1 pCl (mW G h0 a (upd (upd (upd (upd (upd F 101 (nI tn4)) 102 (nI op)) 111 (nI tp)) 115 (nI wn)) 128 (nI on)) (updA (updA B 59 sn4) 61 td4)) H → va_D A (mW G h0 a (upd (upd (upd (upd (upd F 101 (nI tn4)) 102 (nI op)) 111 (nI tp)) 115 (nI wn)) 128 (nI on)) (updA (updA B 59 sn4) 61 td4)) → va_S A s.heap H locs → lv_has ls 3 [(2, .int (nI vq4)), (1, .int (nI cq3)), (0, .ref h0)] → W p l e (headSpec (Cond.code yX12_findReachable cX12_findReachable 3 none :: pw) ({ frames := 3, cells := 0, slots := 0, locals := 81 } : Room)).room s m ([.ref h0] : List Value).toArray below meth c H locs 0 0 (MQ below (pQ G A (fun (v : Option Value) (u : Nat × (Nat → Int32) × (Nat → Int32)) => v = none ∧ (∀ c : Nat, c < op → RfS u.2.1 (B 62 c)) ∧ (∀ c s v : Nat, c < op → B 63 c = nI s → s ≤ 30 → v < s → ¬ B 67 (32 * c + v) = 0 → RfS u.2.1 (B 66 (32 * c + v))) ∧ (∀ k : Nat, k < tp → ¬ B 69 k = 0 → RfS u.2.1 (B 68 k)) ∧ (∀ k : Nat, k < wn → ¬ B 72 k = 0 → RfS u.2.1 (B 71 k)) ∧ (∀ o : Nat, o < 3000 → Lvd (B 73) on o → ¬ u.2.1 o = 0 → ∀ v : Int32, (Chd (B 55) (B 56) (B 57) (B 58) (B 60) (B 75) (B 76) (B 77)) o v → RfS u.2.1 v)) (fun u => (mW G h0 a (upd (upd (upd (upd (upd F 101 (nI u.1)) 102 (nI op)) 111 (nI tp)) 115 (nI wn)) 128 (nI on)) (updA (updA B 59 u.2.1) 61 u.2.2)))) ([.ref h0] : List Value).toArray s ({ frames := 3, cells := 0, slots := 0, locals := 81 } : Room).cells ({ frames := 3, cells := 0, slots := 0, locals := 81 } : Room).slots A) (F0 m 55 ls []) := by
                intro n_c
                induction n_c with
                | zero => intro vq4 tn4 sn4 td4 H locs ls hk_c hn_c; omega
                | succ n_c ih_c =>
                  intro vq4 tn4 sn4 td4 H locs ls hk_c hn_c hm4 hb4 ht4 hs4 hr4 hv4 hP hD hS hl
                  refine lv_iload_n hx hb dX12_findReachable_55 rfl (lv_at hl 0 rfl) ?_
                  refine lv_aload_n hx hb dX12_findReachable_56 rfl (lv_at hl 2 rfl) ?_
                  refine r_get (v := .ref (a 63)) hx hb hown hq hE hP 104 202 tFX12_104 (by decide) pw_1495 rfl dX12_findReachable_57 ?_
                  refine lv_iload_n hx hb dX12_findReachable_60 rfl (lv_at hl 1 rfl) ?_
                  refine r_ldi (f := (B 63)) (j := cq3) hx hb hE hP 63 (ma_63 G a _) rfl (by omega) (by decide) dX12_findReachable_61 ?_
                  refine lv_topi (fun x197 e198 => ?_)
                  obtain rfl : x197 = nI s193 := e198.trans e195
                  refine lv_icmp_ge (tgt := 100) hx hb dX12_findReachable_62 (by decide) (fun c199 => ?_) (fun c199 => ?_)
                  · have n200 : s193 ≤ vq4 := (nI_leI (a := s193) (b := vq4) (by omega) (by omega)).mp c199
                    refine lv_iinc (v := (nI (cq3 + 1))) (lv' := [(1, .int (nI (cq3 + 1))), (2, .int (nI vq4)), (0, .ref h0)]) hx hb dX12_findReachable_100 hl (k := 1) rfl (nI_1 cq3) (by decide) rfl (fun ls hl => ?_)
                    refine lv_goto (tgt := 35) hx hb dX12_findReachable_103 (by decide) ?_
                    have hP : va_P G.1 pCl (mW G h0 a (upd (upd (upd (upd (upd F 101 (nI tn4)) 102 (nI op)) 111 (nI tp)) 115 (nI wn)) 128 (nI on)) (updA (updA B 59 sn4) 61 td4)) _ := hP
                    have hD : va_D A (mW G h0 a (upd (upd (upd (upd (upd F 101 (nI tn4)) 102 (nI op)) 111 (nI tp)) 115 (nI wn)) 128 (nI on)) (updA (updA B 59 sn4) 61 td4)) := mW_D hD
                    exact ih_b (cq3 + 1) tn4 sn4 td4 _ _ _ (by omega) (by omega) hm4 (by omega) ht4 (fun c h => by by_cases z : c = cq3; rw [z]; exact ⟨hr4, fun s v e1 h1 h2 h3 => hv4 v (by have : s = s193 := (nI_eq (by omega) (by omega)).mp (e1.symm.trans e195); omega) h3⟩; exact ⟨(hr3 c (by omega)).1.mono hs4, fun s v e1 h1 h2 h3 => ((hr3 c (by omega)).2 s v e1 h1 h2 h3).mono hs4⟩) hP hD hS (lv_sub hl [0, 2] rfl)
                  · have n201 : ¬ (s193 ≤ vq4) := fun h9 => c199 ((nI_leI (a := s193) (b := vq4) (by omega) (by omega)).mpr h9)
                    refine lv_aload_n hx hb dX12_findReachable_65 rfl (lv_at hl 2 rfl) ?_
                    refine r_get (v := .ref (a 67)) hx hb hown hq hE hP 108 214 tFX12_108 (by decide) pw_1499 rfl dX12_findReachable_66 ?_
                    refine lv_bipush (v := 32) hx hb dX12_findReachable_69 (by decide) ?_
                    refine lv_iload_n hx hb dX12_findReachable_71 rfl (lv_at hl 1 rfl) ?_
                    refine lv_imul hx hb dX12_findReachable_72 ?_
                    refine lv_topi (fun x202 e203 => ?_)
                    obtain rfl : x202 = nI (32 * cq3) := e203.trans (nI_mulN (32) (cq3))
                    refine lv_iload_n hx hb dX12_findReachable_73 rfl (lv_at hl 0 rfl) ?_
                    refine lv_iadd hx hb dX12_findReachable_74 ?_
                    refine lv_topi (fun x204 e205 => ?_)
                    obtain rfl : x204 = nI ((32 * cq3) + vq4) := e205.trans (nI_add ((32 * cq3)) (vq4))
                    refine r_ldz (f := (B 67)) (j := ((32 * cq3) + vq4)) hx hb hE hP 67 (ma_67 G a _) rfl (by omega) (by decide) dX12_findReachable_75 ?_
                    refine lv_if_eq (tgt := 94) hx hb dX12_findReachable_76 (by decide) (fun c206 => ?_) (fun c206 => ?_)
                    · refine lv_iinc (v := (nI (vq4 + 1))) (lv' := [(2, .int (nI (vq4 + 1))), (1, .int (nI cq3)), (0, .ref h0)]) hx hb dX12_findReachable_94 hl (k := 0) rfl (nI_1 vq4) (by decide) rfl (fun ls hl => ?_)
                      refine lv_goto (tgt := 55) hx hb dX12_findReachable_97 (by decide) ?_
                      have hP : va_P G.1 pCl (mW G h0 a (upd (upd (upd (upd (upd F 101 (nI tn4)) 102 (nI op)) 111 (nI tp)) 115 (nI wn)) 128 (nI on)) (updA (updA B 59 sn4) 61 td4)) _ := hP
                      have hD : va_D A (mW G h0 a (upd (upd (upd (upd (upd F 101 (nI tn4)) 102 (nI op)) 111 (nI tp)) 115 (nI wn)) 128 (nI on)) (updA (updA B 59 sn4) 61 td4)) := mW_D hD
                      exact ih_c (vq4 + 1) tn4 sn4 td4 _ _ _ (by omega) (by omega) hm4 (by omega) ht4 hs4 hr4 (fun v h g => by by_cases z : v = vq4; rw [z] at g; exact absurd c206 g; exact hv4 v (by omega) g) hP hD hS (lv_sub hl [0, 1, 2] rfl)
                    · refine lv_aload_n hx hb dX12_findReachable_79 rfl (lv_at hl 2 rfl) ?_
                      refine lv_aload_n hx hb dX12_findReachable_80 rfl (lv_at hl 2 rfl) ?_
                      refine r_get (v := .ref (a 66)) hx hb hown hq hE hP 107 211 tFX12_107 (by decide) pw_1498 rfl dX12_findReachable_81 ?_
                      refine lv_bipush (v := 32) hx hb dX12_findReachable_84 (by decide) ?_
                      refine lv_iload_n hx hb dX12_findReachable_86 rfl (lv_at hl 1 rfl) ?_
                      refine lv_imul hx hb dX12_findReachable_87 ?_
                      refine lv_topi (fun x207 e208 => ?_)
                      obtain rfl : x207 = nI (32 * cq3) := e208.trans (nI_mulN (32) (cq3))
                      refine lv_iload_n hx hb dX12_findReachable_88 rfl (lv_at hl 0 rfl) ?_
                      refine lv_iadd hx hb dX12_findReachable_89 ?_
                      refine lv_topi (fun x209 e210 => ?_)
                      obtain rfl : x209 = nI ((32 * cq3) + vq4) := e210.trans (nI_add ((32 * cq3)) (vq4))
                      refine r_ldi (f := (B 66)) (j := ((32 * cq3) + vq4)) hx hb hE hP 66 (ma_66 G a _) rfl (by omega) (by decide) dX12_findReachable_90 ?_
                      obtain ⟨x211, e212, h213, hr214⟩ := RfV.nat (hv196 vq4 (by omega) c206)
                      refine lv_topi (fun x215 e216 => ?_)
                      obtain rfl : x215 = nI x211 := e216.trans e212
                      have hP : va_P G.1 pCl (mW G h0 a (upd (upd (upd (upd (upd (upd F 101 (nI tn4)) 102 (nI op)) 111 (nI tp)) 115 (nI wn)) 128 (nI on)) 101 (nI tn4)) (updA (updA (updA (updA B 59 sn4) 61 td4) 59 sn4) 61 td4)) _ := mW_to (F := F) (l1 := [(101, (nI tn4)), (102, (nI op)), (111, (nI tp)), (115, (nI wn)), (128, (nI on))]) (l2 := [(101, (nI tn4)), (102, (nI op)), (111, (nI tp)), (115, (nI wn)), (128, (nI on)), (101, (nI tn4))]) (V := [(nI tn4), (nI op), (nI tp), (nI wn), (nI on), (nI tn4), (nI op), (nI tp), (nI wn), (nI on), (nI tn4)]) rfl rfl (show (updA (updA B 59 sn4) 61 td4) = (updA (updA (updA (updA B 59 sn4) 61 td4) 59 sn4) 61 td4) from updsA_eq2 (F := B) (l1 := [(59, sn4), (61, td4)]) (l2 := [(59, sn4), (61, td4), (59, sn4), (61, td4)]) (V := [sn4, td4, sn4, td4, sn4, td4]) rfl rfl) hP
                      have hD : va_D A (mW G h0 a (upd (upd (upd (upd (upd (upd F 101 (nI tn4)) 102 (nI op)) 111 (nI tp)) 115 (nI wn)) 128 (nI on)) 101 (nI tn4)) (updA (updA (updA (updA B 59 sn4) 61 td4) 59 sn4) 61 td4)) := mW_D hD
                      refine pc_V0 (G := G) (As := [.int (nI x211)]) (rest := []) hx hb hml hown hq hE hX pX0_al hP hD hS hA hl.1 (R_see l G h0 a (upd (upd (upd (upd (upd F 101 (nI tn4)) 102 (nI op)) 111 (nI tp)) 115 (nI wn)) 128 (nI on)) (updA (updA B 59 sn4) 61 td4) x211 tn4 sn4 td4 h213 ht4) (gV pw_1971 pw_1972 pw_1973 pw_1523 pw_1966) hV_X12_see 0 9 rfl rfl rfl rfl (Nat.le_of_ble_eq_true rfl) dX12_findReachable_91 ⟨Nat.le_of_ble_eq_true rfl, Nat.le_of_ble_eq_true rfl⟩ ⟨Nat.le_of_ble_eq_true rfl, Nat.le_of_ble_eq_true rfl⟩ (fun v219 u217 H locs hw218 hP hD hS => ?_)
                      obtain ⟨tn220, sn221, td222⟩ := u217
                      obtain ⟨hw218, h223, h224⟩ := hw218
                      replace h223 : tn220 ≤ cntS sn221 3000 := h223
                      replace h224 : (sn221 = sn4 ∧ td222 = td4 ∧ tn220 = tn4 ∧ (x211 = 0 ∨ 4001 ≤ x211 ∨ ¬ sn4 (x211 - 1) = 0)) ∨ (1 ≤ x211 ∧ x211 ≤ 3000 ∧ sn4 (x211 - 1) = 0 ∧ sn221 = upd sn4 (x211 - 1) 1 ∧ td222 = upd td4 tn4 (nI (x211 - 1)) ∧ tn220 = tn4 + 1) := h224
                      obtain rfl : v219 = none := hw218
                      have hP : va_P G.1 pCl (mW G h0 a (upd (upd (upd (upd (upd F 101 (nI tn220)) 102 (nI op)) 111 (nI tp)) 115 (nI wn)) 128 (nI on)) (updA (updA B 59 sn221) 61 td222)) _ := mW_to (F := F) (l1 := [(101, (nI tn4)), (102, (nI op)), (111, (nI tp)), (115, (nI wn)), (128, (nI on)), (101, (nI tn220))]) (l2 := [(101, (nI tn220)), (102, (nI op)), (111, (nI tp)), (115, (nI wn)), (128, (nI on))]) (V := [(nI tn220), (nI op), (nI tp), (nI wn), (nI on), (nI tn220), (nI tn220), (nI op), (nI tp), (nI wn), (nI on)]) rfl rfl (show (updA (updA (updA (updA B 59 sn4) 61 td4) 59 sn221) 61 td222) = (updA (updA B 59 sn221) 61 td222) from updsA_eq2 (F := B) (l1 := [(59, sn4), (61, td4), (59, sn221), (61, td222)]) (l2 := [(59, sn221), (61, td222)]) (V := [sn221, td222, sn221, td222, sn221, td222]) rfl rfl) hP
                      have hD : va_D A (mW G h0 a (upd (upd (upd (upd (upd F 101 (nI tn220)) 102 (nI op)) 111 (nI tp)) 115 (nI wn)) 128 (nI on)) (updA (updA B 59 sn221) 61 td222)) := mW_D hD
                      refine W.widen (k := 0) (n := 0) (Nat.le_of_ble_eq_true rfl) (Nat.le_of_ble_eq_true rfl) ?_
                      refine W.eq (g2 := F0 m 94 ls []) rfl ?_
                      have h225 := Nat.le_trans h223 (cntS_le 3000)
                      obtain ⟨hm226, hs227, hr228⟩ := Mrk.see hm4 hr214 h213 h224
                      refine lv_iinc (v := (nI (vq4 + 1))) (lv' := [(2, .int (nI (vq4 + 1))), (1, .int (nI cq3)), (0, .ref h0)]) hx hb dX12_findReachable_94 hl (k := 0) rfl (nI_1 vq4) (by decide) rfl (fun ls hl => ?_)
                      refine lv_goto (tgt := 55) hx hb dX12_findReachable_97 (by decide) ?_
                      have hP : va_P G.1 pCl (mW G h0 a (upd (upd (upd (upd (upd F 101 (nI tn220)) 102 (nI op)) 111 (nI tp)) 115 (nI wn)) 128 (nI on)) (updA (updA B 59 sn221) 61 td222)) _ := hP
                      have hD : va_D A (mW G h0 a (upd (upd (upd (upd (upd F 101 (nI tn220)) 102 (nI op)) 111 (nI tp)) 115 (nI wn)) 128 (nI on)) (updA (updA B 59 sn221) 61 td222)) := mW_D hD
                      exact ih_c (vq4 + 1) tn220 sn221 td222 _ _ _ (by omega) (by omega) hm226 (by omega) h223 (SnM.trans hs4 hs227) (hr4.mono hs227) (fun v h g => by by_cases z : v = vq4; rw [z]; exact (by rw [e212]; exact hr228); exact (hv4 v (by omega) g).mono hs227) hP hD hS (lv_sub hl [0, 1, 2] rfl)
              have hP : va_P G.1 pCl (mW G h0 a (upd (upd (upd (upd (upd F 101 (nI tn184)) 102 (nI op)) 111 (nI tp)) 115 (nI wn)) 128 (nI on)) (updA (updA B 59 sn185) 61 td186)) _ := hP
              have hD : va_D A (mW G h0 a (upd (upd (upd (upd (upd F 101 (nI tn184)) 102 (nI op)) 111 (nI tp)) 115 (nI wn)) 128 (nI on)) (updA (updA B 59 sn185) 61 td186)) := mW_D hD
              exact loop_c (s193 + 1) 0 tn184 sn185 td186 _ _ _ (by omega) (by omega) hm190 (by omega) h187 hs191 (by rw [e176]; exact hr192) (fun v h => absurd h (by omega)) hP hD hS (lv_sub hl [0, 1, 2] rfl)
        have hP : va_P G.1 pCl (mW G h0 a (upd (upd (upd (upd (upd F 101 (nI 0)) 102 (nI op)) 111 (nI tp)) 115 (nI wn)) 128 (nI on)) (updA (updA B 59 sn2) 61 td)) _ := mW_to (F := F) (l1 := [(102, (nI op)), (111, (nI tp)), (115, (nI wn)), (128, (nI on)), (101, 0)]) (l2 := [(101, (nI 0)), (102, (nI op)), (111, (nI tp)), (115, (nI wn)), (128, (nI on))]) (V := [(nI op), (nI tp), (nI wn), (nI on), (nI 0), (nI 0), (nI op), (nI tp), (nI wn), (nI on)]) rfl rfl rfl hP
        have hD : va_D A (mW G h0 a (upd (upd (upd (upd (upd F 101 (nI 0)) 102 (nI op)) 111 (nI tp)) 115 (nI wn)) 128 (nI on)) (updA (updA B 59 sn2) 61 td)) := mW_D hD
        exact loop_b (op + 1) 0 0 sn2 td _ _ _ (by omega) (by omega) (Mrk.nil (fun o ho ⟨k, k1, k2⟩ => hcl2 k o (by omega) ho k2)) (by omega) (by omega) (fun c h => absurd h (by omega)) hP hD hS (lv_sub hl [0, 1] rfl)
      · have n229 : ¬ (on ≤ k2) := fun h9 => c1 ((nI_leI (a := on) (b := k2) (by omega) (by omega)).mpr h9)
        refine lv_aload_n hx hb dX12_findReachable_10 rfl (lv_at hl 1 rfl) ?_
        refine r_get (v := .ref (a 59)) hx hb hown hq hE hP 95 190 tFX12_95 (by decide) pw_1491 rfl dX12_findReachable_11 ?_
        refine lv_aload_n hx hb dX12_findReachable_14 rfl (lv_at hl 1 rfl) ?_
        refine r_get (v := .ref (a 73)) hx hb hown hq hE hP 127 237 tFX12_127 (by decide) pw_1507 rfl dX12_findReachable_15 ?_
        refine lv_iload_n hx hb dX12_findReachable_18 rfl (lv_at hl 0 rfl) ?_
        refine r_ldi (f := (B 73)) (j := k2) hx hb hE hP 73 (ma_73 G a _) rfl (by omega) (by decide) dX12_findReachable_19 ?_
        obtain ⟨o230, h231, e232⟩ := hod k2 (by omega)
        refine lv_topi (fun x233 e234 => ?_)
        obtain rfl : x233 = nI o230 := e234.trans e232
        refine lv_iconst (v := 0) hx hb dX12_findReachable_20 (by decide) ?_
        refine r_stz (f := sn2) (j := o230) hx hb hE hP hD hS 59 (ma_59 G a _) rfl (mas_59 G a _) (by omega) (by decide) dX12_findReachable_21 (fun H locs hP hD hS => ?_)
        refine lv_iinc (v := (nI (k2 + 1))) (lv' := [(1, .int (nI (k2 + 1))), (0, .ref h0)]) hx hb dX12_findReachable_22 hl (k := 0) rfl (nI_1 k2) (by decide) rfl (fun ls hl => ?_)
        refine lv_goto (tgt := 2) hx hb dX12_findReachable_25 (by decide) ?_
        have hP : va_P G.1 pCl (mW G h0 a (upd (upd (upd (upd F 102 (nI op)) 111 (nI tp)) 115 (nI wn)) 128 (nI on)) (updA (updA B 59 (upd sn2 o230 0)) 61 td)) _ := mW_to (F := F) (l1 := [(102, (nI op)), (111, (nI tp)), (115, (nI wn)), (128, (nI on))]) (l2 := [(102, (nI op)), (111, (nI tp)), (115, (nI wn)), (128, (nI on))]) (V := [(nI op), (nI tp), (nI wn), (nI on), (nI op), (nI tp), (nI wn), (nI on)]) rfl rfl (show (updA (updA (updA B 59 sn2) 61 td) 59 (upd sn2 o230 0)) = (updA (updA B 59 (upd sn2 o230 0)) 61 td) from updsA_eq2 (F := B) (l1 := [(59, sn2), (61, td), (59, (upd sn2 o230 0))]) (l2 := [(59, (upd sn2 o230 0)), (61, td)]) (V := [(upd sn2 o230 0), td, (upd sn2 o230 0), (upd sn2 o230 0), td]) rfl rfl) hP
        have hD : va_D A (mW G h0 a (upd (upd (upd (upd F 102 (nI op)) 111 (nI tp)) 115 (nI wn)) 128 (nI on)) (updA (updA B 59 (upd sn2 o230 0)) 61 td)) := mW_D hD
        exact ih_a (k2 + 1) (upd sn2 o230 0) _ _ _ (by omega) (by omega) (fun j o h1 h2 h3 => by unfold upd; by_cases z : o = o230; rw [if_pos z]; rw [if_neg z]; by_cases y : j = k2; rw [y] at h3; exact absurd ((nI_eq (by omega) (by omega)).mp (h3.symm.trans e232)) z; exact hcl2 j o (by omega) h2 h3) hP hD hS (lv_sub hl [0, 1] rfl)
  have hP : va_P G.1 pCl (mW G h0 a (upd (upd (upd (upd F 102 (nI op)) 111 (nI tp)) 115 (nI wn)) 128 (nI on)) (updA (updA B 59 sn) 61 td)) _ := hP
  have hD : va_D A (mW G h0 a (upd (upd (upd (upd F 102 (nI op)) 111 (nI tp)) 115 (nI wn)) 128 (nI on)) (updA (updA B 59 sn) 61 td)) := mW_D hD
  exact loop_a (on + 1) 0 sn _ _ _ (by omega) (by omega) (fun j o h => absurd h (by omega)) hP hD hS (lv_sub hl [0, 1] rfl)
