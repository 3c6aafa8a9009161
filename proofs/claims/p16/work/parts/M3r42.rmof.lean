/-! methods by name -/
theorem nI_cl {n : Nat} (h : n < 2 ^ 31) : (nI n).toNatClampNeg = n := by
  show (nI n).toInt.toNat = n
  rw [nI_toInt h]; rfl
def fmF (f g : Nat → Int32) (d x : Int32) : Nat → Nat → Int32
  | 0, _ => -1
  | n + 1, k => if f k = d ∧ g k = x then nI k else fmF f g d x n (k + 1)
section FM
variable {f g ds : Nat → Int32} {d x : Int32} {md k n : Nat}
theorem fm_hit (hk : k < md) (h : f k = d ∧ g k = x) (e : fmF f g d x md 0 = fmF f g d x (md - k) k) : fmF f g d x md 0 = nI k := by
  obtain ⟨n, hn⟩ : ∃ n, md - k = n + 1 := ⟨md - k - 1, by omega⟩
  rw [e, hn]
  show (if _ then _ else _) = _
  rw [if_pos h]
theorem fm_go (hk : k < md) (h : ¬ (f k = d ∧ g k = x)) (e : fmF f g d x md 0 = fmF f g d x (md - k) k) : fmF f g d x md 0 = fmF f g d x (md - (k + 1)) (k + 1) := by
  obtain ⟨n, hn⟩ : ∃ n, md - k = n + 1 := ⟨md - k - 1, by omega⟩
  rw [e, hn, show md - (k + 1) = n by omega]
  show (if _ then _ else _) = _
  rw [if_neg h]
theorem fm_end (hk : md ≤ k) (e : fmF f g d x md 0 = fmF f g d x (md - k) k) : fmF f g d x md 0 = -1 := by
  rw [e, show md - k = 0 by omega]; rfl
theorem fm_or : ∀ n k : Nat, fmF f g d x n k = -1 ∨ ∃ m : Nat, fmF f g d x n k = nI m ∧ k ≤ m ∧ m < k + n ∧ f m = d ∧ g m = x := by
  intro n
  induction n with
  | zero => intro k; exact Or.inl rfl
  | succ n ih =>
    intro k
    by_cases h : f k = d ∧ g k = x
    · exact Or.inr ⟨k, by show (if _ then _ else _) = _; rw [if_pos h], Nat.le_refl _, by omega, h.1, h.2⟩
    · have e : fmF f g d x (n + 1) k = fmF f g d x n (k + 1) := by show (if _ then _ else _) = _; rw [if_neg h]
      rw [e]
      exact (ih (k + 1)).imp id (fun ⟨m, a, b, c, z⟩ => ⟨m, a, by omega, by omega, z⟩)
/-- the method of that name, of class d or above it -/
def mthF (f g ds : Nat → Int32) (md : Nat) (x : Int32) : Nat → Nat → Int32
  | 0, _ => -1
  | n + 1, d => if d = 0 then -1 else if fmF f g (nI d) x md 0 = -1 then mthF f g ds md x n (ds d).toNatClampNeg else fmF f g (nI d) x md 0
theorem mth_0 : ∀ n : Nat, mthF f g ds md x n 0 = -1 := fun n => by
  cases n with
  | zero => rfl
  | succ n => show (if _ then _ else _) = _; rw [if_pos rfl]
theorem mth_go {d s : Nat} (hd : ¬ d = 0) (h : fmF f g (nI d) x md 0 = -1) (e : ds d = nI s) (hs : s < 2 ^ 31) : mthF f g ds md x (n + 1) d = mthF f g ds md x n s := by
  show (if _ then _ else _) = _
  rw [if_neg hd, if_pos h, e, nI_cl hs]
theorem mth_hit {d m : Nat} (hd : ¬ d = 0) (h : fmF f g (nI d) x md 0 = nI m) (hm : m < 2 ^ 31) : mthF f g ds md x (n + 1) d = nI m := by
  show (if _ then _ else _) = _
  rw [if_neg hd, if_neg (by rw [h]; exact nI_m1 hm), h]
end FM
/-- no class is above itself: ranks -/
def Rk (ds : Nat → Int32) (dc : Nat) : Prop := ∃ rk : Nat → Nat, (∀ d : Nat, rk d < 40) ∧ ∀ d : Nat, 1 ≤ d → d < dc → ∃ s : Nat, ds d = nI s ∧ s < dc ∧ rk s < rk d
/-- the code of a result -/
def resF (fr yc : Nat → Int32) (m : Nat) : Int32 := if fr m = -1 then 0 else yc (fr m).toNatClampNeg
theorem resF_1 {fr yc : Nat → Int32} {m : Nat} (h : fr m = -1) : resF fr yc m = 0 := if_pos h
theorem resF_2 {fr yc : Nat → Int32} {m y : Nat} (h : fr m = nI y) (hy : y < 2 ^ 31) : resF fr yc m = yc y := by
  unfold resF
  rw [h, if_neg (nI_m1 hy), nI_cl hy]
def ytF (X : Nat → Nat → Int32) (p : Nat) : Int32 := X 21 (X 47 p).toNatClampNeg
def Alk (X : Nat → Nat → Int32) (m o : Nat) : Prop := X 41 m = X 41 o ∧ resF (X 39) (X 21) m = resF (X 39) (X 21) o ∧ ∀ pm po q i : Nat, X 40 m = nI pm → X 40 o = nI po → X 41 m = nI q → pm < 6000 → po < 6000 → q < 100 → i < q → ytF X (pm + i) = ytF X (po + i)
/-- what anyMethod finds -/
def AnyQ (X : Nat → Nat → Int32) (dc md k : Nat) (x r : Int32) : Prop := r = -1 ∨ ∃ m : Nat, r = nI m ∧ m < md ∧ ((X 26 k = 0 ∧ r = mthF (X 36) (X 37) (X 29) md x 40 k) ∨ ((X 26 k = 0 → mthF (X 36) (X 37) (X 29) md x 40 k = -1) ∧ X 37 m = x ∧ (X 36 m = nI k ∨ ∃ d : Nat, X 36 m = nI d ∧ d < dc ∧ X 31 (40 * d + k) = 1)))
theorem mth_or {f g ds : Nat → Int32} {x : Int32} {md : Nat} : ∀ n d : Nat, mthF f g ds md x n d = -1 ∨ ∃ m : Nat, mthF f g ds md x n d = nI m ∧ m < md ∧ g m = x := by
  intro n
  induction n with
  | zero => intro d; exact Or.inl rfl
  | succ n ih =>
    intro d
    by_cases h : d = 0
    · rw [h]; exact Or.inl (mth_0 _)
    · have e : mthF f g ds md x (n + 1) d = if fmF f g (nI d) x md 0 = -1 then mthF f g ds md x n (ds d).toNatClampNeg else fmF f g (nI d) x md 0 := by
        show (if _ then _ else _) = _
        rw [if_neg h]
      rw [e]
      by_cases q : fmF f g (nI d) x md 0 = -1
      · rw [if_pos q]; exact ih _
      · rw [if_neg q]
        obtain ⟨m, a, b, c, z1, z2⟩ := (fm_or md 0).resolve_left q
        exact Or.inr ⟨m, a, by omega, z2⟩
/-- ranks: how many stand above -/
theorem Rk.of {da ds dI : Nat → Int32} {dc : Nat} (h : AbOK da ds dI dc) (hd : dc ≤ 37) (hs : ∀ y : Nat, 7 ≤ y → y < dc → ¬ da (40 * y + y) = 1) (hz : ∀ y : Nat, 1 ≤ y → y < 7 → y < dc → ¬ da (40 * y + y) = 1) : Rk ds dc := by
  obtain ⟨h1, h2, h3, h4⟩ := h
  refine ⟨fun d => cntA da d dc, fun d => by show cntA da d dc < 40; have := cntA_le (da := da) (d := d) dc; omega, fun d d1 d2 => ?_⟩
  obtain ⟨e0, s, e1, e2, e3⟩ := h3 d d1 d2
  refine ⟨s, e1, e2, ?_⟩
  rcases e3 with e3 | ⟨e3, _⟩
  · subst e3
    refine cntA_lt (z := 0) dc (fun x hx q => ?_) (by omega) (by rw [Nat.mul_zero, Nat.zero_add]; exact e0) (fun q => ?_)
    · have := (h4 x 0 (by omega) (by omega) q).2.1; omega
    · have := (h4 0 0 (by omega) (by omega) q).2.1; omega
  · refine cntA_lt (z := s) dc (fun x hx q => h2 s x d e2 hx d2 q e3) e2 e3 (fun q => ?_)
    have y1 := (h4 s s (by omega) (by omega) q).2.1
    by_cases z : 7 ≤ s
    · exact hs s z e2 q
    · exact hz s y1 (by omega) e2 q
/-- a class that is built in is not above itself -/
theorem AbOK.irr7 {da ds dI : Nat → Int32} {dc y : Nat} (h : AbOK da ds dI dc) (y1 : 1 ≤ y) (y7 : y < 7) : ¬ da (40 * y + y) = 1 := fun q => by
  obtain ⟨_, _, _, z, z1, z2, z3, z4⟩ := h.2.2.2 y y (by omega) (by omega) q
  have e : z = 0 := z3.elim id (fun w => absurd w.1 (by omega))
  subst e
  rcases z4 with z4 | z4
  · omega
  · have := (h.2.2.2 y 0 (by omega) (by omega) z4).2.1; omega
/-- what the third round asks -/
def T1P (X : Nat → Nat → Int32) (m o : Nat) : Prop := ∀ d e : Nat, X 36 m = nI d → X 36 o = nI e → d < 40 → e < 40 → X 31 (40 * e + d) = 1 → X 37 o = X 37 m → Alk X m o
def T2P (X : Nat → Nat → Int32) (md d m : Nat) : Prop := ∀ e : Nat, X 36 m = nI e → e < 40 → X 31 (40 * e + d) = 1 → (∃ o : Nat, o < md ∧ X 36 o = nI d ∧ X 37 o = X 37 m) ∨ ∀ o : Nat, o < md → ∀ e2 : Nat, X 36 o = nI e2 → e2 < 40 → X 31 (40 * e2 + d) = 1 → X 37 o = X 37 m → Alk X m o
def T3P (X : Nat → Nat → Int32) (md d m : Nat) : Prop := ∀ e : Nat, X 36 m = nI e → e < 40 → X 31 (40 * e + d) = 1 → X 26 d = 0 → ¬ X 26 e = 0 → ¬ mthF (X 36) (X 37) (X 29) md (X 37 m) 40 d = -1
def T4P (X : Nat → Nat → Int32) (dc md : Nat) : Prop := ∃ mn en : Nat, dOf (X 24) 7 dc 0 = nI mn ∧ mn < dc ∧ X 26 mn = 0 ∧ mthF (X 36) (X 37) (X 29) md 8 40 mn = nI en ∧ en < md ∧ X 41 en = nI 0 ∧ resF (X 39) (X 21) en = 1
theorem dX12_resultOf_0 : decode cX12_resultOf 0 = .ok (.aload_n 0, 1) := by decide +kernel
theorem dX12_resultOf_1 : decode cX12_resultOf 1 = .ok (.getfield 129, 3) := by decide +kernel
theorem dX12_resultOf_4 : decode cX12_resultOf 4 = .ok (.iload_n 1, 1) := by decide +kernel
theorem dX12_resultOf_5 : decode cX12_resultOf 5 = .ok (.iaload, 1) := by decide +kernel
theorem dX12_resultOf_6 : decode cX12_resultOf 6 = .ok (.iconst (-1), 1) := by decide +kernel
theorem dX12_resultOf_7 : decode cX12_resultOf 7 = .ok (.if_icmp .ne 7, 3) := by decide +kernel
theorem dX12_resultOf_14 : decode cX12_resultOf 14 = .ok (.aload_n 0, 1) := by decide +kernel
theorem dX12_resultOf_15 : decode cX12_resultOf 15 = .ok (.getfield 75, 3) := by decide +kernel
theorem dX12_resultOf_18 : decode cX12_resultOf 18 = .ok (.aload_n 0, 1) := by decide +kernel
theorem dX12_resultOf_19 : decode cX12_resultOf 19 = .ok (.getfield 129, 3) := by decide +kernel
theorem dX12_resultOf_22 : decode cX12_resultOf 22 = .ok (.iload_n 1, 1) := by decide +kernel
theorem dX12_resultOf_23 : decode cX12_resultOf 23 = .ok (.iaload, 1) := by decide +kernel
theorem dX12_resultOf_24 : decode cX12_resultOf 24 = .ok (.iaload, 1) := by decide +kernel
theorem dX12_resultOf_25 : decode cX12_resultOf 25 = .ok (.ireturn, 1) := by decide +kernel
theorem dX12_resultOf_10 : decode cX12_resultOf 10 = .ok (.iconst 0, 1) := by decide +kernel
theorem dX12_resultOf_11 : decode cX12_resultOf 11 = .ok (.goto 14, 3) := by decide +kernel
set_option maxHeartbeats 2000000 in
set_option maxRecDepth 100000 in
/-- resultOf(m) -/
theorem R_resultOf (l : Launch) (G : pT) (h0 : Nat) (a : Nat → Nat) (F : Nat → Int32) (B : Nat → Nat → Int32) (m9 : Nat) (wr : Nat) (fr : Nat → Int32) (yc : Nat → Int32) (hm : m9 < 920) (hwr : wr ≤ 5000) (hfr : OrY (fr m9) wr) : PM l G pX0 yX12_resultOf cX12_resultOf 2 (some .int) ({ frames := 2, cells := 0, slots := 0, locals := 60 }) [.ref h0, .int (nI m9)] (mW G h0 a F (updA (updA B 21 yc) 39 fr)) (fun (v : Option Value) (u : Unit) => v = some (.int (resF fr yc m9))) (fun u => (mW G h0 a F (updA (updA B 21 yc) 39 fr))) := by
  intro sz
  refine Met.ofW (cc := cX12_resultOf) (maxL := 2) (ret := (some .int)) (by decide) rfl ?_
  intro p e s m args below meth c s₁ B9 hml hv
  obtain ⟨rfl, hsz, hP, hD0, hE, hX⟩ := hv
  have hx := B9.exec
  have hb := B9.bytes
  have hr := B9.returns
  have hts := atoms_spec (ws := Cond.code yX12_resultOf cX12_resultOf 2 (some .int) :: pw) B9.pre
  have hq : ∀ w ∈ pw, w.before _ s = true := fun w h => hts w (List.mem_cons_of_mem _ h)
  have hown : s.vm.findClass RX12 = some m.cls := findClass_of_methodNamed B9.named
  have hlocks := B9.notSynchronized
  subst hsz
  have hD := hD0.self (sz := s.heap.size)
  have hA : ∀ q : Nat, s.heap.size ≤ q → va_A (mW G h0 a F (updA (updA B 21 yc) 39 fr)) s.heap.size q := fun q h => Or.inr h
  have hP : va_P G.1 pCl (mW G h0 a F (updA (updA B 21 yc) 39 fr)) s.heap := hP
  generalize va_A (mW G h0 a F (updA (updA B 21 yc) 39 fr)) s.heap.size = A at hD hE hA ⊢
  have hS : va_S A s.heap s.heap [] := va_S.rf
  have hl := lv_entry ([.ref h0, .int (nI m9)]) (n := 2) (Nat.le_of_ble_eq_true rfl)
  rw [lg_entry_eq]
  generalize (lg_sl ([.ref h0, .int (nI m9)]) ++ List.replicate (2 - (lg_sl ([.ref h0, .int (nI m9)])).length) Slot.unset).toArray = ls at hl ⊢
  have hl : lv_has ls 2 [(0, .ref h0), (1, .int (nI m9))] := hl
  refine lv_aload_n hx hb dX12_resultOf_0 rfl (lv_at hl 0 rfl) ?_
  refine r_get (v := .ref (a 39)) hx hb hown hq hE hP 53 129 tFX12_53 (by decide) pw_1470 rfl dX12_resultOf_1 ?_
  refine lv_iload_n hx hb dX12_resultOf_4 rfl (lv_at hl 1 rfl) ?_
  refine r_ldi (f := fr) (j := m9) hx hb hE hP 39 (ma_39 G a _) rfl (by omega) (by decide) dX12_resultOf_5 ?_
  refine lv_iconst (v := (-1)) hx hb dX12_resultOf_6 (by decide) ?_
  refine lv_icmp_ne (tgt := 14) hx hb dX12_resultOf_7 (by decide) (fun c1 => ?_) (fun c1 => ?_)
  · obtain ⟨y2, e3, h4⟩ := Or.resolve_left hfr c1
    refine lv_aload_n hx hb dX12_resultOf_14 rfl (lv_at hl 0 rfl) ?_
    refine r_get (v := .ref (a 21)) hx hb hown hq hE hP 30 75 tFX12_30 (by decide) pw_1452 rfl dX12_resultOf_15 ?_
    refine lv_aload_n hx hb dX12_resultOf_18 rfl (lv_at hl 0 rfl) ?_
    refine r_get (v := .ref (a 39)) hx hb hown hq hE hP 53 129 tFX12_53 (by decide) pw_1470 rfl dX12_resultOf_19 ?_
    refine lv_iload_n hx hb dX12_resultOf_22 rfl (lv_at hl 1 rfl) ?_
    refine r_ldi (f := fr) (j := m9) hx hb hE hP 39 (ma_39 G a _) rfl (by omega) (by decide) dX12_resultOf_23 ?_
    refine lv_topi (fun x5 e6 => ?_)
    obtain rfl : x5 = nI y2 := e6.trans e3
    refine r_ldi (f := yc) (j := y2) hx hb hE hP 21 (ma_21 G a _) rfl (by omega) (by decide) dX12_resultOf_24 ?_
    have hP : va_P G.1 pCl (mW G h0 a F (updA (updA B 21 yc) 39 fr)) _ := hP
    have hD : va_D A (mW G h0 a F (updA (updA B 21 yc) 39 fr)) := mW_D hD
    exact W.iret (v := (yc y2)) hx hb hr (fun t9 ht9 hW9 => ⟨⟨_, (), rfl, (congrArg (fun z => some (Value.int z)) (resF_2 e3 (by omega)).symm), by rw [ht9]; exact hP, hD⟩, hS.F ht9⟩) hS.2.2 dX12_resultOf_25
  · refine lv_iconst (v := 0) hx hb dX12_resultOf_10 (by decide) ?_
    refine lv_goto (tgt := 25) hx hb dX12_resultOf_11 (by decide) ?_
    have hP : va_P G.1 pCl (mW G h0 a F (updA (updA B 21 yc) 39 fr)) _ := hP
    have hD : va_D A (mW G h0 a F (updA (updA B 21 yc) 39 fr)) := mW_D hD
    exact W.iret (v := 0) hx hb hr (fun t9 ht9 hW9 => ⟨⟨_, (), rfl, (congrArg (fun z => some (Value.int z)) (resF_1 c1).symm), by rw [ht9]; exact hP, hD⟩, hS.F ht9⟩) hS.2.2 dX12_resultOf_25
theorem dX12_methodOf_0 : decode cX12_methodOf 0 = .ok (.iload_n 1, 1) := by decide +kernel
theorem dX12_methodOf_1 : decode cX12_methodOf 1 = .ok (.istore_n 3, 1) := by decide +kernel
theorem dX12_methodOf_2 : decode cX12_methodOf 2 = .ok (.iload_n 3, 1) := by decide +kernel
theorem dX12_methodOf_3 : decode cX12_methodOf 3 = .ok (.ifCond .le 56, 3) := by decide +kernel
theorem dX12_methodOf_59 : decode cX12_methodOf 59 = .ok (.iconst (-1), 1) := by decide +kernel
theorem dX12_methodOf_60 : decode cX12_methodOf 60 = .ok (.ireturn, 1) := by decide +kernel
theorem dX12_methodOf_6 : decode cX12_methodOf 6 = .ok (.iconst 0, 1) := by decide +kernel
theorem dX12_methodOf_7 : decode cX12_methodOf 7 = .ok (.istore 4, 2) := by decide +kernel
theorem dX12_methodOf_9 : decode cX12_methodOf 9 = .ok (.iload 4, 2) := by decide +kernel
theorem dX12_methodOf_11 : decode cX12_methodOf 11 = .ok (.aload_n 0, 1) := by decide +kernel
theorem dX12_methodOf_12 : decode cX12_methodOf 12 = .ok (.getfield 416, 3) := by decide +kernel
theorem dX12_methodOf_15 : decode cX12_methodOf 15 = .ok (.if_icmp .ge 34, 3) := by decide +kernel
theorem dX12_methodOf_49 : decode cX12_methodOf 49 = .ok (.aload_n 0, 1) := by decide +kernel
theorem dX12_methodOf_50 : decode cX12_methodOf 50 = .ok (.getfield 99, 3) := by decide +kernel
theorem dX12_methodOf_53 : decode cX12_methodOf 53 = .ok (.iload_n 3, 1) := by decide +kernel
theorem dX12_methodOf_54 : decode cX12_methodOf 54 = .ok (.iaload, 1) := by decide +kernel
theorem dX12_methodOf_55 : decode cX12_methodOf 55 = .ok (.istore_n 3, 1) := by decide +kernel
theorem dX12_methodOf_56 : decode cX12_methodOf 56 = .ok (.goto (-54), 3) := by decide +kernel
theorem dX12_methodOf_18 : decode cX12_methodOf 18 = .ok (.aload_n 0, 1) := by decide +kernel
theorem dX12_methodOf_19 : decode cX12_methodOf 19 = .ok (.getfield 120, 3) := by decide +kernel
theorem dX12_methodOf_22 : decode cX12_methodOf 22 = .ok (.iload 4, 2) := by decide +kernel
theorem dX12_methodOf_24 : decode cX12_methodOf 24 = .ok (.iaload, 1) := by decide +kernel
theorem dX12_methodOf_25 : decode cX12_methodOf 25 = .ok (.iload_n 3, 1) := by decide +kernel
theorem dX12_methodOf_26 : decode cX12_methodOf 26 = .ok (.if_icmp .ne 17, 3) := by decide +kernel
theorem dX12_methodOf_43 : decode cX12_methodOf 43 = .ok (.iinc 4 1, 3) := by decide +kernel
theorem dX12_methodOf_46 : decode cX12_methodOf 46 = .ok (.goto (-37), 3) := by decide +kernel
theorem dX12_methodOf_29 : decode cX12_methodOf 29 = .ok (.aload_n 0, 1) := by decide +kernel
theorem dX12_methodOf_30 : decode cX12_methodOf 30 = .ok (.getfield 123, 3) := by decide +kernel
theorem dX12_methodOf_33 : decode cX12_methodOf 33 = .ok (.iload 4, 2) := by decide +kernel
theorem dX12_methodOf_35 : decode cX12_methodOf 35 = .ok (.iaload, 1) := by decide +kernel
theorem dX12_methodOf_36 : decode cX12_methodOf 36 = .ok (.iload_n 2, 1) := by decide +kernel
theorem dX12_methodOf_37 : decode cX12_methodOf 37 = .ok (.if_icmp .ne 6, 3) := by decide +kernel
theorem dX12_methodOf_40 : decode cX12_methodOf 40 = .ok (.iload 4, 2) := by decide +kernel
theorem dX12_methodOf_42 : decode cX12_methodOf 42 = .ok (.ireturn, 1) := by decide +kernel
set_option maxHeartbeats 2000000 in
set_option maxRecDepth 100000 in
/-- methodOf(k, name) -/
theorem R_methodOf (l : Launch) (G : pT) (h0 : Nat) (a : Nat → Nat) (F : Nat → Int32) (B : Nat → Nat → Int32) (k9 : Nat) (dc : Nat) (md : Nat) (x : Int32) (f : Nat → Int32) (g : Nat → Int32) (ds : Nat → Int32) (hk9 : k9 < dc) (hdc : dc ≤ 37) (hmd : md ≤ 920) (hrk : Rk ds dc) : PM l G pX0 yX12_methodOf cX12_methodOf 5 (some .int) ({ frames := 2, cells := 0, slots := 0, locals := 60 }) [.ref h0, .int (nI k9), .int x] (mW G h0 a (upd F 49 (nI md)) (updA (updA (updA B 29 ds) 36 f) 37 g)) (fun (v : Option Value) (u : Unit) => v = some (.int (mthF f g ds md x 40 k9))) (fun u => (mW G h0 a (upd F 49 (nI md)) (updA (updA (updA B 29 ds) 36 f) 37 g))) := by
  intro sz
  refine Met.ofW (cc := cX12_methodOf) (maxL := 5) (ret := (some .int)) (by decide) rfl ?_
  intro p e s m args below meth c s₁ B9 hml hv
  obtain ⟨rfl, hsz, hP, hD0, hE, hX⟩ := hv
  have hx := B9.exec
  have hb := B9.bytes
  have hr := B9.returns
  have hts := atoms_spec (ws := Cond.code yX12_methodOf cX12_methodOf 5 (some .int) :: pw) B9.pre
  have hq : ∀ w ∈ pw, w.before _ s = true := fun w h => hts w (List.mem_cons_of_mem _ h)
  have hown : s.vm.findClass RX12 = some m.cls := findClass_of_methodNamed B9.named
  have hlocks := B9.notSynchronized
  subst hsz
  have hD := hD0.self (sz := s.heap.size)
  have hA : ∀ q : Nat, s.heap.size ≤ q → va_A (mW G h0 a (upd F 49 (nI md)) (updA (updA (updA B 29 ds) 36 f) 37 g)) s.heap.size q := fun q h => Or.inr h
  have hP : va_P G.1 pCl (mW G h0 a (upd F 49 (nI md)) (updA (updA (updA B 29 ds) 36 f) 37 g)) s.heap := hP
  generalize va_A (mW G h0 a (upd F 49 (nI md)) (updA (updA (updA B 29 ds) 36 f) 37 g)) s.heap.size = A at hD hE hA ⊢
  have hS : va_S A s.heap s.heap [] := va_S.rf
  have hl := lv_entry ([.ref h0, .int (nI k9), .int x]) (n := 5) (Nat.le_of_ble_eq_true rfl)
  rw [lg_entry_eq]
  generalize (lg_sl ([.ref h0, .int (nI k9), .int x]) ++ List.replicate (5 - (lg_sl ([.ref h0, .int (nI k9), .int x])).length) Slot.unset).toArray = ls at hl ⊢
  have hl : lv_has ls 5 [(0, .ref h0), (1, .int (nI k9)), (2, .int x)] := hl
  obtain ⟨rk, hrk1, hrk2⟩ := hrk
  refine lv_iload_n hx hb dX12_methodOf_0 rfl (lv_at hl 1 rfl) ?_
  refine lv_istore_n (lv' := [(3, .int (nI k9)), (0, .ref h0), (1, .int (nI k9)), (2, .int x)]) hx hb dX12_methodOf_1 rfl hl (by decide) rfl (fun ls hl => ?_)
  have loop_o : ∀ (n_o : Nat) (i2 : Nat) (d2 : Nat) (H : Heap) (locs : List Loc) (ls : Array Slot), i2 ≤ 40 → 40 + 1 ≤ i2 + n_o → (d2 < dc) → (rk d2 + i2 ≤ 40) → (mthF f g ds md x 40 k9 = mthF f g ds md x (40 - i2) d2) → va_P G.1 pCl (mW G h0 a (upd F 49 (nI md)) (updA (updA (updA B 29 ds) 36 f) 37 g)) H → va_D A (mW G h0 a (upd F 49 (nI md)) (updA (updA (updA B 29 ds) 36 f) 37 g)) → va_S A s.heap H locs → lv_has ls 5 [(3, .int (nI d2)), (2, .int x), (1, .int (nI k9)), (0, .ref h0)] → W p l e (headSpec (Cond.code yX12_methodOf cX12_methodOf 5 (some .int) :: pw) ({ frames := 2, cells := 0, slots := 0, locals := 60 } : Room)).room s m ([.ref h0, .int (nI k9), .int x] : List Value).toArray below meth c H locs 0 0 (MQ below (pQ G A (fun (v : Option Value) (u : Unit) => v = some (.int (mthF f g ds md x 40 k9))) (fun u => (mW G h0 a (upd F 49 (nI md)) (updA (updA (updA B 29 ds) 36 f) 37 g)))) ([.ref h0, .int (nI k9), .int x] : List Value).toArray s ({ frames := 2, cells := 0, slots := 0, locals := 60 } : Room).cells ({ frames := 2, cells := 0, slots := 0, locals := 60 } : Room).slots A) (F0 m 2 ls []) := by
    intro n_o
    induction n_o with
    | zero => intro i2 d2 H locs ls hk_o hn_o; omega
    | succ n_o ih_o =>
      intro i2 d2 H locs ls hk_o hn_o hd2 hr2 he hP hD hS hl
      refine lv_iload_n hx hb dX12_methodOf_2 rfl (lv_at hl 0 rfl) ?_
      refine lv_if_le (tgt := 59) hx hb dX12_methodOf_3 (by decide) (fun c1 => ?_) (fun c1 => ?_)
      · have n2 : d2 ≤ 0 := (nI_leI (a := d2) (b := 0) (by omega) (by omega)).mp c1
        refine lv_iconst (v := (-1)) hx hb dX12_methodOf_59 (by decide) ?_
        have hP : va_P G.1 pCl (mW G h0 a (upd F 49 (nI md)) (updA (updA (updA B 29 ds) 36 f) 37 g)) _ := hP
        have hD : va_D A (mW G h0 a (upd F 49 (nI md)) (updA (updA (updA B 29 ds) 36 f) 37 g)) := mW_D hD
        exact W.iret (v := (-1)) hx hb hr (fun t9 ht9 hW9 => ⟨⟨_, (), rfl, (congrArg (fun z => some (Value.int z)) (he.trans (by rw [show d2 = 0 by omega]; exact mth_0 _)).symm), by rw [ht9]; exact hP, hD⟩, hS.F ht9⟩) hS.2.2 dX12_methodOf_60
      · have n3 : ¬ (d2 ≤ 0) := fun h9 => c1 ((nI_leI (a := d2) (b := 0) (by omega) (by omega)).mpr h9)
        refine lv_iconst (v := 0) hx hb dX12_methodOf_6 (by decide) ?_
        refine lv_istore (lv' := [(4, .int 0), (3, .int (nI d2)), (2, .int x), (1, .int (nI k9)), (0, .ref h0)]) hx hb dX12_methodOf_7 hl (by decide) rfl (fun ls hl => ?_)
        have loop_i : ∀ (n_i : Nat) (m2 : Nat) (H : Heap) (locs : List Loc) (ls : Array Slot), m2 ≤ md → md + 1 ≤ m2 + n_i → (1 ≤ d2) → (fmF f g (nI d2) x md 0 = fmF f g (nI d2) x (md - m2) m2) → va_P G.1 pCl (mW G h0 a (upd F 49 (nI md)) (updA (updA (updA B 29 ds) 36 f) 37 g)) H → va_D A (mW G h0 a (upd F 49 (nI md)) (updA (updA (updA B 29 ds) 36 f) 37 g)) → va_S A s.heap H locs → lv_has ls 5 [(4, .int (nI m2)), (3, .int (nI d2)), (2, .int x), (1, .int (nI k9)), (0, .ref h0)] → W p l e (headSpec (Cond.code yX12_methodOf cX12_methodOf 5 (some .int) :: pw) ({ frames := 2, cells := 0, slots := 0, locals := 60 } : Room)).room s m ([.ref h0, .int (nI k9), .int x] : List Value).toArray below meth c H locs 0 0 (MQ below (pQ G A (fun (v : Option Value) (u : Unit) => v = some (.int (mthF f g ds md x 40 k9))) (fun u => (mW G h0 a (upd F 49 (nI md)) (updA (updA (updA B 29 ds) 36 f) 37 g)))) ([.ref h0, .int (nI k9), .int x] : List Value).toArray s ({ frames := 2, cells := 0, slots := 0, locals := 60 } : Room).cells ({ frames := 2, cells := 0, slots := 0, locals := 60 } : Room).slots A) (F0 m 9 ls []) := by
          intro n_i
          induction n_i with
          | zero => intro m2 H locs ls hk_i hn_i; omega
          | succ n_i ih_i =>
            intro m2 H locs ls hk_i hn_i hd3 hf2 hP hD hS hl
            refine lv_iload hx hb dX12_methodOf_9 (lv_at hl 0 rfl) ?_
            refine lv_aload_n hx hb dX12_methodOf_11 rfl (lv_at hl 4 rfl) ?_
            refine r_get (v := .int (nI md)) hx hb hown hq hE hP 49 416 tFX12_49 (by decide) pw_1721 rfl dX12_methodOf_12 ?_
            refine lv_icmp_ge (tgt := 49) hx hb dX12_methodOf_15 (by decide) (fun c4 => ?_) (fun c4 => ?_)
            · have n5 : md ≤ m2 := (nI_leI (a := md) (b := m2) (by omega) (by omega)).mp c4
              refine lv_aload_n hx hb dX12_methodOf_49 rfl (lv_at hl 4 rfl) ?_
              refine r_get (v := .ref (a 29)) hx hb hown hq hE hP 41 99 tFX12_41 (by decide) pw_1460 rfl dX12_methodOf_50 ?_
              refine lv_iload_n hx hb dX12_methodOf_53 rfl (lv_at hl 1 rfl) ?_
              refine r_ldi (f := ds) (j := d2) hx hb hE hP 29 (ma_29 G a _) rfl (by omega) (by decide) dX12_methodOf_54 ?_
              obtain ⟨s6, e7, h8, h9⟩ := hrk2 d2 (by omega) (by omega)
              refine lv_topi (fun x10 e11 => ?_)
              obtain rfl : x10 = nI s6 := e11.trans e7
              refine lv_istore_n (lv' := [(3, .int (nI s6)), (4, .int (nI m2)), (2, .int x), (1, .int (nI k9)), (0, .ref h0)]) hx hb dX12_methodOf_55 rfl hl (by decide) rfl (fun ls hl => ?_)
              refine lv_goto (tgt := 2) hx hb dX12_methodOf_56 (by decide) ?_
              have hP : va_P G.1 pCl (mW G h0 a (upd F 49 (nI md)) (updA (updA (updA B 29 ds) 36 f) 37 g)) _ := hP
              have hD : va_D A (mW G h0 a (upd F 49 (nI md)) (updA (updA (updA B 29 ds) 36 f) 37 g)) := mW_D hD
              exact ih_o (i2 + 1) s6 _ _ _ (by omega) (by omega) (by omega) (by omega) (he.trans (by rw [show 40 - i2 = 40 - (i2 + 1) + 1 by omega]; exact mth_go (by omega) (fm_end (by omega) hf2) e7 (by omega))) hP hD hS (lv_sub hl [0, 2, 3, 4] rfl)
            · have n12 : ¬ (md ≤ m2) := fun h9 => c4 ((nI_leI (a := md) (b := m2) (by omega) (by omega)).mpr h9)
              refine lv_aload_n hx hb dX12_methodOf_18 rfl (lv_at hl 4 rfl) ?_
              refine r_get (v := .ref (a 36)) hx hb hown hq hE hP 50 120 tFX12_50 (by decide) pw_1467 rfl dX12_methodOf_19 ?_
              refine lv_iload hx hb dX12_methodOf_22 (lv_at hl 0 rfl) ?_
              refine r_ldi (f := f) (j := m2) hx hb hE hP 36 (ma_36 G a _) rfl (by omega) (by decide) dX12_methodOf_24 ?_
              refine lv_iload_n hx hb dX12_methodOf_25 rfl (lv_at hl 1 rfl) ?_
              refine lv_icmp_ne (tgt := 43) hx hb dX12_methodOf_26 (by decide) (fun c13 => ?_) (fun c13 => ?_)
              · refine lv_iinc (v := (nI (m2 + 1))) (lv' := [(4, .int (nI (m2 + 1))), (3, .int (nI d2)), (2, .int x), (1, .int (nI k9)), (0, .ref h0)]) hx hb dX12_methodOf_43 hl (k := 0) rfl (nI_1 m2) (by decide) rfl (fun ls hl => ?_)
                refine lv_goto (tgt := 9) hx hb dX12_methodOf_46 (by decide) ?_
                have hP : va_P G.1 pCl (mW G h0 a (upd F 49 (nI md)) (updA (updA (updA B 29 ds) 36 f) 37 g)) _ := hP
                have hD : va_D A (mW G h0 a (upd F 49 (nI md)) (updA (updA (updA B 29 ds) 36 f) 37 g)) := mW_D hD
                exact ih_i (m2 + 1) _ _ _ (by omega) (by omega) (by omega) (fm_go (by omega) (fun q => c13 q.1) hf2) hP hD hS (lv_sub hl [0, 1, 2, 3, 4] rfl)
              · refine lv_aload_n hx hb dX12_methodOf_29 rfl (lv_at hl 4 rfl) ?_
                refine r_get (v := .ref (a 37)) hx hb hown hq hE hP 51 123 tFX12_51 (by decide) pw_1468 rfl dX12_methodOf_30 ?_
                refine lv_iload hx hb dX12_methodOf_33 (lv_at hl 0 rfl) ?_
                refine r_ldi (f := g) (j := m2) hx hb hE hP 37 (ma_37 G a _) rfl (by omega) (by decide) dX12_methodOf_35 ?_
                refine lv_iload_n hx hb dX12_methodOf_36 rfl (lv_at hl 2 rfl) ?_
                refine lv_icmp_ne (tgt := 43) hx hb dX12_methodOf_37 (by decide) (fun c14 => ?_) (fun c14 => ?_)
                · refine lv_iinc (v := (nI (m2 + 1))) (lv' := [(4, .int (nI (m2 + 1))), (3, .int (nI d2)), (2, .int x), (1, .int (nI k9)), (0, .ref h0)]) hx hb dX12_methodOf_43 hl (k := 0) rfl (nI_1 m2) (by decide) rfl (fun ls hl => ?_)
                  refine lv_goto (tgt := 9) hx hb dX12_methodOf_46 (by decide) ?_
                  have hP : va_P G.1 pCl (mW G h0 a (upd F 49 (nI md)) (updA (updA (updA B 29 ds) 36 f) 37 g)) _ := hP
                  have hD : va_D A (mW G h0 a (upd F 49 (nI md)) (updA (updA (updA B 29 ds) 36 f) 37 g)) := mW_D hD
                  exact ih_i (m2 + 1) _ _ _ (by omega) (by omega) (by omega) (fm_go (by omega) (fun q => c14 q.2) hf2) hP hD hS (lv_sub hl [0, 1, 2, 3, 4] rfl)
                · refine lv_iload hx hb dX12_methodOf_40 (lv_at hl 0 rfl) ?_
                  have hP : va_P G.1 pCl (mW G h0 a (upd F 49 (nI md)) (updA (updA (updA B 29 ds) 36 f) 37 g)) _ := hP
                  have hD : va_D A (mW G h0 a (upd F 49 (nI md)) (updA (updA (updA B 29 ds) 36 f) 37 g)) := mW_D hD
                  exact W.iret (v := (nI m2)) hx hb hr (fun t9 ht9 hW9 => ⟨⟨_, (), rfl, (congrArg (fun z => some (Value.int z)) (he.trans (by obtain ⟨s9, _, _, z9⟩ := hrk2 d2 (by omega) (by omega); rw [show 40 - i2 = 40 - (i2 + 1) + 1 by omega]; exact mth_hit (by omega) (fm_hit (by omega) ⟨c13, c14⟩ hf2) (by omega))).symm), by rw [ht9]; exact hP, hD⟩, hS.F ht9⟩) hS.2.2 dX12_methodOf_42
        have hP : va_P G.1 pCl (mW G h0 a (upd F 49 (nI md)) (updA (updA (updA B 29 ds) 36 f) 37 g)) _ := hP
        have hD : va_D A (mW G h0 a (upd F 49 (nI md)) (updA (updA (updA B 29 ds) 36 f) 37 g)) := mW_D hD
        exact loop_i (md + 1) 0 _ _ _ (by omega) (by omega) (by omega) (Eq.refl _) hP hD hS (lv_sub hl [0, 1, 2, 3, 4] rfl)
  have hP : va_P G.1 pCl (mW G h0 a (upd F 49 (nI md)) (updA (updA (updA B 29 ds) 36 f) 37 g)) _ := hP
  have hD : va_D A (mW G h0 a (upd F 49 (nI md)) (updA (updA (updA B 29 ds) 36 f) 37 g)) := mW_D hD
  exact loop_o (40 + 1) 0 k9 _ _ _ (by omega) (by omega) (by omega) (by have := hrk1 k9; omega) (Eq.refl _) hP hD hS (lv_sub hl [0, 3, 2, 1] rfl)
theorem dX12_anyMethod_0 : decode cX12_anyMethod 0 = .ok (.aload_n 0, 1) := by decide +kernel
theorem dX12_anyMethod_1 : decode cX12_anyMethod 1 = .ok (.getfield 90, 3) := by decide +kernel
theorem dX12_anyMethod_4 : decode cX12_anyMethod 4 = .ok (.iload_n 1, 1) := by decide +kernel
theorem dX12_anyMethod_5 : decode cX12_anyMethod 5 = .ok (.baload, 1) := by decide +kernel
theorem dX12_anyMethod_6 : decode cX12_anyMethod 6 = .ok (.ifCond .eq 7, 3) := by decide +kernel
theorem dX12_anyMethod_13 : decode cX12_anyMethod 13 = .ok (.aload_n 0, 1) := by decide +kernel
theorem dX12_anyMethod_14 : decode cX12_anyMethod 14 = .ok (.iload_n 1, 1) := by decide +kernel
theorem dX12_anyMethod_15 : decode cX12_anyMethod 15 = .ok (.iload_n 2, 1) := by decide +kernel
theorem dX12_anyMethod_16 : decode cX12_anyMethod 16 = .ok (.invokevirtual 515, 3) := by decide +kernel
theorem dX12_anyMethod_19 : decode cX12_anyMethod 19 = .ok (.istore_n 3, 1) := by decide +kernel
theorem dX12_anyMethod_20 : decode cX12_anyMethod 20 = .ok (.iconst 0, 1) := by decide +kernel
theorem dX12_anyMethod_21 : decode cX12_anyMethod 21 = .ok (.istore 4, 2) := by decide +kernel
theorem dX12_anyMethod_23 : decode cX12_anyMethod 23 = .ok (.iload 4, 2) := by decide +kernel
theorem dX12_anyMethod_25 : decode cX12_anyMethod 25 = .ok (.aload_n 0, 1) := by decide +kernel
theorem dX12_anyMethod_26 : decode cX12_anyMethod 26 = .ok (.getfield 416, 3) := by decide +kernel
theorem dX12_anyMethod_29 : decode cX12_anyMethod 29 = .ok (.if_icmp .ge 58, 3) := by decide +kernel
theorem dX12_anyMethod_87 : decode cX12_anyMethod 87 = .ok (.iload_n 3, 1) := by decide +kernel
theorem dX12_anyMethod_88 : decode cX12_anyMethod 88 = .ok (.ireturn, 1) := by decide +kernel
theorem dX12_anyMethod_32 : decode cX12_anyMethod 32 = .ok (.iload_n 3, 1) := by decide +kernel
theorem dX12_anyMethod_33 : decode cX12_anyMethod 33 = .ok (.iconst (-1), 1) := by decide +kernel
theorem dX12_anyMethod_34 : decode cX12_anyMethod 34 = .ok (.if_icmp .ne 53, 3) := by decide +kernel
theorem dX12_anyMethod_37 : decode cX12_anyMethod 37 = .ok (.aload_n 0, 1) := by decide +kernel
theorem dX12_anyMethod_38 : decode cX12_anyMethod 38 = .ok (.getfield 120, 3) := by decide +kernel
theorem dX12_anyMethod_41 : decode cX12_anyMethod 41 = .ok (.iload 4, 2) := by decide +kernel
theorem dX12_anyMethod_43 : decode cX12_anyMethod 43 = .ok (.iaload, 1) := by decide +kernel
theorem dX12_anyMethod_44 : decode cX12_anyMethod 44 = .ok (.iload_n 1, 1) := by decide +kernel
theorem dX12_anyMethod_45 : decode cX12_anyMethod 45 = .ok (.if_icmp .eq 18, 3) := by decide +kernel
theorem dX12_anyMethod_63 : decode cX12_anyMethod 63 = .ok (.aload_n 0, 1) := by decide +kernel
theorem dX12_anyMethod_64 : decode cX12_anyMethod 64 = .ok (.getfield 123, 3) := by decide +kernel
theorem dX12_anyMethod_67 : decode cX12_anyMethod 67 = .ok (.iload 4, 2) := by decide +kernel
theorem dX12_anyMethod_69 : decode cX12_anyMethod 69 = .ok (.iaload, 1) := by decide +kernel
theorem dX12_anyMethod_70 : decode cX12_anyMethod 70 = .ok (.iload_n 2, 1) := by decide +kernel
theorem dX12_anyMethod_71 : decode cX12_anyMethod 71 = .ok (.if_icmp .ne 8, 3) := by decide +kernel
theorem dX12_anyMethod_79 : decode cX12_anyMethod 79 = .ok (.iconst (-1), 1) := by decide +kernel
theorem dX12_anyMethod_80 : decode cX12_anyMethod 80 = .ok (.istore_n 3, 1) := by decide +kernel
theorem dX12_anyMethod_81 : decode cX12_anyMethod 81 = .ok (.iinc 4 1, 3) := by decide +kernel
theorem dX12_anyMethod_84 : decode cX12_anyMethod 84 = .ok (.goto (-61), 3) := by decide +kernel
theorem dX12_anyMethod_74 : decode cX12_anyMethod 74 = .ok (.iload 4, 2) := by decide +kernel
theorem dX12_anyMethod_76 : decode cX12_anyMethod 76 = .ok (.goto 4, 3) := by decide +kernel
theorem dX12_anyMethod_48 : decode cX12_anyMethod 48 = .ok (.aload_n 0, 1) := by decide +kernel
theorem dX12_anyMethod_49 : decode cX12_anyMethod 49 = .ok (.aload_n 0, 1) := by decide +kernel
theorem dX12_anyMethod_50 : decode cX12_anyMethod 50 = .ok (.getfield 120, 3) := by decide +kernel
theorem dX12_anyMethod_53 : decode cX12_anyMethod 53 = .ok (.iload 4, 2) := by decide +kernel
theorem dX12_anyMethod_55 : decode cX12_anyMethod 55 = .ok (.iaload, 1) := by decide +kernel
theorem dX12_anyMethod_56 : decode cX12_anyMethod 56 = .ok (.iload_n 1, 1) := by decide +kernel
theorem dX12_anyMethod_57 : decode cX12_anyMethod 57 = .ok (.invokevirtual 518, 3) := by decide +kernel
theorem dX12_anyMethod_60 : decode cX12_anyMethod 60 = .ok (.ifCond .eq 19, 3) := by decide +kernel
theorem dX12_anyMethod_9 : decode cX12_anyMethod 9 = .ok (.iconst (-1), 1) := by decide +kernel
theorem dX12_anyMethod_10 : decode cX12_anyMethod 10 = .ok (.goto 9, 3) := by decide +kernel
theorem hV_X12_methodOf : yX12_methodOf.cls = RX12 ∧ yX12_methodOf.cls ≠ "java/lang/invoke/MethodHandle" ∧ yX12_methodOf.cls ≠ "java/lang/invoke/VarHandle" ∧ (parseMethodDescriptor yX12_methodOf.desc).map (fun d => d.parameters.length) = some 2 := by decide +kernel
theorem hV_X12_isAbove : yX12_isAbove.cls = RX12 ∧ yX12_isAbove.cls ≠ "java/lang/invoke/MethodHandle" ∧ yX12_isAbove.cls ≠ "java/lang/invoke/VarHandle" ∧ (parseMethodDescriptor yX12_isAbove.desc).map (fun d => d.parameters.length) = some 2 := by decide +kernel
set_option maxHeartbeats 2000000 in
set_option maxRecDepth 100000 in
/-- anyMethod(k, name) -/
theorem R_anyMethod (l : Launch) (G : pT) (h0 : Nat) (a : Nat → Nat) (F : Nat → Int32) (B : Nat → Nat → Int32) (k9 : Nat) (dc : Nat) (md : Nat) (x : Int32) (hk9 : k9 < dc) (hdc : dc ≤ 37) (hmd : md ≤ 920) (hrk : Rk (B 29) dc) (hbi : bitsM (B 31)) (hmo : ∀ m : Nat, m < md → ∃ d : Nat, B 36 m = nI d ∧ d < dc) : PM l G pX0 yX12_anyMethod cX12_anyMethod 5 (some .int) ({ frames := 3, cells := 0, slots := 0, locals := 84 }) [.ref h0, .int (nI k9), .int x] (mW G h0 a (upd F 49 (nI md)) B) (fun (v : Option Value) (u : Int32) => v = some (.int u) ∧ (AnyQ B dc md k9 x u)) (fun u => (mW G h0 a (upd F 49 (nI md)) B)) := by
  intro sz
  refine Met.ofW (cc := cX12_anyMethod) (maxL := 5) (ret := (some .int)) (by decide) rfl ?_
  intro p e s m args below meth c s₁ B9 hml hv
  obtain ⟨rfl, hsz, hP, hD0, hE, hX⟩ := hv
  have hx := B9.exec
  have hb := B9.bytes
  have hr := B9.returns
  have hts := atoms_spec (ws := Cond.code yX12_anyMethod cX12_anyMethod 5 (some .int) :: pw) B9.pre
  have hq : ∀ w ∈ pw, w.before _ s = true := fun w h => hts w (List.mem_cons_of_mem _ h)
  have hown : s.vm.findClass RX12 = some m.cls := findClass_of_methodNamed B9.named
  have hlocks := B9.notSynchronized
  subst hsz
  have hD := hD0.self (sz := s.heap.size)
  have hA : ∀ q : Nat, s.heap.size ≤ q → va_A (mW G h0 a (upd F 49 (nI md)) B) s.heap.size q := fun q h => Or.inr h
  have hP : va_P G.1 pCl (mW G h0 a (upd F 49 (nI md)) B) s.heap := hP
  generalize va_A (mW G h0 a (upd F 49 (nI md)) B) s.heap.size = A at hD hE hA ⊢
  have hS : va_S A s.heap s.heap [] := va_S.rf
  have hl := lv_entry ([.ref h0, .int (nI k9), .int x]) (n := 5) (Nat.le_of_ble_eq_true rfl)
  rw [lg_entry_eq]
  generalize (lg_sl ([.ref h0, .int (nI k9), .int x]) ++ List.replicate (5 - (lg_sl ([.ref h0, .int (nI k9), .int x])).length) Slot.unset).toArray = ls at hl ⊢
  have hl : lv_has ls 5 [(0, .ref h0), (1, .int (nI k9)), (2, .int x)] := hl
  refine lv_aload_n hx hb dX12_anyMethod_0 rfl (lv_at hl 0 rfl) ?_
  refine r_get (v := .ref (a 26)) hx hb hown hq hE hP 38 90 tFX12_38 (by decide) pw_1457 rfl dX12_anyMethod_1 ?_
  refine lv_iload_n hx hb dX12_anyMethod_4 rfl (lv_at hl 1 rfl) ?_
  refine r_ldz (f := (B 26)) (j := k9) hx hb hE hP 26 (ma_26 G a _) rfl (by omega) (by decide) dX12_anyMethod_5 ?_
  refine lv_if_eq (tgt := 13) hx hb dX12_anyMethod_6 (by decide) (fun c1 => ?_) (fun c1 => ?_)
  · refine lv_aload_n hx hb dX12_anyMethod_13 rfl (lv_at hl 0 rfl) ?_
    refine lv_iload_n hx hb dX12_anyMethod_14 rfl (lv_at hl 1 rfl) ?_
    refine lv_iload_n hx hb dX12_anyMethod_15 rfl (lv_at hl 2 rfl) ?_
    have hP : va_P G.1 pCl (mW G h0 a (upd (upd F 49 (nI md)) 49 (nI md)) (updA (updA (updA B 29 (B 29)) 36 (B 36)) 37 (B 37))) _ := mW_to (F := F) (l1 := [(49, (nI md))]) (l2 := [(49, (nI md)), (49, (nI md))]) (V := [(nI md), (nI md), (nI md)]) rfl rfl (show B = (updA (updA (updA B 29 (B 29)) 36 (B 36)) 37 (B 37)) from updsA_eq2 (F := B) (l1 := []) (l2 := [(29, (B 29)), (36, (B 36)), (37, (B 37))]) (V := [(B 29), (B 36), (B 37)]) rfl rfl) hP
    have hD : va_D A (mW G h0 a (upd (upd F 49 (nI md)) 49 (nI md)) (updA (updA (updA B 29 (B 29)) 36 (B 36)) 37 (B 37))) := mW_D hD
    refine pc_V0 (G := G) (As := [.int (nI k9), .int x]) (rest := []) hx hb hml hown hq hE hX pX0_al hP hD hS hA hl.1 (R_methodOf l G h0 a (upd F 49 (nI md)) B k9 dc md x (B 36) (B 37) (B 29) (by omega) (by omega) (by omega) hrk) (gV pw_1769 pw_1770 pw_1771 pw_1523 pw_1767) hV_X12_methodOf 0 9 rfl rfl rfl rfl (Nat.le_of_ble_eq_true rfl) dX12_anyMethod_16 ⟨Nat.le_of_ble_eq_true rfl, Nat.le_of_ble_eq_true rfl⟩ ⟨Nat.le_of_ble_eq_true rfl, Nat.le_of_ble_eq_true rfl⟩ (fun v4 u2 H locs hw3 hP hD hS => ?_)
    obtain rfl : v4 = some (.int (mthF (B 36) (B 37) (B 29) md x 40 k9)) := hw3
    have hP : va_P G.1 pCl (mW G h0 a (upd F 49 (nI md)) B) _ := mW_to (F := F) (l1 := [(49, (nI md)), (49, (nI md))]) (l2 := [(49, (nI md))]) (V := [(nI md), (nI md), (nI md)]) rfl rfl (show (updA (updA (updA B 29 (B 29)) 36 (B 36)) 37 (B 37)) = B from updsA_eq2 (F := B) (l1 := [(29, (B 29)), (36, (B 36)), (37, (B 37))]) (l2 := []) (V := [(B 29), (B 36), (B 37)]) rfl rfl) hP
    have hD : va_D A (mW G h0 a (upd F 49 (nI md)) B) := mW_D hD
    refine W.widen (k := 0) (n := 0) (Nat.le_of_ble_eq_true rfl) (Nat.le_of_ble_eq_true rfl) ?_
    refine W.eq (g2 := F0 m 19 ls [.int (mthF (B 36) (B 37) (B 29) md x 40 k9)]) rfl ?_
    refine lv_istore_n (lv' := [(3, .int (mthF (B 36) (B 37) (B 29) md x 40 k9)), (0, .ref h0), (1, .int (nI k9)), (2, .int x)]) hx hb dX12_anyMethod_19 rfl hl (by decide) rfl (fun ls hl => ?_)
    refine lv_iconst (v := 0) hx hb dX12_anyMethod_20 (by decide) ?_
    refine lv_istore (lv' := [(4, .int 0), (3, .int (mthF (B 36) (B 37) (B 29) md x 40 k9)), (0, .ref h0), (1, .int (nI k9)), (2, .int x)]) hx hb dX12_anyMethod_21 hl (by decide) rfl (fun ls hl => ?_)
    have loop_o : ∀ (n_o : Nat) (m2 : Nat) (ow : Int32) (H : Heap) (locs : List Loc) (ls : Array Slot), m2 ≤ md → md + 1 ≤ m2 + n_o → (AnyQ B dc md k9 x ow) → (If (ow = -1) (B 26 k9 = 0 → mthF (B 36) (B 37) (B 29) md x 40 k9 = -1)) → va_P G.1 pCl (mW G h0 a (upd F 49 (nI md)) B) H → va_D A (mW G h0 a (upd F 49 (nI md)) B) → va_S A s.heap H locs → lv_has ls 5 [(4, .int (nI m2)), (3, .int ow), (2, .int x), (1, .int (nI k9)), (0, .ref h0)] → W p l e (headSpec (Cond.code yX12_anyMethod cX12_anyMethod 5 (some .int) :: pw) ({ frames := 3, cells := 0, slots := 0, locals := 84 } : Room)).room s m ([.ref h0, .int (nI k9), .int x] : List Value).toArray below meth c H locs 0 0 (MQ below (pQ G A (fun (v : Option Value) (u : Int32) => v = some (.int u) ∧ (AnyQ B dc md k9 x u)) (fun u => (mW G h0 a (upd F 49 (nI md)) B))) ([.ref h0, .int (nI k9), .int x] : List Value).toArray s ({ frames := 3, cells := 0, slots := 0, locals := 84 } : Room).cells ({ frames := 3, cells := 0, slots := 0, locals := 84 } : Room).slots A) (F0 m 23 ls []) := by
      intro n_o
      induction n_o with
      | zero => intro m2 ow H locs ls hk_o hn_o; omega
      | succ n_o ih_o =>
        intro m2 ow H locs ls hk_o hn_o ho hw0 hP hD hS hl
        refine lv_iload hx hb dX12_anyMethod_23 (lv_at hl 0 rfl) ?_
        refine lv_aload_n hx hb dX12_anyMethod_25 rfl (lv_at hl 4 rfl) ?_
        refine r_get (v := .int (nI md)) hx hb hown hq hE hP 49 416 tFX12_49 (by decide) pw_1721 rfl dX12_anyMethod_26 ?_
        refine lv_icmp_ge (tgt := 87) hx hb dX12_anyMethod_29 (by decide) (fun c5 => ?_) (fun c5 => ?_)
        · have n6 : md ≤ m2 := (nI_leI (a := md) (b := m2) (by omega) (by omega)).mp c5
          refine lv_iload_n hx hb dX12_anyMethod_87 rfl (lv_at hl 1 rfl) ?_
          have hz7 : AnyQ B dc md k9 x ow := ho
          have hP : va_P G.1 pCl (mW G h0 a (upd F 49 (nI md)) B) _ := hP
          have hD : va_D A (mW G h0 a (upd F 49 (nI md)) B) := mW_D hD
          exact W.iret (v := ow) hx hb hr (fun t9 ht9 hW9 => ⟨⟨_, ow, rfl, ⟨rfl, hz7⟩, by rw [ht9]; exact hP, hD⟩, hS.F ht9⟩) hS.2.2 dX12_anyMethod_88
        · have n8 : ¬ (md ≤ m2) := fun h9 => c5 ((nI_leI (a := md) (b := m2) (by omega) (by omega)).mpr h9)
          refine lv_iload_n hx hb dX12_anyMethod_32 rfl (lv_at hl 1 rfl) ?_
          refine lv_iconst (v := (-1)) hx hb dX12_anyMethod_33 (by decide) ?_
          refine lv_icmp_ne (tgt := 87) hx hb dX12_anyMethod_34 (by decide) (fun c9 => ?_) (fun c9 => ?_)
          · refine lv_iload_n hx hb dX12_anyMethod_87 rfl (lv_at hl 1 rfl) ?_
            have hz10 : AnyQ B dc md k9 x ow := ho
            have hP : va_P G.1 pCl (mW G h0 a (upd F 49 (nI md)) B) _ := hP
            have hD : va_D A (mW G h0 a (upd F 49 (nI md)) B) := mW_D hD
            exact W.iret (v := ow) hx hb hr (fun t9 ht9 hW9 => ⟨⟨_, ow, rfl, ⟨rfl, hz10⟩, by rw [ht9]; exact hP, hD⟩, hS.F ht9⟩) hS.2.2 dX12_anyMethod_88
          · refine lv_aload_n hx hb dX12_anyMethod_37 rfl (lv_at hl 4 rfl) ?_
            refine r_get (v := .ref (a 36)) hx hb hown hq hE hP 50 120 tFX12_50 (by decide) pw_1467 rfl dX12_anyMethod_38 ?_
            refine lv_iload hx hb dX12_anyMethod_41 (lv_at hl 0 rfl) ?_
            refine r_ldi (f := (B 36)) (j := m2) hx hb hE hP 36 (ma_36 G a _) rfl (by omega) (by decide) dX12_anyMethod_43 ?_
            obtain ⟨d11, e12, h13⟩ := hmo m2 (by omega)
            refine lv_topi (fun x14 e15 => ?_)
            obtain rfl : x14 = nI d11 := e15.trans e12
            refine lv_iload_n hx hb dX12_anyMethod_44 rfl (lv_at hl 3 rfl) ?_
            refine lv_icmp_eq (tgt := 63) hx hb dX12_anyMethod_45 (by decide) (fun c16 => ?_) (fun c16 => ?_)
            · have n17 : d11 = k9 := (nI_eq (a := d11) (b := k9) (by omega) (by omega)).mp c16
              refine lv_aload_n hx hb dX12_anyMethod_63 rfl (lv_at hl 4 rfl) ?_
              refine r_get (v := .ref (a 37)) hx hb hown hq hE hP 51 123 tFX12_51 (by decide) pw_1468 rfl dX12_anyMethod_64 ?_
              refine lv_iload hx hb dX12_anyMethod_67 (lv_at hl 0 rfl) ?_
              refine r_ldi (f := (B 37)) (j := m2) hx hb hE hP 37 (ma_37 G a _) rfl (by omega) (by decide) dX12_anyMethod_69 ?_
              refine lv_iload_n hx hb dX12_anyMethod_70 rfl (lv_at hl 2 rfl) ?_
              refine lv_icmp_ne (tgt := 79) hx hb dX12_anyMethod_71 (by decide) (fun c18 => ?_) (fun c18 => ?_)
              · refine lv_iconst (v := (-1)) hx hb dX12_anyMethod_79 (by decide) ?_
                refine lv_istore_n (lv' := [(3, .int (-1)), (4, .int (nI m2)), (2, .int x), (1, .int (nI k9)), (0, .ref h0)]) hx hb dX12_anyMethod_80 rfl hl (by decide) rfl (fun ls hl => ?_)
                refine lv_iinc (v := (nI (m2 + 1))) (lv' := [(4, .int (nI (m2 + 1))), (3, .int (-1)), (2, .int x), (1, .int (nI k9)), (0, .ref h0)]) hx hb dX12_anyMethod_81 hl (k := 1) rfl (nI_1 m2) (by decide) rfl (fun ls hl => ?_)
                refine lv_goto (tgt := 23) hx hb dX12_anyMethod_84 (by decide) ?_
                have hP : va_P G.1 pCl (mW G h0 a (upd F 49 (nI md)) B) _ := hP
                have hD : va_D A (mW G h0 a (upd F 49 (nI md)) B) := mW_D hD
                exact ih_o (m2 + 1) (-1) _ _ _ (by omega) (by omega) (Or.inl rfl) (fun _ => hw0 c9) hP hD hS (lv_sub hl [0, 1, 2, 3, 4] rfl)
              · refine lv_iload hx hb dX12_anyMethod_74 (lv_at hl 0 rfl) ?_
                refine lv_goto (tgt := 80) hx hb dX12_anyMethod_76 (by decide) ?_
                refine lv_istore_n (lv' := [(3, .int (nI m2)), (4, .int (nI m2)), (2, .int x), (1, .int (nI k9)), (0, .ref h0)]) hx hb dX12_anyMethod_80 rfl hl (by decide) rfl (fun ls hl => ?_)
                refine lv_iinc (v := (nI (m2 + 1))) (lv' := [(4, .int (nI (m2 + 1))), (3, .int (nI m2)), (2, .int x), (1, .int (nI k9)), (0, .ref h0)]) hx hb dX12_anyMethod_81 hl (k := 1) rfl (nI_1 m2) (by decide) rfl (fun ls hl => ?_)
                refine lv_goto (tgt := 23) hx hb dX12_anyMethod_84 (by decide) ?_
                have hP : va_P G.1 pCl (mW G h0 a (upd F 49 (nI md)) B) _ := hP
                have hD : va_D A (mW G h0 a (upd F 49 (nI md)) B) := mW_D hD
                exact ih_o (m2 + 1) (nI m2) _ _ _ (by omega) (by omega) (Or.inr ⟨m2, rfl, by omega, Or.inr ⟨hw0 c9, c18, (Or.inl (by rw [e12]; exact c16))⟩⟩) (fun e => absurd e (nI_m1 (by omega))) hP hD hS (lv_sub hl [0, 1, 2, 3, 4] rfl)
            · have n19 : ¬ (d11 = k9) := fun h9 => c16 ((nI_eq (a := d11) (b := k9) (by omega) (by omega)).mpr h9)
              refine lv_aload_n hx hb dX12_anyMethod_48 rfl (lv_at hl 4 rfl) ?_
              refine lv_aload_n hx hb dX12_anyMethod_49 rfl (lv_at hl 4 rfl) ?_
              refine r_get (v := .ref (a 36)) hx hb hown hq hE hP 50 120 tFX12_50 (by decide) pw_1467 rfl dX12_anyMethod_50 ?_
              refine lv_iload hx hb dX12_anyMethod_53 (lv_at hl 0 rfl) ?_
              refine r_ldi (f := (B 36)) (j := m2) hx hb hE hP 36 (ma_36 G a _) rfl (by omega) (by decide) dX12_anyMethod_55 ?_
              refine lv_topi (fun x20 e21 => ?_)
              obtain rfl : x20 = nI d11 := e21.trans e12
              refine lv_iload_n hx hb dX12_anyMethod_56 rfl (lv_at hl 3 rfl) ?_
              have hP : va_P G.1 pCl (mW G h0 a (upd F 49 (nI md)) (updA B 31 (B 31))) _ := mW_to (F := F) (l1 := [(49, (nI md))]) (l2 := [(49, (nI md))]) (V := [(nI md), (nI md)]) rfl rfl (show B = (updA B 31 (B 31)) from updsA_eq2 (F := B) (l1 := []) (l2 := [(31, (B 31))]) (V := [(B 31)]) rfl rfl) hP
              have hD : va_D A (mW G h0 a (upd F 49 (nI md)) (updA B 31 (B 31))) := mW_D hD
              refine pc_V0 (G := G) (As := [.int (nI d11), .int (nI k9)]) (rest := []) hx hb hml hown hq hE hX pX0_al hP hD hS hA hl.1 (R_isAbove l G h0 a (upd F 49 (nI md)) B d11 k9 (B 31) (by omega) hbi) (gV pw_1772 pw_1773 pw_1774 pw_1523 pw_1760) hV_X12_isAbove 0 9 rfl rfl rfl rfl (Nat.le_of_ble_eq_true rfl) dX12_anyMethod_57 ⟨Nat.le_of_ble_eq_true rfl, Nat.le_of_ble_eq_true rfl⟩ ⟨Nat.le_of_ble_eq_true rfl, Nat.le_of_ble_eq_true rfl⟩ (fun v24 u22 H locs hw23 hP hD hS => ?_)
              obtain rfl : v24 = some (.int ((B 31) (40 * d11 + k9))) := hw23
              have hP : va_P G.1 pCl (mW G h0 a (upd F 49 (nI md)) B) _ := mW_to (F := F) (l1 := [(49, (nI md))]) (l2 := [(49, (nI md))]) (V := [(nI md), (nI md)]) rfl rfl (show (updA B 31 (B 31)) = B from updsA_eq2 (F := B) (l1 := [(31, (B 31))]) (l2 := []) (V := [(B 31)]) rfl rfl) hP
              have hD : va_D A (mW G h0 a (upd F 49 (nI md)) B) := mW_D hD
              refine W.widen (k := 0) (n := 0) (Nat.le_of_ble_eq_true rfl) (Nat.le_of_ble_eq_true rfl) ?_
              refine W.eq (g2 := F0 m 60 ls [.int ((B 31) (40 * d11 + k9))]) rfl ?_
              refine lv_if_eq (tgt := 79) hx hb dX12_anyMethod_60 (by decide) (fun c25 => ?_) (fun c25 => ?_)
              · refine lv_iconst (v := (-1)) hx hb dX12_anyMethod_79 (by decide) ?_
                refine lv_istore_n (lv' := [(3, .int (-1)), (4, .int (nI m2)), (2, .int x), (1, .int (nI k9)), (0, .ref h0)]) hx hb dX12_anyMethod_80 rfl hl (by decide) rfl (fun ls hl => ?_)
                refine lv_iinc (v := (nI (m2 + 1))) (lv' := [(4, .int (nI (m2 + 1))), (3, .int (-1)), (2, .int x), (1, .int (nI k9)), (0, .ref h0)]) hx hb dX12_anyMethod_81 hl (k := 1) rfl (nI_1 m2) (by decide) rfl (fun ls hl => ?_)
                refine lv_goto (tgt := 23) hx hb dX12_anyMethod_84 (by decide) ?_
                have hP : va_P G.1 pCl (mW G h0 a (upd F 49 (nI md)) B) _ := hP
                have hD : va_D A (mW G h0 a (upd F 49 (nI md)) B) := mW_D hD
                exact ih_o (m2 + 1) (-1) _ _ _ (by omega) (by omega) (Or.inl rfl) (fun _ => hw0 c9) hP hD hS (lv_sub hl [0, 1, 2, 3, 4] rfl)
              · refine lv_aload_n hx hb dX12_anyMethod_63 rfl (lv_at hl 4 rfl) ?_
                refine r_get (v := .ref (a 37)) hx hb hown hq hE hP 51 123 tFX12_51 (by decide) pw_1468 rfl dX12_anyMethod_64 ?_
                refine lv_iload hx hb dX12_anyMethod_67 (lv_at hl 0 rfl) ?_
                refine r_ldi (f := (B 37)) (j := m2) hx hb hE hP 37 (ma_37 G a _) rfl (by omega) (by decide) dX12_anyMethod_69 ?_
                refine lv_iload_n hx hb dX12_anyMethod_70 rfl (lv_at hl 2 rfl) ?_
                refine lv_icmp_ne (tgt := 79) hx hb dX12_anyMethod_71 (by decide) (fun c26 => ?_) (fun c26 => ?_)
                · refine lv_iconst (v := (-1)) hx hb dX12_anyMethod_79 (by decide) ?_
                  refine lv_istore_n (lv' := [(3, .int (-1)), (4, .int (nI m2)), (2, .int x), (1, .int (nI k9)), (0, .ref h0)]) hx hb dX12_anyMethod_80 rfl hl (by decide) rfl (fun ls hl => ?_)
                  refine lv_iinc (v := (nI (m2 + 1))) (lv' := [(4, .int (nI (m2 + 1))), (3, .int (-1)), (2, .int x), (1, .int (nI k9)), (0, .ref h0)]) hx hb dX12_anyMethod_81 hl (k := 1) rfl (nI_1 m2) (by decide) rfl (fun ls hl => ?_)
                  refine lv_goto (tgt := 23) hx hb dX12_anyMethod_84 (by decide) ?_
                  have hP : va_P G.1 pCl (mW G h0 a (upd F 49 (nI md)) B) _ := hP
                  have hD : va_D A (mW G h0 a (upd F 49 (nI md)) B) := mW_D hD
                  exact ih_o (m2 + 1) (-1) _ _ _ (by omega) (by omega) (Or.inl rfl) (fun _ => hw0 c9) hP hD hS (lv_sub hl [0, 1, 2, 3, 4] rfl)
                · refine lv_iload hx hb dX12_anyMethod_74 (lv_at hl 0 rfl) ?_
                  refine lv_goto (tgt := 80) hx hb dX12_anyMethod_76 (by decide) ?_
                  refine lv_istore_n (lv' := [(3, .int (nI m2)), (4, .int (nI m2)), (2, .int x), (1, .int (nI k9)), (0, .ref h0)]) hx hb dX12_anyMethod_80 rfl hl (by decide) rfl (fun ls hl => ?_)
                  refine lv_iinc (v := (nI (m2 + 1))) (lv' := [(4, .int (nI (m2 + 1))), (3, .int (nI m2)), (2, .int x), (1, .int (nI k9)), (0, .ref h0)]) hx hb dX12_anyMethod_81 hl (k := 1) rfl (nI_1 m2) (by decide) rfl (fun ls hl => ?_)
                  refine lv_goto (tgt := 23) hx hb dX12_anyMethod_84 (by decide) ?_
                  have hP : va_P G.1 pCl (mW G h0 a (upd F 49 (nI md)) B) _ := hP
                  have hD : va_D A (mW G h0 a (upd F 49 (nI md)) B) := mW_D hD
                  exact ih_o (m2 + 1) (nI m2) _ _ _ (by omega) (by omega) (Or.inr ⟨m2, rfl, by omega, Or.inr ⟨hw0 c9, c26, (Or.inr ⟨d11, e12, by omega, bitsM.one hbi (by omega) c25⟩)⟩⟩) (fun e => absurd e (nI_m1 (by omega))) hP hD hS (lv_sub hl [0, 1, 2, 3, 4] rfl)
    have hP : va_P G.1 pCl (mW G h0 a (upd F 49 (nI md)) B) _ := hP
    have hD : va_D A (mW G h0 a (upd F 49 (nI md)) B) := mW_D hD
    exact loop_o (md + 1) 0 (mthF (B 36) (B 37) (B 29) md x 40 k9) _ _ _ (by omega) (by omega) ((mth_or 40 k9).imp id (fun ⟨m, a, b, _⟩ => ⟨m, a, b, Or.inl ⟨c1, rfl⟩⟩)) (fun e _ => e) hP hD hS (lv_sub hl [0, 1, 4, 3, 2] rfl)
  · refine lv_iconst (v := (-1)) hx hb dX12_anyMethod_9 (by decide) ?_
    refine lv_goto (tgt := 19) hx hb dX12_anyMethod_10 (by decide) ?_
    refine lv_istore_n (lv' := [(3, .int (-1)), (0, .ref h0), (1, .int (nI k9)), (2, .int x)]) hx hb dX12_anyMethod_19 rfl hl (by decide) rfl (fun ls hl => ?_)
    refine lv_iconst (v := 0) hx hb dX12_anyMethod_20 (by decide) ?_
    refine lv_istore (lv' := [(4, .int 0), (3, .int (-1)), (0, .ref h0), (1, .int (nI k9)), (2, .int x)]) hx hb dX12_anyMethod_21 hl (by decide) rfl (fun ls hl => ?_)
    have loop_o : ∀ (n_o : Nat) (m2 : Nat) (ow : Int32) (H : Heap) (locs : List Loc) (ls : Array Slot), m2 ≤ md → md + 1 ≤ m2 + n_o → (AnyQ B dc md k9 x ow) → (If (ow = -1) (B 26 k9 = 0 → mthF (B 36) (B 37) (B 29) md x 40 k9 = -1)) → va_P G.1 pCl (mW G h0 a (upd F 49 (nI md)) B) H → va_D A (mW G h0 a (upd F 49 (nI md)) B) → va_S A s.heap H locs → lv_has ls 5 [(4, .int (nI m2)), (3, .int ow), (2, .int x), (1, .int (nI k9)), (0, .ref h0)] → W p l e (headSpec (Cond.code yX12_anyMethod cX12_anyMethod 5 (some .int) :: pw) ({ frames := 3, cells := 0, slots := 0, locals := 84 } : Room)).room s m ([.ref h0, .int (nI k9), .int x] : List Value).toArray below meth c H locs 0 0 (MQ below (pQ G A (fun (v : Option Value) (u : Int32) => v = some (.int u) ∧ (AnyQ B dc md k9 x u)) (fun u => (mW G h0 a (upd F 49 (nI md)) B))) ([.ref h0, .int (nI k9), .int x] : List Value).toArray s ({ frames := 3, cells := 0, slots := 0, locals := 84 } : Room).cells ({ frames := 3, cells := 0, slots := 0, locals := 84 } : Room).slots A) (F0 m 23 ls []) := by
      intro n_o
      induction n_o with
      | zero => intro m2 ow H locs ls hk_o hn_o; omega
      | succ n_o ih_o =>
        intro m2 ow H locs ls hk_o hn_o ho hw0 hP hD hS hl
        refine lv_iload hx hb dX12_anyMethod_23 (lv_at hl 0 rfl) ?_
        refine lv_aload_n hx hb dX12_anyMethod_25 rfl (lv_at hl 4 rfl) ?_
        refine r_get (v := .int (nI md)) hx hb hown hq hE hP 49 416 tFX12_49 (by decide) pw_1721 rfl dX12_anyMethod_26 ?_
        refine lv_icmp_ge (tgt := 87) hx hb dX12_anyMethod_29 (by decide) (fun c27 => ?_) (fun c27 => ?_)
        · have n28 : md ≤ m2 := (nI_leI (a := md) (b := m2) (by omega) (by omega)).mp c27
          refine lv_iload_n hx hb dX12_anyMethod_87 rfl (lv_at hl 1 rfl) ?_
          have hz29 : AnyQ B dc md k9 x ow := ho
          have hP : va_P G.1 pCl (mW G h0 a (upd F 49 (nI md)) B) _ := hP
          have hD : va_D A (mW G h0 a (upd F 49 (nI md)) B) := mW_D hD
          exact W.iret (v := ow) hx hb hr (fun t9 ht9 hW9 => ⟨⟨_, ow, rfl, ⟨rfl, hz29⟩, by rw [ht9]; exact hP, hD⟩, hS.F ht9⟩) hS.2.2 dX12_anyMethod_88
        · have n30 : ¬ (md ≤ m2) := fun h9 => c27 ((nI_leI (a := md) (b := m2) (by omega) (by omega)).mpr h9)
          refine lv_iload_n hx hb dX12_anyMethod_32 rfl (lv_at hl 1 rfl) ?_
          refine lv_iconst (v := (-1)) hx hb dX12_anyMethod_33 (by decide) ?_
          refine lv_icmp_ne (tgt := 87) hx hb dX12_anyMethod_34 (by decide) (fun c31 => ?_) (fun c31 => ?_)
          · refine lv_iload_n hx hb dX12_anyMethod_87 rfl (lv_at hl 1 rfl) ?_
            have hz32 : AnyQ B dc md k9 x ow := ho
            have hP : va_P G.1 pCl (mW G h0 a (upd F 49 (nI md)) B) _ := hP
            have hD : va_D A (mW G h0 a (upd F 49 (nI md)) B) := mW_D hD
            exact W.iret (v := ow) hx hb hr (fun t9 ht9 hW9 => ⟨⟨_, ow, rfl, ⟨rfl, hz32⟩, by rw [ht9]; exact hP, hD⟩, hS.F ht9⟩) hS.2.2 dX12_anyMethod_88
          · refine lv_aload_n hx hb dX12_anyMethod_37 rfl (lv_at hl 4 rfl) ?_
            refine r_get (v := .ref (a 36)) hx hb hown hq hE hP 50 120 tFX12_50 (by decide) pw_1467 rfl dX12_anyMethod_38 ?_
            refine lv_iload hx hb dX12_anyMethod_41 (lv_at hl 0 rfl) ?_
            refine r_ldi (f := (B 36)) (j := m2) hx hb hE hP 36 (ma_36 G a _) rfl (by omega) (by decide) dX12_anyMethod_43 ?_
            obtain ⟨d33, e34, h35⟩ := hmo m2 (by omega)
            refine lv_topi (fun x36 e37 => ?_)
            obtain rfl : x36 = nI d33 := e37.trans e34
            refine lv_iload_n hx hb dX12_anyMethod_44 rfl (lv_at hl 3 rfl) ?_
            refine lv_icmp_eq (tgt := 63) hx hb dX12_anyMethod_45 (by decide) (fun c38 => ?_) (fun c38 => ?_)
            · have n39 : d33 = k9 := (nI_eq (a := d33) (b := k9) (by omega) (by omega)).mp c38
              refine lv_aload_n hx hb dX12_anyMethod_63 rfl (lv_at hl 4 rfl) ?_
              refine r_get (v := .ref (a 37)) hx hb hown hq hE hP 51 123 tFX12_51 (by decide) pw_1468 rfl dX12_anyMethod_64 ?_
              refine lv_iload hx hb dX12_anyMethod_67 (lv_at hl 0 rfl) ?_
              refine r_ldi (f := (B 37)) (j := m2) hx hb hE hP 37 (ma_37 G a _) rfl (by omega) (by decide) dX12_anyMethod_69 ?_
              refine lv_iload_n hx hb dX12_anyMethod_70 rfl (lv_at hl 2 rfl) ?_
              refine lv_icmp_ne (tgt := 79) hx hb dX12_anyMethod_71 (by decide) (fun c40 => ?_) (fun c40 => ?_)
              · refine lv_iconst (v := (-1)) hx hb dX12_anyMethod_79 (by decide) ?_
                refine lv_istore_n (lv' := [(3, .int (-1)), (4, .int (nI m2)), (2, .int x), (1, .int (nI k9)), (0, .ref h0)]) hx hb dX12_anyMethod_80 rfl hl (by decide) rfl (fun ls hl => ?_)
                refine lv_iinc (v := (nI (m2 + 1))) (lv' := [(4, .int (nI (m2 + 1))), (3, .int (-1)), (2, .int x), (1, .int (nI k9)), (0, .ref h0)]) hx hb dX12_anyMethod_81 hl (k := 1) rfl (nI_1 m2) (by decide) rfl (fun ls hl => ?_)
                refine lv_goto (tgt := 23) hx hb dX12_anyMethod_84 (by decide) ?_
                have hP : va_P G.1 pCl (mW G h0 a (upd F 49 (nI md)) B) _ := hP
                have hD : va_D A (mW G h0 a (upd F 49 (nI md)) B) := mW_D hD
                exact ih_o (m2 + 1) (-1) _ _ _ (by omega) (by omega) (Or.inl rfl) (fun _ => hw0 c31) hP hD hS (lv_sub hl [0, 1, 2, 3, 4] rfl)
              · refine lv_iload hx hb dX12_anyMethod_74 (lv_at hl 0 rfl) ?_
                refine lv_goto (tgt := 80) hx hb dX12_anyMethod_76 (by decide) ?_
                refine lv_istore_n (lv' := [(3, .int (nI m2)), (4, .int (nI m2)), (2, .int x), (1, .int (nI k9)), (0, .ref h0)]) hx hb dX12_anyMethod_80 rfl hl (by decide) rfl (fun ls hl => ?_)
                refine lv_iinc (v := (nI (m2 + 1))) (lv' := [(4, .int (nI (m2 + 1))), (3, .int (nI m2)), (2, .int x), (1, .int (nI k9)), (0, .ref h0)]) hx hb dX12_anyMethod_81 hl (k := 1) rfl (nI_1 m2) (by decide) rfl (fun ls hl => ?_)
                refine lv_goto (tgt := 23) hx hb dX12_anyMethod_84 (by decide) ?_
                have hP : va_P G.1 pCl (mW G h0 a (upd F 49 (nI md)) B) _ := hP
                have hD : va_D A (mW G h0 a (upd F 49 (nI md)) B) := mW_D hD
                exact ih_o (m2 + 1) (nI m2) _ _ _ (by omega) (by omega) (Or.inr ⟨m2, rfl, by omega, Or.inr ⟨hw0 c31, c40, (Or.inl (by rw [e34]; exact c38))⟩⟩) (fun e => absurd e (nI_m1 (by omega))) hP hD hS (lv_sub hl [0, 1, 2, 3, 4] rfl)
            · have n41 : ¬ (d33 = k9) := fun h9 => c38 ((nI_eq (a := d33) (b := k9) (by omega) (by omega)).mpr h9)
              refine lv_aload_n hx hb dX12_anyMethod_48 rfl (lv_at hl 4 rfl) ?_
              refine lv_aload_n hx hb dX12_anyMethod_49 rfl (lv_at hl 4 rfl) ?_
              refine r_get (v := .ref (a 36)) hx hb hown hq hE hP 50 120 tFX12_50 (by decide) pw_1467 rfl dX12_anyMethod_50 ?_
              refine lv_iload hx hb dX12_anyMethod_53 (lv_at hl 0 rfl) ?_
              refine r_ldi (f := (B 36)) (j := m2) hx hb hE hP 36 (ma_36 G a _) rfl (by omega) (by decide) dX12_anyMethod_55 ?_
              refine lv_topi (fun x42 e43 => ?_)
              obtain rfl : x42 = nI d33 := e43.trans e34
              refine lv_iload_n hx hb dX12_anyMethod_56 rfl (lv_at hl 3 rfl) ?_
              have hP : va_P G.1 pCl (mW G h0 a (upd F 49 (nI md)) (updA B 31 (B 31))) _ := mW_to (F := F) (l1 := [(49, (nI md))]) (l2 := [(49, (nI md))]) (V := [(nI md), (nI md)]) rfl rfl (show B = (updA B 31 (B 31)) from updsA_eq2 (F := B) (l1 := []) (l2 := [(31, (B 31))]) (V := [(B 31)]) rfl rfl) hP
              have hD : va_D A (mW G h0 a (upd F 49 (nI md)) (updA B 31 (B 31))) := mW_D hD
              refine pc_V0 (G := G) (As := [.int (nI d33), .int (nI k9)]) (rest := []) hx hb hml hown hq hE hX pX0_al hP hD hS hA hl.1 (R_isAbove l G h0 a (upd F 49 (nI md)) B d33 k9 (B 31) (by omega) hbi) (gV pw_1772 pw_1773 pw_1774 pw_1523 pw_1760) hV_X12_isAbove 0 9 rfl rfl rfl rfl (Nat.le_of_ble_eq_true rfl) dX12_anyMethod_57 ⟨Nat.le_of_ble_eq_true rfl, Nat.le_of_ble_eq_true rfl⟩ ⟨Nat.le_of_ble_eq_true rfl, Nat.le_of_ble_eq_true rfl⟩ (fun v46 u44 H locs hw45 hP hD hS => ?_)
              obtain rfl : v46 = some (.int ((B 31) (40 * d33 + k9))) := hw45
              have hP : va_P G.1 pCl (mW G h0 a (upd F 49 (nI md)) B) _ := mW_to (F := F) (l1 := [(49, (nI md))]) (l2 := [(49, (nI md))]) (V := [(nI md), (nI md)]) rfl rfl (show (updA B 31 (B 31)) = B from updsA_eq2 (F := B) (l1 := [(31, (B 31))]) (l2 := []) (V := [(B 31)]) rfl rfl) hP
              have hD : va_D A (mW G h0 a (upd F 49 (nI md)) B) := mW_D hD
              refine W.widen (k := 0) (n := 0) (Nat.le_of_ble_eq_true rfl) (Nat.le_of_ble_eq_true rfl) ?_
              refine W.eq (g2 := F0 m 60 ls [.int ((B 31) (40 * d33 + k9))]) rfl ?_
              refine lv_if_eq (tgt := 79) hx hb dX12_anyMethod_60 (by decide) (fun c47 => ?_) (fun c47 => ?_)
              · refine lv_iconst (v := (-1)) hx hb dX12_anyMethod_79 (by decide) ?_
                refine lv_istore_n (lv' := [(3, .int (-1)), (4, .int (nI m2)), (2, .int x), (1, .int (nI k9)), (0, .ref h0)]) hx hb dX12_anyMethod_80 rfl hl (by decide) rfl (fun ls hl => ?_)
                refine lv_iinc (v := (nI (m2 + 1))) (lv' := [(4, .int (nI (m2 + 1))), (3, .int (-1)), (2, .int x), (1, .int (nI k9)), (0, .ref h0)]) hx hb dX12_anyMethod_81 hl (k := 1) rfl (nI_1 m2) (by decide) rfl (fun ls hl => ?_)
                refine lv_goto (tgt := 23) hx hb dX12_anyMethod_84 (by decide) ?_
                have hP : va_P G.1 pCl (mW G h0 a (upd F 49 (nI md)) B) _ := hP
                have hD : va_D A (mW G h0 a (upd F 49 (nI md)) B) := mW_D hD
                exact ih_o (m2 + 1) (-1) _ _ _ (by omega) (by omega) (Or.inl rfl) (fun _ => hw0 c31) hP hD hS (lv_sub hl [0, 1, 2, 3, 4] rfl)
              · refine lv_aload_n hx hb dX12_anyMethod_63 rfl (lv_at hl 4 rfl) ?_
                refine r_get (v := .ref (a 37)) hx hb hown hq hE hP 51 123 tFX12_51 (by decide) pw_1468 rfl dX12_anyMethod_64 ?_
                refine lv_iload hx hb dX12_anyMethod_67 (lv_at hl 0 rfl) ?_
                refine r_ldi (f := (B 37)) (j := m2) hx hb hE hP 37 (ma_37 G a _) rfl (by omega) (by decide) dX12_anyMethod_69 ?_
                refine lv_iload_n hx hb dX12_anyMethod_70 rfl (lv_at hl 2 rfl) ?_
                refine lv_icmp_ne (tgt := 79) hx hb dX12_anyMethod_71 (by decide) (fun c48 => ?_) (fun c48 => ?_)
                · refine lv_iconst (v := (-1)) hx hb dX12_anyMethod_79 (by decide) ?_
                  refine lv_istore_n (lv' := [(3, .int (-1)), (4, .int (nI m2)), (2, .int x), (1, .int (nI k9)), (0, .ref h0)]) hx hb dX12_anyMethod_80 rfl hl (by decide) rfl (fun ls hl => ?_)
                  refine lv_iinc (v := (nI (m2 + 1))) (lv' := [(4, .int (nI (m2 + 1))), (3, .int (-1)), (2, .int x), (1, .int (nI k9)), (0, .ref h0)]) hx hb dX12_anyMethod_81 hl (k := 1) rfl (nI_1 m2) (by decide) rfl (fun ls hl => ?_)
                  refine lv_goto (tgt := 23) hx hb dX12_anyMethod_84 (by decide) ?_
                  have hP : va_P G.1 pCl (mW G h0 a (upd F 49 (nI md)) B) _ := hP
                  have hD : va_D A (mW G h0 a (upd F 49 (nI md)) B) := mW_D hD
                  exact ih_o (m2 + 1) (-1) _ _ _ (by omega) (by omega) (Or.inl rfl) (fun _ => hw0 c31) hP hD hS (lv_sub hl [0, 1, 2, 3, 4] rfl)
                · refine lv_iload hx hb dX12_anyMethod_74 (lv_at hl 0 rfl) ?_
                  refine lv_goto (tgt := 80) hx hb dX12_anyMethod_76 (by decide) ?_
                  refine lv_istore_n (lv' := [(3, .int (nI m2)), (4, .int (nI m2)), (2, .int x), (1, .int (nI k9)), (0, .ref h0)]) hx hb dX12_anyMethod_80 rfl hl (by decide) rfl (fun ls hl => ?_)
                  refine lv_iinc (v := (nI (m2 + 1))) (lv' := [(4, .int (nI (m2 + 1))), (3, .int (nI m2)), (2, .int x), (1, .int (nI k9)), (0, .ref h0)]) hx hb dX12_anyMethod_81 hl (k := 1) rfl (nI_1 m2) (by decide) rfl (fun ls hl => ?_)
                  refine lv_goto (tgt := 23) hx hb dX12_anyMethod_84 (by decide) ?_
                  have hP : va_P G.1 pCl (mW G h0 a (upd F 49 (nI md)) B) _ := hP
                  have hD : va_D A (mW G h0 a (upd F 49 (nI md)) B) := mW_D hD
                  exact ih_o (m2 + 1) (nI m2) _ _ _ (by omega) (by omega) (Or.inr ⟨m2, rfl, by omega, Or.inr ⟨hw0 c31, c48, (Or.inr ⟨d33, e34, by omega, bitsM.one hbi (by omega) c47⟩)⟩⟩) (fun e => absurd e (nI_m1 (by omega))) hP hD hS (lv_sub hl [0, 1, 2, 3, 4] rfl)
    have hP : va_P G.1 pCl (mW G h0 a (upd F 49 (nI md)) B) _ := hP
    have hD : va_D A (mW G h0 a (upd F 49 (nI md)) B) := mW_D hD
    exact loop_o (md + 1) 0 (-1) _ _ _ (by omega) (by omega) (Or.inl rfl) (fun _ e => absurd e c1) hP hD hS (lv_sub hl [0, 1, 4, 3, 2] rfl)
