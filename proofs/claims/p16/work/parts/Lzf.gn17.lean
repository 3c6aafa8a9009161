/-! names and parser joined: what judging asks -/
section GNH
variable {pb : PNb} {G : pT} {K K0 K1 K3 : PK} {g : Nat → Nat → Nat} {dr nd nm d p q k u j m n np cp pq l es x s sz a a1 i : Nat} {it jt itp rk : Nat → Nat} {V r0 r1 kd ty : Nat → Int32} {ab : Nat → Int64} {wt wt1 : Nat → Nat}
theorem sum3 {f h : Nat → Nat} : ∀ n : Nat, (∀ k : Nat, k < n → f k = 0 ∨ f k + 3 ≤ h k) → sumN f n = 0 ∨ sumN f n + 3 ≤ sumN h n := by
  intro n
  induction n with
  | zero => intro _; exact Or.inl rfl
  | succ n ih =>
    intro q
    have a := ih (fun k hk => q k (by omega))
    have b := q n (by omega)
    have e1 : sumN f (n + 1) = sumN f n + f n := rfl
    have e2 : sumN h (n + 1) = sumN h n + h n := rfl
    omega
theorem lw3 {y : Nat} (H : ∀ x : Nat, wt1 x + 3 ≤ wt x) : lw K wt1 y = 0 ∨ lw K wt1 y + 3 ≤ lw K wt y := sum3 _ (fun i _ => by
  show iw wt1 (eo K (K.2.2.1 13 y) i) = 0 ∨ iw wt1 (eo K (K.2.2.1 13 y) i) + 3 ≤ iw wt (eo K (K.2.2.1 13 y) i)
  cases eo K (K.2.2.1 13 y) i with
  | none => exact Or.inl rfl
  | some x => exact Or.inr (H x))
theorem fw3 (H : ∀ x : Nat, wt1 x + 3 ≤ wt x) (k : Nat) : fw K wt1 dr k = 0 ∨ fw K wt1 dr k + 3 ≤ fw K wt dr k := by
  unfold fw
  cases K.2.2.2.2.1 dr k with
  | none => exact Or.inl rfl
  | some d =>
    show ow K wt1 (K.2.2.1 9 d) = 0 ∨ ow K wt1 (K.2.2.1 9 d) + 3 ≤ ow K wt (K.2.2.1 9 d)
    unfold ow
    cases K.2.2.1 9 d with
    | none => exact Or.inl rfl
    | some y => exact lw3 H
theorem bl2_3 (m : Nat) : bl2 K g m + 3 ≤ bl K g m := by
  unfold bl2 bl
  cases K.2.2.1 7 m with
  | none => show 0 + 3 ≤ 4; omega
  | some b => show rE (g 2 b) - rS (g 2 b) - 1 + 3 ≤ rE (g 2 b) - rS (g 2 b) - 2 + 4; omega
theorem TbO.s98 (h : TbO K g dr nd s) (hs : s ≤ 5000) : sumN (fw K (bl2 K g) dr) nd ≤ 4998 := by
  have a := sum3 (f := fw K (bl2 K g) dr) (h := fw K (bl K g) dr) nd (fun k _ => fw3 (fun x => bl2_3 x) k)
  have b : sumN (fw K (bl K g) dr) nd ≤ s := h
  omega
theorem JnX.ls (h : JnX K K0 pq) : LsC G K0 l es n it cp ↔ LsC G K l es n it cp := by
  obtain ⟨h1, h2, h3, h4, h5⟩ := h
  have e1 : K0.2.1 23 l = K.2.1 23 l := h2 23 l (by decide)
  have e2 : K0.2.2.1 13 l = K.2.2.1 13 l := h3 13 l (by decide)
  have e3 : ∀ e : Nat, K0.2.2.1 17 e = K.2.2.1 17 e := fun e => h3 17 e (by decide)
  unfold LsC
  simp only [h1, e1, e2, e3, h4, h5]
theorem JnX.fl (h : JnX K K0 pq) (w : FlP G K0 d n jt) : FlP G K d n jt := by
  obtain ⟨lf, cp, a1, a2⟩ := w
  exact ⟨lf, cp, (h.2.2.1 8 d (by decide)).symm.trans a1, h.ls.mp a2⟩
theorem JnX.me (h : JnX K K0 pq) (w : MeI G K0 d x) : MeI G K d x := by
  obtain ⟨lm, n, cp, a, it, a1, a2, a3, a4⟩ := w
  exact ⟨lm, n, cp, a, it, (h.2.2.1 9 d (by decide)).symm.trans a1, h.ls.mp a2, a3, a4⟩
theorem JnX.meb (h : JnX K K0 pq) (w : MeI G K d x) : MeI G K0 d x := by
  obtain ⟨lm, n, cp, a, it, a1, a2, a3, a4⟩ := w
  exact ⟨lm, n, cp, a, it, (h.2.2.1 9 d (by decide)).trans a1, h.ls.mpr a2, a3, a4⟩
theorem JnX.pm (h : JnX K K0 pq) (w : PmL G K0 m n jt) : PmL G K m n jt := by
  obtain ⟨lp, cp, a1, a2⟩ := w
  exact ⟨lp, cp, (h.2.2.1 6 m (by decide)).symm.trans a1, h.ls.mp a2⟩
theorem FuO.jnx (h : JnX K K0 pq) (w : FuO G K) : FuO G K0 := fun d1 d2 n1 n2 a b i1 i2 t1 t2 f1 f2 ha hb he => w d1 d2 n1 n2 a b i1 i2 ((h.1 d1).symm.trans t1) ((h.1 d2).symm.trans t2) (h.fl f1) (h.fl f2) ha hb he
theorem bti_ge (h : k < 7) : 1 ≤ bti k := by
  unfold bti
  by_cases z : k = 0
  · rw [if_pos z]; decide
  · rw [if_neg z, if_pos h]; exact Nat.le_refl _
theorem PzF.of (hz : PzK G K g nm it none) (hd : DcR K g dr nd) (ha : DcA K dr nd) (hn : nm ≤ 5000) (hx : JnX K K0 pq) : PzF G K0 g dr nd nm it := by
  obtain ⟨z1, z2, z3, z4, z5⟩ := hz
  have hE : ∀ k : Nat, K0.2.2.2.2.1 dr k = K.2.2.2.2.1 dr k := fun k => congrFun (hx.2.2.2.1 dr) k
  have h18 : ∀ d : Nat, K0.2.1 18 d = K.2.1 18 d := fun d => hx.2.1 18 d (by decide)
  have hat : ∀ k d : Nat, k < nd → K0.2.2.2.2.1 dr k = some d → K.1 d = 4 ∧ g 5 d = bti k := fun k d hk he => by
    obtain ⟨d', b1, b2, b3, b4⟩ := hd k hk
    rw [hE k, b1] at he
    cases he
    exact ⟨b2, b4⟩
  refine ⟨fun k d hk he => ?_, fun j hj => ?_, fun d n i jt h4 hf hi => ?_, FuO.jnx hx z5, hn⟩
  · obtain ⟨d4, d5⟩ := hat k d hk he
    refine ⟨fun h n jt hf => ?_, fun h7 x hm => ?_, fun x hm => ?_⟩
    · exact (z1 d n jt d4 (hx.fl hf)).1 (h.imp (fun w => by rw [← h18]; exact w) (fun w => by rw [d5]; exact bti_ge w))
    · have e1 := (z2 d x d4 (hx.me hm)).1
      rw [d5] at e1
      have e2 := bti_ge h7
      omega
    · obtain ⟨_, m1, m2, m3⟩ := z2 d x d4 (hx.me hm)
      refine ⟨(hx.2.2.1 5 x (by decide)).trans m1, fun np itp w => z3 x np itp (MeI.T3 (hx.me hm)) (hx.pm w), fun w => ?_, fun b w => ?_⟩
      · rw [h18] at w
        rcases m2 w with e | ⟨⟨b, b1⟩, j, j1, j2, j3⟩
        · cases e
        · exact ⟨b, j, (hx.2.2.1 7 x (by decide)).trans b1, j1, (hx.2.1 9 x (by decide)).trans j2, j3⟩
      · rw [hx.2.2.1 7 x (by decide)] at w
        obtain ⟨b1, b2, b3⟩ := m3 b w
        exact ⟨(h18 d).trans b1, b2, b3⟩
  · obtain ⟨b1, b2, b3, d, d4, dm⟩ := z4 j hj
    obtain ⟨k, k1, k2⟩ := ha d d4
    refine ⟨(hx.1 _).trans b1, (hx.2.1 9 _ (by decide)).trans b2, ?_, k, d, k1, (hE k).trans k2, hx.meb dm⟩
    rcases b3 with e | ⟨b, c1⟩
    · cases e
    · exact ⟨b, (hx.2.2.1 7 _ (by decide)).trans c1⟩
  · exact (hx.2.1 0 _ (by decide)).trans ((z1 d n jt ((hx.1 d).symm.trans h4) (hx.fl hf)).2 i hi)
theorem Hn_u (hz : PzF G K0 g dr nd nm it) (hj : JnQ G K0 K g dr nd V r1 kd sz ty ab) (hdr : K0.1 dr = 8) (j : Nat) (hjn : j < nm) : K.1 (it j) = 3 ∧ K.2.1 9 (it j) = nI j ∧ (∃ b : Nat, K.2.2.1 7 (it j) = some b) ∧ ∃ k i : Nat, k < nd ∧ MtP G K dr k i (it j) := by
  obtain ⟨⟨hw, hr, _, hs⟩, _⟩ := hj
  obtain ⟨b1, b2, ⟨b, b3⟩, k, d, k1, k2, lm, n, cp, a, jt, m1, m2, m3, m4⟩ := hz.2.1 j hjn
  obtain ⟨d', e1, e2, _⟩ := hr k k1
  rw [k2] at e1; cases e1
  refine ⟨hs.T b1 (by decide), (hs.I b1 (by decide) (by decide) (by decide) (by decide) (by decide)).trans b2, ⟨b, (hs.C b1 (by decide) (by decide) (by decide) 7).trans b3⟩, k, a, k1, d, lm, n, cp, jt, by rw [hs.E hdr]; exact k2, (hs.C e2 (by decide) (by decide) (by decide) 9).trans m1, hs.ls ?_ (by decide) m2, m3, m4⟩
  obtain ⟨y, y1, y2, y3, _⟩ := (hw.2.2.1 d e2).2.1
  rw [m1] at y1; cases y1
  rw [y3]; decide
theorem Tk_all (hnt : NwT kd sz r0 r1 K3 K1 0 a1) (hnn : ∀ q : Nat, ¬ K3.1 q = 1) (hx : JnX K1 K0 pq) (hj : JnQ G K0 K g dr nd V r1 kd sz ty ab) (ha : a1 ≤ sz) (hnd : nd ≤ 37) (hsz : sz ≤ 5000) (hc : ∀ c e : Nat, c < nd → K0.2.2.2.2.1 dr c = some e → K0.2.1 18 e = 0 → (bX pb).1 c) : ∀ q : Nat, K.1 q = 1 → 1 ≤ g 0 q → TkO pb K kd ty sz nd q := fun q hq _ => by
  obtain ⟨⟨hw, hr, _, hs⟩, _, ⟨hr1, htx, _⟩, _⟩ := hj
  have h0 : K0.1 q = 1 := by
    by_cases z : K0.1 q = 0
    · rcases hs.1 q z with w | w <;> rw [hq] at w <;> exact absurd w (by decide)
    · exact (hs.2 q z).1.1.symm.trans hq
  have h1 : K1.1 q = 1 := (hx.1 q).symm.trans h0
  have h3 : K3.1 q = 0 := by
    by_cases z : K3.1 q = 0
    · exact z
    · exact absurd ((hnt.2.2.1 q z).1.symm.trans h1) (hnn q)
  have t := hnt.2.2.2 q h3 h1
  have ei : ∀ f : Nat, f < 3 → K.2.1 f q = K1.2.1 f q := fun f hf => (hs.I h0 (by decide) (by decide) (by decide) (by omega) (by omega)).trans (hx.2.1 f q (by omega))
  rw [← ei 0 (by omega), ← ei 1 (by omega), ← ei 2 (by omega)] at t
  exact TkO.of hnd hsz hr1 htx ha hc t
theorem RkO.back (hs : LyS g K0 K) (hw : WPr G K0 g) (h : RkO K rk) : RkO K0 rk := fun q d hq hd => by
  obtain ⟨_, h2, h3⟩ := h q d (hs.T hq (by decide)) ((hs.C hq (by decide) (by decide) (by decide) 10).trans hd)
  exact ⟨(hw.2.2.1 q hq).2.2.2.2.1 d hd, h2, h3⟩
/-- all that judging asks, and what its answer says of the run -/
theorem Jd_ask (hz : PzK G K1 g nm it none) (hd : DcR K1 g dr nd) (hda : DcA K1 dr nd) (hn : nm ≤ 5000) (hnt : NwT kd sz r0 r1 K3 K1 0 a1) (hnn : ∀ q : Nat, ¬ K3.1 q = 1) (ha : a1 ≤ sz) (hx : JnX K1 K0 pq) (hj : JnQ G K0 K g dr nd V r1 kd sz ty ab) (hrk : RkO K rk) (h7 : 7 ≤ nd) (hnd : nd ≤ 37) (hsz : sz ≤ 5000) (hwK : WPr G K g) (hdr : K1.1 dr = 8) :
    ∃ pb : PNb, (EkA pb K g kd ty sz ∧ SkA K g ty sz nd ∧ NaB pb G K ty dr nd sz ∧ NaX pb K dr nd nm it) ∧ (∀ k i m : Nat, k < nd → MtP G K dr k i m → MtOp pb G K ty sz nd nm dr k m it g) ∧ (∀ j : Nat, j < nm → K.1 (it j) = 3 ∧ K.2.1 9 (it j) = nI j ∧ (∃ b : Nat, K.2.2.1 7 (it j) = some b) ∧ ∃ k i : Nat, k < nd ∧ MtP G K dr k i (it j)) ∧ ∃ m i : Nat, MnB pb K dr nd m i := by
  have hf := PzF.of hz hd hda hn hx
  have hd0 : K0.1 dr = 8 := (hx.1 dr).trans hdr
  obtain ⟨pb, p1, p2, p3, p4, _, p6⟩ := Nm_pb hj hf (RkO.back hj.1.2.2.2 hj.1.1 hrk) h7 hnd hsz hwK hd0
  have ht := Tk_all (pb := pb) hnt hnn hx hj ha hnd hsz p4
  exact ⟨pb, ⟨EkA.of hwK.1 ht, SkA.of hwK.1 ht, p1, p2⟩, p3, fun j h => Hn_u hf hj hd0 j h, p6⟩
theorem MnB.mnx {y : TY} {K1 : PK} (h : MnB pb K dr nd m i) (e1 : yX y = bX pb) (e2 : yfi y = pb.1) (hE : K1.2.2.2.2.1 dr = K.2.2.2.2.1 dr) (h16 : ∀ k q : Nat, k < nd → K.2.2.2.2.1 dr k = some q → K1.2.1 16 q = K.2.1 16 q) : MnX y K1 dr nd m i := by
  obtain ⟨m1, m2, m3, ⟨q, m4, m5⟩, m6, m7, m8, m9⟩ := h
  refine ⟨m1, m2, ?_, ⟨q, by rw [hE]; exact m4, (h16 m q m1 m4).trans m5⟩, fun k q hk he => ?_, ?_, ?_, ?_⟩
  · rw [e1]; exact m3
  · rw [hE] at he
    rw [h16 k q (by omega) he]
    exact m6 k q hk he
  · rw [e1]; exact m7
  · rw [e1]; exact m8
  · rw [e1, e2]; exact m9
theorem OwP.bx {x : Int32} {o : Option Nat} (hb : BdX K K1) (hw : WPr G K g) (hd : K.1 d = 4) (w : OwP K d x o) : OwP K1 d x o := by
  obtain ⟨lm, n, cp, it, h1, h2, h3⟩ := hw.ml hd
  have k1 : K1.2.2.1 9 d = some lm := (BdX.C hb (by rw [hd]; decide) 9).trans h1
  have k2 : LsC G K1 lm 3 n it cp := hb.ls (by decide) h2
  have k6 : ∀ i : Nat, i < n → K1.2.1 6 (it i) = K.2.1 6 (it i) := fun i hi => BdX.I hb (by rw [h2.T hi]; decide) (by decide)
  have hn := h2.2.2.1
  cases o with
  | none =>
    have z := w.no h1 h2
    exact ⟨lm, n, it, k1, LsC.sz k2, hn, LsC.el k2, Or.inl ⟨Eq.refl _, fun i hi => by rw [k6 i hi]; exact z i hi⟩⟩
  | some m =>
    obtain ⟨l9, n9, j9, b1, b2, b3, b4, b5⟩ := w
    have e1 : lm = l9 := Option.some.inj (h1.symm.trans b1)
    subst e1
    have e2 : n = n9 := (nI_eq (by omega) (by omega)).mp ((LsC.sz h2).symm.trans b2)
    subst e2
    have e3 : ∀ i : Nat, i < n → it i = j9 i := fun i hi => by
      obtain ⟨q1, x1, x2⟩ := LsC.el h2 i hi
      obtain ⟨q2, y1, y2⟩ := b4 i hi
      have er : q1 = q2 := Option.some.inj (x1.symm.trans y1)
      subst er
      exact Option.some.inj (x2.symm.trans y2)
    rcases b5 with ⟨z, _⟩ | ⟨i, z1, z2, z3, z4⟩
    · cases z
    · refine ⟨lm, n, it, k1, LsC.sz k2, hn, LsC.el k2, Or.inr ⟨i, z1, by rw [z2, e3 i z1], ?_, fun i2 hi2 => ?_⟩⟩
      · rw [k6 i z1, e3 i z1]; exact z3
      · rw [k6 i2 (by omega), e3 i2 (by omega)]; exact z4 i2 hi2
theorem NeP.bx {x : Int32} (hb : BdX K K1) (hw : WPr G K g) : ∀ {n d : Nat}, K.1 d = 4 → NeP K x n d m → NeP K1 x n d m
  | 0, _, _, w => w.elim
  | n + 1, d, hd, w => by
    rcases w with w | ⟨w1, p, w2, w3⟩
    · exact Or.inl (OwP.bx hb hw hd w)
    · exact Or.inr ⟨OwP.bx hb hw hd w1, p, (BdX.C hb (by rw [hd]; decide) 10).trans w2, NeP.bx hb hw ((hw.2.2.1 d hd).2.2.2.2.1 p w2) w3⟩
theorem NaX.bx (hb : BdX K K1) (hw : WPr G K g) (hdc : DcR K g dr nd) (hdr : ¬ K.1 dr = 0) (h3 : ∀ i : Nat, i < nm → K.1 (it i) = 3) (h : NaX pb K dr nd nm it) : NaX pb K1 dr nd nm it := by
  obtain ⟨x1, x2, x3, x4, x5, x6, x7⟩ := h
  refine ⟨x1, x2, fun i hi => ?_, fun d i x hd hx => ?_, x5, x6, x7⟩
  · obtain ⟨b1, b2, b3, b4⟩ := x3 i hi
    exact ⟨(BdX.I hb (by rw [h3 i hi]; decide) (by decide)).trans b1, (BdX.I hb (by rw [h3 i hi]; decide) (by decide)).trans b2, b3, b4⟩
  · obtain ⟨b1, q, b2, b3⟩ := x4 d i x hd hx
    obtain ⟨d', c1, c2, _⟩ := hdc d (x1 d hd)
    rw [b2] at c1; cases c1
    exact ⟨b1, q, by rw [(hb.1 dr hdr).2.2.2.2.1]; exact b2, NeP.bx hb hw c2 b3⟩
theorem Jd_end {B : Nat → Nat → Int32} {Q : RX} {cs rg gr : Nat} (hb : BdX K K1) (hf : BeF K K1) (hw : WPr G K g) (hdc : DcR K g dr nd) (hdr : K.1 dr = 8) (hna : NaB pb G K ty dr nd sz) (hnx : NaX pb K dr nd nm it) (h3 : ∀ i : Nat, i < nm → K.1 (it i) = 3) (hj : ∀ j : Nat, j < nm → JdM pb K1 B Q cs rg j (it j)) (hq : RgQx B Q gr nd) (hg : rg ≤ 625 ∧ rg ≤ gr) (hm : MnB pb K dr nd m i) : ∃ (y : TY) (m i : Nat), PrY y K1 B dr nd nm it cs rg ∧ MnX y K1 dr nd m i := by
  have h8 : ¬ K.1 dr = 0 := by rw [hdr]; decide
  have hE := (hb.1 dr h8).2.2.2.2.1
  obtain ⟨y, y1, y2, y3, _⟩ := PrY.of (NaB.bx hb hf hw hdc h8 (Eq.refl ty) hna) (NaX.bx hb hw hdc h8 h3 hnx) (fun c hc => by
    obtain ⟨d, d1, _⟩ := hdc c hc
    exact ⟨d, by rw [hE]; exact d1⟩) hj hq hg
  refine ⟨y, m, i, y1, MnB.mnx hm y2 y3 hE (fun k q hk he => ?_)⟩
  obtain ⟨d, d1, d2, _⟩ := hdc k hk
  rw [he] at d1; cases d1
  exact BdX.I hb (by rw [d2]; decide) (by decide)
end GNH
