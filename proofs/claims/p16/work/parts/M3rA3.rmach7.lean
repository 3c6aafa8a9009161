def BIG : Nat := 100 * (RB + 1) + 1
def Lp (X Y : Nat → Nat → Int32) (gh : Nat → Nat → Nat) (nd T nm wr lz dc fd md pr bk : Nat) (M : MTb) (rmm mz op tp wn fu rd on idn fl ct : Nat) (en nw isn uc : Int32) : Prop := Pg X Y gh nd T nm wr lz dc fd md pr bk M ∧ Hp X Y dc fd on idn fl rmm ct ∧ ((¬ en = -1 ∧ (en = 1 → Thr Y on dc uc)) ∨ (en = -1 ∧ fu ≤ 20000 ∧ ∃ j : Nat, ∃ ov : Bool, ∃ mt ps : Nat → Nat, ∃ yy : Nat → Ps, ∃ bf wf : Nat → Nat, nw = nI j ∧ isn = (if ov = true then 0 else 1) ∧ Rn X Y gh nd T nm wr lz dc fd md pr bk M rmm op tp wn fu rd on idn fl ct j ov mt ps yy bf wf ∧ fu * BIG + Phi gh ps op (rkN gh j ov) ≤ mz))
section M25
variable {X Y Z : Nat → Nat → Int32} {gh : Nat → Nat → Nat} {nd T nm wr lz dc fd md pr bk rmm mu mz op tp wn fu fu1 rd on idn fl ct j k m b : Nat} {M : MTb} {ov : Bool} {mt ps : Nat → Nat} {yy : Nat → Ps} {bf wf : Nat → Nat} {en nw isn uc v : Int32}
theorem PrgOK.tbl (h : PrgOK X Y gh nd T nm wr lz dc fd md pr bk) : ∃ M : MTb, Pg X Y gh nd T nm wr lz dc fd md pr bk M := by
  have h' := h
  obtain ⟨a1, a2, a3, a4, a5, a6, a7, a8, a9, a10, a11, a12, a13, a14, a15, a16, a17, a18⟩ := h'
  have key : ∀ m : Nat, ∃ t : Nat × Nat × Nat × Nat × (Nat → Int32), m < md → ¬ X 42 m = -1 → BdyR X Y dc fd md nd m t.1 t.2.1 t.2.2.1 t.2.2.2.1 t.2.2.2.2 := fun m => by
    by_cases q : m < md ∧ ¬ X 42 m = -1
    · obtain ⟨b, b1, b2⟩ := (a2.2 m q.1).resolve_left q.2
      obtain ⟨k, rs, n, p0, ev, e1, e2, e3, e4, e5, e6, e7, e8, e9, e10, e11⟩ := a8 m b q.1 (by omega) b2
      obtain ⟨c1, c2, c3, c4, _⟩ := a2.1 m b q.1 (by omega) b2
      obtain ⟨d, _, _, _, _, _, _, ⟨p1, q1, d1, d2, d3, d4⟩, _⟩ := a1.2.1.2.2.1 m q.1
      have ep : p1 = p0 := (nI_eq (by omega) (by omega)).mp (d1.symm.trans e8)
      have eq : q1 = n := (nI_eq (by omega) (by omega)).mp (d2.symm.trans e7)
      exact ⟨(b, k, rs, n, ev), fun _ _ => ⟨q.1, b2, b1, c4, e1, e2, e3, e4, e5, e7, e9.1, e11, p0, e8, (by show p0 + n ≤ 5000; omega), e10⟩⟩
    · exact ⟨(0, 0, 0, 0, fun _ => 0), fun x y => absurd ⟨x, y⟩ q⟩
  obtain ⟨f, hf⟩ := Classical.axiomOfChoice key
  exact ⟨(fun m => (f m).1, fun m => (f m).2.1, fun m => (f m).2.2.1, fun m => (f m).2.2.2.1, fun m => (f m).2.2.2.2), h, fun m hm hb => hf m hm hb⟩
theorem Hp.first (hi : ∀ k : Nat, k < 3000 → Y 74 k = nI (2999 - k)) (hr : rmm ≤ 3000) : Hp X Y dc fd 0 3000 0 rmm 0 := by
  refine ⟨⟨fun k hk => absurd hk (by omega), fun k j hk => absurd hk (by omega), fun k hk => ⟨2999 - k, by omega, hi k hk, fun ⟨j, j1, _⟩ => by omega⟩, fun k j hk hj e => ?_, by omega, rfl, by omega, hr⟩, rfl, fun o _ ⟨j, j1, _⟩ => by omega⟩
  rw [hi k hk, hi j hj] at e
  have := (nI_eq (by omega) (by omega)).mp e
  omega
theorem Cfg.phi (P : Pg X Y gh nd T nm wr lz dc fd md pr bk M) (h : Cfg X Y dc md on M op tp wn j ov mt ps yy bf wf) : 1 ≤ Phi gh ps op (rkN gh j ov) ∧ Phi gh ps op (rkN gh j ov) < BIG := by
  have bd := P.bd
  have le : ∀ c m' j' : Nat, ∀ y : Ps, ∀ e : En, ∀ b w : Nat, Frm X Y dc md on M c m' j' y e b w → rkN gh j' false ≤ RB := fun c m' j' y e b w fr => by
    obtain ⟨_, _, _, _, r1, r2, r3⟩ := fr.bnd P.fs (by omega) P.tbl P.blk
    exact rk_le P.fs (by omega) r1 r2 r3 400 j' y fr.2.1 (by omega)
  have o1 := h.1
  have o2 := h.2.1
  have sum : ∀ n : Nat, n + 1 ≤ op → PhS gh ps n ≤ n * (RB + 1) := by
    intro n
    induction n with
    | zero => intro _; exact Nat.zero_le _
    | succ n ih =>
      intro hn
      have f1 := (h.2.2.2.2.2.1 n (by omega)).1
      have l1 := le _ _ _ _ _ _ _ f1
      have l2 : rkO gh (ps n) ≤ rkN gh (ps n) false := rkO_le
      have l3 := ih (by omega)
      have e1 : PhS gh ps (n + 1) = PhS gh ps n + (rkO gh (ps n) + 1) := rfl
      have e2 : (n + 1) * (RB + 1) = n * (RB + 1) + (RB + 1) := by rw [Nat.succ_mul]
      omega
  have s1 := sum (op - 1) (by omega)
  have t1 := le _ _ _ _ _ _ _ h.top.1
  have t2 : rkN gh j ov ≤ rkN gh j false := by
    cases ov with
    | true => exact rkO_le
    | false => exact Nat.le_refl _
  have m1 : (op - 1) * (RB + 1) ≤ 99 * (RB + 1) := Nat.mul_le_mul_right _ (by omega)
  unfold Phi BIG
  refine ⟨by omega, ?_⟩
  have e3 : 100 * (RB + 1) = 99 * (RB + 1) + (RB + 1) := Nat.succ_mul 99 (RB + 1)
  omega
theorem Nx.lp (h : Nx X Y gh nd T nm wr lz dc fd md pr bk M rmm fu mu op tp wn fu1 rd on idn fl ct en nw isn uc) (hf : fu ≤ 20000) (hm : fu * BIG + mu ≤ mz) (h1 : 1 ≤ mu) : ∃ mz' : Nat, mz' < mz ∧ Lp X Y gh nd T nm wr lz dc fd md pr bk M rmm mz' op tp wn fu1 rd on idn fl ct en nw isn uc := by
  obtain ⟨P, hh, h3⟩ := h
  rcases h3 with w | ⟨e, j, ov, mt, ps, yy, bf, wf, k, a1, a2, a3, a4, a5, a6⟩
  · exact ⟨mz - 1, by omega, P, hh, Or.inl w⟩
  · have ph := Cfg.phi P a3
    refine ⟨fu1 * BIG + Phi gh ps op (rkN gh j ov), ?_, P, hh, Or.inr ⟨e, by rcases a6 with w | w <;> omega, j, ov, mt, ps, yy, bf, wf, a1, a2, ⟨P, hh, a3, k, a4, a5⟩, Nat.le_refl _⟩⟩
    rcases a6 with w | w
    · have m1 : (fu1 + 1) * BIG ≤ fu * BIG := Nat.mul_le_mul_right _ w
      rw [Nat.succ_mul] at m1
      omega
    · rw [w.1]; omega
theorem Rn.muok (h : Rn X Y gh nd T nm wr lz dc fd md pr bk M rmm op tp wn fu rd on idn fl ct j ov mt ps yy bf wf) : 1 ≤ Phi gh ps op (rkN gh j ov) := (Cfg.phi h.pg h.cf).1
theorem first (P : Pg X Y gh nd T nm wr lz dc fd md pr bk M) (hp : Hp X Y dc fd on idn fl rmm ct) (hm : m < md ∧ ¬ X 42 m = -1) (q0 : X 41 m = nI 0) (hv : ¬ v = 0 ∧ VTd (Y 73) (Y 55) (Y 56) (X 31) on dc v (10 + M.2.1 m)) (g : Y 62 0 = v ∧ Y 63 0 = nI 0 ∧ Y 64 0 = nI 0 ∧ Y 65 0 = -1) (hf : fu ≤ 20000) : ∃ b mz : Nat, X 42 m = nI b ∧ Lp X Y gh nd T nm wr lz dc fd md pr bk M rmm mz 1 0 0 fu 0 on idn fl ct (-1) (nI b) 1 uc := by
  have bd := P.bd
  obtain ⟨m1, mb, m3, m4, m5, m6, m7, m8, m9, m10, m11, m12, _⟩ := P.tbl m hm.1 hm.2
  have e2 : M.2.2.2.1 m = 0 := (nI_eq (by omega) (by omega)).mp (m10.symm.trans q0)
  have cf : Cfg X Y dc md on M 1 0 0 (M.1 m) false (fun _ => m) (fun _ => 0) (fun _ => rtP M m) (fun _ => 0) (fun _ => 0) := by
    refine ⟨by omega, by omega, rfl, rfl, g.2.2.2, fun c hc => absurd hc (by omega), ?_, rfl, fun _ => ⟨rfl, by rw [m4]; decide⟩, fun w => absurd w (by decide)⟩
    rw [if_neg (by decide)]
    refine ⟨hm, Pv.rfl, by rw [g.1]; exact hv, ⟨?_, ?_, fun i hi => ?_⟩, g.2.2.1, fun i hi => absurd hi (Nat.not_lt_zero _), fun i hi => absurd hi (Nat.not_lt_zero _)⟩
    · show Y 63 0 = nI (M.2.2.2.1 m)
      rw [e2]; exact g.2.1
    · show M.2.2.2.1 m ≤ 30
      omega
    · have : i < M.2.2.2.1 m := hi
      omega
  have pt : Pot X gh nd 1 (fun _ => 0) (M.1 m) false nd := ⟨fun _ => nd, fun c hc => absurd hc (by omega), (show Cov (Am X gh nd (M.1 m) false) nd from Cov.all (fun i hi => hi.lt P.fs (by omega) m3)), by show 0 + nd ≤ nd; omega⟩
  exact ⟨M.1 m, _, mb, P, hp, Or.inr ⟨rfl, hf, M.1 m, false, _, _, _, _, _, rfl, rfl, ⟨P, hp, cf, nd, pt, by omega⟩, Nat.le_refl _⟩⟩
theorem Pg.main (P : Pg X Y gh nd T nm wr lz dc fd md pr bk M) : ∃ mn en : Nat, dOf (X 24) 7 dc 0 = nI mn ∧ mn < dc ∧ X 26 mn = 0 ∧ mthF (X 36) (X 37) (X 29) md 8 40 mn = nI en ∧ (en < md ∧ ¬ X 42 en = -1) ∧ X 41 en = nI 0 ∧ X 40 en = X 40 en ∧ M.2.1 en < dc ∧ (M.2.1 en = mn ∨ X 31 (40 * M.2.1 en + mn) = 1) := by
  have bd := P.bd
  obtain ⟨mn, en, h1, h2, h3, h4, h5, h6, _⟩ := P.1.2.2.2.2.2.2.1
  obtain ⟨d, r1, r2, r3, r4⟩ := mth_own P.ab (by omega) (by omega) h5 40 mn h2 h3 h4
  obtain ⟨m2, z1, z2, z3, z4, z5⟩ := (fm_or md 0).resolve_left (by rw [r1]; exact nI_m1 (by omega))
  have e1 : en = m2 := (nI_eq (by omega) (by omega)).mp (r1.symm.trans z1)
  subst e1
  obtain ⟨e, e1, e2, e3, _, _, _, _, e4⟩ := P.ps.2.2.1 en h5
  have ed : e = d := (nI_eq (by omega) (by omega)).mp (e1.symm.trans z4)
  subst ed
  have nb : ¬ X 42 en = -1 := fun w => by
    rcases e4 with ⟨_, _, e5⟩ | ⟨b, t, j, ⟨e5, e6⟩, _⟩
    · rw [r3] at e5; exact absurd e5 (by decide)
    · exact absurd (e5.symm.trans w) (nI_m1 (by omega))
  have ow := Tbl.own P ⟨h5, nb⟩
  have eo : M.2.1 en = e := (nI_eq (by omega) (by omega)).mp (ow.1.symm.trans e1)
  exact ⟨mn, en, h1, h2, h3, h4, ⟨h5, nb⟩, h6, rfl, ow.2.2, by rw [eo]; exact r4⟩
end M25
