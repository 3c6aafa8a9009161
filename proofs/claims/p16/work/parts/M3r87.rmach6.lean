section M17
variable {X Y Z : Nat → Nat → Int32} {K : Nat → Int32} {gh : Nat → Nat → Nat} {nd T nm wr lz dc fd md pr bk rmm mu op tp tp1 wn wn1 fu fu1 rd on idn fl ct j j1 p n b c m t kk s i k r b1 tb q rc m2 : Nat} {M : MTb} {ov ov1 : Bool} {mt ps : Nat → Nat} {yy yy1 : Nat → Ps} {bf wf : Nat → Nat} {y0 u z : Ps} {e e' : En} {en nw isn uc v x kd : Int32} {f : Nat → Int32}
theorem Rn.ln (h : Rn X Y gh nd T nm wr lz dc fd md pr bk M rmm op tp wn fu rd on idn fl ct j ov mt ps yy bf wf) : Ln X Y gh nd T nm wr lz dc fd md pr bk M rmm (Phi gh ps op (rkN gh j ov)) op wn fu rd on idn fl ct j mt ps yy bf wf := by
  obtain ⟨k, k1, k2⟩ := h.2.2.2
  exact ⟨h.pg, h.hp, h.cf.lvg, by unfold Phi; have := rkO_le (gh := gh) (j := j) (ov := ov); omega, k, k1.over, k2⟩
theorem Rdy.ln (h : Rdy X Y gh nd T nm wr lz dc fd md pr bk M rmm mu op tp wn fu rd on idn fl ct p mt ps yy bf wf q rc) (hf : fu1 + 1 = fu) : Ln X Y gh nd T nm wr lz dc fd md pr bk M rmm mu op wn fu1 rd on idn fl ct p mt ps yy bf wf := by
  obtain ⟨P, hh, ⟨hC, hq, ht⟩, hmu, ⟨k, hk1, hk2⟩, _⟩ := h
  exact ⟨P, hh, hC.lvg, hmu, k, hk1, by omega⟩
theorem Ln.rt (h : Ln X Y gh nd T nm wr lz dc fd md pr bk M rmm mu op wn fu rd on idn fl ct c mt ps yy bf wf) : (M.1 (mt (op - 1)) < nd ∧ gh 0 (M.1 (mt (op - 1))) = 160000 ∧ gh 1 (M.1 (mt (op - 1))) ≤ 361) ∧ (mt (op - 1) < md ∧ ¬ X 42 (mt (op - 1)) = -1) ∧ Pv X (M.1 (mt (op - 1))) (rtP M (mt (op - 1))) c (yy (op - 1)) := by
  obtain ⟨P, _, hL, _⟩ := h
  have bd := P.bd
  obtain ⟨_, _, _, _, _, _, ⟨f1, f2, _⟩, _⟩ := hL
  obtain ⟨m1, mb, m3, _⟩ := P.tbl _ f1.1 f1.2
  obtain ⟨b1, b2, b3, _⟩ := P.blk.1 _ _ m1 (by omega) mb
  exact ⟨⟨b1, b2, b3⟩, f1, f2⟩
theorem Ln.base (h : Ln X Y gh nd T nm wr lz dc fd md pr bk M rmm mu op wn fu rd on idn fl ct c mt ps yy bf wf) : ∀ c' : Nat, c' < op → bf c' ≤ 363 * c' ∧ wf c' ≤ 20 * c' := by
  obtain ⟨P, _, hL, _⟩ := h
  have bd := P.bd
  obtain ⟨_, _, o3, o4, _, o6, _⟩ := hL
  intro c'
  induction c' with
  | zero => intro _; rw [o3, o4]; exact ⟨by omega, by omega⟩
  | succ c' ih =>
    intro hc
    obtain ⟨f1, _, f3, f4, _⟩ := o6 c' hc
    have := ih (by omega)
    obtain ⟨_, g1, g2, _⟩ := f1.bnd P.fs (by omega) P.tbl P.blk
    omega
theorem Ln.room (h : Ln X Y gh nd T nm wr lz dc fd md pr bk M rmm mu op wn fu rd on idn fl ct c mt ps yy bf wf) : 1 ≤ op ∧ op ≤ 100 ∧ c < nd ∧ nd ≤ 12000 ∧ wn ≤ 20 * op ∧ bf (op - 1) ≤ 363 * op ∧ Y 64 (op - 1) = nI (bf (op - 1)) ∧ gh 1 c ≤ 361 ∧ wf (op - 1) + (yy (op - 1)).2.2.length = wn ∧ dc ≤ 37 ∧ rd ≤ 300000000 := by
  have h' := h
  have bas := h.base
  obtain ⟨⟨r1, r2, r3⟩, r4, r5⟩ := h.rt
  obtain ⟨P, _, hL, _, k, _, k2⟩ := h
  have bd := P.bd
  have un := r5.und P.fs (by omega) r1
  obtain ⟨o1, o2, o3, o4, o5, o6, ⟨f1, f2, f3, f4, f5, f7⟩, a8⟩ := hL
  have bs := bas (op - 1) (by omega)
  obtain ⟨m1, mb, m3, m4, _, _, _, _, _, _, _, m12, _⟩ := P.tbl _ f1.1 f1.2
  obtain ⟨d, f2'⟩ := f2
  obtain ⟨_, _, w3, _⟩ := PvP.bnd P.fs (by omega) d _ (rtP M (mt (op - 1))) c _ f2' m3 m12 (fun _ _ _ _ => Eq.refl _)
  have l2 : (rtP M (mt (op - 1))).2.2.length = 0 := Eq.refl _
  exact ⟨o1, o2, un.1, by omega, by omega, by omega, f5, by omega, a8.symm, by omega, by omega⟩
theorem Ln.up (h : Ln X Y gh nd T nm wr lz dc fd md pr bk M rmm mu op wn fu rd on idn fl ct c mt ps yy bf wf) : (Y 52 c = -1 ∧ c = M.1 (mt (op - 1)) ∧ yy (op - 1) = rtP M (mt (op - 1))) ∨ ∃ p : Nat, ∃ u : Ps, p < nd ∧ Y 52 c = nI p ∧ stq X p u c (yy (op - 1)) ∧ Pv X (M.1 (mt (op - 1))) (rtP M (mt (op - 1))) p u ∧ gh 1 c < gh 1 p := by
  have r := h.room
  obtain ⟨⟨r1, r2, r3⟩, r4, r5⟩ := h.rt
  have P := h.1
  have bd := P.bd
  obtain ⟨m1, mb, m3, _⟩ := P.tbl _ r4.1 r4.2
  rcases r5.last with ⟨e1, e2⟩ | ⟨p, u, q1, q2⟩
  · exact Or.inl ⟨by rw [← e1]; exact P.root _ _ m1 (by omega) mb, e1.symm, e2.symm⟩
  · have pn := (q1.und P.fs (by omega) r1).1
    exact Or.inr ⟨p, u, pn, P.up p c pn r.2.2.1 q2.stp.pch.1, q2, q1, (q2.ord P.fs (by omega) pn).2.2.2.1⟩
theorem Ln.mv (h : Ln X Y gh nd T nm wr lz dc fd md pr bk M rmm mu op wn fu rd on idn fl ct c mt ps yy bf wf) (hp : Pv X (M.1 (mt (op - 1))) (rtP M (mt (op - 1))) p u) (hst : stq X p u c (yy (op - 1))) : (∃ x : List Nat, (yy (op - 1)).2.2 = u.2.2 ++ x) ∧ Ln X Y gh nd T nm wr lz dc fd md pr bk M rmm mu op (wf (op - 1) + u.2.2.length) fu rd on idn fl ct p mt ps (yyU yy (op - 1) u) bf wf ∧ Phi gh ps op (rkO gh p) < mu := by
  obtain ⟨⟨r1, r2, r3⟩, r4, r5⟩ := h.rt
  obtain ⟨P, hh, hL, hmu, k, k1, k2⟩ := h
  have bd := P.bd
  have w : ∃ x : List Nat, (yy (op - 1)).2.2 = u.2.2 ++ x := by
    obtain ⟨kk, s, i, _, _, _, _, _, _, _, e⟩ := hst
    rw [e]
    show ∃ x : List Nat, (if kk = 41 ∧ s = 3 then u.2.2 ++ [u.1.2.1] else u.2.2) = u.2.2 ++ x
    split
    · exact ⟨_, rfl⟩
    · exact ⟨[], (List.append_nil _).symm⟩
  have l := Lss.up (ov := true) P.fs (by omega) r1 r2 r3 hp hst
  have rl : rkO gh p < rkO gh c := l.1
  have ph : Phi gh ps op (rkO gh p) < mu := by unfold Phi at hmu ⊢; omega
  exact ⟨w, ⟨P, hh, hL.to hp hst.enl w, Nat.le_of_lt ph, k, k1.lss l.2, k2⟩, ph⟩
theorem Ln.pop (h : Ln X Y gh nd T nm wr lz dc fd md pr bk M rmm mu op wn fu rd on idn fl ct c mt ps yy bf wf) (hr : yy (op - 1) = rtP M (mt (op - 1))) : (op = 1 ∧ Y 65 (op - 1) = -1) ∨ (2 ≤ op ∧ Y 65 (op - 1) = nI (ps (op - 2)) ∧ ps (op - 2) < nd ∧ Ln X Y gh nd T nm wr lz dc fd md pr bk M rmm mu (op - 1) wn fu rd on idn fl ct (ps (op - 2)) mt ps yy bf wf ∧ Phi gh ps (op - 1) (rkO gh (ps (op - 2))) < mu) := by
  obtain ⟨P, hh, hL, hmu, k, k1, k2⟩ := h
  have o1 := hL.1
  by_cases w : op = 1
  · subst w
    exact Or.inl ⟨rfl, hL.2.2.2.2.1⟩
  · obtain ⟨a1, a2⟩ := hL.out (by omega) (by rw [hr]; rfl)
    have ph : Phi gh ps (op - 1) (rkO gh (ps (op - 2))) < mu := by
      unfold Phi at hmu ⊢
      rw [show op - 1 = (op - 2) + 1 by omega] at hmu
      have e : PhS gh ps ((op - 2) + 1) = PhS gh ps (op - 2) + (rkO gh (ps (op - 2)) + 1) := rfl
      rw [show op - 1 - 1 = op - 2 by omega]
      omega
    have L2 : Ln X Y gh nd T nm wr lz dc fd md pr bk M rmm mu (op - 1) wn fu rd on idn fl ct (ps (op - 2)) mt ps yy bf wf := ⟨P, hh, a1, Nat.le_of_lt ph, k, k1.ret (by omega), k2⟩
    exact Or.inr ⟨by omega, a2, L2.room.2.2.1, L2, ph⟩
theorem Ln.back (h : Ln X Y gh nd T nm wr lz dc fd md pr bk M rmm mu op wn fu rd on idn fl ct c mt ps yy bf wf) (hr : yy (op - 1) = rtP M (mt (op - 1))) (hv : M.2.2.1 (mt (op - 1)) = 0 ∨ Slt X Y on dc x (nI b) (M.2.2.1 (mt (op - 1)))) (h2 : 2 ≤ op) (et : Z = Y ∧ Y 17 (ps (op - 2)) = 0 ∧ tp1 = bf (op - 1) ∨ Z = updA (updA Y 68 (upd (Y 68) (bf (op - 1)) x)) 69 (upd (Y 69) (bf (op - 1)) (nI b)) ∧ ¬ Y 17 (ps (op - 2)) = 0 ∧ tp1 = bf (op - 1) + 1) : Nx X Z gh nd T nm wr lz dc fd md pr bk M rmm fu mu (op - 1) tp1 wn fu rd on idn fl ct (-1) (nI (ps (op - 2))) 0 uc := by
  have rt := h.rt
  rcases h.pop hr with w | ⟨_, _, _, _, ph⟩
  · omega
  · obtain ⟨P, hh, hL, hmu, k, k1, k2⟩ := h
    have bd := P.bd
    have ty : Y 17 (ps (op - 2)) = nI (M.2.2.1 (mt (op - 1))) ∧ TyC dc (M.2.2.1 (mt (op - 1))) := by
      obtain ⟨_, _, _, _, _, a6⟩ := hL.2.2.2.2.2.1 (op - 2) (by omega)
      rw [show op - 2 + 1 = op - 1 by omega] at a6
      obtain ⟨_, _, _, _, _, _, _, m8, m9, _⟩ := P.tbl _ rt.2.1.1 rt.2.1.2
      exact ⟨a6.trans m8, m9⟩
    have tl := TyC.le ty.2 (by omega)
    have g : (M.2.2.1 (mt (op - 1)) = 0 ∧ tp1 = bf (op - 1) ∧ Z = Y) ∨ (¬ M.2.2.1 (mt (op - 1)) = 0 ∧ tp1 = bf (op - 1) + 1 ∧ Z = updA (updA Y 68 (upd (Y 68) (bf (op - 1)) x)) 69 (upd (Y 69) (bf (op - 1)) (nI b)) ∧ Slt X Y on dc x (nI b) (M.2.2.1 (mt (op - 1)))) := by
      rcases et with ⟨e1, e2, e3⟩ | ⟨e1, e2, e3⟩
      · exact Or.inl ⟨(nI_eq (a := M.2.2.1 (mt (op - 1))) (b := 0) (by omega) (by omega)).mp (ty.1.symm.trans e2), e3, e1⟩
      · have nz : ¬ M.2.2.1 (mt (op - 1)) = 0 := fun w => e2 (by rw [ty.1, w]; rfl)
        exact Or.inr ⟨nz, e3, e1, hv.resolve_left nz⟩
    have sta : Sta Y Z ∧ Hp X Z dc fd on idn fl rmm ct := by
      rcases et with ⟨e1, _⟩ | ⟨e1, _⟩
      · subst e1; exact ⟨Sta.rfl, hh⟩
      · subst e1; exact ⟨Sta.gv, hh⟩
    exact ⟨P.same sta.1, sta.2, Or.inr ⟨rfl, ps (op - 2), true, mt, ps, yy, bf, wf, k, rfl, rfl, hL.back h2 (by rw [hr]; rfl) ty.1 ty.2 g, k1.ret h2, k2, Or.inr ⟨rfl, ph⟩⟩⟩
theorem Ln.land (h : Ln X Y gh nd T nm wr lz dc fd md pr bk M rmm mu op wn fu rd on idn fl ct c mt ps yy bf wf) (sta : Sta Y Z) (hp : Hp X Z dc fd on idn fl rmm ct) (cf : Cfg X Z dc md on M op tp1 wn1 j1 ov1 mt ps yy1 bf wf) (l : Lss X gh nd c true j1 ov1) : Nx X Z gh nd T nm wr lz dc fd md pr bk M rmm fu mu op tp1 wn1 fu rd on idn fl ct (-1) (nI j1) (if ov1 = true then 0 else 1) uc := by
  obtain ⟨P, hh, hL, hmu, k, k1, k2⟩ := h
  refine ⟨P.same sta, hp, Or.inr ⟨rfl, j1, ov1, mt, ps, yy1, bf, wf, k, rfl, rfl, cf, k1.lss l.2, k2, Or.inr ⟨rfl, ?_⟩⟩⟩
  have l1 : rkN gh j1 ov1 < rkO gh c := l.1
  unfold Phi at hmu ⊢; omega
theorem Ln.landP (h : Ln X Y gh nd T nm wr lz dc fd md pr bk M rmm mu op wn fu rd on idn fl ct c mt ps yy bf wf) (sta : Sta Y Z) (hp : Hp X Z dc fd on idn fl rmm ct) (cf : Cfg X Z dc md on M op tp1 wn1 j1 ov1 mt ps yy1 bf wf) (hf : fu1 + 1 = fu) : Nx X Z gh nd T nm wr lz dc fd md pr bk M rmm fu mu op tp1 wn1 fu1 rd on idn fl ct (-1) (nI j1) (if ov1 = true then 0 else 1) uc := by
  obtain ⟨P, hh, hL, hmu, k, k1, k2⟩ := h
  have bd := P.bd
  have pg := P.same sta
  have r := Cfg.room pg.fs (by omega) pg.tbl pg.blk cf
  exact ⟨pg, hp, Or.inr ⟨rfl, j1, ov1, mt, ps, yy1, bf, wf, k + nd, rfl, rfl, cf, k1.reset pg.fs (by omega) r.1 r.2.2.1, by omega, Or.inl (by omega)⟩⟩
theorem Ln.stop (h : Ln X Y gh nd T nm wr lz dc fd md pr bk M rmm mu op wn fu rd on idn fl ct c mt ps yy bf wf) (sta : Sta Y Z) (hp : Hp X Z dc fd on idn fl rmm ct) (e1 : ¬ en = -1) (e2 : en = 1 → Thr Z on dc uc) {fu2 mu2 op1 tp2 wn2 fu3 rd2 : Nat} : Nx X Z gh nd T nm wr lz dc fd md pr bk M rmm fu2 mu2 op1 tp2 wn2 fu3 rd2 on idn fl ct en nw isn uc := ⟨h.1.same sta, hp, Or.inl ⟨e1, e2⟩⟩
theorem Nx.less (h : Nx X Y gh nd T nm wr lz dc fd md pr bk M rmm fu1 mu op tp wn k rd on idn fl ct en nw isn uc) (hf : fu1 < fu) {mu2 : Nat} : Nx X Y gh nd T nm wr lz dc fd md pr bk M rmm fu mu2 op tp wn k rd on idn fl ct en nw isn uc := by
  obtain ⟨h1, h2, h3⟩ := h
  refine ⟨h1, h2, h3.imp id (fun ⟨e, j, ov, mt, ps, yy, bf, wf, k', a1, a2, a3, a4, a5, a6⟩ => ⟨e, j, ov, mt, ps, yy, bf, wf, k', a1, a2, a3, a4, a5, Or.inl ?_⟩)⟩
  rcases a6 with w | w <;> omega
theorem Nx.more (h : Nx X Y gh nd T nm wr lz dc fd md pr bk M rmm fu mu op tp wn k rd on idn fl ct en nw isn uc) {mu2 : Nat} (hm : mu ≤ mu2) : Nx X Y gh nd T nm wr lz dc fd md pr bk M rmm fu mu2 op tp wn k rd on idn fl ct en nw isn uc := by
  obtain ⟨h1, h2, h3⟩ := h
  refine ⟨h1, h2, h3.imp id (fun ⟨e, j, ov, mt, ps, yy, bf, wf, k', a1, a2, a3, a4, a5, a6⟩ => ⟨e, j, ov, mt, ps, yy, bf, wf, k', a1, a2, a3, a4, a5, ?_⟩)⟩
  rcases a6 with w | w
  · exact Or.inl w
  · exact Or.inr ⟨w.1, by omega⟩
theorem Ln.lsk (h : Ln X Y gh nd T nm wr lz dc fd md pr bk M rmm mu op wn fu rd on idn fl ct c mt ps yy bf wf) (hp : Pv X (M.1 (mt (op - 1))) (rtP M (mt (op - 1))) p u) (ek : X 9 p = nI kk) (k24 : 24 ≤ kk) (k4 : kk ≤ 44) : LSk X dc (Y 17) (Y 18) (Y 14) (M.2.2.1 (mt (op - 1))) p u.1 kk := by
  obtain ⟨f1, f0⟩ := h.rt.2.1
  obtain ⟨_, _, _, _, _, _, _, _, _, _, _, m12, _⟩ := h.1.tbl _ f1 f0
  obtain ⟨k2, x1, x2, x3⟩ := m12 p u.1 hp.ev
  have : k2 = kk := (nI_eq (by omega) (by omega)).mp (x1.symm.trans ek)
  subst this
  rcases x3 with x3 | x3
  · omega
  · exact x3.2
theorem Ln.npd (h : Ln X Y gh nd T nm wr lz dc fd md pr bk M rmm mu op wn fu rd on idn fl ct c mt ps yy bf wf) (hp : Pv X (M.1 (mt (op - 1))) (rtP M (mt (op - 1))) p u) (ek : X 9 p = nI kk) (k24 : 24 ≤ kk) (k4 : kk ≤ 44) : u.2.1 = [] := by
  have P := h.1
  have bd := P.bd
  obtain ⟨f1, f0⟩ := h.rt.2.1
  obtain ⟨_, _, m3, _, _, _, _, _, _, _, _, m12, _⟩ := P.tbl _ f1 f0
  obtain ⟨d, hp⟩ := hp
  exact (PvP.bnd P.fs (by omega) d _ (rtP M (mt (op - 1))) p u hp m3 m12 (fun _ _ _ _ => Eq.refl _)).2.2.2.1 kk ek k4 k24
theorem Lvg.wts (h : Lvg X Y dc md on M op wn c mt ps yy bf wf) : Wts X Y on dc (M.2.2.1 (mt (op - 1))) (yy (op - 1)).2.2 (wf (op - 1)) ∧ VrsL X Y on dc (op - 1) (yy (op - 1)).1 := by
  obtain ⟨_, _, _, _, _, _, ⟨_, _, _, f4, _, f7⟩, _⟩ := h
  exact ⟨f7, f4⟩
theorem Wts.pre {w x : List Nat} {rs wb : Nat} (h : Wts X Y on dc rs (w ++ x) wb) : Wts X Y on dc rs w wb := fun i hi => by
  obtain ⟨n, z1, z⟩ := h i (by rw [List.length_append]; omega)
  exact ⟨n, by rw [List.getElem?_append_left hi] at z1; exact z1, z⟩
theorem Ln.brk (h : Ln X Y gh nd T nm wr lz dc fd md pr bk M rmm mu op wn fu rd on idn fl ct c mt ps yy bf wf) (hp : Pv X (M.1 (mt (op - 1))) (rtP M (mt (op - 1))) p u) (hst : stq X p u c (yy (op - 1))) (ek : X 9 p = nI kk) (hk : kk = 35 ∨ kk = 36) : Y 18 p = nI u.1.1 ∧ u.1.1 ≤ 30 ∧ wf (op - 1) + u.2.2.length = wn ∧ ∀ csc : Nat → Int32, csc (op - 1) = nI u.1.1 → (∀ i : Nat, i ≠ op - 1 → csc i = Y 63 i) → Nx X (updA Y 63 csc) gh nd T nm wr lz dc fd md pr bk M rmm fu mu op (bf (op - 1)) wn fu rd on idn fl ct (-1) (nI p) 0 uc := by
  have rt := h.rt
  have bd := h.1.bd
  have r := h.room
  obtain ⟨w, L2, ph⟩ := h.mv hp hst
  have lsk : Y 18 p = nI u.1.1 := by
    rcases hk with w | w <;> subst w
    · exact (h.lsk hp ek (by omega) (by omega)).1
    · exact (h.lsk hp ek (by omega) (by omega)).1
  have w3 : (yy (op - 1)).2.2 = u.2.2 := by
    obtain ⟨k2, s, i, a1, _, _, _, _, _, _, e⟩ := hst
    have : k2 = kk := (nI_eq (by omega) (by omega)).mp (a1.symm.trans ek)
    rw [e]
    show (if k2 = 41 ∧ s = 3 then _ else _) = _
    rw [if_neg (by omega)]
  obtain ⟨wt, vr⟩ := h.2.2.1.wts
  have vr2 := vr.low hst.enl
  refine ⟨lsk, vr2.1, by rw [← w3]; exact r.2.2.2.2.2.2.2.2.1, fun csc e1 e2 => ?_⟩
  refine Ln.land (ov1 := true) h (Sta.up Sta.rfl (by omega)) h.2.1 (Lvg.land (ov1 := true) (z := u) h.2.2.1 ⟨⟨rfl, rfl, rfl, rfl, rfl, rfl⟩, ⟨rfl, rfl, rfl, fun c' hc' => e2 c' (by omega)⟩, fun _ _ => ⟨rfl, rfl⟩, fun _ _ => ⟨rfl, rfl⟩, fun _ _ => ⟨rfl, rfl, rfl⟩⟩ hp (VrsL.at vr2 ⟨rfl, rfl, rfl⟩ e1 (fun _ _ => ⟨rfl, rfl⟩)) (by rw [if_pos rfl, aft_no (fun w => by
    have : kk = 30 := (nI_eq (by omega) (by omega)).mp (ek.symm.trans w)
    omega)]) (h.npd hp ek (by omega) (by omega)) ?_ ?_ (fun w => absurd w (by decide)) (fun _ => ⟨kk, ek, by omega, Or.inl ⟨by omega, rfl⟩⟩)) (Lss.up h.1.fs (by omega) rt.1.1 rt.1.2.1 rt.1.2.2 hp hst)
  · rw [← w3]; exact wt.same ⟨rfl, rfl, rfl⟩ (fun _ _ => ⟨rfl, rfl, rfl⟩)
  · rw [← w3]; exact r.2.2.2.2.2.2.2.2.1.symm
end M17
def JK (k : Nat) : Prop := 31 ≤ k ∧ k ≠ 32 ∧ k ≠ 33
section M18
variable {X Y Z : Nat → Nat → Int32} {K : Nat → Int32} {gh : Nat → Nat → Nat} {nd T nm wr lz dc fd md pr bk rmm mu op tp tp1 wn wn1 fu fu1 rd on idn fl ct j j1 p n b c m t kk s i k r b1 tb q rc m2 : Nat} {M : MTb} {ov ov1 : Bool} {mt ps : Nat → Nat} {yy yy1 : Nat → Ps} {bf wf : Nat → Nat} {y0 u z : Ps} {e e' : En} {en nw isn uc v x kd : Int32} {f : Nat → Int32}
theorem stq.slc (hF : Fs2 K T wr X gh nd) (hnd : nd ≤ 12000) (pn : p < nd) (h : stq X p u n z) (ek : X 9 p = nI kk) (k4 : kk ≤ 44) (al : ∀ s : Nat, s ≤ 4 → 1 ≤ s → nch kk s = false → cdOf kk s < 200) : ∃ s : Nat, 1 ≤ s ∧ s ≤ 4 ∧ nch kk s = false ∧ X (11 + s) p = nI n ∧ z = pst X p u kk s 0 ∧ gh 0 n = 8 * p + s ∧ n < nd ∧ kcl (cdOf kk s % 100) (X 9 n) = true ∧ chN X s p = n := by
  obtain ⟨s, a1, a2, a3, a4, a5, a6, a7, a8, _⟩ := h.slot hF hnd pn ek k4 al
  refine ⟨s, a1, a2, a3, a4, a6, a7, a8, ?_, a5⟩
  obtain ⟨k2, e2, _, k44, hs⟩ := hF.knd pn
  have e9 : k2 = kk := (nI_eq (by omega) (by omega)).mp (e2.symm.trans ek)
  subst e9
  have q : cdOf k2 s ≠ 0 ∧ cdOf k2 s ≠ 50 ∧ cdOf k2 s ≠ 51 ∧ cdOf k2 s ≠ 60 := by
    unfold nch at a3
    simp only [Bool.or_eq_false_iff, beq_eq_false_iff_ne] at a3
    exact ⟨a3.1.1.1, a3.1.1.2, a3.1.2, a3.2⟩
  rcases (hs s a1 a2).2.2.2 q.1 q.2.1 q.2.2.1 q.2.2.2 with ⟨w, _⟩ | ⟨j, w1, _, w2, _, _, w5, _⟩
  · rw [w] at a4; exact absurd a4.symm (nI_m1 (by omega))
  · have : j = n := (nI_eq (by omega) (by omega)).mp (w1.symm.trans a4)
    rw [← this]; exact w5
theorem stq.jk (hF : Fs2 K T wr X gh nd) (hnd : nd ≤ 12000) (pn : p < nd) (h : stq X p u n z) (ek : X 9 p = nI kk) (k4 : kk ≤ 44) (ec : X 9 n = nI c) (c4 : c ≤ 44) (hc : JK c) : JK kk ∧ (kk ≠ 35 → kk ≠ 36 → z.1.2.1 = u.1.2.1) ∧ ((kk = 35 ∨ kk = 36) → ∃ s : Nat, s = (if kk = 35 then 2 else 4) ∧ z = pst X p u kk s 0 ∧ gh 0 n = 8 * p + s ∧ X (11 + s) p = nI n) := by
  have kok := hF.kok pn ek k4
  by_cases k23 : kk ≤ 23
  · obtain ⟨_, _, _, kc, w1, w2⟩ := h.phr hF hnd pn ek k23
    have : kc = c := (nI_eq (by omega) (by omega)).mp (w1.symm.trans ec)
    unfold JK at hc; omega
  · have z21 : kk ≠ 35 → kk ≠ 36 → z.1.2.1 = u.1.2.1 := fun n5 n6 => by
      obtain ⟨k2, s, i, a1, _, _, _, _, _, _, e⟩ := h
      have : k2 = kk := (nI_eq (by omega) (by omega)).mp (a1.symm.trans ek)
      subst this
      rw [e]
      show (cenv X p u.1 k2 s i).2.1 = _
      unfold cenv
      split
      · exact aft_il
      · next i => 
        have : ∀ i : Nat, (envL X (X 12 p) u.1 i).2.1 = u.1.2.1 := fun i => by
          induction i with
          | zero => rfl
          | succ i ih => exact aft_il.trans ih
        exact this _
      all_goals first | omega | rfl
    refine ⟨?_, z21, fun hk => ?_⟩
    · by_cases w : kk = 31 ∨ kk = 34 ∨ kk = 35 ∨ kk = 36 ∨ kk = 41 ∨ kk = 44
      · unfold JK; omega
      · exfalso
        have al : ∀ s : Nat, s ≤ 4 → 1 ≤ s → nch kk s = false → cdOf kk s < 200 ∧ (cdOf kk s % 100 = 1 ∨ cdOf kk s % 100 = 12 ∨ cdOf kk s % 100 = 13) := by
          rcases (show kk = 30 ∨ kk = 32 ∨ kk = 33 ∨ kk = 37 ∨ kk = 38 ∨ kk = 39 ∨ kk = 40 ∨ kk = 42 ∨ kk = 43 by omega) with w | w | w | w | w | w | w | w | w <;> subst w <;> decide
        obtain ⟨s, a1, a2, a3, a4, a5, a6, a7, a8, _⟩ := h.slc hF hnd pn ek k4 (fun s s4 s1 hn => (al s s4 s1 hn).1)
        rw [ec] at a8
        have d1 : ∀ q : Nat, q ≤ 44 → (kcl 1 (nI q) = true → q ≤ 23) ∧ (kcl 12 (nI q) = true → q ≤ 23) ∧ (kcl 13 (nI q) = true → q ≤ 23) := by decide
        have d2 := d1 c c4
        unfold JK at hc
        rcases (al s a2 a1 a3).2 with w | w | w
        · rw [w] at a8; have := d2.1 a8; omega
        · rw [w] at a8; have := d2.2.1 a8; omega
        · rw [w] at a8; have := d2.2.2 a8; omega
    · have al : ∀ s : Nat, s ≤ 4 → 1 ≤ s → nch kk s = false → cdOf kk s < 200 := by rcases hk with w | w <;> subst w <;> decide
      obtain ⟨s, a1, a2, a3, a4, a5, a6, a7, a8, _⟩ := h.slc hF hnd pn ek k4 al
      rw [ec] at a8
      have es : s = (if kk = 35 then 2 else 4) := by
        rcases hk with w | w <;> subst w
        · have d : ∀ q : Nat, q ≤ 44 → (31 ≤ q ∧ q ≠ 32 ∧ q ≠ 33) → ∀ s : Nat, s ≤ 4 → (1 ≤ s ∧ nch 35 s = false ∧ kcl (cdOf 35 s % 100) (nI q) = true) → s = 2 := by decide
          exact d c c4 hc s a2 ⟨a1, a3, a8⟩
        · have d : ∀ q : Nat, q ≤ 44 → (31 ≤ q ∧ q ≠ 32 ∧ q ≠ 33) → ∀ s : Nat, s ≤ 4 → (1 ≤ s ∧ nch 36 s = false ∧ kcl (cdOf 36 s % 100) (nI q) = true) → s = 4 := by decide
          exact d c c4 hc s a2 ⟨a1, a3, a8⟩
      exact ⟨s, es, a5, a6, a4⟩
def lpE (X : Nat → Nat → Int32) (p : Nat) (e : En) (kk : Nat) : En := if kk = 36 then forE X p e else e
theorem lk_tgt (P : Pg X Y gh nd T nm wr lz dc fd md pr bk M) (pn : p < nd) (ek : X 9 p = nI kk) (hk : kk = 35 ∨ kk = 36) : ∃ j1 s : Nat, lkF Y p = nI j1 ∧ j1 < nd ∧ stq X p u j1 (pst X p u kk s 0) ∧ ¬ X 9 j1 = 44 ∧ (cenv X p u.1 kk s 0).1 = (lpE X p u.1 kk).1 ∧ (cenv X p u.1 kk s 0).2.2 = (lpE X p u.1 kk).2.2 ∧ pnL X p u.2.1 kk s 0 = u.2.1 := by
  have bd := P.bd
  have hF := P.fs
  have rw9 : Y 9 = X 9 ∧ Y 12 = X 12 ∧ Y 13 = X 13 ∧ Y 15 = X 15 := ⟨P.row 9 (by omega) (by omega) (by omega) (by omega) (by omega), P.row 12 (by omega) (by omega) (by omega) (by omega) (by omega), P.row 13 (by omega) (by omega) (by omega) (by omega) (by omega), P.row 15 (by omega) (by omega) (by omega) (by omega) (by omega)⟩
  have kid : ∀ s : Nat, 1 ≤ s → s ≤ 4 → 100 ≤ cdOf kk s ∧ cdOf kk s < 200 → cdOf kk s % 100 ≠ 8 → nch kk s = false → ∃ j1 : Nat, X (11 + s) p = nI j1 ∧ j1 < nd ∧ stq X p u j1 (pst X p u kk s 0) ∧ ¬ X 9 j1 = 44 := fun s s1 s4 hc h8 hn => by
    obtain ⟨c, z1, z2, z3, z4, z5, z6, z7⟩ := hF.kid pn ek (by omega) s1 s4 hc (by omega)
    refine ⟨c, z1, z2, stq.mk ek (by omega) s1 s4 hn (by omega) (by omega) z1, fun w => ?_⟩
    rw [w] at z5
    rcases hk with w | w <;> subst w
    · have d : ∀ s : Nat, s ≤ 4 → 1 ≤ s → nch 35 s = false → kcl (cdOf 35 s % 100) 44 = false := by decide
      rw [d s s4 s1 hn] at z5; exact absurd z5 (by decide)
    · have d : ∀ s : Nat, s ≤ 4 → 1 ≤ s → nch 36 s = false → kcl (cdOf 36 s % 100) 44 = false := by decide
      rw [d s s4 s1 hn] at z5; exact absurd z5 (by decide)
  rcases hk with w | w <;> subst w
  · obtain ⟨j1, a1, a2, a3, a4⟩ := kid 1 (by omega) (by omega) (by decide) (by decide) (by decide)
    exact ⟨j1, 1, by rw [lkF_1 (by rw [rw9.1]; exact ek), rw9.2.1]; exact a1, a2, a3, a4, rfl, rfl, rfl⟩
  · have n35 : ¬ Y 9 p = 35 := fun w => by
      rw [rw9.1] at w
      have := (nI_eq (a := 36) (b := 35) (by omega) (by omega)).mp (ek.symm.trans w); omega
    by_cases b1 : X 13 p = -1
    · obtain ⟨j1, a1, a2, a3, a4⟩ := kid 4 (by omega) (by omega) (by decide) (by decide) (by decide)
      exact ⟨j1, 4, by rw [lkF_2 n35 (by rw [rw9.2.2.1]; exact b1), rw9.2.2.2]; exact a1, a2, a3, a4, rfl, rfl, rfl⟩
    · obtain ⟨k2, e2, _, k44, hs⟩ := hF.knd pn
      have e9 : k2 = 36 := (nI_eq (by omega) (by omega)).mp (e2.symm.trans ek)
      subst e9
      rcases (hs 2 (by omega) (by omega)).2.2.2 (by decide) (by decide) (by decide) (by decide) with ⟨w, _⟩ | ⟨j1, w1, _, w2, _, _, w5, _⟩
      · exact absurd w b1
      · obtain ⟨kc, x1, _, x3, _⟩ := hF.knd w2
        have := kcl1 w5 x1 x3
        exact ⟨j1, 2, by rw [lkF_3 n35 (by rw [rw9.2.2.1]; exact b1), rw9.2.2.1]; exact w1, w2, stq.mk ek (by omega) (by omega) (by omega) (by decide) (by decide) (by omega) w1, fun w => by
          have := (nI_eq (a := kc) (b := 44) (by omega) (by omega)).mp (x1.symm.trans w); omega, rfl, rfl, rfl⟩
theorem VrsL.loop (h : VrsL X Y on dc c e) (g : e'.1 = e.1 ∧ e'.2.2 = e.2.2) : VrsL X Y on dc c e' := by
  unfold VrsL at h ⊢
  rw [g.1, g.2]; exact h
theorem Ln.cont (h : Ln X Y gh nd T nm wr lz dc fd md pr bk M rmm mu op wn fu rd on idn fl ct c mt ps yy bf wf) (hp : Pv X (M.1 (mt (op - 1))) (rtP M (mt (op - 1))) p u) (hst : stq X p u c (yy (op - 1))) (ek : X 9 p = nI kk) (hk : kk = 35 ∨ kk = 36) (ec : X 9 c = nI k) (k4 : k ≤ 44) (jk : JK k) (csc : Nat → Int32) (e1 : csc (op - 1) = nI (lpE X p u.1 kk).1) (e2 : ∀ i : Nat, i ≠ op - 1 → csc i = Y 63 i) : (∀ j1 : Nat, kk = 36 → X 14 p = nI j1 → j1 < 20000 → Nx X (updA Y 63 csc) gh nd T nm wr lz dc fd md pr bk M rmm fu mu op (bf (op - 1)) wn fu rd on idn fl ct (-1) (nI j1) 1 uc) ∧ ∃ j1 : Nat, lkF Y p = nI j1 ∧ ∀ fu1 : Nat, fu1 + 1 = fu → Nx X (updA Y 63 csc) gh nd T nm wr lz dc fd md pr bk M rmm fu mu op (bf (op - 1)) wn fu1 rd on idn fl ct (-1) (nI j1) 1 uc := by
  have rt := h.rt
  have bd := h.1.bd
  have r := h.room
  have hF := h.1.fs
  have pn : p < nd := (hp.und hF (by omega) rt.1.1).1
  have w3 : (yy (op - 1)).2.2 = u.2.2 := by
    obtain ⟨k2, s, i, a1, _, _, _, _, _, _, e⟩ := hst
    have : k2 = kk := (nI_eq (by omega) (by omega)).mp (a1.symm.trans ek)
    rw [e]
    show (if k2 = 41 ∧ s = 3 then _ else _) = _
    rw [if_neg (by omega)]
  have hkk : kk ≤ 44 := by omega
  obtain ⟨_, _, js⟩ := hst.jk hF (by omega) pn ek hkk ec k4 jk
  obtain ⟨s, es, ez, gs, xs⟩ := js hk
  obtain ⟨wt, vr⟩ := h.2.2.1.wts
  have hen : (lpE X p u.1 kk).1 = (yy (op - 1)).1.1 ∧ (lpE X p u.1 kk).2.2 = (yy (op - 1)).1.2.2 := by
    rw [ez, es]
    rcases hk with w | w <;> subst w
    · exact ⟨rfl, rfl⟩
    · exact ⟨rfl, rfl⟩
  have vr2 : VrsL X Y on dc (op - 1) (lpE X p u.1 kk) := vr.loop hen
  have npd := h.npd hp ek (by omega) hkk
  have kpt : Kpt Y (updA Y 63 csc) op (bf (op - 1)) (wf (op - 1)) := ⟨⟨rfl, rfl, rfl, rfl, rfl, rfl⟩, ⟨rfl, rfl, rfl, fun c' hc' => e2 c' (by omega)⟩, fun _ _ => ⟨rfl, rfl⟩, fun _ _ => ⟨rfl, rfl⟩, fun _ _ => ⟨rfl, rfl, rfl⟩⟩
  have vz : Vrs X (updA Y 63 csc) on dc (op - 1) (lpE X p u.1 kk) := VrsL.at vr2 ⟨rfl, rfl, rfl⟩ e1 (fun _ _ => ⟨rfl, rfl⟩)
  have wz : Wts X (updA Y 63 csc) on dc (M.2.2.1 (mt (op - 1))) u.2.2 (wf (op - 1)) := by rw [← w3]; exact wt.same ⟨rfl, rfl, rfl⟩ (fun _ _ => ⟨rfl, rfl, rfl⟩)
  have wl : wn = wf (op - 1) + u.2.2.length := by rw [← w3]; exact r.2.2.2.2.2.2.2.2.1.symm
  have pw : ∀ s : Nat, (pst X p u kk s 0).2.2 = u.2.2 := fun s => by
    show (if kk = 41 ∧ s = 3 then _ else _) = _
    rw [if_neg (by omega)]
  refine ⟨fun j1 k36 e14 j20 => ?_, ?_⟩
  · subst k36
    have g : stq X p u j1 (pst X p u 36 3 0) := stq.mk ek (by omega) (by omega) (by omega) (by decide) (by decide) j20 e14
    obtain ⟨s', a1, a2, a3, a4, a5, a6, a7, a8, _⟩ := g.slc hF (by omega) pn ek (by omega) (by decide)
    have sl := g.at hF (by omega) pn ek (by omega) (s := 3) (by omega) (by omega) (by decide) (by decide) e14
    obtain ⟨_, _, b3⟩ := slP.p0 hF (by omega) pn ek (by omega) (s := 3) (by omega) (by omega) j20 (by decide) (Or.inl ⟨by decide, e14⟩)
    rw [if_neg (by decide)] at b3
    have es' : s' = 3 := by omega
    subst es'
    refine Ln.land (ov1 := false) h (Sta.up Sta.rfl (by omega)) h.2.1 (Lvg.land (ov1 := false) (z := pst X p u 36 3 0) h.2.2.1 kpt (hp.snoc g) vz (by rw [if_neg (by decide)]; rfl) (by show u.2.1 = []; exact npd) (by rw [pw]; exact wz) (by rw [pw]; exact wl) (fun _ w => ?_) (fun w => absurd w (by decide))) (Lq.sib hF (by omega) rt.1.1 rt.1.2.1 rt.1.2.2 Lq.rfl hp hst g ?_)
    · rw [w] at a8; exact absurd a8 (by decide)
    · rw [if_neg (by decide)] at es
      subst es
      rw [ord_one gs (by omega) (by omega), ord_one b3 (by omega) (by omega)]; decide
  · obtain ⟨j1, s', l1, l2, l3, l4, l5, l6, l7⟩ := lk_tgt (u := u) h.1 pn ek hk
    refine ⟨j1, l1, fun fu1 hf => Ln.landP (ov1 := false) h (Sta.up Sta.rfl (by omega)) h.2.1 (Lvg.land (ov1 := false) (z := pst X p u kk s' 0) (e1 := cenv X p u.1 kk s' 0) h.2.2.1 kpt (hp.snoc l3) (vz.env l5 l6) (by rw [if_neg (by decide)]; rfl) (by show pnL X p u.2.1 kk s' 0 = []; rw [l7]; exact npd) (by rw [pw]; exact wz) (by rw [pw]; exact wl) (fun _ => l4) (fun w => absurd w (by decide))) hf⟩
end M18
section M19
variable {X Y Z : Nat → Nat → Int32} {K : Nat → Int32} {gh : Nat → Nat → Nat} {nd T nm wr lz dc fd md pr bk rmm mu op tp tp1 wn wn1 fu fu1 rd on idn fl ct j j1 p n b c m t kk s i k r b1 tb q rc m2 hN d kc xn : Nat} {M : MTb} {ov ov1 : Bool} {mt ps : Nat → Nat} {yy yy1 : Nat → Ps} {bf wf : Nat → Nat} {y0 u z : Ps} {e e' : En} {en nw isn uc v x kd : Int32} {f : Nat → Int32}
theorem Pg.nws (P : Pg X Y gh nd T nm wr lz dc fd md pr bk M) : ∀ i : Nat, i < nd → nwOK (X 9 i) (X 26) dc (X 18 i) := P.1.1.2.2.2.2.2.1
theorem Ln.cts (h : Ln X Y gh nd T nm wr lz dc fd md pr bk M rmm mu op wn fu rd on idn fl ct c mt ps yy bf wf) (hp : Pv X (M.1 (mt (op - 1))) (rtP M (mt (op - 1))) p u) (ek : X 9 p = nI 41) (h20 : hN < 20000) (hi : itr (X 16) (X 13 p) i = nI hN) : hN < nd ∧ X 9 hN = nI 44 ∧ gh 0 hN = 8 * p + 5 ∧ gh 2 hN = i ∧ stq X p u hN (pst X p u 41 2 i) ∧ Y 18 hN = nI u.1.1 ∧ u.1.1 < 30 ∧ ∃ d j1 : Nat, d < dc ∧ X 18 hN = nI d ∧ Y 14 hN = nI d ∧ X 13 hN = nI j1 ∧ j1 < nd ∧ X 9 j1 = nI 31 ∧ stq X hN (pst X p u 41 2 i) j1 (pst X hN (pst X p u 41 2 i) 44 2 0) := by
  have rt := h.rt
  have P := h.1
  have bd := P.bd
  have pn : p < nd := (hp.und P.fs (by omega) rt.1.1).1
  obtain ⟨a1, a2, a3, a4, a5⟩ := lst_ct P.fs (by omega) pn ek h20 hi
  have g : stq X p u hN (pst X p u 41 2 i) := stq.mkL ek (by omega) (by omega) (by omega) (by decide) h20 hi
  obtain ⟨l1, l2, l3⟩ := h.lsk (hp.snoc g) a5 (by omega) (by omega)
  have l1' : Y 18 hN = nI u.1.1 := l1
  have l2' : u.1.1 < 30 := l2
  obtain ⟨d, d1, d2, d3⟩ := P.nws hN a1 (Or.inr a5)
  obtain ⟨j1, b1, b2, b3, b4, b5, b6, b7⟩ := P.fs.kid a1 a5 (by omega) (s := 2) (by omega) (by omega) (by decide) (by omega)
  obtain ⟨kc, k1, _, k3, _⟩ := P.fs.knd b2
  have k31 : kc = 31 := by
    rw [k1] at b5
    have dec : ∀ q : Nat, q ≤ 44 → kcl (cdOf 44 2 % 100) (nI q) = true → q = 31 := by decide
    exact dec kc k3 b5
  exact ⟨a1, a5, a2, (list_pl (s := 2) P.fs (by omega) pn ek (by omega) (by omega) (by omega) (by decide) h20 hi).1, g, l1', l2', d, j1, d2, d1, l3.trans d1, b1, b2, by rw [k1, k31], stq.mk a5 (by omega) (by omega) (by omega) (by decide) (by decide) (by omega) b1⟩
theorem stq.p41 (hF : Fs2 K T wr X gh nd) (hnd : nd ≤ 12000) (pn : p < nd) (h : stq X p u n z) (ek : X 9 p = nI 41) : z.1 = u.1 ∧ (yy (op - 1)) = (yy (op - 1)) ∧ ((X 12 p = nI n ∧ gh 0 n = 8 * p + 1 ∧ ¬ X 14 p = nI n ∧ z.2.2 = u.2.2) ∨ (¬ X 14 p = nI n ∧ ¬ X 12 p = nI n ∧ gh 0 n = 8 * p + 5 ∧ (∃ i : Nat, gh 2 n = i ∧ i < 12000) ∧ z.2.2 = u.2.2) ∨ (X 14 p = nI n ∧ ¬ X 12 p = nI n ∧ gh 0 n = 8 * p + 3 ∧ z.2.2 = u.2.2 ++ [u.1.2.1])) := by
  obtain ⟨s, i, a1, a2, a3, a4, a5, a6, a7, a8⟩ := h.inv hF hnd pn ek (by omega)
  have no : ∀ s' : Nat, 1 ≤ s' → s' ≤ 4 → nch 41 s' = false → cdOf 41 s' < 200 → X (11 + s') p = nI n → gh 0 n = 8 * p + s' := fun s' s1 s4 hn hc g => by
    obtain ⟨_, _, b3⟩ := slP.p0 hF hnd pn ek (by omega) s1 s4 (show n < 20000 by omega) hn (Or.inl ⟨hc, g⟩)
    rw [if_neg (by omega)] at b3; exact b3
  have d : ∀ s : Nat, s ≤ 4 → 1 ≤ s → nch 41 s = false → s = 1 ∨ s = 2 ∨ s = 3 := by decide
  refine ⟨by rw [a5]; rcases d s a2 a1 a3 with w | w | w <;> subst w <;> rfl, rfl, ?_⟩
  rcases d s a2 a1 a3 with w | w | w <;> subst w
  · rw [if_neg (by decide)] at a8
    rcases a4 with ⟨_, a4, i0⟩ | ⟨a4, _⟩
    · exact Or.inl ⟨a4, a8, fun w => by have := no 3 (by omega) (by omega) (by decide) (by decide) w; omega, by rw [a5]; rfl⟩
    · exact absurd a4 (by decide)
  · rw [if_pos (by decide)] at a8
    rcases a4 with ⟨a4, _⟩ | ⟨a4, w⟩
    · exact absurd a4 (by decide)
    · have pl := list_pl hF hnd pn ek (by omega) (by omega) (by omega) a4 (by omega) w
      exact Or.inr (Or.inl ⟨fun w => by have := no 3 (by omega) (by omega) (by decide) (by decide) w; omega, fun w => by have := no 1 (by omega) (by omega) (by decide) (by decide) w; omega, a8, ⟨i, pl.1, by omega⟩, by rw [a5]; rfl⟩)
  · rw [if_neg (by decide)] at a8
    rcases a4 with ⟨_, a4, i0⟩ | ⟨a4, _⟩
    · exact Or.inr (Or.inr ⟨a4, fun w => by have := no 1 (by omega) (by omega) (by decide) (by decide) w; omega, a8, by rw [a5]; rfl⟩)
    · exact absurd a4 (by decide)
theorem Ln.catch (h : Ln X Y gh nd T nm wr lz dc fd md pr bk M rmm mu op wn fu rd on idn fl ct c mt ps yy bf wf) (hp : Pv X (M.1 (mt (op - 1))) (rtP M (mt (op - 1))) p u) (hst : stq X p u c (yy (op - 1))) (ek : X 9 p = nI 41) (hA : X 12 p = nI c) (h1 : 1 ≤ xn) (h2 : (xn ≤ 3000 ∧ Lvd (Y 73) on (xn - 1)) ∨ (4001 ≤ xn ∧ xn ≤ 4006)) (h3 : clF (Y 55) xn = nI kc) (hkc : kc < dc) (h20 : hN < 20000) (hi : itr (X 16) (X 13 p) i = nI hN) (hd : Y 14 hN = nI d) (d1 : d < dc) (ab : d = kc ∨ X 31 (40 * d + kc) = 1) : ∃ v j1 : Nat, Y 18 hN = nI v ∧ v < 30 ∧ hN < nd ∧ X 13 hN = nI j1 ∧ j1 < nd ∧ ∀ csc : Nat → Int32, csc (op - 1) = nI (v + 1) → (∀ i : Nat, i ≠ op - 1 → csc i = Y 63 i) → Nx X (updA (updA (updA Y 63 csc) 66 (upd (Y 66) (32 * (op - 1) + v) (nI xn))) 67 (upd (Y 67) (32 * (op - 1) + v) 1)) gh nd T nm wr lz dc fd md pr bk M rmm fu mu op (bf (op - 1)) wn fu rd on idn fl ct (-1) (nI j1) 1 uc := by
  have rt := h.rt
  have P := h.1
  have bd := P.bd
  have r := h.room
  have pn : p < nd := (hp.und P.fs (by omega) rt.1.1).1
  obtain ⟨a1, a2, a3, a4, g, a6, a7, d', j1, b1, b2, b3, b4, b5, b6, g2⟩ := h.cts hp ek h20 hi
  obtain ⟨e1, _, pl⟩ := hst.p41 (yy := yy) (op := op) P.fs (by omega) pn ek
  have w1 : gh 0 c = 8 * p + 1 ∧ (yy (op - 1)).2.2 = u.2.2 := by
    rcases pl with w | w | w
    · exact ⟨w.2.1, w.2.2.2⟩
    · exact absurd hA w.2.1
    · exact absurd hA w.2.1
  obtain ⟨wt, vr⟩ := h.2.2.1.wts
  rw [e1] at vr
  rw [w1.2] at wt
  have ed : d' = d := (nI_eq (by omega) (by omega)).mp (b3.symm.trans hd)
  subst ed
  refine ⟨u.1.1, j1, a6, a7, a1, b4, b5, fun csc c1 c2 => ?_⟩
  have npd := h.npd hp ek (by omega) (by omega)
  have vt : VTd (Y 73) (Y 55) (Y 56) (X 31) on dc (nI xn) (10 + d') := VTd.isC P rfl h1 h2 h3 hkc (FitC.to (by
    rcases ab with g | g
    · exact Or.inl (by omega)
    · exact Or.inr (Or.inr (Or.inl ⟨by omega, by omega, by omega, by omega, by rw [show 40 * (10 + d' - 10) + (10 + kc - 10) = 40 * d' + kc by omega]; exact g⟩))) (by omega) (by omega))
  have vz : Vrs X (updA (updA (updA Y 63 csc) 66 (upd (Y 66) (32 * (op - 1) + u.1.1) (nI xn))) 67 (upd (Y 67) (32 * (op - 1) + u.1.1) 1)) on dc (op - 1) (u.1.1 + 1, u.1.2.1, upd u.1.2.2 u.1.1 (nI (10 + d'))) := VrsL.ext vr ⟨rfl, rfl, rfl⟩ a7 c1 (fun v hv => ⟨if_neg (by omega), if_neg (by omega)⟩) (TyC.cl b1) (by omega) (by
    show SlV X _ on dc (upd (Y 66) (32 * (op - 1) + u.1.1) (nI xn) (32 * (op - 1) + u.1.1)) (upd (Y 67) (32 * (op - 1) + u.1.1) 1 (32 * (op - 1) + u.1.1)) (10 + d')
    rw [show upd (Y 66) (32 * (op - 1) + u.1.1) (nI xn) (32 * (op - 1) + u.1.1) = nI xn from if_pos rfl, show upd (Y 67) (32 * (op - 1) + u.1.1) 1 (32 * (op - 1) + u.1.1) = 1 from if_pos rfl]
    exact SlV.same (Y := Y) ⟨⟨vt, 1, rfl, by omega, fun _ => by omega, fun _ => Or.inl rfl⟩, fun _ => by decide⟩ ⟨rfl, rfl, rfl⟩)
  refine Ln.land (ov1 := false) h (Sta.up (Sta.up (Sta.up Sta.rfl (by omega)) (by omega)) (by omega)) h.2.1 (Lvg.land (ov1 := false) (z := pst X hN (pst X p u 41 2 i) 44 2 0) (e1 := (u.1.1 + 1, u.1.2.1, upd u.1.2.2 u.1.1 (nI (10 + d')))) h.2.2.1 ⟨⟨rfl, rfl, rfl, rfl, rfl, rfl⟩, ⟨rfl, rfl, rfl, fun c' hc' => c2 c' (by omega)⟩, fun a ha => ⟨if_neg (by omega), if_neg (by omega)⟩, fun _ _ => ⟨rfl, rfl⟩, fun _ _ => ⟨rfl, rfl, rfl⟩⟩ ((hp.snoc g).snoc g2) vz ?_ (by show u.2.1 = []; exact npd) (wt.same ⟨rfl, rfl, rfl⟩ (fun _ _ => ⟨rfl, rfl, rfl⟩)) ?_ (fun _ w => ?_) (fun w => absurd w (by decide))) ?_
  · rw [if_neg (by decide)]
    show (u.1.1 + 1, u.1.2.1, upd u.1.2.2 u.1.1 (nI (10 + d'))) = (u.1.1 + 1, u.1.2.1, upd u.1.2.2 u.1.1 (10 + X 18 hN))
    rw [b2, show (10 : Int32) + nI d' = nI (10 + d') from nI_add 10 d']
  · show wn = wf (op - 1) + u.2.2.length
    rw [← w1.2]; exact r.2.2.2.2.2.2.2.2.1.symm
  · have := (nI_eq (a := 31) (b := 44) (by omega) (by omega)).mp (b6.symm.trans w); omega
  · exact Lss.trans (Lq.sib P.fs (by omega) rt.1.1 rt.1.2.1 rt.1.2.2 Lq.rfl hp hst g (by rw [ord_one w1.1 (by omega) (by omega), ord_lst a3 a4]; show 1 < 2 + i; omega)) (Lss.down P.fs (by omega) rt.1.1 rt.1.2.1 rt.1.2.2 (hp.snoc g) g2)
theorem Wts.snoc {w : List Nat} {rs wb n : Nat} (h : Wts X Y on dc rs w wb) (g : Z 55 = Y 55 ∧ Z 56 = Y 56 ∧ Z 73 = Y 73) (g1 : ∀ i : Nat, i < wb + w.length → Z 70 i = Y 70 i ∧ Z 71 i = Y 71 i ∧ Z 72 i = Y 72 i) (hk : Z 70 (wb + w.length) = 0 ∨ (Z 70 (wb + w.length) = 1 ∧ Thr Z on dc (Z 71 (wb + w.length)) ∧ ¬ Z 72 (wb + w.length) = 0) ∨ (Z 70 (wb + w.length) = 2 ∧ (rs = 0 ∨ Slt X Z on dc (Z 71 (wb + w.length)) (Z 72 (wb + w.length)) rs)) ∨ ((Z 70 (wb + w.length) = 3 ∨ Z 70 (wb + w.length) = 4) ∧ 1 ≤ n)) (hf : ¬ Z 72 (wb + w.length) = 0 → RfV (Z 73) on (Z 71 (wb + w.length))) (hb : ∃ b : Nat, Z 72 (wb + w.length) = nI b ∧ b ≤ 1) : Wts X Z on dc rs (w ++ [n]) wb := fun i hi => by
  rw [List.length_append] at hi
  have hi' : i < w.length + 1 := hi
  by_cases q : i < w.length
  · obtain ⟨n', z1, z2⟩ := Wts.same h g (fun i hi => g1 _ (by omega)) i q
    exact ⟨n', by rw [List.getElem?_append_left q]; exact z1, z2⟩
  · have e : i = w.length := by omega
    subst e
    exact ⟨n, by rw [List.getElem?_append_right (Nat.le_refl _), Nat.sub_self]; rfl, hk, hf, hb⟩
theorem Ln.last (h : Ln X Y gh nd T nm wr lz dc fd md pr bk M rmm mu op wn fu rd on idn fl ct c mt ps yy bf wf) (hp : Pv X (M.1 (mt (op - 1))) (rtP M (mt (op - 1))) p u) (hst : stq X p u c (yy (op - 1))) (ek : X 9 p = nI 41) (hA : ¬ X 14 p = nI c) (hC : ¬ Y 14 p = -1) (hk : b ≤ 1 ∧ (kd = 0 ∨ (kd = 1 ∧ Thr Y on dc x ∧ b = 1) ∨ (kd = 2 ∧ (M.2.2.1 (mt (op - 1)) = 0 ∨ Slt X Y on dc x (nI b) (M.2.2.1 (mt (op - 1))))) ∨ ((kd = 3 ∨ kd = 4) ∧ 1 ≤ (yy (op - 1)).1.2.1)) ∧ (¬ b = 0 → RfV (Y 73) on x)) : ∃ v j1 : Nat, Y 18 p = nI v ∧ v ≤ 30 ∧ Y 14 p = nI j1 ∧ j1 < nd ∧ ∀ csc : Nat → Int32, csc (op - 1) = nI v → (∀ i : Nat, i ≠ op - 1 → csc i = Y 63 i) → Nx X (updA (updA (updA (updA Y 63 csc) 70 (upd (Y 70) wn kd)) 71 (upd (Y 71) wn x)) 72 (upd (Y 72) wn (nI b))) gh nd T nm wr lz dc fd md pr bk M rmm fu mu op (bf (op - 1)) (wn + 1) fu rd on idn fl ct (-1) (nI j1) 1 uc := by
  have rt := h.rt
  have P := h.1
  have bd := P.bd
  have r := h.room
  have pn : p < nd := (hp.und P.fs (by omega) rt.1.1).1
  have e14 : Y 14 p = X 14 p := P.r14 p pn (by rw [ek]; decide)
  rw [e14] at hC ⊢
  obtain ⟨e1, _, pl⟩ := hst.p41 (yy := yy) (op := op) P.fs (by omega) pn ek
  have w1 : (gh 0 c = 8 * p + 1 ∨ (gh 0 c = 8 * p + 5 ∧ gh 2 c < 12000)) ∧ (yy (op - 1)).2.2 = u.2.2 := by
    rcases pl with w | w | w
    · exact ⟨Or.inl w.2.1, w.2.2.2⟩
    · obtain ⟨_, _, w3, ⟨i, w4, w5⟩, w6⟩ := w
      exact ⟨Or.inr ⟨w3, by omega⟩, w6⟩
    · exact absurd w.1 hA
  obtain ⟨wt, vr⟩ := h.2.2.1.wts
  rw [e1] at vr
  rw [e1] at hk
  rw [w1.2] at wt
  have wl : wn = wf (op - 1) + u.2.2.length := by rw [← w1.2]; exact r.2.2.2.2.2.2.2.2.1.symm
  have lsk : Y 18 p = nI u.1.1 := h.lsk hp ek (by omega) (by omega)
  have npd := h.npd hp ek (by omega) (by omega)
  obtain ⟨k2, e2, _, k44, hs⟩ := P.fs.knd pn
  have e9 : k2 = 41 := (nI_eq (by omega) (by omega)).mp (e2.symm.trans ek)
  subst e9
  rcases (hs 3 (by omega) (by omega)).2.2.2 (by decide) (by decide) (by decide) (by decide) with ⟨w, _⟩ | ⟨j1, z1, _, z2, z3, z4, z5, _⟩
  · exact absurd w hC
  · rw [if_neg (by decide)] at z3
    have g : stq X p u j1 (pst X p u 41 3 0) := stq.mk ek (by omega) (by omega) (by omega) (by decide) (by decide) (by omega) z1
    refine ⟨u.1.1, j1, lsk, vr.1, z1, z2, fun csc c1 c2 => ?_⟩
    refine Ln.land (ov1 := false) h (Sta.up (Sta.up (Sta.up (Sta.up Sta.rfl (by omega)) (by omega)) (by omega)) (by omega)) h.2.1 (Lvg.land (ov1 := false) (z := pst X p u 41 3 0) (e1 := u.1) h.2.2.1 ⟨⟨rfl, rfl, rfl, rfl, rfl, rfl⟩, ⟨rfl, rfl, rfl, fun c' hc' => c2 c' (by omega)⟩, fun _ _ => ⟨rfl, rfl⟩, fun _ _ => ⟨rfl, rfl⟩, fun a ha => ⟨if_neg (by omega), if_neg (by omega), if_neg (by omega)⟩⟩ (hp.snoc g) (VrsL.at vr ⟨rfl, rfl, rfl⟩ c1 (fun _ _ => ⟨rfl, rfl⟩)) (by rw [if_neg (by decide)]; rfl) (by show u.2.1 = []; exact npd) ?_ ?_ (fun _ w => ?_) (fun w => absurd w (by decide))) (Lq.sib P.fs (by omega) rt.1.1 rt.1.2.1 rt.1.2.2 Lq.rfl hp hst g ?_)
    · show Wts X _ on dc (M.2.2.1 (mt (op - 1))) (u.2.2 ++ [u.1.2.1]) (wf (op - 1))
      refine Wts.snoc wt ⟨rfl, rfl, rfl⟩ (fun i hi => ⟨if_neg (by omega), if_neg (by omega), if_neg (by omega)⟩) ?_ ?_ ⟨b, by rw [← wl]; exact if_pos rfl, hk.1⟩
      · rw [← wl]
        show upd (Y 70) wn kd wn = 0 ∨ (upd (Y 70) wn kd wn = 1 ∧ Thr _ on dc (upd (Y 71) wn x wn) ∧ ¬ upd (Y 72) wn (nI b) wn = 0) ∨ (upd (Y 70) wn kd wn = 2 ∧ (_ ∨ Slt X _ on dc (upd (Y 71) wn x wn) (upd (Y 72) wn (nI b) wn) _)) ∨ ((upd (Y 70) wn kd wn = 3 ∨ upd (Y 70) wn kd wn = 4) ∧ _)
        rw [show upd (Y 70) wn kd wn = kd from if_pos rfl, show upd (Y 71) wn x wn = x from if_pos rfl, show upd (Y 72) wn (nI b) wn = nI b from if_pos rfl]
        rcases hk.2.1 with q | ⟨q1, q2, q3⟩ | ⟨q1, q2⟩ | q
        · exact Or.inl q
        · exact Or.inr (Or.inl ⟨q1, q2.same ⟨rfl, rfl⟩, by rw [q3]; decide⟩)
        · exact Or.inr (Or.inr (Or.inl ⟨q1, q2.imp id (fun q => q.same ⟨rfl, rfl, rfl⟩)⟩))
        · exact Or.inr (Or.inr (Or.inr q))
      · rw [← wl]
        show ¬ upd (Y 72) wn (nI b) wn = 0 → RfV (Y 73) on (upd (Y 71) wn x wn)
        rw [show upd (Y 71) wn x wn = x from if_pos rfl, show upd (Y 72) wn (nI b) wn = nI b from if_pos rfl]
        exact fun w => hk.2.2 (fun q => w (by rw [q]; rfl))
    · show wn + 1 = wf (op - 1) + (u.2.2 ++ [u.1.2.1]).length
      rw [List.length_append]
      show wn + 1 = wf (op - 1) + (u.2.2.length + 1)
      omega
    · rw [w] at z5; exact absurd z5 (by decide)
    · rw [ord_one z3 (by omega) (by omega)]
      rcases w1.1 with w | w
      · rw [ord_one w (by omega) (by omega)]; decide
      · rw [ord_lst w.1 rfl]; show 2 + gh 2 c < 14000; omega
end M19
section M20
variable {X Y Z : Nat → Nat → Int32} {K : Nat → Int32} {gh : Nat → Nat → Nat} {nd T nm wr lz dc fd md pr bk rmm mu op tp tp1 wn wn1 fu fu1 fu2 rd on idn fl ct j j1 p n b c m t kk s i k r b1 tb q rc m2 hN d kc xn : Nat} {M : MTb} {ov ov1 : Bool} {mt ps : Nat → Nat} {yy yy1 : Nat → Ps} {bf wf : Nat → Nat} {y0 u z : Ps} {e e' : En} {en nw isn uc v x kd : Int32} {f : Nat → Int32}
theorem Rn.fuel (h : Rn X Y gh nd T nm wr lz dc fd md pr bk M rmm op tp wn fu rd on idn fl ct j ov mt ps yy bf wf) (hf : fu1 ≤ fu) : Rn X Y gh nd T nm wr lz dc fd md pr bk M rmm op tp wn fu1 rd on idn fl ct j ov mt ps yy bf wf := by
  obtain ⟨h1, h2, h3, k, k1, k2⟩ := h
  exact ⟨h1, h2, h3, k, k1, by have := Nat.mul_le_mul_left 12000 hf; omega⟩
theorem Nx.le (h : Nx X Y gh nd T nm wr lz dc fd md pr bk M rmm fu1 mu op tp wn k rd on idn fl ct en nw isn uc) (hf : fu1 ≤ fu) : Nx X Y gh nd T nm wr lz dc fd md pr bk M rmm fu mu op tp wn k rd on idn fl ct en nw isn uc := by
  rcases Nat.lt_or_ge fu1 fu with w | w
  · exact h.less w
  · have : fu1 = fu := by omega
    rw [← this]; exact h
theorem Rn.top (h : Rn X Y gh nd T nm wr lz dc fd md pr bk M rmm op tp wn fu rd on idn fl ct j false mt ps yy bf wf) : Vrs X Y on dc (op - 1) (yy (op - 1)).1 ∧ (¬ Y 62 (op - 1) = 0 ∧ VTd (Y 73) (Y 55) (Y 56) (X 31) on dc (Y 62 (op - 1)) (10 + M.2.1 (mt (op - 1)))) ∧ tp = bf (op - 1) + (yy (op - 1)).2.1.length := by
  obtain ⟨f, _⟩ := h.cf.top
  rw [if_neg (by decide)] at f
  exact ⟨f.vrs, f.2.2.1, (h.cf.2.2.2.2.2.2.2.2.1 rfl).1⟩
theorem Rn.bNum (h : Rn X Y gh nd T nm wr lz dc fd md pr bk M rmm op tp wn fu rd on idn fl ct j false mt ps yy bf wf) (ek : X 9 j = nI kk) (hk : kk = 1 ∨ kk = 2 ∨ kk = 3 ∨ kk = 4 ∨ kk = 5 ∨ kk = 11) : ∃ t : Nat, Y 17 j = nI t ∧ TyC dc t ∧ ¬ t = 0 ∧ t ≤ 2050 ∧ (kk ≠ 4 → kk ≠ 5 → t < 3) ∧ (kk = 5 → t = 10 + M.2.1 (mt (op - 1))) := by
  have b := h.pg.bd
  have ow := Tbl.own h.pg h.rt.2.1
  have l := h.ltk h.rt.2.2 ek (by omega)
  rcases hk with w | w | w | w | w | w <;> subst w
  · exact ⟨1, l, Or.inl (by omega), by omega, by omega, fun _ _ => by omega, fun w => absurd w (by omega)⟩
  · exact ⟨2, l, Or.inl (by omega), by omega, by omega, fun _ _ => by omega, fun w => absurd w (by omega)⟩
  · exact ⟨2, l, Or.inl (by omega), by omega, by omega, fun _ _ => by omega, fun w => absurd w (by omega)⟩
  · exact ⟨3, l, Or.inl (by omega), by omega, by omega, fun w _ => absurd rfl w, fun w => absurd w (by omega)⟩
  · exact ⟨_, l, TyC.cl ow.2.2, by omega, by omega, fun _ w => absurd rfl w, fun _ => rfl⟩
  · exact ⟨1, l, Or.inl (by omega), by omega, by omega, fun _ _ => by omega, fun w => absurd w (by omega)⟩
theorem Rn.b6 (h : Rn X Y gh nd T nm wr lz dc fd md pr bk M rmm op tp wn fu rd on idn fl ct j false mt ps yy bf wf) (ek : X 9 j = nI 6) : ∃ t : Nat, Y 17 j = nI t ∧ TyC dc t ∧ ¬ t = 0 ∧ t ≤ 2050 ∧ ((∃ v : Nat, Y 18 j = nI v ∧ v < 30 ∧ VTd (Y 73) (Y 55) (Y 56) (X 31) on dc (Y 66 (32 * (op - 1) + v)) t) ∨ ∃ f o a g : Nat, f < fd ∧ Y 18 j = -2 - nI f ∧ Y 62 (op - 1) = nI (o + 1) ∧ o < 3000 ∧ Y 58 o = nI a ∧ Y 53 f = nI g ∧ a + g < 3000 ∧ VTd (Y 73) (Y 55) (Y 56) (X 31) on dc (Y 60 (a + g)) t) := by
  have b := h.pg.bd
  obtain ⟨vr, th, _⟩ := h.top
  have ow := Tbl.own h.pg h.rt.2.1
  have l := h.ltk h.rt.2.2 ek (by omega)
  rcases l with ⟨v, l1, l2, l3⟩ | ⟨f, l1, l2, l3, l4⟩
  · obtain ⟨t, t1, t2, t3, t4⟩ := vr.2.2 v l1
    have := vr.2.1
    exact ⟨t, l3.trans t1, t2, t3, TyC.le t2 (by omega), Or.inl ⟨v, l2, by omega, t4.1.1⟩⟩
  · obtain ⟨g1, g2, g3⟩ := ft_ty h.pg l1
    refine ⟨ftN X f, l4.trans g1, g2, g3, TyC.le g2 (by omega), Or.inr ?_⟩
    rcases Hp.obj h.pg h.hp ow.2.2 l1 l3 th.2 with w | ⟨o, k, a, g, w1, w2, w3, w4, w5, w6, w7, w8, w9, w10, w11, w12⟩
    · exact absurd w th.1
    · exact ⟨f, o, a, g, l1, l2, w1, w2, w6, w7, w9, w12⟩
theorem Rn.b9 (h : Rn X Y gh nd T nm wr lz dc fd md pr bk M rmm op tp wn fu rd on idn fl ct j false mt ps yy bf wf) (ek : X 9 j = nI 9) : ∃ c : Nat, Y 18 j = nI c ∧ c < dc ∧ X 26 c = 0 ∧ Y 17 j = nI (10 + c) ∧ TyC dc (10 + c) ∧ Y 30 c = nI (1 + cfF X c fd) ∧ cfF X c fd ≤ 620 := by
  have b := h.pg.bd
  obtain ⟨c, l1, l2, l3, l4⟩ := h.ltk h.rt.2.2 ek (by omega)
  have := cfF_le (X := X) (k := c) fd
  exact ⟨c, l1, l2, l3, l4, TyC.cl l2, h.pg.cells c l2, by omega⟩
theorem Rn.b7 (h : Rn X Y gh nd T nm wr lz dc fd md pr bk M rmm op tp wn fu rd on idn fl ct j false mt ps yy bf wf) (ek : X 9 j = nI kk) (hk : kk = 7 ∨ kk = 8) (e : ¬ X 13 j = -1) : ∃ j1 : Nat, X 13 j = nI j1 ∧ j1 < nd ∧ Nx X Y gh nd T nm wr lz dc fd md pr bk M rmm fu (Phi gh ps op (rkN gh j false)) op tp wn fu rd on idn fl ct (-1) (nI j1) 1 uc := by
  have b := h.pg.bd
  have r := h.room
  have cd : 200 ≤ cdOf kk 2 := by rcases hk with w | w <;> subst w <;> decide
  have hkk : kk ≤ 23 := by omega
  obtain ⟨k2, e2, _, k44, hs⟩ := h.pg.fs.knd r.2.2.1
  have e9 : k2 = kk := (nI_eq (by omega) (by omega)).mp (e2.symm.trans ek)
  subst e9
  rcases (hs 2 (by omega) (by omega)).2.2.2 (by omega) (by omega) (by omega) (by omega) with ⟨w, _⟩ | ⟨j1, w1, _, w2, _⟩
  · exact absurd w e
  · have g : stq X j (yy (op - 1)) j1 (pst X j (yy (op - 1)) k2 2 0) := stq.mkL ek (by omega) (by omega) (by omega) cd (by omega) w1
    obtain ⟨x1, x2, x3, kd, x4, x5⟩ := g.phr h.pg.fs (by omega) r.2.2.1 ek hkk
    refine ⟨j1, w1, w2, h.down g x1 ?_ (fun w => ?_)⟩
    · refine Prod.ext ?_ x2
      show pnL X j (yy (op - 1)).2.1 k2 2 0 = _
      rcases hk with w | w <;> subst w
      · exact List.append_nil _
      · exact List.append_nil _
    · have := (nI_eq (a := kd) (b := 44) (by omega) (by omega)).mp (x4.symm.trans w); omega
theorem Rn.bA (h : Rn X Y gh nd T nm wr lz dc fd md pr bk M rmm op tp wn fu rd on idn fl ct j false mt ps yy bf wf) (ek : X 9 j = nI kk) (k4 : kk ≤ 44) (s1 : 1 ≤ s) (s4 : s ≤ 4) (hc : cdOf kk s < 200) (hn : nch kk s = false) (h8 : kcl (cdOf kk s % 100) 44 = false) (e1 : cenv X j (yy (op - 1)).1 kk s 0 = (yy (op - 1)).1) (e2 : pnL X j (yy (op - 1)).2.1 kk s 0 = (yy (op - 1)).2.1) (e3 : ¬ (kk = 41 ∧ s = 3)) (ne : ¬ X (11 + s) j = -1) : ∃ j1 : Nat, X (11 + s) j = nI j1 ∧ j1 < nd ∧ Nx X Y gh nd T nm wr lz dc fd md pr bk M rmm fu (Phi gh ps op (rkN gh j false)) op tp wn fu rd on idn fl ct (-1) (nI j1) 1 uc := by
  have b := h.pg.bd
  have r := h.room
  obtain ⟨k2, e9, _, k44, hs⟩ := h.pg.fs.knd r.2.2.1
  have e0 : k2 = kk := (nI_eq (by omega) (by omega)).mp (e9.symm.trans ek)
  subst e0
  have q : cdOf k2 s ≠ 0 ∧ cdOf k2 s ≠ 50 ∧ cdOf k2 s ≠ 51 ∧ cdOf k2 s ≠ 60 := by
    unfold nch at hn
    simp only [Bool.or_eq_false_iff, beq_eq_false_iff_ne] at hn
    exact ⟨hn.1.1.1, hn.1.1.2, hn.1.2, hn.2⟩
  rcases (hs s s1 s4).2.2.2 q.1 q.2.1 q.2.2.1 q.2.2.2 with ⟨w, _⟩ | ⟨j1, w1, _, w2, _, _, w5, _⟩
  · exact absurd w ne
  · have g : stq X j (yy (op - 1)) j1 (pst X j (yy (op - 1)) k2 s 0) := stq.mk ek k4 s1 s4 hn hc (by omega) w1
    refine ⟨j1, w1, w2, h.down g e1 ?_ (fun w => ?_)⟩
    · refine Prod.ext e2 ?_
      show (if k2 = 41 ∧ s = 3 then _ else _) = _
      rw [if_neg e3]
    · rw [w, h8] at w5; exact absurd w5 (by decide)
theorem Rn.b31 (h : Rn X Y gh nd T nm wr lz dc fd md pr bk M rmm op tp wn fu rd on idn fl ct j false mt ps yy bf wf) (ek : X 9 j = nI 31) (ne : ¬ X 12 j = -1) : ∃ j1 : Nat, X 12 j = nI j1 ∧ j1 < nd ∧ Nx X Y gh nd T nm wr lz dc fd md pr bk M rmm fu (Phi gh ps op (rkN gh j false)) op tp wn fu rd on idn fl ct (-1) (nI j1) 1 uc := by
  have b := h.pg.bd
  have r := h.room
  obtain ⟨k2, e9, _, k44, hs⟩ := h.pg.fs.knd r.2.2.1
  have e0 : k2 = 31 := (nI_eq (by omega) (by omega)).mp (e9.symm.trans ek)
  subst e0
  rcases (hs 1 (by omega) (by omega)).2.2.2 (by decide) (by decide) (by decide) (by decide) with ⟨w, _⟩ | ⟨j1, w1, _, w2, _, _, w5, _⟩
  · exact absurd w ne
  · have g : stq X j (yy (op - 1)) j1 (pst X j (yy (op - 1)) 31 1 0) := stq.mkL ek (by omega) (by omega) (by omega) (by decide) (by omega) w1
    refine ⟨j1, w1, w2, h.down g rfl rfl (fun w => ?_)⟩
    rw [w] at w5; exact absurd w5 (by decide)
theorem Rn.b30 (h : Rn X Y gh nd T nm wr lz dc fd md pr bk M rmm op tp wn fu rd on idn fl ct j false mt ps yy bf wf) (ek : X 9 j = nI 30) : ∃ v y t : Nat, Y 18 j = nI v ∧ v < 30 ∧ X 12 j = nI y ∧ y < wr ∧ X 21 y = nI t ∧ t ≤ 1050 ∧ ∀ b1 : Nat, b1 ≤ 1 ∧ 3 * b1 ≤ t ∧ t ≤ 2 + 9000 * b1 → (X 13 j = -1 ∧ Nx X (updA (updA (updA Y 63 (upd (Y 63) (op - 1) (nI (v + 1)))) 66 (upd (Y 66) (32 * (op - 1) + v) 0)) 67 (upd (Y 67) (32 * (op - 1) + v) (nI b1))) gh nd T nm wr lz dc fd md pr bk M rmm fu (Phi gh ps op (rkN gh j false)) op tp wn fu rd on idn fl ct (-1) (nI j) 0 uc) ∨ ∃ j1 : Nat, X 13 j = nI j1 ∧ j1 < nd ∧ Nx X (updA (updA (updA Y 63 (upd (Y 63) (op - 1) (nI (v + 1)))) 66 (upd (Y 66) (32 * (op - 1) + v) 0)) 67 (upd (Y 67) (32 * (op - 1) + v) (nI b1))) gh nd T nm wr lz dc fd md pr bk M rmm fu (Phi gh ps op (rkN gh j false)) op tp wn fu rd on idn fl ct (-1) (nI j1) 1 uc := by
  have b := h.pg.bd
  have r := h.room
  have rt := h.rt
  obtain ⟨vr, th, et⟩ := h.top
  obtain ⟨l1, l2, l3⟩ := h.lsk h.rt.2.2 ek (by omega) (by omega)
  obtain ⟨k2, e9, _, k44, hs⟩ := h.pg.fs.knd r.2.2.1
  have e0 : k2 = 30 := (nI_eq (by omega) (by omega)).mp (e9.symm.trans ek)
  subst e0
  obtain ⟨y, y1, y2⟩ := (hs 1 (by omega) (by omega)).1 (by decide)
  obtain ⟨t, x1, x2, x3, x4, x5⟩ := (h.pg.ty y y2).tc (by omega)
  refine ⟨(yy (op - 1)).1.1, y, t, l1, l2, y1, y2, x1, x4, fun b1 hb => ?_⟩
  have ch : chN X 1 j = y := by unfold chN; rw [y1, nI_cl (by omega)]
  have ae : aft X j (yy (op - 1)).1 = ((yy (op - 1)).1.1 + 1, (yy (op - 1)).1.2.1, upd (yy (op - 1)).1.2.2 (yy (op - 1)).1.1 (nI t)) := by rw [aft_y ek, ch, x1]
  have vz : Vrs X (updA (updA (updA Y 63 (upd (Y 63) (op - 1) (nI ((yy (op - 1)).1.1 + 1)))) 66 (upd (Y 66) (32 * (op - 1) + (yy (op - 1)).1.1) 0)) 67 (upd (Y 67) (32 * (op - 1) + (yy (op - 1)).1.1) (nI b1))) on dc (op - 1) (aft X j (yy (op - 1)).1) := by
    rw [ae]
    refine Vrs.ext vr ⟨rfl, rfl, rfl⟩ l2 (if_pos rfl) (fun v hv => ⟨if_neg (by omega), if_neg (by omega)⟩) x2 (by omega) ?_
    show SlV X _ on dc (upd (Y 66) (32 * (op - 1) + (yy (op - 1)).1.1) 0 (32 * (op - 1) + (yy (op - 1)).1.1)) (upd (Y 67) (32 * (op - 1) + (yy (op - 1)).1.1) (nI b1) (32 * (op - 1) + (yy (op - 1)).1.1)) t
    rw [show upd (Y 66) (32 * (op - 1) + (yy (op - 1)).1.1) 0 (32 * (op - 1) + (yy (op - 1)).1.1) = 0 from if_pos rfl, show upd (Y 67) (32 * (op - 1) + (yy (op - 1)).1.1) (nI b1) (32 * (op - 1) + (yy (op - 1)).1.1) = nI b1 from if_pos rfl]
    exact SlV.same (Y := Y) (SlV.mk2 VTd.zero hb) ⟨rfl, rfl, rfl⟩
  have kp : Kpt Y (updA (updA (updA Y 63 (upd (Y 63) (op - 1) (nI ((yy (op - 1)).1.1 + 1)))) 66 (upd (Y 66) (32 * (op - 1) + (yy (op - 1)).1.1) 0)) 67 (upd (Y 67) (32 * (op - 1) + (yy (op - 1)).1.1) (nI b1))) op (bf (op - 1) + (yy (op - 1)).2.1.length) wn := ⟨⟨rfl, rfl, rfl, rfl, rfl, rfl⟩, ⟨rfl, rfl, rfl, fun c' hc' => if_neg (by omega)⟩, fun a ha => ⟨if_neg (by omega), if_neg (by omega)⟩, fun _ _ => ⟨rfl, rfl⟩, fun _ _ => ⟨rfl, rfl, rfl⟩⟩
  have sta : Sta Y (updA (updA (updA Y 63 (upd (Y 63) (op - 1) (nI ((yy (op - 1)).1.1 + 1)))) 66 (upd (Y 66) (32 * (op - 1) + (yy (op - 1)).1.1) 0)) 67 (upd (Y 67) (32 * (op - 1) + (yy (op - 1)).1.1) (nI b1))) := Sta.up (Sta.up (Sta.up Sta.rfl (by omega)) (by omega)) (by omega)
  rcases (hs 2 (by omega) (by omega)).2.2.2 (by decide) (by decide) (by decide) (by decide) with ⟨w, _⟩ | ⟨j1, w1, _, w2, _, _, w5, _⟩
  · exact Or.inl ⟨w, Rn.go (ov1 := true) h sta h.hp (Cfg.rise h.cf rt.2.2 ⟨[], (List.append_nil _).symm⟩ rfl kp vz ⟨30, ek, by omega, Or.inl ⟨by omega, et⟩⟩) Lss.fin⟩
  · have g : stq X j (yy (op - 1)) j1 (pst X j (yy (op - 1)) 30 2 0) := stq.mk ek (by omega) (by omega) (by omega) (by decide) (by decide) (by omega) w1
    refine Or.inr ⟨j1, w1, w2, ?_⟩
    have cf := Cfg.turn h.cf (rt.2.2.snoc g) ⟨[], (List.append_nil _).symm⟩ rfl kp vz (fun w => by rw [w] at w5; exact absurd w5 (by decide))
    rw [show bf (op - 1) + (pst X j (yy (op - 1)) 30 2 0).2.1.length = tp from et.symm] at cf
    exact Rn.go (ov1 := false) h sta h.hp cf (Lss.down h.pg.fs (by omega) rt.1.1 rt.1.2.1 rt.1.2.2 rt.2.2 g)
theorem Rn.b32 (h : Rn X Y gh nd T nm wr lz dc fd md pr bk M rmm op tp wn fu rd on idn fl ct j false mt ps yy bf wf) (ek : X 9 j = nI 32) : ∃ a ka : Nat, X 12 j = nI a ∧ a < nd ∧ X 9 a = nI ka ∧ (ka = 6 ∨ ka = 12 ∨ ka = 15) ∧ (ka = 6 → ∃ j1 : Nat, X 13 j = nI j1 ∧ j1 < nd ∧ Nx X Y gh nd T nm wr lz dc fd md pr bk M rmm fu (Phi gh ps op (rkN gh j false)) op tp wn fu rd on idn fl ct (-1) (nI j1) 1 uc) ∧ (ka ≠ 6 → ∃ j1 : Nat, X 12 a = nI j1 ∧ j1 < nd ∧ Nx X Y gh nd T nm wr lz dc fd md pr bk M rmm fu (Phi gh ps op (rkN gh j false)) op tp wn fu rd on idn fl ct (-1) (nI j1) 1 uc) := by
  have b := h.pg.bd
  have r := h.room
  have rt := h.rt
  obtain ⟨a, a1, a2, a3, a4, a5, a6, a7⟩ := h.pg.fs.kid r.2.2.1 ek (by omega) (s := 1) (by omega) (by omega) (by decide) (by omega)
  obtain ⟨ka, k1, _, k3, _⟩ := h.pg.fs.knd a2
  have ks := kcl_12 a5 k1 k3
  refine ⟨a, ka, a1, a2, k1, ks, fun k6 => ?_, fun k6 => ?_⟩
  · have e2 : pnL X j (yy (op - 1)).2.1 32 2 0 = (yy (op - 1)).2.1 := by
      show (if X 9 (chN X 1 j) = 12 then _ else if X 9 (chN X 1 j) = 15 then _ else (yy (op - 1)).2.1) = _
      rw [a6, k1, k6, if_neg (by decide), if_neg (by decide)]
    obtain ⟨j1, b1, _⟩ := h.pg.fs.kid r.2.2.1 ek (by omega) (s := 2) (by omega) (by omega) (by decide) (by omega)
    exact h.bA ek (by omega) (s := 2) (by omega) (by omega) (by decide) (by decide) (by decide) rfl e2 (by omega) (by rw [show X (11 + 2) j = X 13 j from rfl, b1]; exact nI_m1 (by omega))
  · have g : stq X j (yy (op - 1)) a (pst X j (yy (op - 1)) 32 1 0) := stq.mk ek (by omega) (by omega) (by omega) (by decide) (by decide) (by omega) a1
    have n44 : ¬ X 9 a = 44 := fun w => by
      have := (nI_eq (a := ka) (b := 44) (by omega) (by omega)).mp (k1.symm.trans w); omega
    have c1 := h.cf.down g rfl rfl n44
    have cd : cdOf ka 1 = 101 ∧ nch ka 1 = false := by
      rcases ks with w | w | w
      · exact absurd w k6
      · subst w; decide
      · subst w; decide
    obtain ⟨j1, x1, x2, x3, x4, g2, x6, kd, x7, x8⟩ := kid_pv h.pg.fs (by omega) (rt.2.2.snoc g) a2 k1 (by omega) (s := 1) (by omega) (by omega) cd.1 cd.2
    have ytop : yyU yy (op - 1) (pst X j (yy (op - 1)) 32 1 0) (op - 1) = pst X j (yy (op - 1)) 32 1 0 := if_pos rfl
    have pl : pnL X a (yyU yy (op - 1) (pst X j (yy (op - 1)) 32 1 0) (op - 1)).2.1 ka 1 0 = (yyU yy (op - 1) (pst X j (yy (op - 1)) 32 1 0) (op - 1)).2.1 := by
      rcases ks with w | w | w
      · exact absurd w k6
      · subst w; rfl
      · subst w; rfl
    rw [← ytop] at g2
    have c2 := Cfg.down c1 g2 (by show cenv X a _ ka 1 0 = _; exact cenv_e (by omega)) (Prod.ext pl (by
      show (if ka = 41 ∧ 1 = 3 then _ else _) = _
      rw [if_neg (by omega)])) (fun w => by have := (nI_eq (a := kd) (b := 44) (by omega) (by omega)).mp (x7.symm.trans w); omega)
    rw [ytop] at g2
    exact ⟨j1, x1, x2, Rn.go (ov1 := false) h Sta.rfl h.hp c2 (Lss.trans (Lss.down h.pg.fs (by omega) rt.1.1 rt.1.2.1 rt.1.2.2 rt.2.2 g) (Lss.down h.pg.fs (by omega) rt.1.1 rt.1.2.1 rt.1.2.2 (rt.2.2.snoc g) g2))⟩
theorem Rn.bLoop (h : Rn X Y gh nd T nm wr lz dc fd md pr bk M rmm op tp wn fu rd on idn fl ct j false mt ps yy bf wf) (ek : X 9 j = nI kk) (hk : kk = 35 ∨ (kk = 36 ∧ X 12 j = -1)) : ∃ j1 : Nat, lkF Y j = nI j1 ∧ j1 < nd ∧ ∀ fu1 : Nat, fu1 + 1 = fu → Nx X Y gh nd T nm wr lz dc fd md pr bk M rmm fu mu op tp wn fu1 rd on idn fl ct (-1) (nI j1) 1 uc := by
  have b := h.pg.bd
  have r := h.room
  have rt := h.rt
  obtain ⟨vr, th, et⟩ := h.top
  obtain ⟨j1, s', l1, l2, l3, l4, l5, l6, l7⟩ := lk_tgt (u := yy (op - 1)) h.pg r.2.2.1 ek (by omega)
  have le : lpE X j (yy (op - 1)).1 kk = (yy (op - 1)).1 := by
    unfold lpE
    rcases hk with w | ⟨w, w2⟩
    · rw [if_neg (by omega)]
    · rw [if_pos w]; unfold forE; rw [if_pos w2]
  rw [le] at l5 l6
  refine ⟨j1, l1, l2, fun fu1 hf => ?_⟩
  have cf := Cfg.turn h.cf (rt.2.2.snoc l3) ⟨[], by show _ = pnL X j (yy (op - 1)).2.1 kk s' 0 ++ []; rw [l7, List.append_nil]⟩ (by
    show (if kk = 41 ∧ s' = 3 then _ else _) = _
    rw [if_neg (by omega)]) Kpt.rfl (vr.env l5 l6) l4
  rw [show bf (op - 1) + (pst X j (yy (op - 1)) kk s' 0).2.1.length = tp by
    show bf (op - 1) + (pnL X j (yy (op - 1)).2.1 kk s' 0).length = tp
    rw [l7]; exact et.symm] at cf
  exact Rn.paid (ov1 := false) h Sta.rfl h.hp cf hf
theorem Rn.bLv (h : Rn X Y gh nd T nm wr lz dc fd md pr bk M rmm op tp wn fu rd on idn fl ct j false mt ps yy bf wf) (ek : X 9 j = nI kk) (hk : (kk = 37 ∧ X 12 j = -1 ∧ kd = 2) ∨ (kk = 38 ∧ kd = 3) ∨ (kk = 39 ∧ kd = 4)) : LvK X Y on dc (M.2.2.1 (mt (op - 1))) (yy (op - 1)).1.2.1 kd 0 0 := by
  refine ⟨by omega, ?_, fun w => absurd rfl w⟩
  rcases hk with ⟨w1, w2, w3⟩ | ⟨w1, w2⟩ | ⟨w1, w2⟩ <;> subst w1
  · obtain ⟨l1, _⟩ := h.lsk h.rt.2.2 ek (by omega) (by omega)
    exact Or.inr (Or.inl ⟨w3, Or.inl (l1 w2)⟩)
  · exact Or.inr (Or.inr ⟨Or.inl w2, h.lsk h.rt.2.2 ek (by omega) (by omega)⟩)
  · exact Or.inr (Or.inr ⟨Or.inr w2, h.lsk h.rt.2.2 ek (by omega) (by omega)⟩)
end M20
section M21
variable {X Y Z : Nat → Nat → Int32} {K : Nat → Int32} {gh : Nat → Nat → Nat} {nd T nm wr lz dc fd md pr bk rmm mu op tp tp1 wn wn1 fu fu1 fu2 rd on idn fl ct j j1 p n b c m t kk s i k r b1 tb q rc m2 hN d kc xn : Nat} {M : MTb} {ov ov1 : Bool} {mt ps : Nat → Nat} {yy yy1 : Nat → Ps} {bf wf : Nat → Nat} {y0 u z : Ps} {e e' : En} {en nw isn uc v x kd : Int32} {f : Nat → Int32}
theorem Rn.npl (h : Rn X Y gh nd T nm wr lz dc fd md pr bk M rmm op tp wn fu rd on idn fl ct n ov mt ps yy bf wf) (hp : Pv X (M.1 (mt (op - 1))) (rtP M (mt (op - 1))) p u) (np : ¬ PlcP Y p) : NPl X M (mt (op - 1)) p := fun q u' hq e1 e2 => by
  have b := h.pg.bd
  have pn := h.pn hp
  have qn := h.pn hq
  have r := h.pg.row
  refine np ⟨q, by omega, h.pg.up q p qn pn ⟨32, 1, e1, by omega, by omega, by omega, ⟨by decide, by decide, by decide, by decide⟩, Or.inl ⟨by decide, e2⟩⟩, ?_, ?_⟩
  · rw [r 9 (by omega) (by omega) (by omega) (by omega) (by omega)]; exact e1
  · rw [r 12 (by omega) (by omega) (by omega) (by omega) (by omega)]; exact e2
theorem Rn.place (h : Rn X Y gh nd T nm wr lz dc fd md pr bk M rmm op tp wn fu rd on idn fl ct n true mt ps yy bf wf) (hp : Pv X (M.1 (mt (op - 1))) (rtP M (mt (op - 1))) p u) (hst : stq X p u n (yy (op - 1))) (ek : X 9 p = nI kk) (hk : kk = 12 ∨ (kk = 15 ∧ ¬ X 12 p = nI n)) (pl : PlcP Y p) : ∃ q j1 : Nat, Y 52 p = nI q ∧ q < nd ∧ X 13 q = nI j1 ∧ j1 < nd ∧ Nx X Y gh nd T nm wr lz dc fd md pr bk M rmm fu (Phi gh ps op (rkN gh n true)) op tp wn fu rd on idn fl ct (-1) (nI j1) 1 uc := by
  have b := h.pg.bd
  have rt := h.rt
  have r := h.pg.row
  have pn := h.pn hp
  obtain ⟨q, q1, q2, q3, q4⟩ := pl
  rw [r 9 (by omega) (by omega) (by omega) (by omega) (by omega)] at q3
  rw [r 12 (by omega) (by omega) (by omega) (by omega) (by omega)] at q4
  rcases hp.last with ⟨w, _⟩ | ⟨q', u', w1, w2⟩
  · obtain ⟨m1, mb, m3, m4, _⟩ := h.pg.tbl _ rt.2.1.1 rt.2.1.2
    rw [w] at m4
    have := (nI_eq (a := 31) (b := kk) (by omega) (by omega)).mp (m4.symm.trans ek)
    omega
  · have qn := h.pn w1
    have eq : q' = q := (nI_eq (by omega) (by omega)).mp ((h.pg.up q' p qn pn w2.stp.pch.1).symm.trans q2)
    subst eq
    have q3 : X 9 q' = nI 32 := q3
    have eu := w2.at h.pg.fs (by omega) qn q3 (by omega) (s := 1) (by omega) (by omega) (by decide) (by decide) q4
    have ch1 : chN X 1 q' = p := by unfold chN; rw [show X (11 + 1) q' = X 12 q' from rfl, q4, nI_cl (by omega)]
    obtain ⟨j1, a1, a2, a3, a4, a5, a6, a7⟩ := h.pg.fs.kid qn q3 (by omega) (s := 2) (by omega) (by omega) (by decide) (by omega)
    obtain ⟨kj, k1, _, k3, _⟩ := h.pg.fs.knd a2
    have g : stq X q' u' j1 (pst X q' u' 32 2 0) := stq.mk q3 (by omega) (by omega) (by omega) (by decide) (by decide) (by omega) a1
    obtain ⟨_, _, b3⟩ := slP.p0 h.pg.fs (by omega) qn q3 (by omega) (s := 1) (by omega) (by omega) (show p < 20000 by omega) (by decide) (Or.inl ⟨by decide, q4⟩)
    rw [if_neg (by decide)] at b3
    have hk23 : kk ≤ 23 := by omega
    obtain ⟨x1, x2, x3, kc, x4, x5⟩ := hst.phr h.pg.fs (by omega) pn ek hk23
    have ev : ¬ Y 17 n = 0 ∧ (pst X q' u' 32 2 0).2.1 = (yy (op - 1)).2.1 ++ [n] := by
      rcases hk with w | ⟨w, wn⟩
      · subst w
        obtain ⟨p1, p2, p3, _⟩ := h.pl1 hp hst ek (by omega) (by decide) rfl
        obtain ⟨c, f, l1, l2, _⟩ := h.ltk hp ek (by omega)
        rw [p3] at l1
        refine ⟨fun w => ?_, ?_⟩
        · have := (nI_eq (a := 10 + c) (b := 0) (by omega) (by omega)).mp (l1.symm.trans w); omega
        · show (if X 9 (chN X 1 q') = 12 then u'.2.1 ++ [chN X 1 (chN X 1 q')] else _) = _
          rw [ch1, if_pos (show X 9 p = 12 from ek), p3, p2, eu]; rfl
      · subst w
        obtain ⟨_, q⟩ := h.pl2 hp hst ek (by omega) (by decide) (by decide) (by decide)
        obtain ⟨_, s1, s2, s3⟩ := q.resolve_left (fun w => wn w.1)
        obtain ⟨l1, _⟩ := h.ltk hp ek (by omega)
        rw [s2] at l1
        refine ⟨fun w => by rw [l1] at w; exact absurd w (by decide), ?_⟩
        show (if X 9 (chN X 1 q') = 12 then _ else if X 9 (chN X 1 q') = 15 then u'.2.1 ++ [chN X 1 (chN X 1 q')] ++ [chN X 2 (chN X 1 q')] else _) = _
        rw [ch1, if_neg (by rw [ek]; decide), if_pos (show X 9 p = 15 from ek), s2, s3, eu]; rfl
    refine ⟨q', j1, q2, qn, a1, a2, Rn.go (ov1 := false) h Sta.rfl h.hp (h.cf.next w1 g x4 x5 ev.1 ?_ ev.2 ?_ (fun w => ?_)) (Lss.trans (Lss.up h.pg.fs (by omega) rt.1.1 rt.1.2.1 rt.1.2.2 hp hst) (Lss.sib h.pg.fs (by omega) rt.1.1 rt.1.2.1 rt.1.2.2 w1 w2 g ?_))⟩
    · rw [x1, eu]; rfl
    · rw [x2, eu]; rfl
    · rw [w] at a5; exact absurd a5 (by decide)
    · rw [ord_one b3 (by omega) (by omega), ord_one a7 (by omega) (by omega)]; decide
theorem Rn.over (h : Rn X Y gh nd T nm wr lz dc fd md pr bk M rmm op tp wn fu rd on idn fl ct n true mt ps yy bf wf) (hp : Pv X (M.1 (mt (op - 1))) (rtP M (mt (op - 1))) p u) (hst : stq X p u n (yy (op - 1))) (ek : X 9 p = nI kk) (k24 : 24 ≤ kk) (k4 : kk ≤ 44) (w3 : u.2.2 = (yy (op - 1)).2.2) (sta : Sta Y Z) (hh : Hp X Z dc fd on idn fl rmm ct) (kp : Kpt Y Z op (bf (op - 1)) wn) (vz : Vrs X Z on dc (op - 1) (aft X p u.1)) (etb : tb = bf (op - 1)) : Nx X Z gh nd T nm wr lz dc fd md pr bk M rmm fu (Phi gh ps op (rkN gh n true)) op tb wn fu rd on idn fl ct (-1) (nI p) 0 uc := by
  subst etb
  have b := h.pg.bd
  have rt := h.rt
  have u0 := h.ln.npd hp ek k24 k4
  have l0 : u.2.1.length = 0 := by rw [u0]; rfl
  exact Rn.go (ov1 := true) h sta hh (Cfg.rise h.cf hp hst.pnd w3 (by rw [l0]; exact kp) vz ⟨kk, ek, k4, Or.inl ⟨k24, by rw [l0]; rfl⟩⟩) (Lss.up h.pg.fs (by omega) rt.1.1 rt.1.2.1 rt.1.2.2 hp hst)
theorem Rn.vr (h : Rn X Y gh nd T nm wr lz dc fd md pr bk M rmm op tp wn fu rd on idn fl ct n true mt ps yy bf wf) : Vrs X Y on dc (op - 1) (aft X n (yy (op - 1)).1) := by
  obtain ⟨f, _⟩ := h.cf.top
  rw [if_pos (Eq.refl _)] at f
  exact f.vrs
theorem Rn.sv (h : Rn X Y gh nd T nm wr lz dc fd md pr bk M rmm op tp wn fu rd on idn fl ct n true mt ps yy bf wf) (hp : Pv X (M.1 (mt (op - 1))) (rtP M (mt (op - 1))) p u) (hst : stq X p u n (yy (op - 1))) (ek : X 9 p = nI kk) (k24 : 24 ≤ kk) (k4 : kk ≤ 44) (ec : X 9 n = nI kc) (c23 : kc ≤ 23) (hl : (yy (op - 1)).2.1 = u.2.1) (et : Y 17 n = nI t) (h0 : ¬ t = 0) (t5 : t ≤ 5000) : tp = bf (op - 1) + 1 ∧ TyC dc t ∧ Slt X Y on dc (Y 68 (tp - 1)) (Y 69 (tp - 1)) t ∧ aft X n (yy (op - 1)).1 = (yy (op - 1)).1 := by
  obtain ⟨v1, v2, v3⟩ := h.val ec c23 et h0 t5
  rw [hl, h.ln.npd hp ek k24 k4] at v1
  exact ⟨v1, v2, v3, aft_no (fun w => by
    have := (nI_eq (a := kc) (b := 30) (by omega) (by omega)).mp (ec.symm.trans w); omega)⟩
theorem Rn.ss (h : Rn X Y gh nd T nm wr lz dc fd md pr bk M rmm op tp wn fu rd on idn fl ct n true mt ps yy bf wf) (ec : X 9 n = nI kc) (c24 : 24 ≤ kc) (c44 : kc ≤ 44) : tp = bf (op - 1) := by
  have b := h.pg.bd
  have rm := Cfg.room h.pg.fs (by omega) h.pg.tbl h.pg.blk h.cf
  have e := Cfg.noval (by omega) h.cf ec c44 (Or.inl c24)
  rw [rm.2.2.2.2.2.2.2.2 kc ec c44 c24] at e
  exact e
theorem Rn.g30 (h : Rn X Y gh nd T nm wr lz dc fd md pr bk M rmm op tp wn fu rd on idn fl ct n true mt ps yy bf wf) (hp : Pv X (M.1 (mt (op - 1))) (rtP M (mt (op - 1))) p u) (hst : stq X p u n (yy (op - 1))) (ek : X 9 p = nI 30) : 1 ≤ tp ∧ ∃ v : Nat, Y 18 p = nI v ∧ v < 30 ∧ Nx X (updA Y 66 (upd (Y 66) (32 * (op - 1) + v) (Y 68 (tp - 1)))) gh nd T nm wr lz dc fd md pr bk M rmm fu (Phi gh ps op (rkN gh n true)) op (tp - 1) wn fu rd on idn fl ct (-1) (nI p) 0 uc := by
  have b := h.pg.bd
  have pn := h.pn hp
  obtain ⟨s, a1, a2, a3, a4, a5, a6, a7, a8, a9⟩ := hst.slc h.pg.fs (by omega) pn ek (by omega) (by decide)
  have d : ∀ s : Nat, s ≤ 4 → 1 ≤ s → nch 30 s = false → s = 2 := by decide
  have es := d s a2 a1 a3
  subst es
  obtain ⟨l1, l2, l3⟩ := h.lsk hp ek (by omega) (by omega)
  have l3 := l3 n (by omega) a4
  obtain ⟨a, bb, f1, f2, f3, f4, f5⟩ := l3
  obtain ⟨kc, k1, _, k3, _⟩ := h.pg.fs.knd a7
  have kk1 := kcl1 a8 k1 k3
  obtain ⟨v1, v2, v3, v4⟩ := h.sv hp hst ek (by omega) (by omega) k1 kk1.2 (by rw [a5]; rfl) f1 (fit_cls f5).1 (by omega)
  have vr := h.vr
  rw [v4] at vr
  have ze : (yy (op - 1)).1 = aft X p u.1 := by rw [a5]; rfl
  rw [ze] at vr
  have vt : (aft X p u.1).2.2 u.1.1 = nI bb ∧ u.1.1 < (aft X p u.1).1 := by
    rw [aft_y ek]
    exact ⟨(if_pos rfl).trans f2, by show u.1.1 < u.1.1 + 1; omega⟩
  obtain ⟨tt, t1, t2, _⟩ := vr.2.2 u.1.1 vt.2
  have tl := TyC.le t2 (by omega)
  have et : tt = bb := (nI_eq (by omega) (by omega)).mp (t1.symm.trans vt.1)
  subst et
  refine ⟨by omega, u.1.1, l1, l2, h.over hp hst ek (by omega) (by omega) (by rw [a5]; rfl) (Sta.up Sta.rfl (by omega)) h.hp ⟨⟨rfl, rfl, rfl, rfl, rfl, rfl⟩, ⟨rfl, rfl, rfl, fun _ _ => rfl⟩, fun a ha => ⟨if_neg (by omega), rfl⟩, fun _ _ => ⟨rfl, rfl⟩, fun _ _ => ⟨rfl, rfl, rfl⟩⟩ (Vrs.set vr ⟨rfl, rfl, rfl⟩ rfl rfl vt.2 rfl vt.1 t2 (by omega) (VTd.up2 h.pg.prf v2 t2 v3.1 ⟨a, tt, rfl, rfl, f3, f4, f5⟩)) (by omega)⟩
theorem Rn.g31 (h : Rn X Y gh nd T nm wr lz dc fd md pr bk M rmm op tp wn fu rd on idn fl ct n true mt ps yy bf wf) (hp : Pv X (M.1 (mt (op - 1))) (rtP M (mt (op - 1))) p u) (hst : stq X p u n (yy (op - 1))) (ek : X 9 p = nI 31) : (X 16 n = -1 ∧ ∃ v : Nat, Y 18 p = nI v ∧ v ≤ 30 ∧ Nx X (updA Y 63 (upd (Y 63) (op - 1) (nI v))) gh nd T nm wr lz dc fd md pr bk M rmm fu (Phi gh ps op (rkN gh n true)) op tp wn fu rd on idn fl ct (-1) (nI p) 0 uc) ∨ ∃ j1 : Nat, X 16 n = nI j1 ∧ j1 < nd ∧ Nx X Y gh nd T nm wr lz dc fd md pr bk M rmm fu (Phi gh ps op (rkN gh n true)) op tp wn fu rd on idn fl ct (-1) (nI j1) 1 uc := by
  have b := h.pg.bd
  have pn := h.pn hp
  obtain ⟨s, i, a1, a2, a3, a4, a5, a6, a7, a8⟩ := hst.inv h.pg.fs (by omega) pn ek (by omega)
  have d : ∀ s : Nat, s ≤ 4 → 1 ≤ s → nch 31 s = false → s = 1 := by decide
  have es := d s a2 a1 a3
  subst es
  rw [if_pos (by decide)] at a8
  have w : itr (X 16) (X 12 p) i = nI n := by
    rcases a4 with ⟨w, _⟩ | ⟨_, w⟩
    · exact absurd w (by decide)
    · exact w
  obtain ⟨dd, d1, d2, d3⟩ := list_lcl h.pg.fs (by omega) pn ek (by omega) (s := 1) (by omega) (by omega) (by decide) (show n < 20000 by omega) w
  obtain ⟨kc, k1, _, k3, _⟩ := h.pg.fs.knd a6
  obtain ⟨kd, m1, _, m3, _⟩ := h.pg.fs.knd d1
  have kc24 : 24 ≤ kc ∧ kc ≠ 44 := by
    rw [m1] at d2 d3
    rw [k1] at d3
    have dec : ∀ q : Nat, q ≤ 44 → kcl (cdOf 31 1 % 100) (nI q) = true → lcl (nI q) = 2 := by decide
    have dec2 : ∀ q : Nat, q ≤ 44 → lcl (nI q) = 2 → 24 ≤ q ∧ q ≠ 44 := by decide
    exact dec2 kc k3 (d3.trans (dec kd m3 d2))
  have tq := h.ss k1 kc24.1 k3
  have vr := h.vr
  have npd := h.ln.npd hp ek (by omega) (by omega)
  have n16 : itr (X 16) (X 12 p) (i + 1) = X 16 n := itr_s w (by omega)
  rcases (h.pg.fs n a6).2.2.1 with y | ⟨j1, y1, y2, y3, y4, y5, y6, y7⟩
  · have l1 : Y 18 p = nI u.1.1 := h.lsk hp ek (by omega) (by omega)
    have enl : EnL u.1 (aft X n (yy (op - 1)).1) := hst.enl.trans EnL.aft
    refine Or.inl ⟨y, u.1.1, l1, Nat.le_trans enl.1 vr.2.1, h.over hp hst ek (by omega) (by omega) (by rw [a5]; rfl) (Sta.up Sta.rfl (by omega)) h.hp ⟨⟨rfl, rfl, rfl, rfl, rfl, rfl⟩, ⟨rfl, rfl, rfl, fun c' hc' => if_neg (by omega)⟩, fun _ _ => ⟨rfl, rfl⟩, fun _ _ => ⟨rfl, rfl⟩, fun _ _ => ⟨rfl, rfl, rfl⟩⟩ ?_ tq⟩
    rw [aft_no (by rw [ek]; decide)]
    exact Vrs.cut vr enl ⟨rfl, rfl, rfl⟩ (if_pos rfl) (fun _ _ => ⟨rfl, rfl⟩)
  · have g : stq X p u j1 (pst X p u 31 1 (i + 1)) := stq.mkL ek (by omega) (by omega) (by omega) (by decide) (by omega) (n16.trans y1)
    have pl1 := list_pl h.pg.fs (by omega) pn ek (by omega) (s := 1) (by omega) (by omega) (by decide) (show n < 20000 by omega) w
    have ze : (pst X p u 31 1 (i + 1)).1 = aft X n (yy (op - 1)).1 := by
      rw [a5]
      show aft X (itr (X 16) (X 12 p) i).toNatClampNeg (envL X (X 12 p) u.1 i) = aft X n (envL X (X 12 p) u.1 i)
      rw [w, nI_cl (by omega)]
    refine Or.inr ⟨j1, y1, y3, h.turn hp hst g ⟨[], ?_⟩ (by rw [a5]; rfl) (by rw [ze]; exact vr) (fun w44 => ?_) ?_ ?_⟩
    · rw [a5]; exact (List.append_nil _).symm
    · rw [w44, k1] at y7
      have dec2 : ∀ q : Nat, q ≤ 44 → lcl (nI q) = lcl 44 → q = 44 := by decide
      exact kc24.2 (dec2 kc k3 y7.symm)
    · rw [ord_lst a8 pl1.1, ord_lst (y4.trans a8) (y6.trans (by rw [pl1.1]))]; omega
    · show tp = bf (op - 1) + u.2.1.length
      rw [npd]; exact tq
theorem Rn.g33 (h : Rn X Y gh nd T nm wr lz dc fd md pr bk M rmm op tp wn fu rd on idn fl ct n true mt ps yy bf wf) (hp : Pv X (M.1 (mt (op - 1))) (rtP M (mt (op - 1))) p u) (hst : stq X p u n (yy (op - 1))) (ek : X 9 p = nI 33) : (Y 17 n = 0 → tp = bf (op - 1)) ∧ (¬ Y 17 n = 0 → tp = bf (op - 1) + 1) ∧ Nx X Y gh nd T nm wr lz dc fd md pr bk M rmm fu (Phi gh ps op (rkN gh n true)) op (bf (op - 1)) wn fu rd on idn fl ct (-1) (nI p) 0 uc := by
  have b := h.pg.bd
  have pn := h.pn hp
  obtain ⟨s, a1, a2, a3, a4, a5, a6, a7, a8, a9⟩ := hst.slc h.pg.fs (by omega) pn ek (by omega) (by decide)
  have d : ∀ s : Nat, s ≤ 4 → 1 ≤ s → nch 33 s = false → s = 1 := by decide
  have es := d s a2 a1 a3
  subst es
  obtain ⟨kc, k1, _, k3, _⟩ := h.pg.fs.knd a7
  have k23 : kc ≤ 23 := by
    rw [k1] at a8
    have dec : ∀ q : Nat, q ≤ 44 → kcl (cdOf 33 1 % 100) (nI q) = true → q ≤ 23 := by decide
    exact dec kc k3 a8
  have npd := h.ln.npd hp ek (by omega) (by omega)
  have yl : (yy (op - 1)).2.1 = [] := by rw [a5]; exact npd
  have na : aft X n (yy (op - 1)).1 = (yy (op - 1)).1 := aft_no (fun w => by
    have := (nI_eq (a := kc) (b := 30) (by omega) (by omega)).mp (k1.symm.trans w); omega)
  have vr := h.vr
  rw [na] at vr
  have ze : (yy (op - 1)).1 = u.1 := by rw [a5]; rfl
  refine ⟨fun w => ?_, fun w => ?_, h.over hp hst ek (by omega) (by omega) (by rw [a5]; rfl) Sta.rfl h.hp Kpt.rfl (by rw [aft_no (by rw [ek]; decide), ← ze]; exact vr) rfl⟩
  · have e := Cfg.noval (by omega) h.cf k1 k3 (Or.inr w)
    rw [yl] at e; exact e
  · obtain ⟨_, e, _⟩ := Cfg.val h.cf k1 k23 w
    rw [yl] at e; exact e
theorem Rn.part (h : Rn X Y gh nd T nm wr lz dc fd md pr bk M rmm op tp wn fu rd on idn fl ct n true mt ps yy bf wf) (hp : Pv X (M.1 (mt (op - 1))) (rtP M (mt (op - 1))) p u) (hst : stq X p u n (yy (op - 1))) (ek : X 9 p = nI kk) (k24 : 24 ≤ kk) (k4 : kk ≤ 44) (n32 : kk ≠ 32) (n41 : kk ≠ 41) (s1 : 1 ≤ s) (s4 : s ≤ 4) (hc : cdOf kk s < 200) (hn : nch kk s = false) (h8 : kcl (cdOf kk s % 100) 44 = false) (j20 : j1 < 20000) (ej : X (11 + s) p = nI j1) (vz : Vrs X Y on dc (op - 1) (cenv X p u.1 kk s 0)) (lt : ordC gh n < ordF s 0) (etb : tb = bf (op - 1)) : j1 < nd ∧ Nx X Y gh nd T nm wr lz dc fd md pr bk M rmm fu (Phi gh ps op (rkN gh n true)) op tb wn fu rd on idn fl ct (-1) (nI j1) 1 uc := by
  have b := h.pg.bd
  have pn := h.pn hp
  have g : stq X p u j1 (pst X p u kk s 0) := stq.mk ek k4 s1 s4 hn hc j20 ej
  obtain ⟨p1, p2, p3⟩ := slP.p0 h.pg.fs (by omega) pn ek k4 s1 s4 j20 hn (Or.inl ⟨hc, ej⟩)
  rw [if_neg (by omega)] at p3
  have npd := h.ln.npd hp ek k24 k4
  have pl : pnL X p u.2.1 kk s 0 = u.2.1 := by
    unfold pnL
    split <;> first | omega | rfl
  obtain ⟨k2, e2, _, k44, hs⟩ := h.pg.fs.knd pn
  have e0 : k2 = kk := (nI_eq (by omega) (by omega)).mp (e2.symm.trans ek)
  subst e0
  have q : cdOf k2 s ≠ 0 ∧ cdOf k2 s ≠ 50 ∧ cdOf k2 s ≠ 51 ∧ cdOf k2 s ≠ 60 := by
    unfold nch at hn
    simp only [Bool.or_eq_false_iff, beq_eq_false_iff_ne] at hn
    exact ⟨hn.1.1.1, hn.1.1.2, hn.1.2, hn.2⟩
  refine ⟨p1, h.turn hp hst g ?_ ?_ vz (fun w => ?_) (by rw [ord_one p3 s1 s4]; exact lt) ?_⟩
  · show ∃ x : List Nat, (yy (op - 1)).2.1 = pnL X p u.2.1 k2 s 0 ++ x
    rw [pl]; exact hst.pnd
  · obtain ⟨k3, s', i', x1, _, _, _, _, _, _, e9⟩ := hst
    have : k3 = k2 := (nI_eq (by omega) (by omega)).mp (x1.symm.trans ek)
    rw [e9]
    show (if k2 = 41 ∧ s = 3 then _ else u.2.2) = (if k3 = 41 ∧ s' = 3 then _ else u.2.2)
    rw [if_neg (by omega), if_neg (by omega)]
  · rcases (hs s s1 s4).2.2.2 q.1 q.2.1 q.2.2.1 q.2.2.2 with ⟨w', _⟩ | ⟨j2, w1, _, w2, _, _, w5, _⟩
    · rw [w'] at ej; exact absurd ej.symm (nI_m1 (by omega))
    · have : j2 = j1 := (nI_eq (by omega) (by omega)).mp (w1.symm.trans ej)
      rw [this, w, h8] at w5; exact absurd w5 (by decide)
  · show tb = bf (op - 1) + (pnL X p u.2.1 k2 s 0).length
    rw [pl, npd]; exact etb
end M21
section M22
variable {X Y Z : Nat → Nat → Int32} {K : Nat → Int32} {gh : Nat → Nat → Nat} {nd T nm wr lz dc fd md pr bk rmm mu op tp tp1 wn wn1 fu fu1 fu2 rd on idn fl ct j j1 p n b c m t kk s i k r b1 tb q rc m2 hN d kc xn rs lp : Nat} {M : MTb} {ov ov1 : Bool} {mt ps : Nat → Nat} {yy yy1 : Nat → Ps} {bf wf : Nat → Nat} {y0 u z : Ps} {e e' : En} {en nw isn uc v x kd : Int32} {f : Nat → Int32}
theorem LvK.blt (hd : 7 ≤ dc) (h1 : 4001 ≤ xn) (h2 : xn ≤ 4006) : LvK X Y on dc rs lp 1 (nI xn) 1 := ⟨Nat.le_refl _, Or.inl ⟨rfl, ⟨xn, xn - 4000, rfl, by omega, Or.inr ⟨h1, h2⟩, clF_1 (by omega), by omega⟩, rfl⟩, fun _ => ⟨xn, rfl, Or.inr (Or.inr ⟨h1, h2⟩)⟩⟩
theorem Rn.lnP (h : Rn X Y gh nd T nm wr lz dc fd md pr bk M rmm op tp wn fu rd on idn fl ct n ov mt ps yy bf wf) (hp : Pv X (M.1 (mt (op - 1))) (rtP M (mt (op - 1))) p u) (hst : stq X p u n (yy (op - 1))) (ek : X 9 p = nI kk) (k4 : kk ≤ 44) (n41 : kk ≠ 41) : Ln X Y gh nd T nm wr lz dc fd md pr bk M rmm (Phi gh ps op (rkN gh n ov)) op wn fu rd on idn fl ct p mt ps (yyU yy (op - 1) u) bf wf ∧ yyU yy (op - 1) u (op - 1) = u := by
  have h1 := (h.ln.mv hp hst).2.1
  have e : wf (op - 1) + u.2.2.length = wn := by
    have r := h.ln.room
    obtain ⟨k2, s, i, a1, _, _, _, _, _, _, e⟩ := hst
    have : k2 = kk := (nI_eq (by omega) (by omega)).mp (a1.symm.trans ek)
    have w3 : (yy (op - 1)).2.2 = u.2.2 := by
      rw [e]
      show (if k2 = 41 ∧ s = 3 then _ else _) = _
      rw [if_neg (by omega)]
    rw [← w3]; exact r.2.2.2.2.2.2.2.2.1
  rw [e] at h1
  exact ⟨h1, if_pos rfl⟩
theorem Rn.y14 (h : Rn X Y gh nd T nm wr lz dc fd md pr bk M rmm op tp wn fu rd on idn fl ct n ov mt ps yy bf wf) (hp : Pv X (M.1 (mt (op - 1))) (rtP M (mt (op - 1))) p u) (ek : X 9 p = nI kk) (k4 : kk ≤ 43) : Y 14 p = X 14 p := h.pg.r14 p (h.pn hp) (fun w => by
  have := (nI_eq (a := kk) (b := 44) (by omega) (by omega)).mp (ek.symm.trans w); omega)
theorem Rn.opt (h : Rn X Y gh nd T nm wr lz dc fd md pr bk M rmm op tp wn fu rd on idn fl ct n ov mt ps yy bf wf) (hp : Pv X (M.1 (mt (op - 1))) (rtP M (mt (op - 1))) p u) (ek : X 9 p = nI kk) (k4 : kk ≤ 44) (s1 : 1 ≤ s) (s4 : s ≤ 4) (hn : nch kk s = false) : X (11 + s) p = -1 ∨ ∃ j1 : Nat, X (11 + s) p = nI j1 ∧ j1 < nd ∧ kcl (cdOf kk s % 100) (X 9 j1) = true := by
  obtain ⟨k2, e2, _, k44, hs⟩ := h.pg.fs.knd (h.pn hp)
  have e0 : k2 = kk := (nI_eq (by omega) (by omega)).mp (e2.symm.trans ek)
  subst e0
  have q : cdOf k2 s ≠ 0 ∧ cdOf k2 s ≠ 50 ∧ cdOf k2 s ≠ 51 ∧ cdOf k2 s ≠ 60 := by
    unfold nch at hn
    simp only [Bool.or_eq_false_iff, beq_eq_false_iff_ne] at hn
    exact ⟨hn.1.1.1, hn.1.1.2, hn.1.2, hn.2⟩
  rcases (hs s s1 s4).2.2.2 q.1 q.2.1 q.2.2.1 q.2.2.2 with ⟨w, _⟩ | ⟨j2, w1, _, w2, _, _, w5, _⟩
  · exact Or.inl w
  · exact Or.inr ⟨j2, w1, w2, w5⟩
theorem no30 (ec : X 9 n = nI kc) (c4 : kc ≤ 44) (h : kc ≠ 30) : aft X n e = e := aft_no (fun w => by
  have := (nI_eq (a := kc) (b := 30) (by omega) (by omega)).mp (ec.symm.trans w); omega)
theorem Rn.g34 (h : Rn X Y gh nd T nm wr lz dc fd md pr bk M rmm op tp wn fu rd on idn fl ct n true mt ps yy bf wf) (hp : Pv X (M.1 (mt (op - 1))) (rtP M (mt (op - 1))) p u) (hst : stq X p u n (yy (op - 1))) (ek : X 9 p = nI 34) : (X 12 p = nI n → 1 ≤ tp ∧ (∃ j1 : Nat, X 13 p = nI j1 ∧ j1 < nd ∧ Nx X Y gh nd T nm wr lz dc fd md pr bk M rmm fu (Phi gh ps op (rkN gh n true)) op (tp - 1) wn fu rd on idn fl ct (-1) (nI j1) 1 uc) ∧ ((Y 14 p = -1 ∧ Nx X Y gh nd T nm wr lz dc fd md pr bk M rmm fu (Phi gh ps op (rkN gh n true)) op (tp - 1) wn fu rd on idn fl ct (-1) (nI p) 0 uc) ∨ ∃ j1 : Nat, Y 14 p = nI j1 ∧ j1 < nd ∧ Nx X Y gh nd T nm wr lz dc fd md pr bk M rmm fu (Phi gh ps op (rkN gh n true)) op (tp - 1) wn fu rd on idn fl ct (-1) (nI j1) 1 uc)) ∧ (¬ X 12 p = nI n → Nx X Y gh nd T nm wr lz dc fd md pr bk M rmm fu (Phi gh ps op (rkN gh n true)) op tp wn fu rd on idn fl ct (-1) (nI p) 0 uc) := by
  have b := h.pg.bd
  have pn := h.pn hp
  obtain ⟨s, a1, a2, a3, a4, a5, a6, a7, a8, a9⟩ := hst.slc h.pg.fs (by omega) pn ek (by omega) (by decide)
  have d : ∀ s : Nat, s ≤ 4 → 1 ≤ s → nch 34 s = false → s = 1 ∨ s = 2 ∨ s = 3 := by decide
  obtain ⟨kc, k1, _, k3, _⟩ := h.pg.fs.knd a7
  have vr := h.vr
  have ze : (yy (op - 1)).1 = u.1 := by rw [a5]; rcases d s a2 a1 a3 with w | w | w <;> subst w <;> rfl
  have yw : u.2.2 = (yy (op - 1)).2.2 := by
    rw [a5]
    show u.2.2 = (if (34 : Nat) = 41 ∧ s = 3 then u.2.2 ++ [u.1.2.1] else u.2.2)
    rw [if_neg (by omega)]
  have y14 := h.y14 hp ek (by omega)
  have pa : aft X p u.1 = u.1 := aft_no (by rw [ek]; decide)
  refine ⟨fun w => ?_, fun w => ?_⟩
  · have es : s = 1 := by
      obtain ⟨_, _, b3⟩ := slP.p0 h.pg.fs (by omega) pn ek (by omega) (s := 1) (by omega) (by omega) (show n < 20000 by omega) (by decide) (Or.inl ⟨by decide, w⟩)
      rw [if_neg (by decide)] at b3
      omega
    subst es
    have kk1 := kcl1 a8 k1 k3
    have l : Y 17 (chN X 1 p) = 2 := h.lsk hp ek (by omega) (by omega)
    rw [a9] at l
    obtain ⟨v1, v2, v3, v4⟩ := h.sv (t := 2) hp hst ek (by omega) (by omega) k1 kk1.2 (by rw [a5]; rfl) l (by omega) (by omega)
    rw [v4, ze] at vr
    have o1 := ord_one a6 (by omega) (by omega)
    refine ⟨by omega, ?_, ?_⟩
    · obtain ⟨j1, x1, x2, _⟩ := h.pg.fs.kid pn ek (by omega) (s := 2) (by omega) (by omega) (by decide) (by omega)
      exact ⟨j1, x1, x2, (h.part hp hst ek (by omega) (by omega) (by omega) (by omega) (s := 2) (by omega) (by omega) (by decide) (by decide) (by decide) (by omega) x1 vr (by rw [o1]; decide) (by omega)).2⟩
    · rw [y14]
      rcases h.opt hp ek (by omega) (s := 3) (by omega) (by omega) (by decide) with w3 | ⟨j1, x1, x2, _⟩
      · exact Or.inl ⟨w3, h.over hp hst ek (by omega) (by omega) yw Sta.rfl h.hp Kpt.rfl (by rw [pa]; exact vr) (by omega)⟩
      · exact Or.inr ⟨j1, x1, x2, (h.part hp hst ek (by omega) (by omega) (by omega) (by omega) (s := 3) (by omega) (by omega) (by decide) (by decide) (by decide) (by omega) x1 vr (by rw [o1]; decide) (by omega)).2⟩
  · have ks : 31 ≤ kc ∧ kc ≤ 43 := by
      rw [k1] at a8
      rcases d s a2 a1 a3 with w' | w' | w' <;> subst w'
      · exact absurd a4 w
      · have dec : ∀ q : Nat, q ≤ 44 → kcl (cdOf 34 2 % 100) (nI q) = true → 31 ≤ q ∧ q ≤ 43 := by decide
        exact dec kc k3 a8
      · have dec : ∀ q : Nat, q ≤ 44 → kcl (cdOf 34 3 % 100) (nI q) = true → 31 ≤ q ∧ q ≤ 43 := by decide
        exact dec kc k3 a8
    have tq := h.ss k1 (by omega) k3
    rw [no30 k1 k3 (by omega), ze] at vr
    exact h.over hp hst ek (by omega) (by omega) yw Sta.rfl h.hp Kpt.rfl (by rw [pa]; exact vr) tq
theorem Rn.look (h : Rn X Y gh nd T nm wr lz dc fd md pr bk M rmm op tp wn fu rd on idn fl ct n true mt ps yy bf wf) (hp : Pv X (M.1 (mt (op - 1))) (rtP M (mt (op - 1))) p u) (hst : stq X p u n (yy (op - 1))) (ek : X 9 p = nI kk) (hk : kk = 35 ∨ kk = 36) (vz : Vrs X Y on dc (op - 1) (lpE X p u.1 kk)) (tq : tp = bf (op - 1)) : ∃ j1 : Nat, lkF Y p = nI j1 ∧ j1 < nd ∧ ∀ fu1 : Nat, fu1 + 1 = fu → Nx X Y gh nd T nm wr lz dc fd md pr bk M rmm fu mu op tp wn fu1 rd on idn fl ct (-1) (nI j1) 1 uc := by
  have b := h.pg.bd
  have pn := h.pn hp
  have hkk : kk ≤ 44 := by omega
  obtain ⟨j1, s', l1, l2, l3, l4, l5, l6, l7⟩ := lk_tgt (u := u) h.pg pn ek hk
  have npd := h.ln.npd hp ek (by omega) hkk
  have w3 : (yy (op - 1)).2.2 = u.2.2 := by
    obtain ⟨k2, s, i, a1, _, _, _, _, _, _, e⟩ := hst
    have : k2 = kk := (nI_eq (by omega) (by omega)).mp (a1.symm.trans ek)
    rw [e]
    show (if k2 = 41 ∧ s = 3 then _ else _) = _
    rw [if_neg (by omega)]
  refine ⟨j1, l1, l2, fun fu1 hf => ?_⟩
  have cf := Cfg.turn h.cf (hp.snoc l3) (by
    show ∃ x : List Nat, (yy (op - 1)).2.1 = pnL X p u.2.1 kk s' 0 ++ x
    rw [l7]; exact hst.pnd) (by
    show (if kk = 41 ∧ s' = 3 then _ else u.2.2) = _
    rw [if_neg (by omega)]; exact w3.symm) Kpt.rfl (vz.env l5 l6) l4
  rw [show bf (op - 1) + (pst X p u kk s' 0).2.1.length = tp by
    show bf (op - 1) + (pnL X p u.2.1 kk s' 0).length = tp
    rw [l7, npd]; exact tq.symm] at cf
  exact Rn.paid (ov1 := false) h Sta.rfl h.hp cf hf
theorem Rn.g35 (h : Rn X Y gh nd T nm wr lz dc fd md pr bk M rmm op tp wn fu rd on idn fl ct n true mt ps yy bf wf) (hp : Pv X (M.1 (mt (op - 1))) (rtP M (mt (op - 1))) p u) (hst : stq X p u n (yy (op - 1))) (ek : X 9 p = nI 35) : (X 12 p = nI n → 1 ≤ tp ∧ (∃ j1 : Nat, X 13 p = nI j1 ∧ j1 < nd ∧ Nx X Y gh nd T nm wr lz dc fd md pr bk M rmm fu (Phi gh ps op (rkN gh n true)) op (tp - 1) wn fu rd on idn fl ct (-1) (nI j1) 1 uc) ∧ Nx X Y gh nd T nm wr lz dc fd md pr bk M rmm fu (Phi gh ps op (rkN gh n true)) op (tp - 1) wn fu rd on idn fl ct (-1) (nI p) 0 uc) ∧ (¬ X 12 p = nI n → ∃ j1 : Nat, lkF Y p = nI j1 ∧ j1 < nd ∧ ∀ fu1 : Nat, fu1 + 1 = fu → Nx X Y gh nd T nm wr lz dc fd md pr bk M rmm fu mu op tp wn fu1 rd on idn fl ct (-1) (nI j1) 1 uc) := by
  have b := h.pg.bd
  have pn := h.pn hp
  obtain ⟨s, a1, a2, a3, a4, a5, a6, a7, a8, a9⟩ := hst.slc h.pg.fs (by omega) pn ek (by omega) (by decide)
  have d : ∀ s : Nat, s ≤ 4 → 1 ≤ s → nch 35 s = false → s = 1 ∨ s = 2 := by decide
  obtain ⟨kc, k1, _, k3, _⟩ := h.pg.fs.knd a7
  have vr := h.vr
  have yw : u.2.2 = (yy (op - 1)).2.2 := by
    rw [a5]
    show u.2.2 = (if (35 : Nat) = 41 ∧ s = 3 then u.2.2 ++ [u.1.2.1] else u.2.2)
    rw [if_neg (by omega)]
  have pa : aft X p u.1 = u.1 := aft_no (by rw [ek]; decide)
  refine ⟨fun w => ?_, fun w => ?_⟩
  · have es : s = 1 := by
      obtain ⟨_, _, b3⟩ := slP.p0 h.pg.fs (by omega) pn ek (by omega) (s := 1) (by omega) (by omega) (show n < 20000 by omega) (by decide) (Or.inl ⟨by decide, w⟩)
      rw [if_neg (by decide)] at b3
      omega
    subst es
    have kk1 := kcl1 a8 k1 k3
    obtain ⟨_, l⟩ := h.lsk hp ek (by omega) (by omega)
    rw [a9] at l
    obtain ⟨v1, v2, v3, v4⟩ := h.sv (t := 2) hp hst ek (by omega) (by omega) k1 kk1.2 (by rw [a5]; rfl) l (by omega) (by omega)
    have ze : (yy (op - 1)).1 = u.1 := by rw [a5]; rfl
    rw [v4, ze] at vr
    have o1 := ord_one a6 (by omega) (by omega)
    refine ⟨by omega, ?_, h.over hp hst ek (by omega) (by omega) yw Sta.rfl h.hp Kpt.rfl (by rw [pa]; exact vr) (by omega)⟩
    obtain ⟨j1, x1, x2, _⟩ := h.pg.fs.kid pn ek (by omega) (s := 2) (by omega) (by omega) (by decide) (by omega)
    exact ⟨j1, x1, x2, (h.part hp hst ek (by omega) (by omega) (by omega) (by omega) (s := 2) (by omega) (by omega) (by decide) (by decide) (by decide) (by omega) x1 (vr.env rfl rfl) (by rw [o1]; decide) (by omega)).2⟩
  · have es : s = 2 := (d s a2 a1 a3).resolve_left (fun w' => by subst w'; exact w a4)
    subst es
    have ks : 31 ≤ kc ∧ kc ≤ 43 := by
      rw [k1] at a8
      have dec : ∀ q : Nat, q ≤ 44 → kcl (cdOf 35 2 % 100) (nI q) = true → 31 ≤ q ∧ q ≤ 43 := by decide
      exact dec kc k3 a8
    have tq := h.ss k1 (by omega) k3
    rw [no30 k1 k3 (by omega)] at vr
    have ze : (yy (op - 1)).1 = lup u.1 := by rw [a5]; rfl
    rw [ze] at vr
    exact h.look hp hst ek (Or.inl rfl) (vr.env rfl rfl) tq
theorem Rn.g36 (h : Rn X Y gh nd T nm wr lz dc fd md pr bk M rmm op tp wn fu rd on idn fl ct n true mt ps yy bf wf) (hp : Pv X (M.1 (mt (op - 1))) (rtP M (mt (op - 1))) p u) (hst : stq X p u n (yy (op - 1))) (ek : X 9 p = nI 36) : (¬ X 13 p = nI n → ∃ j1 : Nat, lkF Y p = nI j1 ∧ j1 < nd ∧ ∀ fu1 : Nat, fu1 + 1 = fu → Nx X Y gh nd T nm wr lz dc fd md pr bk M rmm fu mu op tp wn fu1 rd on idn fl ct (-1) (nI j1) 1 uc) ∧ (X 15 p = nI n → ¬ Y 14 p = -1 → ∃ j1 : Nat, Y 14 p = nI j1 ∧ j1 < nd ∧ Nx X Y gh nd T nm wr lz dc fd md pr bk M rmm fu (Phi gh ps op (rkN gh n true)) op tp wn fu rd on idn fl ct (-1) (nI j1) 1 uc) ∧ (X 13 p = nI n → 1 ≤ tp ∧ (∃ j1 : Nat, X 15 p = nI j1 ∧ j1 < nd ∧ Nx X Y gh nd T nm wr lz dc fd md pr bk M rmm fu (Phi gh ps op (rkN gh n true)) op (tp - 1) wn fu rd on idn fl ct (-1) (nI j1) 1 uc) ∧ ∃ v : Nat, Y 18 p = nI v ∧ v ≤ 30 ∧ Nx X (updA Y 63 (upd (Y 63) (op - 1) (nI v))) gh nd T nm wr lz dc fd md pr bk M rmm fu (Phi gh ps op (rkN gh n true)) op (tp - 1) wn fu rd on idn fl ct (-1) (nI p) 0 uc) := by
  have b := h.pg.bd
  have pn := h.pn hp
  obtain ⟨s, a1, a2, a3, a4, a5, a6, a7, a8, a9⟩ := hst.slc h.pg.fs (by omega) pn ek (by omega) (by decide)
  have d : ∀ s : Nat, s ≤ 4 → 1 ≤ s → nch 36 s = false → s = 1 ∨ s = 2 ∨ s = 3 ∨ s = 4 := by decide
  obtain ⟨kc, k1, _, k3, _⟩ := h.pg.fs.knd a7
  have vr := h.vr
  have yw : u.2.2 = (yy (op - 1)).2.2 := by
    rw [a5]
    show u.2.2 = (if (36 : Nat) = 41 ∧ s = 3 then u.2.2 ++ [u.1.2.1] else u.2.2)
    rw [if_neg (by omega)]
  have pa : aft X p u.1 = u.1 := aft_no (by rw [ek]; decide)
  have y14 := h.y14 hp ek (by omega)
  have at' : ∀ s' : Nat, 1 ≤ s' → s' ≤ 4 → nch 36 s' = false → cdOf 36 s' < 200 → X (11 + s') p = nI n → s = s' := fun s' s1 s4 hn hc w => by
    obtain ⟨_, _, b3⟩ := slP.p0 h.pg.fs (by omega) pn ek (by omega) s1 s4 (show n < 20000 by omega) hn (Or.inl ⟨hc, w⟩)
    rw [if_neg (by omega)] at b3
    omega
  refine ⟨fun w => ?_, fun w w2 => ?_, fun w => ?_⟩
  · rcases d s a2 a1 a3 with es | es | es | es <;> subst es
    · have ks : kc = 30 ∨ kc = 32 := by
        rw [k1] at a8
        have dec : ∀ q : Nat, q ≤ 44 → kcl (cdOf 36 1 % 100) (nI q) = true → q = 30 ∨ q = 32 := by decide
        exact dec kc k3 a8
      have tq := h.ss k1 (by omega) k3
      have ze : (yy (op - 1)).1 = u.1 := by rw [a5]; rfl
      rw [ze] at vr
      refine h.look hp hst ek (Or.inr rfl) ?_ tq
      show Vrs X Y on dc (op - 1) (if (36 : Nat) = 36 then forE X p u.1 else u.1)
      rw [if_pos rfl]
      unfold forE
      rw [if_neg (by rw [show X 12 p = nI n from a4]; exact nI_m1 (by omega)), a9]
      exact vr
    · exact absurd a4 w
    · have ks : kc = 32 ∨ kc = 33 := by
        rw [k1] at a8
        have dec : ∀ q : Nat, q ≤ 44 → kcl (cdOf 36 3 % 100) (nI q) = true → q = 32 ∨ q = 33 := by decide
        exact dec kc k3 a8
      have tq := h.ss k1 (by omega) k3
      rw [no30 k1 k3 (by omega)] at vr
      have ze : (yy (op - 1)).1 = forE X p u.1 := by rw [a5]; rfl
      rw [ze] at vr
      exact h.look hp hst ek (Or.inr rfl) vr tq
    · have ks : 31 ≤ kc ∧ kc ≤ 43 := by
        rw [k1] at a8
        have dec : ∀ q : Nat, q ≤ 44 → kcl (cdOf 36 4 % 100) (nI q) = true → 31 ≤ q ∧ q ≤ 43 := by decide
        exact dec kc k3 a8
      have tq := h.ss k1 (by omega) k3
      rw [no30 k1 k3 (by omega)] at vr
      have ze : (yy (op - 1)).1 = lup (forE X p u.1) := by rw [a5]; rfl
      rw [ze] at vr
      exact h.look hp hst ek (Or.inr rfl) (vr.env rfl rfl) tq
  · have es := at' 4 (by omega) (by omega) (by decide) (by decide) w
    subst es
    have ks : 31 ≤ kc ∧ kc ≤ 43 := by
      rw [k1] at a8
      have dec : ∀ q : Nat, q ≤ 44 → kcl (cdOf 36 4 % 100) (nI q) = true → 31 ≤ q ∧ q ≤ 43 := by decide
      exact dec kc k3 a8
    have tq := h.ss k1 (by omega) k3
    rw [no30 k1 k3 (by omega)] at vr
    have ze : (yy (op - 1)).1 = lup (forE X p u.1) := by rw [a5]; rfl
    rw [ze] at vr
    rw [y14] at w2 ⊢
    rcases h.opt hp ek (by omega) (s := 3) (by omega) (by omega) (by decide) with w3 | ⟨j1, x1, x2, _⟩
    · exact absurd w3 w2
    · exact ⟨j1, x1, x2, (h.part hp hst ek (by omega) (by omega) (by omega) (by omega) (s := 3) (by omega) (by omega) (by decide) (by decide) (by decide) (by omega) x1 (vr.env rfl rfl) (by rw [ord_one a6 (by omega) (by omega)]; decide) tq).2⟩
  · have es := at' 2 (by omega) (by omega) (by decide) (by decide) w
    subst es
    have kk1 := kcl1 a8 k1 k3
    obtain ⟨l1, l⟩ := h.lsk hp ek (by omega) (by omega)
    have l := l n (by omega) w
    obtain ⟨v1, v2, v3, v4⟩ := h.sv (t := 2) hp hst ek (by omega) (by omega) k1 kk1.2 (by rw [a5]; rfl) l (by omega) (by omega)
    have ze : (yy (op - 1)).1 = forE X p u.1 := by rw [a5]; rfl
    rw [v4, ze] at vr
    have enl : EnL u.1 (forE X p u.1) := EnL.forE
    refine ⟨by omega, ?_, u.1.1, l1, Nat.le_trans enl.1 vr.2.1, h.over hp hst ek (by omega) (by omega) yw (Sta.up Sta.rfl (by omega)) h.hp ⟨⟨rfl, rfl, rfl, rfl, rfl, rfl⟩, ⟨rfl, rfl, rfl, fun c' hc' => if_neg (by omega)⟩, fun _ _ => ⟨rfl, rfl⟩, fun _ _ => ⟨rfl, rfl⟩, fun _ _ => ⟨rfl, rfl, rfl⟩⟩ (by rw [pa]; exact Vrs.cut vr enl ⟨rfl, rfl, rfl⟩ (if_pos rfl) (fun _ _ => ⟨rfl, rfl⟩)) (by omega)⟩
    obtain ⟨j1, x1, x2, _⟩ := h.pg.fs.kid pn ek (by omega) (s := 4) (by omega) (by omega) (by decide) (by omega)
    exact ⟨j1, x1, x2, (h.part hp hst ek (by omega) (by omega) (by omega) (by omega) (s := 4) (by omega) (by omega) (by decide) (by decide) (by decide) (by omega) x1 (vr.env rfl rfl) (by rw [ord_one a6 (by omega) (by omega)]; decide) (by omega)).2⟩
theorem Rn.one (h : Rn X Y gh nd T nm wr lz dc fd md pr bk M rmm op tp wn fu rd on idn fl ct n true mt ps yy bf wf) (hp : Pv X (M.1 (mt (op - 1))) (rtP M (mt (op - 1))) p u) (hst : stq X p u n (yy (op - 1))) (ek : X 9 p = nI kk) (hk : kk = 37 ∨ kk = 40 ∨ kk = 42) : X 12 p = nI n ∧ chN X 1 p = n ∧ n < 20000 ∧ (yy (op - 1)) = u ∧ ∃ kc : Nat, X 9 n = nI kc ∧ kc ≤ 23 := by
  have b := h.pg.bd
  have pn := h.pn hp
  have hkk : kk ≤ 44 := by omega
  obtain ⟨s, a1, a2, a3, a4, a5, a6, a7, a8, a9⟩ := hst.slc h.pg.fs (by omega) pn ek hkk (by rcases hk with w | w | w <;> subst w <;> decide)
  have es : s = 1 := by
    rcases hk with w | w | w <;> subst w
    · have d : ∀ s : Nat, s ≤ 4 → 1 ≤ s → nch 37 s = false → s = 1 := by decide
      exact d s a2 a1 a3
    · have d : ∀ s : Nat, s ≤ 4 → 1 ≤ s → nch 40 s = false → s = 1 := by decide
      exact d s a2 a1 a3
    · have d : ∀ s : Nat, s ≤ 4 → 1 ≤ s → nch 42 s = false → s = 1 := by decide
      exact d s a2 a1 a3
  subst es
  obtain ⟨kc, k1, _, k3, _⟩ := h.pg.fs.knd a7
  have kk1 : kc ≤ 23 := by
    have : kcl 1 (X 9 n) = true := by rcases hk with w | w | w <;> subst w <;> exact a8
    exact (kcl1 this k1 k3).2
  refine ⟨a4, a9, by omega, ?_, kc, k1, kk1⟩
  rw [a5]
  rcases hk with w | w | w <;> subst w <;> rfl
theorem Rn.g37 (h : Rn X Y gh nd T nm wr lz dc fd md pr bk M rmm op tp wn fu rd on idn fl ct n true mt ps yy bf wf) (hp : Pv X (M.1 (mt (op - 1))) (rtP M (mt (op - 1))) p u) (hst : stq X p u n (yy (op - 1))) (ek : X 9 p = nI 37) : 1 ≤ tp ∧ ∃ b : Nat, Y 69 (tp - 1) = nI b ∧ LvK X Y on dc (M.2.2.1 (mt (op - 1))) u.1.2.1 2 (Y 68 (tp - 1)) b := by
  have bd := h.pg.bd
  obtain ⟨a4, a9, n20, ez, kc, k1, k2⟩ := h.one hp hst ek (by omega)
  obtain ⟨_, l⟩ := h.lsk hp ek (by omega) (by omega)
  have l := l n n20 a4
  obtain ⟨a, bb, f1, f2, f3, f4, f5⟩ := l
  obtain ⟨v1, v2, v3, v4⟩ := h.sv hp hst ek (by omega) (by omega) k1 k2 (by rw [ez]) f1 (fit_cls f5).1 (by omega)
  obtain ⟨_, _, _, _, _, _, _, m8, m9, _⟩ := h.pg.tbl _ h.rt.2.1.1 h.rt.2.1.2
  have tl := TyC.le m9 (by omega)
  have er : M.2.2.1 (mt (op - 1)) = bb := (nI_eq (by omega) (by omega)).mp f2
  have v3' := v3
  obtain ⟨w1, b, w2, w3, w4, w5⟩ := v3
  refine ⟨by omega, b, w2, w3, Or.inr (Or.inl ⟨rfl, Or.inr ⟨?_, b, rfl, w3, fun q => ?_, fun q => ?_⟩⟩), fun q => v3'.ref (fun w => q ((nI_eq (a := b) (b := 0) (by omega) (by omega)).mp (w2.symm.trans w)))⟩
  · exact VTd.up2 h.pg.prf v2 m9 w1 ⟨a, M.2.2.1 (mt (op - 1)), rfl, rfl, f3, by omega, by rw [er]; exact f5⟩
  · have a3 := w4 q
    rcases Nat.lt_or_ge bb 3 with z | z
    · rw [er] at m9
      have fc := (FitC.of f5 v2 m9).1
      rcases fc with y | y | y | y | y <;> omega
    · omega
  · rcases Nat.lt_or_ge a 3 with z | z
    · have := (fit_cls f5).2.2 z; omega
    · exact w5 z
theorem Rn.g40 (h : Rn X Y gh nd T nm wr lz dc fd md pr bk M rmm op tp wn fu rd on idn fl ct n true mt ps yy bf wf) (hp : Pv X (M.1 (mt (op - 1))) (rtP M (mt (op - 1))) p u) (hst : stq X p u n (yy (op - 1))) (ek : X 9 p = nI 40) : 1 ≤ tp ∧ (Y 68 (tp - 1) = 0 ∨ ∃ x : Nat, Y 68 (tp - 1) = nI x ∧ 1 ≤ x ∧ (x ≤ 3000 ∨ (4001 ≤ x ∧ x ≤ 4006)) ∧ (clF (Y 55) x = -1 ∨ (¬ clF (Y 55) x = -1 ∧ ∀ rs lp : Nat, LvK X Y on dc rs lp 1 (nI x) 1))) := by
  have bd := h.pg.bd
  obtain ⟨a4, a9, n20, ez, kc, k1, k2⟩ := h.one hp hst ek (by omega)
  obtain ⟨d, l1, l2, l3⟩ := h.lsk hp ek (by omega) (by omega)
  rw [a9] at l1
  obtain ⟨v1, v2, v3, v4⟩ := h.sv hp hst ek (by omega) (by omega) k1 k2 (by rw [ez]) l1 (by omega) (by omega)
  refine ⟨by omega, ?_⟩
  rcases Hp.ref h.pg h.hp v2 (by omega) v3.1 with w | ⟨x, k, w1, w2, w3, w4, w5, w6, w7⟩ | ⟨x, so, w1, w2, w3, w4, w5, w6, w7, w8⟩
  · exact Or.inl w
  · refine Or.inr ⟨x, w1, w2, w3, Or.inr ⟨by rw [w5]; exact nI_m1 (by omega), fun rs lp => ⟨Nat.le_refl _, Or.inl ⟨rfl, ⟨x, k, rfl, w2, w4, w5, w6⟩, rfl⟩, fun _ => ?_⟩⟩⟩
    exact ⟨x, rfl, Or.inr (w4.imp (fun q => ⟨w2, q.1, q.2⟩) id)⟩
  · exact Or.inr ⟨x, w1, w2, Or.inl w3, Or.inl w5⟩
theorem Rn.g42 (h : Rn X Y gh nd T nm wr lz dc fd md pr bk M rmm op tp wn fu rd on idn fl ct n true mt ps yy bf wf) (hp : Pv X (M.1 (mt (op - 1))) (rtP M (mt (op - 1))) p u) (hst : stq X p u n (yy (op - 1))) (ek : X 9 p = nI 42) (sta : Sta Y Z) (hh : Hp X Z dc fd on idn fl rmm ct) (kp : Kpt Y Z op (bf (op - 1)) wn) (g : Z 63 = Y 63 ∧ Z 66 = Y 66 ∧ Z 67 = Y 67) : 1 ≤ tp ∧ Nx X Z gh nd T nm wr lz dc fd md pr bk M rmm fu (Phi gh ps op (rkN gh n true)) op (tp - 1) wn fu rd on idn fl ct (-1) (nI p) 0 uc := by
  have bd := h.pg.bd
  obtain ⟨a4, a9, n20, ez, kc, k1, k2⟩ := h.one hp hst ek (by omega)
  have l : Y 17 (chN X 1 p) = 1 := h.lsk hp ek (by omega) (by omega)
  rw [a9] at l
  obtain ⟨v1, v2, v3, v4⟩ := h.sv (t := 1) hp hst ek (by omega) (by omega) k1 k2 (by rw [ez]) l (by omega) (by omega)
  have vr := h.vr
  rw [v4, ez] at vr
  refine ⟨by omega, h.over hp hst ek (by omega) (by omega) (by rw [ez]) sta hh kp ?_ (by omega)⟩
  rw [aft_no (by rw [ek]; decide)]
  exact vr.same kp.1.2.2.2 (by rw [g.1]) (fun v _ => by rw [g.2.1, g.2.2]; exact ⟨rfl, rfl⟩)
theorem Rn.g44 (h : Rn X Y gh nd T nm wr lz dc fd md pr bk M rmm op tp wn fu rd on idn fl ct n true mt ps yy bf wf) (hp : Pv X (M.1 (mt (op - 1))) (rtP M (mt (op - 1))) p u) (hst : stq X p u n (yy (op - 1))) (ek : X 9 p = nI 44) : ∃ v : Nat, Y 18 p = nI v ∧ v ≤ 30 ∧ Nx X (updA Y 63 (upd (Y 63) (op - 1) (nI v))) gh nd T nm wr lz dc fd md pr bk M rmm fu (Phi gh ps op (rkN gh n true)) op tp wn fu rd on idn fl ct (-1) (nI p) 0 uc := by
  have b := h.pg.bd
  have pn := h.pn hp
  obtain ⟨s, a1, a2, a3, a4, a5, a6, a7, a8, a9⟩ := hst.slc h.pg.fs (by omega) pn ek (by omega) (by decide)
  have d : ∀ s : Nat, s ≤ 4 → 1 ≤ s → nch 44 s = false → s = 2 := by decide
  have es := d s a2 a1 a3
  subst es
  obtain ⟨kc, k1, _, k3, _⟩ := h.pg.fs.knd a7
  have ks : kc = 31 := by
    rw [k1] at a8
    have dec : ∀ q : Nat, q ≤ 44 → kcl (cdOf 44 2 % 100) (nI q) = true → q = 31 := by decide
    exact dec kc k3 a8
  have tq := h.ss k1 (by omega) k3
  obtain ⟨l1, l2, l3⟩ := h.lsk hp ek (by omega) (by omega)
  have vr := h.vr
  have enl : EnL u.1 (aft X n (yy (op - 1)).1) := hst.enl.trans EnL.aft
  refine ⟨u.1.1, l1, by omega, h.over hp hst ek (by omega) (by omega) (by rw [a5]; rfl) (Sta.up Sta.rfl (by omega)) h.hp ⟨⟨rfl, rfl, rfl, rfl, rfl, rfl⟩, ⟨rfl, rfl, rfl, fun c' hc' => if_neg (by omega)⟩, fun _ _ => ⟨rfl, rfl⟩, fun _ _ => ⟨rfl, rfl⟩, fun _ _ => ⟨rfl, rfl, rfl⟩⟩ ?_ tq⟩
  rw [aft_no (by rw [ek]; decide)]
  exact Vrs.cut vr enl ⟨rfl, rfl, rfl⟩ (if_pos rfl) (fun _ _ => ⟨rfl, rfl⟩)
end M22
section M23
variable {X Y Z : Nat → Nat → Int32} {K : Nat → Int32} {gh : Nat → Nat → Nat} {nd T nm wr lz dc fd md pr bk rmm mu op tp tp1 wn wn1 fu fu1 fu2 rd on idn fl ct on1 idn1 fl1 ct1 j j1 p n b c m t kk s i k r b1 tb q rc m2 hN d kc xn rs lp mq : Nat} {M : MTb} {ov ov1 : Bool} {mt ps : Nat → Nat} {yy yy1 : Nat → Ps} {bf wf : Nat → Nat} {y0 u z : Ps} {e e' : En} {en nw isn uc v x kd k9 so : Int32} {f sn : Nat → Int32}
theorem Rn.g41c (h : Rn X Y gh nd T nm wr lz dc fd md pr bk M rmm op tp wn fu rd on idn fl ct n true mt ps yy bf wf) (hp : Pv X (M.1 (mt (op - 1))) (rtP M (mt (op - 1))) p u) (hst : stq X p u n (yy (op - 1))) (ek : X 9 p = nI 41) (hC : X 14 p = nI n) : 1 ≤ wn ∧ (Y 70 (wn - 1) = 0 → Nx X Y gh nd T nm wr lz dc fd md pr bk M rmm fu (Phi gh ps op (rkN gh n true)) op tp (wn - 1) fu rd on idn fl ct (-1) (nI p) 0 uc) ∧ Ln X Y gh nd T nm wr lz dc fd md pr bk M rmm (Phi gh ps op (rkN gh n true)) op (wn - 1) fu rd on idn fl ct p mt ps (yyU yy (op - 1) u) bf wf ∧ yyU yy (op - 1) u (op - 1) = u ∧ ∃ b : Nat, Y 72 (wn - 1) = nI b ∧ b ≤ 1 ∧ (¬ Y 70 (wn - 1) = 0 → LvK X Y on dc (M.2.2.1 (mt (op - 1))) u.1.2.1 (Y 70 (wn - 1)) (Y 71 (wn - 1)) b) := by
  have bd := h.pg.bd
  have rt := h.rt
  have pn := h.pn hp
  obtain ⟨e1, _, pl⟩ := hst.p41 (yy := yy) (op := op) h.pg.fs (by omega) pn ek
  have w1 : gh 0 n = 8 * p + 3 ∧ (yy (op - 1)).2.2 = u.2.2 ++ [u.1.2.1] := by
    rcases pl with w | w | w
    · exact absurd hC w.2.2.1
    · exact absurd hC w.1
    · exact ⟨w.2.2.1, w.2.2.2⟩
  have r := h.ln.room
  have wl : wn - 1 = wf (op - 1) + u.2.2.length ∧ 1 ≤ wn := by
    have := r.2.2.2.2.2.2.2.2.1
    rw [w1.2, List.length_append] at this
    have : wf (op - 1) + (u.2.2.length + 1) = wn := this
    omega
  obtain ⟨wt, vrl⟩ := h.ln.2.2.1.wts
  obtain ⟨_, Lp, ph⟩ := h.ln.mv hp hst
  rw [← wl.1] at Lp
  rw [w1.2] at wt
  obtain ⟨n', z1, z2, z3, b, z4, z5⟩ := wt u.2.2.length (by rw [List.length_append]; exact Nat.lt_succ_self _)
  rw [List.getElem?_append_right (Nat.le_refl _), Nat.sub_self] at z1
  have en : n' = u.1.2.1 := (Option.some.inj z1).symm
  subst en
  rw [← wl.1] at z2 z3 z4
  obtain ⟨kc, k1, _, k3, _⟩ := h.pg.fs.knd (h.room.2.2.1)
  have ks : kc = 31 := by
    rcases h.opt hp ek (by omega) (s := 3) (by omega) (by omega) (by decide) with w | ⟨j1, x1, x2, x3⟩
    · rw [show X (11 + 3) p = X 14 p from rfl, hC] at w; exact absurd w (nI_m1 (by have := h.room; omega))
    · have : j1 = n := (nI_eq (by omega) (by have := h.room; omega)).mp (x1.symm.trans hC)
      rw [this, k1] at x3
      have dec : ∀ q : Nat, q ≤ 44 → kcl (cdOf 41 3 % 100) (nI q) = true → q = 31 := by decide
      exact dec kc k3 x3
  have tq := h.ss k1 (by omega) k3
  have vr := h.vr
  rw [no30 k1 k3 (by omega), e1] at vr
  have npd := h.ln.npd hp ek (by omega) (by omega)
  refine ⟨wl.2, fun w => ?_, Lp, if_pos rfl, b, z4, z5, fun w => ⟨z5, ?_, fun q => z3 (fun w => q ((nI_eq (a := b) (b := 0) (by omega) (by omega)).mp (z4.symm.trans w)))⟩⟩
  · have cf := Lvg.land (ov1 := true) (z := u) (wn1 := wn - 1) h.ln.2.2.1 (Kpt.rfl (op := op)) hp vr (by rw [if_pos rfl, aft_no (by rw [ek]; decide)]) npd wt.pre wl.1 (fun w => absurd w (by decide)) (fun _ => ⟨41, ek, by omega, Or.inl ⟨by omega, rfl⟩⟩)
    rw [← tq] at cf
    exact Rn.go (ov1 := true) h Sta.rfl h.hp cf (Lss.up h.pg.fs (by omega) rt.1.1 rt.1.2.1 rt.1.2.2 hp hst)
  · rcases z2 with q | ⟨q1, q2, q3⟩ | ⟨q1, q2⟩ | q
    · exact absurd q w
    · refine Or.inl ⟨q1, q2, ?_⟩
      rcases Nat.eq_zero_or_pos b with z | z
      · rw [z4, z] at q3; exact absurd rfl q3
      · omega
    · rw [z4] at q2; exact Or.inr (Or.inl ⟨q1, q2⟩)
    · exact Or.inr (Or.inr q)
theorem Rn.g41 (h : Rn X Y gh nd T nm wr lz dc fd md pr bk M rmm op tp wn fu rd on idn fl ct n true mt ps yy bf wf) (hp : Pv X (M.1 (mt (op - 1))) (rtP M (mt (op - 1))) p u) (hst : stq X p u n (yy (op - 1))) (ek : X 9 p = nI 41) (hC : ¬ X 14 p = nI n) : tp = bf (op - 1) ∧ (Y 14 p = -1 → Nx X Y gh nd T nm wr lz dc fd md pr bk M rmm fu (Phi gh ps op (rkN gh n true)) op tp wn fu rd on idn fl ct (-1) (nI p) 0 uc) ∧ (¬ Y 14 p = -1 → ∃ v j1 : Nat, Y 18 p = nI v ∧ v ≤ 30 ∧ Y 14 p = nI j1 ∧ j1 < nd ∧ ∀ csc : Nat → Int32, csc (op - 1) = nI v → (∀ i : Nat, i ≠ op - 1 → csc i = Y 63 i) → Nx X (updA (updA (updA (updA Y 63 csc) 70 (upd (Y 70) wn 0)) 71 (upd (Y 71) wn 0)) 72 (upd (Y 72) wn (nI 0))) gh nd T nm wr lz dc fd md pr bk M rmm fu (Phi gh ps op (rkN gh n true)) op tp (wn + 1) fu rd on idn fl ct (-1) (nI j1) 1 uc) := by
  have bd := h.pg.bd
  have pn := h.pn hp
  have rm := h.room
  obtain ⟨e1, _, pl⟩ := hst.p41 (yy := yy) (op := op) h.pg.fs (by omega) pn ek
  obtain ⟨kc, k1, _, k3, _⟩ := h.pg.fs.knd (h.room.2.2.1)
  have ks : (kc = 31 ∨ kc = 44) ∧ u.2.2 = (yy (op - 1)).2.2 := by
    rcases pl with w | w | w
    · rcases h.opt hp ek (by omega) (s := 1) (by omega) (by omega) (by decide) with q | ⟨j1, x1, x2, x3⟩
      · rw [show X (11 + 1) p = X 12 p from rfl, w.1] at q; exact absurd q (nI_m1 (by omega))
      · have : j1 = n := (nI_eq (by omega) (by omega)).mp (x1.symm.trans w.1)
        rw [this, k1] at x3
        have dec : ∀ q : Nat, q ≤ 44 → kcl (cdOf 41 1 % 100) (nI q) = true → q = 31 := by decide
        exact ⟨Or.inl (dec kc k3 x3), w.2.2.2.symm⟩
    · refine ⟨Or.inr ?_, w.2.2.2.2.symm⟩
      obtain ⟨s, i, a1, a2, a3, a4, a5, a6, a7, a8⟩ := hst.inv h.pg.fs (by omega) pn ek (by omega)
      have d : ∀ s : Nat, s ≤ 4 → 1 ≤ s → nch 41 s = false → s = 1 ∨ s = 2 ∨ s = 3 := by decide
      rcases d s a2 a1 a3 with w' | w' | w' <;> subst w'
      · rw [if_neg (by decide)] at a8; have := w.2.2.1; omega
      · rcases a4 with ⟨a4, _⟩ | ⟨_, a4⟩
        · exact absurd a4 (by decide)
        · have := (lst_ct h.pg.fs (by omega) pn ek (show n < 20000 by omega) a4).2.2.2.2
          exact (nI_eq (by omega) (by omega)).mp (k1.symm.trans this)
      · rw [if_neg (by decide)] at a8; have := w.2.2.1; omega
    · exact absurd w.1 hC
  have tq := h.ss k1 (by omega) k3
  have vr := h.vr
  rw [no30 k1 k3 (by omega), e1] at vr
  refine ⟨tq, fun w => h.over hp hst ek (by omega) (by omega) ks.2 Sta.rfl h.hp Kpt.rfl (by rw [aft_no (by rw [ek]; decide)]; exact vr) tq, fun w => ?_⟩
  obtain ⟨v, j1, a1, a2, a3, a4, a5⟩ := h.ln.last (x := 0) (b := 0) (kd := 0) (uc := uc) hp hst ek hC w ⟨by omega, Or.inl rfl, fun w => absurd rfl w⟩
  exact ⟨v, j1, a1, a2, a3, a4, fun csc c1 c2 => by rw [tq]; exact a5 csc c1 c2⟩
theorem Rn.g32 (h : Rn X Y gh nd T nm wr lz dc fd md pr bk M rmm op tp wn fu rd on idn fl ct n true mt ps yy bf wf) (hp : Pv X (M.1 (mt (op - 1))) (rtP M (mt (op - 1))) p u) (hst : stq X p u n (yy (op - 1))) (ek : X 9 p = nI 32) : ∃ a ka ta : Nat, X 12 p = nI a ∧ a < nd ∧ X 9 a = nI ka ∧ (ka = 6 ∨ ka = 12 ∨ ka = 15) ∧ Pv X (M.1 (mt (op - 1))) (rtP M (mt (op - 1))) a (pst X p u 32 1 0) ∧ Y 17 a = nI ta ∧ TyC dc ta ∧ ¬ ta = 0 ∧ VTd (Y 73) (Y 55) (Y 56) (X 31) on dc (Y 68 (tp - 1)) ta ∧ Vrs X Y on dc (op - 1) u.1 ∧ u.2.2 = (yy (op - 1)).2.2 ∧ ((ka = 6 ∧ tp = bf (op - 1) + 1) ∨ (ka = 12 ∧ tp = bf (op - 1) + 2 ∧ ∃ a1 : Nat, chN X 1 a = a1 ∧ (yy (op - 1)).2.1 = [a1]) ∨ (ka = 15 ∧ tp = bf (op - 1) + 3 ∧ ∃ a1 a2 : Nat, chN X 1 a = a1 ∧ chN X 2 a = a2 ∧ (yy (op - 1)).2.1 = [a1, a2])) := by
  have b := h.pg.bd
  have pn := h.pn hp
  have npd := h.ln.npd hp ek (by omega) (by omega)
  obtain ⟨a, a1, a2, a3, a4, a5, a6, a7⟩ := h.pg.fs.kid pn ek (by omega) (s := 1) (by omega) (by omega) (by decide) (by omega)
  obtain ⟨ka, k1, _, k3, _⟩ := h.pg.fs.knd a2
  have ks := kcl_12 a5 k1 k3
  have g : stq X p u a (pst X p u 32 1 0) := stq.mk ek (by omega) (by omega) (by omega) (by decide) (by decide) (by omega) a1
  have hpa := hp.snoc g
  have enl : EnL (pst X p u 32 1 0).1 (yy (op - 1)).1 := hst.enl
  obtain ⟨ta, t1, t2, t3⟩ := h.pty hpa enl k1 (by omega)
  have t3 := t3 (by omega) (by omega) (by omega) (by omega)
  have tl := TyC.le t2 (by omega)
  obtain ⟨s, s1, s4, hn, w, ez, wg, wl, wk, wc⟩ := hst.slc h.pg.fs (by omega) pn ek (by omega) (by decide)
  have d : ∀ s : Nat, s ≤ 4 → 1 ≤ s → nch 32 s = false → s = 1 ∨ s = 2 := by decide
  obtain ⟨kc, c1, _, c3, _⟩ := h.pg.fs.knd wl
  have vr := h.vr
  have yw : u.2.2 = (yy (op - 1)).2.2 := by
    rw [ez]
    show u.2.2 = (if (32 : Nat) = 41 ∧ s = 3 then u.2.2 ++ [u.1.2.1] else u.2.2)
    rw [if_neg (by omega)]
  have ze : (yy (op - 1)).1 = u.1 := by rw [ez]; rcases d s s4 s1 hn with w | w <;> subst w <;> rfl
  rcases d s s4 s1 hn with es | es <;> subst es
  · have en : a = n := (nI_eq (by omega) (by omega)).mp (a1.symm.trans w)
    subst en
    have ek6 : ka = 6 := by
      by_cases w6 : ka = 6
      · exact w6
      · exfalso
        exact Cfg.npl h.cf k1 (by omega) (by rw [t1]; intro q; exact t3 ((nI_eq (a := ta) (b := 0) (by omega) (by omega)).mp q)) p u hp ek a1
    obtain ⟨v1, v2, v3⟩ := h.val k1 (by omega) t1 t3 (by omega)
    have yl : (yy (op - 1)).2.1 = [] := by rw [ez]; exact npd
    rw [yl] at v1
    rw [no30 k1 k3 (by omega), ze] at vr
    exact ⟨a, ka, ta, a1, a2, k1, ks, hpa, t1, t2, t3, v3.1, vr, yw, Or.inl ⟨ek6, v1⟩⟩
  · have kk1 := kcl1 wk c1 c3
    obtain ⟨fa, fb, f1, f2, f3, f4, f5⟩ : Fit (X 31) (Y 17 (chN X 2 p)) (Y 17 (chN X 1 p)) := h.lsk hp ek (by omega) (by omega)
    rw [wc] at f1
    rw [a6] at f2
    have eb : fb = ta := (nI_eq (by omega) (by omega)).mp (f2.symm.trans t1)
    subst eb
    obtain ⟨v1, v2, v3⟩ := h.val c1 kk1.2 f1 (fit_cls f5).1 (by omega)
    have vt : VTd (Y 73) (Y 55) (Y 56) (X 31) on dc (Y 68 (tp - 1)) fb := VTd.up2 h.pg.prf v2 t2 v3.1 ⟨fa, fb, rfl, rfl, f3, f4, f5⟩
    rw [no30 c1 c3 (by omega), ze] at vr
    refine ⟨a, ka, fb, a1, a2, k1, ks, hpa, t1, t2, t3, vt, vr, yw, ?_⟩
    have yl : (yy (op - 1)).2.1 = (if X 9 a = 12 then [] ++ [chN X 1 a] else if X 9 a = 15 then [] ++ [chN X 1 a] ++ [chN X 2 a] else []) := by
      rw [ez]
      show (if X 9 (chN X 1 p) = 12 then u.2.1 ++ [chN X 1 (chN X 1 p)] else if X 9 (chN X 1 p) = 15 then u.2.1 ++ [chN X 1 (chN X 1 p)] ++ [chN X 2 (chN X 1 p)] else u.2.1) = _
      rw [npd, a6]
    rcases ks with q | q | q
    · subst q
      rw [if_neg (by rw [k1]; decide), if_neg (by rw [k1]; decide)] at yl
      rw [yl] at v1
      exact Or.inl ⟨rfl, v1⟩
    · subst q
      rw [if_pos (show X 9 a = 12 from k1)] at yl
      rw [yl] at v1
      exact Or.inr (Or.inl ⟨rfl, v1, _, rfl, yl⟩)
    · subst q
      rw [if_neg (by rw [k1]; decide), if_pos (show X 9 a = 15 from k1)] at yl
      rw [yl] at v1
      exact Or.inr (Or.inr ⟨rfl, v1, _, _, rfl, rfl, yl⟩)
theorem Rn.set (h : Rn X Y gh nd T nm wr lz dc fd md pr bk M rmm op tp wn fu rd on idn fl ct n true mt ps yy bf wf) (hp : Pv X (M.1 (mt (op - 1))) (rtP M (mt (op - 1))) p u) (hst : stq X p u n (yy (op - 1))) (ek : X 9 p = nI 32) (vr : Vrs X Y on dc (op - 1) u.1) (yw : u.2.2 = (yy (op - 1)).2.2) (hh : HTd X dc fd (Y 73) (Y 55) (Y 56) (Y 57) (Y 58) f on) (etb : tb = bf (op - 1)) : Nx X (updA Y 60 f) gh nd T nm wr lz dc fd md pr bk M rmm fu (Phi gh ps op (rkN gh n true)) op tb wn fu rd on idn fl ct (-1) (nI p) 0 uc := h.over hp hst ek (by omega) (by omega) yw (Sta.up Sta.rfl (by omega)) ⟨h.hp.1, h.hp.2.1, hh⟩ ⟨⟨rfl, rfl, rfl, rfl, rfl, rfl⟩, ⟨rfl, rfl, rfl, fun _ _ => rfl⟩, fun _ _ => ⟨rfl, rfl⟩, fun _ _ => ⟨rfl, rfl⟩, fun _ _ => ⟨rfl, rfl, rfl⟩⟩ (by rw [aft_no (by rw [ek]; decide)]; exact vr.same ⟨rfl, rfl, rfl⟩ rfl (fun _ _ => ⟨rfl, rfl⟩)) etb
theorem Rn.g32n (h : Rn X Y gh nd T nm wr lz dc fd md pr bk M rmm op tp wn fu rd on idn fl ct n true mt ps yy bf wf) (hp : Pv X (M.1 (mt (op - 1))) (rtP M (mt (op - 1))) p u) (hst : stq X p u n (yy (op - 1))) (ek : X 9 p = nI 32) {a : Nat} (ea : X 12 p = nI a) (ha : a < nd) (ka : X 9 a = nI 6) : 1 ≤ tp ∧ ((∃ v : Nat, Y 18 a = nI v ∧ v < 30 ∧ Nx X (updA Y 66 (upd (Y 66) (32 * (op - 1) + v) (Y 68 (tp - 1)))) gh nd T nm wr lz dc fd md pr bk M rmm fu (Phi gh ps op (rkN gh n true)) op (tp - 1) wn fu rd on idn fl ct (-1) (nI p) 0 uc) ∨ ∃ f o aa g : Nat, f < fd ∧ Y 18 a = -2 - nI f ∧ Y 62 (op - 1) = nI (o + 1) ∧ o < 3000 ∧ Y 58 o = nI aa ∧ Y 53 f = nI g ∧ aa + g < 3000 ∧ Nx X (updA Y 60 (upd (Y 60) (aa + g) (Y 68 (tp - 1)))) gh nd T nm wr lz dc fd md pr bk M rmm fu (Phi gh ps op (rkN gh n true)) op (tp - 1) wn fu rd on idn fl ct (-1) (nI p) 0 uc) := by
  have b := h.pg.bd
  obtain ⟨a', ka', ta, x1, x2, x3, x4, x5, x6, x7, x8, x9, vr, yw, x10⟩ := h.g32 hp hst ek
  have e1 : a' = a := (nI_eq (by omega) (by omega)).mp (x1.symm.trans ea)
  subst e1
  have e2 : ka' = 6 := (nI_eq (by omega) (by omega)).mp (x3.symm.trans ka)
  subst e2
  have tl := TyC.le x7 (by omega)
  have tq : tp = bf (op - 1) + 1 := by
    rcases x10 with w | w | w
    · exact w.2
    · exact absurd w.1 (by decide)
    · exact absurd w.1 (by decide)
  refine ⟨by omega, ?_⟩
  have l := h.ltk x5 ka (by omega)
  rcases l with ⟨v, l1, l2, l3⟩ | ⟨f, l1, l2, l3, l4⟩
  · have l1' : v < u.1.1 := l1
    have l3' : Y 17 a' = u.1.2.2 v := l3
    have v30 := vr.2.1
    refine Or.inl ⟨v, l2, by omega, h.over hp hst ek (by omega) (by omega) yw (Sta.up Sta.rfl (by omega)) h.hp ⟨⟨rfl, rfl, rfl, rfl, rfl, rfl⟩, ⟨rfl, rfl, rfl, fun _ _ => rfl⟩, fun a ha => ⟨if_neg (by omega), rfl⟩, fun _ _ => ⟨rfl, rfl⟩, fun _ _ => ⟨rfl, rfl, rfl⟩⟩ ?_ (by omega)⟩
    rw [aft_no (by rw [ek]; decide)]
    exact Vrs.set vr ⟨rfl, rfl, rfl⟩ rfl rfl l1' rfl (l3'.symm.trans x6) x7 (by omega) x9
  · obtain ⟨g1, g2, g3⟩ := ft_ty h.pg l1
    have gl := TyC.le g2 (by omega)
    have eft : ftN X f = ta := (nI_eq (by omega) (by omega)).mp (g1.symm.trans (l4.symm.trans x6))
    obtain ⟨fr, _⟩ := h.cf.top
    have ow := Tbl.own h.pg h.rt.2.1
    rcases Hp.obj h.pg h.hp ow.2.2 l1 l3 fr.2.2.1.2 with w | ⟨o, k, aa, g, w1, w2, w3, w4, w5, w6, w7, w8, w9, w10, w11, w12⟩
    · exact absurd w fr.2.2.1.1
    · refine Or.inr ⟨f, o, aa, g, l1, l2, w1, w2, w6, w7, w9, h.set hp hst ek vr yw ?_ (by omega)⟩
      rw [w8]
      exact HTd.setF h.hp.1 h.pg.prf h.hp.2.2 w2 w3 w4 w5 w6 w10 l1 w11 (by rw [eft]; exact x9)
theorem Rn.g32f (h : Rn X Y gh nd T nm wr lz dc fd md pr bk M rmm op tp wn fu rd on idn fl ct n true mt ps yy bf wf) (hp : Pv X (M.1 (mt (op - 1))) (rtP M (mt (op - 1))) p u) (hst : stq X p u n (yy (op - 1))) (ek : X 9 p = nI 32) {a : Nat} (ea : X 12 p = nI a) (ha : a < nd) (ka : X 9 a = nI 12) : 2 ≤ tp ∧ ∃ f : Nat, Y 18 a = nI f ∧ f < fd ∧ (Y 68 (tp - 1 - 1) = 0 ∨ ∃ o aa g : Nat, Y 68 (tp - 1 - 1) = nI (o + 1) ∧ o < 3000 ∧ Y 58 o = nI aa ∧ Y 53 f = nI g ∧ aa + g < 3000 ∧ Nx X (updA Y 60 (upd (Y 60) (aa + g) (Y 68 (tp - 1)))) gh nd T nm wr lz dc fd md pr bk M rmm fu (Phi gh ps op (rkN gh n true)) op (tp - 1 - 1) wn fu rd on idn fl ct (-1) (nI p) 0 uc) := by
  have b := h.pg.bd
  obtain ⟨a', ka', ta, x1, x2, x3, x4, x5, x6, x7, x8, x9, vr, yw, x10⟩ := h.g32 hp hst ek
  have e1 : a' = a := (nI_eq (by omega) (by omega)).mp (x1.symm.trans ea)
  subst e1
  have e2 : ka' = 12 := (nI_eq (by omega) (by omega)).mp (x3.symm.trans ka)
  subst e2
  have tl := TyC.le x7 (by omega)
  rcases x10 with w | ⟨_, tq, a1, c1, yl⟩ | w
  · exact absurd w.1 (by decide)
  · refine ⟨by omega, ?_⟩
    obtain ⟨c, f, l1, l2, l3, l4, l5, l6, l7⟩ := h.ltk x5 ka (by omega)
    rw [c1] at l1
    obtain ⟨g1, g2, g3⟩ := ft_ty h.pg l5
    have gl := TyC.le g2 (by omega)
    have eft : ftN X f = ta := (nI_eq (by omega) (by omega)).mp (g1.symm.trans (l7.symm.trans x6))
    obtain ⟨d1, d2, d3⟩ := h.pnd (i := 0) (by rw [yl]; rfl) l1 (by omega)
    rw [show bf (op - 1) + 0 = tp - 1 - 1 by omega] at d3
    refine ⟨f, l4, l5, ?_⟩
    rcases Hp.obj h.pg h.hp l2 l5 l6 d3.1 with w | ⟨o, k, aa, g, w1, w2, w3, w4, w5, w6, w7, w8, w9, w10, w11, w12⟩
    · exact Or.inl w
    · refine Or.inr ⟨o, aa, g, w1, w2, w6, w7, w9, h.set hp hst ek vr yw ?_ (by omega)⟩
      rw [w8]
      exact HTd.setF h.hp.1 h.pg.prf h.hp.2.2 w2 w3 w4 w5 w6 w10 l5 w11 (by rw [eft]; exact x9)
  · exact absurd w.1 (by decide)
theorem Rn.g32e (h : Rn X Y gh nd T nm wr lz dc fd md pr bk M rmm op tp wn fu rd on idn fl ct n true mt ps yy bf wf) (hp : Pv X (M.1 (mt (op - 1))) (rtP M (mt (op - 1))) p u) (hst : stq X p u n (yy (op - 1))) (ek : X 9 p = nI 32) {a : Nat} (ea : X 12 p = nI a) (ha : a < nd) (ka : X 9 a = nI 15) : 3 ≤ tp ∧ ∃ ta : Nat, TyC dc ta ∧ VTd (Y 73) (Y 55) (Y 56) (X 31) on dc (Y 68 (tp - 1)) ta ∧ (Y 68 (tp - 1 - 1 - 1) = 0 ∨ ∃ o q aa so : Nat, Y 68 (tp - 1 - 1 - 1) = nI (o + 1) ∧ o < 3000 ∧ Y 57 o = nI q ∧ q ≤ 3000 ∧ Y 58 o = nI aa ∧ aa + q ≤ 3000 ∧ Y 56 o = nI so ∧ baR dc so ∧ so ≤ 1050 ∧ TyC dc so ∧ (3 ≤ so → 3 ≤ ta) ∧ ∀ i : Nat, i < q → VTd (Y 73) (Y 55) (Y 56) (X 31) on dc (Y 68 (tp - 1)) so → Nx X (updA Y 60 (upd (Y 60) (aa + i) (Y 68 (tp - 1)))) gh nd T nm wr lz dc fd md pr bk M rmm fu (Phi gh ps op (rkN gh n true)) op (tp - 1 - 1 - 1) wn fu rd on idn fl ct (-1) (nI p) 0 uc) := by
  have b := h.pg.bd
  obtain ⟨a', ka', ta, x1, x2, x3, x4, x5, x6, x7, x8, x9, vr, yw, x10⟩ := h.g32 hp hst ek
  have e1 : a' = a := (nI_eq (by omega) (by omega)).mp (x1.symm.trans ea)
  subst e1
  have e2 : ka' = 15 := (nI_eq (by omega) (by omega)).mp (x3.symm.trans ka)
  subst e2
  have tl := TyC.le x7 (by omega)
  rcases x10 with w | w | ⟨_, tq, a1, a2, c1, c2, yl⟩
  · exact absurd w.1 (by decide)
  · exact absurd w.1 (by decide)
  · refine ⟨by omega, ta, x7, x9, ?_⟩
    obtain ⟨l1, x, l2, l3, l4⟩ := h.ltk x5 ka (by omega)
    rw [c1] at l2
    have ex : x = ta := (nI_eq (by omega) (by omega)).mp (l4.symm.trans x6)
    subst ex
    obtain ⟨d1, d2, d3⟩ := h.pnd (i := 0) (by rw [yl]; rfl) l2 (by omega)
    rw [show bf (op - 1) + 0 = tp - 1 - 1 - 1 by omega] at d3
    rcases Hp.arr h.pg h.hp d1 d3.1 with w | ⟨o, q, aa, so, w1, w2, w3, w4, w5, w6, w7, w8, w9, w10, w11, w12⟩
    · exact Or.inl w
    · have hs : TyC dc so := by unfold baR baN at w10; unfold TyC; omega
      refine Or.inr ⟨o, q, aa, so, w1, w2, w5, w6, w7, w8, w9, w10, by unfold baR baN at w10; omega, hs, fun s3 => ?_, fun i hi hv => h.set hp hst ek vr yw (HTd.setR h.hp.1 h.pg.prf h.hp.2.2 w2 w3 w4 w9 (by unfold baR baN at w10; omega) w5 w6 w7 (by omega) hi hv) (by omega)⟩
      have fc := (FitC.of w11 hs x7).1
      rcases fc with y | y | y | y | y <;> omega
end M23
def MkQ (Y Z : Nat → Nat → Int32) (sn : Nat → Int32) (on on1 idn1 fl1 ct1 rmm op tp wn r mq : Nat) (k9 so en en1 : Int32) : Prop := HS (Z 57) (Z 55) (Z 73) (Z 74) (Z 58) on1 idn1 fl1 rmm ∧ ct1 = smF (Z 57) (Z 73) on1 ∧ ((∀ c : Nat, c < op → RfS sn (Y 62 c)) ∧ (∀ c s v : Nat, c < op → Y 63 c = nI s → s ≤ 30 → v < s → ¬ Y 67 (32 * c + v) = 0 → RfS sn (Y 66 (32 * c + v))) ∧ (∀ k : Nat, k < tp → ¬ Y 69 k = 0 → RfS sn (Y 68 k)) ∧ (∀ k : Nat, k < wn → ¬ Y 72 k = 0 → RfS sn (Y 71 k)) ∧ (∀ o : Nat, o < 3000 → Lvd (Y 73) on o → ¬ sn o = 0 → ∀ v : Int32, (Chd (Y 55) (Y 56) (Y 57) (Y 58) (Y 60) (Y 75) (Y 76) (Y 77)) o v → RfS sn v)) ∧ r ≤ 3000 ∧ If (r = 0) (en1 = 3 ∧ Z 55 = Y 55 ∧ Z 56 = Y 56 ∧ Z 57 = Y 57) ∧ If (0 < r) (en1 = en ∧ Z 55 = upd (Y 55) (r - 1) k9 ∧ Z 56 = upd (Y 56) (r - 1) so ∧ Z 57 = upd (Y 57) (r - 1) (nI mq) ∧ mq ≤ 3000 ∧ (¬ Lvd (Y 73) on (r - 1) ∨ sn (r - 1) = 0) ∧ ∃ p : Nat, Z 58 (r - 1) = nI p ∧ p + mq ≤ 3000 ∧ ∀ i : Nat, i < mq → Z 60 (p + i) = 0) ∧ (∀ o : Nat, o < 3000 → (Lvd (Z 73) on1 o ↔ (Lvd (Y 73) on o ∧ ¬ sn o = 0) ∨ (0 < r ∧ o = r - 1))) ∧ ∀ o : Nat, o < 3000 → Lvd (Y 73) on o → ¬ sn o = 0 → ∀ i q p p1 : Nat, Y 57 o = nI q → Y 58 o = nI p → Z 58 o = nI p1 → i < q → q ≤ 3000 → p ≤ 3000 → p1 ≤ 3000 → Z 60 (p1 + i) = Y 60 (p + i)
section M24
variable {X Y Z : Nat → Nat → Int32} {K : Nat → Int32} {gh : Nat → Nat → Nat} {nd T nm wr lz dc fd md pr bk rmm mu op tp tp1 wn wn1 fu fu1 fu2 rd on idn fl ct on1 idn1 fl1 ct1 j j1 p n b c m t kk s i k r b1 tb q rc m2 hN d kc xn rs lp mq j0 : Nat} {M : MTb} {ov ov1 ov0 : Bool} {mt ps : Nat → Nat} {yy yy1 : Nat → Ps} {bf wf : Nat → Nat} {y0 u z : Ps} {e e' : En} {en en1 nw isn uc v x kd k9 so : Int32} {f sn : Nat → Int32}
theorem Cfg.mkh (P : Pg X Y gh nd T nm wr lz dc fd md pr bk M) (hh : Hp X Y dc fd on idn fl rmm ct) (h : Cfg X Y dc md on M op tp wn j false mt ps yy bf wf) : (on ≤ 3000 ∧ op ≤ 100 ∧ tp ≤ 40000 ∧ wn ≤ 2100) ∧ (∀ c : Nat, c < op → RfV (Y 73) on (Y 62 c)) ∧ (∀ c : Nat, c < op → ∃ s : Nat, s ≤ 30 ∧ Y 63 c = nI s ∧ ∀ v : Nat, v < s → ¬ Y 67 (32 * c + v) = 0 → RfV (Y 73) on (Y 66 (32 * c + v))) ∧ (∀ k : Nat, k < tp → ¬ Y 69 k = 0 → RfV (Y 73) on (Y 68 k)) ∧ (∀ k : Nat, k < wn → ¬ Y 72 k = 0 → RfV (Y 73) on (Y 71 k)) ∧ (∀ o : Nat, o < 3000 → Lvd (Y 73) on o → ObR (Y 73) on (Y 55) (Y 56) (Y 57) (Y 58) (Y 60) (Y 75) (Y 76) (Y 77) o) ∧ HS (Y 57) (Y 55) (Y 73) (Y 74) (Y 58) on idn fl rmm ∧ ct = smF (Y 57) (Y 73) on := by
  have b := P.bd
  have r := Cfg.room P.fs (by omega) P.tbl P.blk h
  obtain ⟨a1, a2, a3, a4⟩ := h.roots
  have et := (h.2.2.2.2.2.2.2.2.1 rfl).1
  have h6 := hh.1.2.2.2.2.1
  exact ⟨⟨by omega, by omega, by omega, by omega⟩, a1, a2, by rw [et]; exact a3, a4, HTd.obr P.prf P.rfp hh.1 hh.2.2, hh.1, hh.2.1⟩
theorem MkQ.hp (P : Pg X Y gh nd T nm wr lz dc fd md pr bk M) (hh : Hp X Y dc fd on idn fl rmm ct) (q : MkQ Y Z sn on on1 idn1 fl1 ct1 rmm op tp wn r mq k9 so en en1) (hn : 0 < r → ObT X dc fd (Z 73) (Z 55) (Z 56) (Z 57) (Z 58) (Z 60) on1 (r - 1)) : Hp X Z dc fd on1 idn1 fl1 rmm ct1 := by
  obtain ⟨q1, q2, ⟨_, _, _, _, q3⟩, q4, q5, q6, q7, q8⟩ := q
  refine ⟨q1, q2, HTd.make (kk := k9) (so := so) P.prf P.rfp hh.1 q1 hh.2.2 q7 q3 (fun w => ?_) (fun w => ?_) (fun w => (q5 w).2) q8 hn⟩
  · obtain ⟨_, a1, a2, _, _, a3, _⟩ := q6 w
    exact ⟨a1, a2, a3⟩
  · obtain ⟨_, _, _, a, _⟩ := q6 w
    exact ⟨_, a⟩
theorem MkQ.cf (q : MkQ Y Z sn on on1 idn1 fl1 ct1 rmm op tp wn r mq k9 so en en1) (h : Cfg X Y dc md on M op tp wn j false mt ps yy bf wf) (g0 : Z 17 = Y 17 ∧ Z 68 = Y 68 ∧ Z 69 = Y 69) (g1 : Z 70 = Y 70 ∧ Z 71 = Y 71 ∧ Z 72 = Y 72) (g2 : Z 62 = Y 62 ∧ Z 63 = Y 63 ∧ Z 64 = Y 64 ∧ Z 66 = Y 66 ∧ Z 67 = Y 67) (g3 : Z 65 = Y 65) : Cfg X Z dc md on1 M op tp wn j false mt ps yy bf wf := by
  obtain ⟨q1, q2, ⟨s1, s2, s3, s4, _⟩, q4, q5, q6, q7, q8⟩ := q
  exact Cfg.make h ⟨q7, fun w => by
    obtain ⟨_, a1, a2, _, _, a3, _⟩ := q6 w
    exact ⟨a1, a2, a3⟩, fun w => ⟨(q5 w).2.1, (q5 w).2.2.1⟩⟩ g0 g1 g2 g3 s1 s2 s3 s4
theorem MkQ.go (P : Pg X Y gh nd T nm wr lz dc fd md pr bk M) (hh : Hp X Y dc fd on idn fl rmm ct) (cf : Cfg X Y dc md on M op tp wn j false mt ps yy bf wf) (hk : Pot X gh nd op ps j0 ov0 k ∧ rd + k + 12000 * fu ≤ 300000000) (ek : X 9 j = nI kk) (k23 : kk ≤ 23) (kn : kk ≠ 12 ∧ kk ≠ 15) (et : Y 17 j = nI t) (ht : TyC dc t) (h0 : ¬ t = 0) (hb : b1 ≤ 1 ∧ 3 * b1 ≤ t ∧ t ≤ 2 + 9000 * b1) (q : MkQ Y Z sn on on1 idn1 fl1 ct1 rmm op tp wn r mq k9 so (-1) en1) (sta : Sta Y Z) (g0 : Z 17 = Y 17 ∧ Z 68 = Y 68 ∧ Z 69 = Y 69) (g1 : Z 70 = Y 70 ∧ Z 71 = Y 71 ∧ Z 72 = Y 72) (g2 : Z 62 = Y 62 ∧ Z 63 = Y 63 ∧ Z 64 = Y 64 ∧ Z 66 = Y 66 ∧ Z 67 = Y 67) (g3 : Z 65 = Y 65) (hn : 0 < r → ObT X dc fd (Z 73) (Z 55) (Z 56) (Z 57) (Z 58) (Z 60) on1 (r - 1) ∧ VTd (Z 73) (Z 55) (Z 56) (X 31) on1 dc (nI r) t) (hf : fu1 + 1 = fu) : Nx X (updA (updA Z 68 (upd (Z 68) tp (nI r))) 69 (upd (Z 69) tp (nI b1))) gh nd T nm wr lz dc fd md pr bk M rmm fu mu op (tp + 1) wn fu1 rd on1 idn1 fl1 ct1 en1 (nI j) 0 uc := by
  have b := P.bd
  have hz := q.hp P hh (fun w => (hn w).1)
  have pz := P.same sta
  have pz2 := pz.same (Sta.gv (Y := Z) (f := upd (Z 68) tp (nI r)) (tp := tp) (x := nI b1))
  have cz := q.cf cf g0 g1 g2 g3
  have q' := q
  obtain ⟨_, _, _, q4, q5, q6, _⟩ := q
  refine ⟨pz2, hz, ?_⟩
  rcases Nat.eq_zero_or_pos r with w | w
  · exact Or.inl ⟨by rw [(q5 w).1]; decide, fun e => by rw [(q5 w).1] at e; exact absurd e (by decide)⟩
  · refine Or.inr ⟨(q6 w).1, j, true, mt, ps, yy, bf, wf, k + nd, rfl, rfl, Rn.gvC cz ek k23 (fun w => absurd w (by omega)) (by rw [g0.1]; exact et) ht h0 (hn w).2 hb, ?_, by omega, Or.inl (by omega)⟩
    have r := Cfg.room P.fs (by omega) P.tbl P.blk cf
    exact hk.1.reset P.fs (by omega) r.1 r.2.2.1
theorem MkQ.obj (P : Pg X Y gh nd T nm wr lz dc fd md pr bk M) (q : MkQ Y Z sn on on1 idn1 fl1 ct1 rmm op tp wn r (cfF X c fd) (nI c) so (-1) en1) (sta : Sta Y Z) (hc : c < dc) (ic : X 26 c = 0) : 0 < r → ObT X dc fd (Z 73) (Z 55) (Z 56) (Z 57) (Z 58) (Z 60) on1 (r - 1) ∧ VTd (Z 73) (Z 55) (Z 56) (X 31) on1 dc (nI r) (10 + c) := fun w => by
  have b := P.bd
  obtain ⟨_, _, _, q4, q5, q6, q7, _⟩ := q
  obtain ⟨_, a1, a2, a3, a4, a5, p0, a6, a7, a8⟩ := q6 w
  have e1 : Z 55 (r - 1) = nI c := by rw [a1]; exact if_pos rfl
  refine ⟨Or.inr ⟨c, p0, e1, hc, ic, by rw [a3]; exact if_pos rfl, a6, by omega, fun f hf ow => ?_⟩, ?_⟩
  · rw [a8 _ (P.prf.lt hc hf ow)]; exact VTd.zero
  · exact VTd.isC (P.same sta) rfl w (Or.inl ⟨q4, (q7 (r - 1) (by omega)).mpr (Or.inr ⟨w, rfl⟩)⟩) (by rw [clF_2 (by omega)]; exact e1) hc (FitC.to (Or.inl rfl) (by omega) (by omega))
theorem MkQ.row (P : Pg X Y gh nd T nm wr lz dc fd md pr bk M) {xs : Nat} (q : MkQ Y Z sn on on1 idn1 fl1 ct1 rmm op tp wn r mq (-1) (nI xs) (-1) en1) (sta : Sta Y Z) (hx : baR dc xs) : 0 < r → ObT X dc fd (Z 73) (Z 55) (Z 56) (Z 57) (Z 58) (Z 60) on1 (r - 1) ∧ VTd (Z 73) (Z 55) (Z 56) (X 31) on1 dc (nI r) (1000 + xs) := fun w => by
  have b := P.bd
  obtain ⟨_, _, _, q4, q5, q6, q7, _⟩ := q
  obtain ⟨_, a1, a2, a3, a4, a5, p0, a6, a7, a8⟩ := q6 w
  have e1 : Z 55 (r - 1) = -1 := by rw [a1]; exact if_pos rfl
  have e2 : Z 56 (r - 1) = nI xs := by rw [a2]; exact if_pos rfl
  refine ⟨Or.inl ⟨e1, xs, mq, p0, e2, hx, by rw [a3]; exact if_pos rfl, a4, a6, by omega, fun i hi => ?_⟩, ?_⟩
  · rw [a8 i hi]; exact VTd.zero
  · exact VTd.isR (P.same sta) rfl w ⟨q4, (q7 (r - 1) (by omega)).mpr (Or.inr ⟨w, rfl⟩)⟩ (by rw [clF_2 (by omega)]; exact e1) e2 hx (FitC.to (Or.inl rfl) (by omega) (by omega))
theorem Rn.up (h : Rn X Y gh nd T nm wr lz dc fd md pr bk M rmm op tp wn fu rd on idn fl ct n ov mt ps yy bf wf) : (Y 52 n = -1 ∧ yy (op - 1) = rtP M (mt (op - 1))) ∨ ∃ p : Nat, ∃ u : Ps, p < nd ∧ Y 52 n = nI p ∧ stq X p u n (yy (op - 1)) ∧ Pv X (M.1 (mt (op - 1))) (rtP M (mt (op - 1))) p u := by
  rcases h.ln.up with w | ⟨p, u, w1, w2, w3, w4, _⟩
  · exact Or.inl ⟨w.1, w.2.2⟩
  · exact Or.inr ⟨p, u, w1, w2, w3, w4⟩
theorem Slt.zero : Slt X Y on dc 0 (nI 0) t := ⟨VTd.zero, 0, rfl, by omega, fun w => by omega, fun _ => Or.inr rfl⟩
end M24
