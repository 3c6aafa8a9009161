def Ah (X : Nat → Nat → Int32) (gh : Nat → Nat → Nat) (nd j i : Nat) : Prop := ∃ p c d : Nat, p < nd ∧ c < 20000 ∧ d < 20000 ∧ pch X p c ∧ pch X p d ∧ ordC gh c < ordC gh d ∧ sub X c j ∧ sub X d i
def Am (X : Nat → Nat → Int32) (gh : Nat → Nat → Nat) (nd j : Nat) (ov : Bool) (i : Nat) : Prop := (ov = false ∧ sub X j i) ∨ Ah X gh nd j i
def Cov (P : Nat → Prop) (k : Nat) : Prop := ∃ w : List Nat, w.length ≤ k ∧ ∀ i : Nat, P i → i ∈ w
def Lss (X : Nat → Nat → Int32) (gh : Nat → Nat → Nat) (nd j : Nat) (ov : Bool) (j1 : Nat) (ov1 : Bool) : Prop := rkN gh j1 ov1 < rkN gh j ov ∧ ∀ i : Nat, Am X gh nd j1 ov1 i → Am X gh nd j ov i
def Lq (X : Nat → Nat → Int32) (gh : Nat → Nat → Nat) (nd j : Nat) (ov : Bool) (c : Nat) : Prop := rkO gh c ≤ rkN gh j ov ∧ ∀ i : Nat, Ah X gh nd c i → Am X gh nd j ov i
def sumR (nf : Nat → Nat) : Nat → Nat
  | 0 => 0
  | c + 1 => sumR nf c + nf c
def Pot (X : Nat → Nat → Int32) (gh : Nat → Nat → Nat) (nd op : Nat) (ps : Nat → Nat) (j : Nat) (ov : Bool) (k : Nat) : Prop := ∃ nf : Nat → Nat, (∀ c : Nat, c + 1 < op → Cov (Ah X gh nd (ps c)) (nf c)) ∧ Cov (Am X gh nd j ov) (nf (op - 1)) ∧ sumR nf op ≤ k
section M11
variable {X : Nat → Nat → Int32} {K : Nat → Int32} {T wr nd b p j i c k op j1 j2 : Nat} {gh : Nat → Nat → Nat} {y0 u z z2 : Ps} {ov ov1 ov2 : Bool} {P Q : Nat → Prop} {ps ps1 : Nat → Nat}
theorem sub.nx (h : sub X c p) (hj : j < 20000) (g : pch X p j) : sub X c j := by
  obtain ⟨m, h⟩ := h
  exact sub.snoc m c p j hj h g
theorem sub.pre (hF : Fs2 K T wr X gh nd) (hnd : nd ≤ 12000) (hc : c < nd) (hp : p < nd) (hj : j < 20000) (g : pch X p j) (h : sub X c j) : c = j ∨ sub X c p := by
  by_cases e : c = j
  · exact Or.inl e
  · obtain ⟨m, h⟩ := h
    obtain ⟨q, _, q2, q3, _⟩ := sub.up hF hnd m c j hc h e
    have := (pch_par hF hnd hp hj g).2.1
    rw [← this, q3]; exact Or.inr q2
theorem Cov.mono (h : Cov Q k) (g : ∀ i : Nat, P i → Q i) : Cov P k := by
  obtain ⟨w, h1, h2⟩ := h
  exact ⟨w, h1, fun i hi => h2 i (g i hi)⟩
theorem Cov.drop (h : Cov Q k) (hj : Q j) (g : ∀ i : Nat, P i → Q i ∧ i ≠ j) : 1 ≤ k ∧ Cov P (k - 1) := by
  obtain ⟨w, h1, h2⟩ := h
  have hm := h2 j hj
  have l := List.length_erase_of_mem hm
  have p1 := List.length_pos_of_mem hm
  refine ⟨by omega, w.erase j, by omega, fun i hi => ?_⟩
  obtain ⟨a1, a2⟩ := g i hi
  exact (List.mem_erase_of_ne a2).mpr (h2 i a1)
theorem Cov.all (g : ∀ i : Nat, P i → i < nd) : Cov P nd := ⟨List.range nd, by rw [List.length_range]; exact Nat.le_refl _, fun i hi => List.mem_range.mpr (g i hi)⟩
theorem Ah.lt (hF : Fs2 K T wr X gh nd) (hnd : nd ≤ 12000) (h : Ah X gh nd j i) : i < nd := by
  obtain ⟨p, c, d, h1, h2, h3, h4, h5, h6, h7, h8⟩ := h
  have := (pch_par hF hnd h1 h3 h5).1
  exact (sub.lt2 hF hnd this h8).1
theorem Am.lt (hF : Fs2 K T wr X gh nd) (hnd : nd ≤ 12000) (hj : j < nd) (h : Am X gh nd j ov i) : i < nd := by
  rcases h with h | h
  · exact (sub.lt2 hF hnd hj h.2).1
  · exact h.lt hF hnd
theorem rkO_le : rkO gh j ≤ rkN gh j ov := by
  unfold rkN
  cases ov with
  | true => exact Nat.le_refl _
  | false => show rkO gh j ≤ rkO gh j + _; omega
theorem Lss.trans (h : Lss X gh nd j ov j1 ov1) (g : Lss X gh nd j1 ov1 j2 ov2) : Lss X gh nd j ov j2 ov2 := ⟨Nat.lt_trans g.1 h.1, fun i hi => h.2 i (g.2 i hi)⟩
theorem Lss.fin : Lss X gh nd j false j true := ⟨by show rkO gh j < rkO gh j + _; have := KK_pos (gh 1 j + 1); omega, fun i hi => by
  rcases hi with h | h
  · exact absurd h.1 (by decide)
  · exact Or.inr h⟩
theorem Lq.rfl : Lq X gh nd j ov j := ⟨rkO_le, fun _ h => Or.inr h⟩
theorem Lq.up (hF : Fs2 K T wr X gh nd) (hnd : nd ≤ 12000) (hb : b < nd) (gb : gh 0 b = 160000) (hh : gh 1 b ≤ 361) (h : Lq X gh nd j ov c) (hp : Pv X b y0 p u) (g : stq X p u c z) : Lq X gh nd j ov p ∧ rkO gh p < rkN gh j ov := by
  have r := rk_up hF hnd hb gb hh hp g
  refine ⟨⟨by have := h.1; omega, fun i hi => h.2 i ?_⟩, by have := h.1; omega⟩
  obtain ⟨p', c', d, h1, h2, h3, h4, h5, h6, h7, h8⟩ := hi
  exact ⟨p', c', d, h1, h2, h3, h4, h5, h6, h7.nx g.stp.pch.2 g.stp.pch.1, h8⟩
theorem Lq.over (h : Lq X gh nd j ov c) (g : rkO gh c < rkN gh j ov) : Lss X gh nd j ov c true := ⟨g, fun i hi => by
  rcases hi with w | w
  · exact absurd w.1 (by decide)
  · exact h.2 i w⟩
theorem Lq.sib (hF : Fs2 K T wr X gh nd) (hnd : nd ≤ 12000) (hb : b < nd) (gb : gh 0 b = 160000) (hh : gh 1 b ≤ 361) (h : Lq X gh nd j ov c) (hp : Pv X b y0 p u) (g : stq X p u c z) (g2 : stq X p u j1 z2) (lt : ordC gh c < ordC gh j1) : Lss X gh nd j ov j1 false := by
  have r := rk_sib hF hnd hb gb hh hp g g2 lt
  have hpn := (hp.und hF hnd hb).1
  refine ⟨by have := h.1; omega, fun i hi => h.2 i ?_⟩
  rcases hi with w | w
  · exact ⟨p, c, j1, hpn, g.stp.pch.2, g2.stp.pch.2, g.stp.pch.1, g2.stp.pch.1, lt, sub.rfl, w.2⟩
  · obtain ⟨p', c', d, h1, h2, h3, h4, h5, h6, h7, h8⟩ := w
    have cn := (pch_par hF hnd h1 h2 h4).1
    rcases sub.pre hF hnd cn hpn g2.stp.pch.2 g2.stp.pch.1 h7 with e | e
    · subst e
      have e1 := (pch_par hF hnd h1 h2 h4).2.1
      have e2 := (pch_par hF hnd hpn g2.stp.pch.2 g2.stp.pch.1).2.1
      have : p' = p := e1.symm.trans e2
      subst this
      exact ⟨p', c, d, h1, g.stp.pch.2, h3, g.stp.pch.1, h5, Nat.lt_trans lt h6, sub.rfl, h8⟩
    · exact ⟨p', c', d, h1, h2, h3, h4, h5, h6, e.nx g.stp.pch.2 g.stp.pch.1, h8⟩
theorem Lss.down (hF : Fs2 K T wr X gh nd) (hnd : nd ≤ 12000) (hb : b < nd) (gb : gh 0 b = 160000) (hh : gh 1 b ≤ 361) (hp : Pv X b y0 p u) (g : stq X p u j z) : Lss X gh nd p false j false := by
  have r := rk_down hF hnd hb gb hh hp g
  have hpn := (hp.und hF hnd hb).1
  refine ⟨r, fun i hi => ?_⟩
  rcases hi with w | w
  · exact Or.inl ⟨rfl, sub.of g.stp.pch.2 g.stp.pch.1 w.2⟩
  · obtain ⟨p', c', d, h1, h2, h3, h4, h5, h6, h7, h8⟩ := w
    have cn := (pch_par hF hnd h1 h2 h4).1
    rcases sub.pre hF hnd cn hpn g.stp.pch.2 g.stp.pch.1 h7 with e | e
    · subst e
      have e1 := (pch_par hF hnd h1 h2 h4).2.1
      have e2 := (pch_par hF hnd hpn g.stp.pch.2 g.stp.pch.1).2.1
      have : p' = p := e1.symm.trans e2
      subst this
      exact Or.inl ⟨rfl, sub.of h3 h5 h8⟩
    · exact Or.inr ⟨p', c', d, h1, h2, h3, h4, h5, h6, e, h8⟩
theorem Lss.up (hF : Fs2 K T wr X gh nd) (hnd : nd ≤ 12000) (hb : b < nd) (gb : gh 0 b = 160000) (hh : gh 1 b ≤ 361) (hp : Pv X b y0 p u) (g : stq X p u j z) : Lss X gh nd j ov p true := (Lq.up hF hnd hb gb hh Lq.rfl hp g).1.over (Lq.up hF hnd hb gb hh Lq.rfl hp g).2
theorem Lss.sib (hF : Fs2 K T wr X gh nd) (hnd : nd ≤ 12000) (hb : b < nd) (gb : gh 0 b = 160000) (hh : gh 1 b ≤ 361) (hp : Pv X b y0 p u) (g : stq X p u j z) (g2 : stq X p u j1 z2) (lt : ordC gh j < ordC gh j1) : Lss X gh nd j ov j1 false := Lq.sib hF hnd hb gb hh Lq.rfl hp g g2 lt
theorem sumN_same {nf ng : Nat → Nat} : ∀ n : Nat, (∀ c : Nat, c < n → nf c = ng c) → sumR nf n = sumR ng n := by
  intro n
  induction n with
  | zero => intro _; rfl
  | succ n ih => intro h; show sumR nf n + nf n = sumR ng n + ng n; rw [ih (fun c hc => h c (by omega)), h n (by omega)]
theorem sumN_top {nf : Nat → Nat} (h : 1 ≤ op) : sumR nf op = sumR nf (op - 1) + nf (op - 1) := by
  obtain ⟨n, e⟩ : ∃ n : Nat, op = n + 1 := ⟨op - 1, by omega⟩
  subst e; rfl
theorem Pot.le {k' : Nat} (h : Pot X gh nd op ps j ov k) (g : k ≤ k') : Pot X gh nd op ps j ov k' := by
  obtain ⟨nf, h1, h2, h3⟩ := h
  exact ⟨nf, h1, h2, by omega⟩
theorem Pot.lss (h : Pot X gh nd op ps j ov k) (g : ∀ i : Nat, Am X gh nd j1 ov1 i → Am X gh nd j ov i) : Pot X gh nd op ps j1 ov1 k := by
  obtain ⟨nf, h1, h2, h3⟩ := h
  exact ⟨nf, h1, h2.mono g, h3⟩
theorem Pot.reset (hF : Fs2 K T wr X gh nd) (hnd : nd ≤ 12000) (h : Pot X gh nd op ps j ov k) (ho : 1 ≤ op) (hj : j1 < nd) : Pot X gh nd op ps j1 ov1 (k + nd) := by
  obtain ⟨nf, h1, h2, h3⟩ := h
  refine ⟨fun c => if c = op - 1 then nd else nf c, fun c hc => ?_, ?_, ?_⟩
  · show Cov _ (if c = op - 1 then nd else nf c)
    rw [if_neg (by omega)]; exact h1 c hc
  · show Cov _ (if op - 1 = op - 1 then nd else nf (op - 1))
    rw [if_pos rfl]; exact Cov.all (fun i hi => hi.lt hF hnd hj)
  · rw [sumN_top ho, sumN_same (ng := nf) (op - 1) (fun c hc => if_neg (by omega))]
    show _ + (if op - 1 = op - 1 then nd else nf (op - 1)) ≤ _
    rw [if_pos rfl]
    rw [sumN_top ho] at h3; omega
theorem Pot.call (hF : Fs2 K T wr X gh nd) (hnd : nd ≤ 12000) (h : Pot X gh nd op ps j ov k) (ho : 1 ≤ op) (hj : j1 < nd) (e1 : ∀ c : Nat, c + 1 < op → ps1 c = ps c) (e2 : ps1 (op - 1) = j) : Pot X gh nd (op + 1) ps1 j1 ov1 (k + nd) := by
  obtain ⟨nf, h1, h2, h3⟩ := h
  refine ⟨fun c => if c = op then nd else nf c, fun c hc => ?_, ?_, ?_⟩
  · show Cov _ (if c = op then nd else nf c)
    rw [if_neg (by omega)]
    by_cases q : c = op - 1
    · rw [q, e2]; exact h2.mono (fun i hi => Or.inr hi)
    · rw [e1 c (by omega)]; exact h1 c (by omega)
  · show Cov _ (if op + 1 - 1 = op then nd else nf (op + 1 - 1))
    rw [if_pos (by omega)]; exact Cov.all (fun i hi => hi.lt hF hnd hj)
  · show sumR _ op + (if op = op then nd else nf op) ≤ _
    rw [if_pos rfl, sumN_same (ng := nf) op (fun c hc => if_neg (by omega))]; omega
theorem Pot.ret (h : Pot X gh nd op ps j ov k) (ho : 2 ≤ op) : Pot X gh nd (op - 1) ps (ps (op - 2)) true k := by
  obtain ⟨nf, h1, h2, h3⟩ := h
  refine ⟨nf, fun c hc => h1 c (by omega), ?_, ?_⟩
  · rw [show op - 1 - 1 = op - 2 by omega]
    refine (h1 (op - 2) (by omega)).mono (fun i hi => ?_)
    rcases hi with w | w
    · exact absurd w.1 (by decide)
    · exact w
  · rw [sumN_top (by omega)] at h3; omega
theorem Pot.read (hF : Fs2 K T wr X gh nd) (hnd : nd ≤ 12000) (h : Pot X gh nd op ps j false k) (ho : 1 ≤ op) : 1 ≤ k ∧ Pot X gh nd op ps j true (k - 1) := by
  obtain ⟨nf, h1, h2, h3⟩ := h
  obtain ⟨q1, q2⟩ := Cov.drop (P := Am X gh nd j true) h2 (Or.inl ⟨rfl, sub.rfl⟩) (fun i hi => by
    rcases hi with w | w
    · exact absurd w.1 (by decide)
    · refine ⟨Or.inr w, fun e => ?_⟩
      subst e
      obtain ⟨p', c', d, h1, h2, h3, h4, h5, h6, h7, h8⟩ := w
      have := sub.apart hF hnd h1 h2 h3 h4 h5 h7 h8
      rw [this] at h6; omega)
  rw [sumN_top ho] at h3
  refine ⟨by omega, fun c => if c = op - 1 then nf c - 1 else nf c, fun c hc => ?_, ?_, ?_⟩
  · show Cov _ (if c = op - 1 then nf c - 1 else nf c)
    rw [if_neg (by omega)]; exact h1 c hc
  · show Cov _ (if op - 1 = op - 1 then nf (op - 1) - 1 else nf (op - 1))
    rw [if_pos rfl]; exact q2
  · rw [sumN_top ho, sumN_same (ng := nf) (op - 1) (fun c hc => if_neg (by omega))]
    show _ + (if op - 1 = op - 1 then nf (op - 1) - 1 else nf (op - 1)) ≤ _
    rw [if_pos rfl]; omega
end M11
def Hp (X Y : Nat → Nat → Int32) (dc fd on idn fl rmm ct : Nat) : Prop := HS (Y 57) (Y 55) (Y 73) (Y 74) (Y 58) on idn fl rmm ∧ ct = smF (Y 57) (Y 73) on ∧ HTd X dc fd (Y 73) (Y 55) (Y 56) (Y 57) (Y 58) (Y 60) on
def Rn (X Y : Nat → Nat → Int32) (gh : Nat → Nat → Nat) (nd T nm wr lz dc fd md pr bk : Nat) (M : MTb) (rmm op tp wn fu rd on idn fl ct j : Nat) (ov : Bool) (mt ps : Nat → Nat) (yy : Nat → Ps) (bf wf : Nat → Nat) : Prop := Pg X Y gh nd T nm wr lz dc fd md pr bk M ∧ Hp X Y dc fd on idn fl rmm ct ∧ Cfg X Y dc md on M op tp wn j ov mt ps yy bf wf ∧ ∃ k : Nat, Pot X gh nd op ps j ov k ∧ rd + k + 12000 * fu ≤ 300000000
def Nx (X Y : Nat → Nat → Int32) (gh : Nat → Nat → Nat) (nd T nm wr lz dc fd md pr bk : Nat) (M : MTb) (rmm fu mu op tp wn fu1 rd on idn fl ct : Nat) (en nw isn uc : Int32) : Prop := Pg X Y gh nd T nm wr lz dc fd md pr bk M ∧ Hp X Y dc fd on idn fl rmm ct ∧ ((¬ en = -1 ∧ (en = 1 → Thr Y on dc uc)) ∨ (en = -1 ∧ ∃ j : Nat, ∃ ov : Bool, ∃ mt ps : Nat → Nat, ∃ yy : Nat → Ps, ∃ bf wf : Nat → Nat, ∃ k : Nat, nw = nI j ∧ isn = (if ov = true then 0 else 1) ∧ Cfg X Y dc md on M op tp wn j ov mt ps yy bf wf ∧ Pot X gh nd op ps j ov k ∧ rd + k + 12000 * fu1 ≤ 300000000 ∧ (fu1 < fu ∨ (fu1 = fu ∧ Phi gh ps op (rkN gh j ov) < mu))))
def Ln (X Y : Nat → Nat → Int32) (gh : Nat → Nat → Nat) (nd T nm wr lz dc fd md pr bk : Nat) (M : MTb) (rmm mu op wn fu rd on idn fl ct c : Nat) (mt ps : Nat → Nat) (yy : Nat → Ps) (bf wf : Nat → Nat) : Prop := Pg X Y gh nd T nm wr lz dc fd md pr bk M ∧ Hp X Y dc fd on idn fl rmm ct ∧ Lvg X Y dc md on M op wn c mt ps yy bf wf ∧ Phi gh ps op (rkO gh c) ≤ mu ∧ ∃ k : Nat, Pot X gh nd op ps c true k ∧ rd + k + 12000 * fu ≤ 300000000
def LvK (X Y : Nat → Nat → Int32) (on dc rs lp : Nat) (kd x : Int32) (b : Nat) : Prop := b ≤ 1 ∧ ((kd = 1 ∧ Thr Y on dc x ∧ b = 1) ∨ (kd = 2 ∧ (rs = 0 ∨ Slt X Y on dc x (nI b) rs)) ∨ ((kd = 3 ∨ kd = 4) ∧ 1 ≤ lp)) ∧ (¬ b = 0 → RfV (Y 73) on x)
def EnvT (dc : Nat) (e : En) : Prop := ∀ v : Nat, v < e.1 → ∃ t : Nat, e.2.2 v = nI t ∧ TyC dc t ∧ ¬ t = 0
section M12
variable {X Y Z : Nat → Nat → Int32} {K : Nat → Int32} {gh : Nat → Nat → Nat} {nd T nm wr lz dc fd md pr bk rmm mu op tp tp1 wn wn1 fu fu1 rd on idn fl ct j j1 p n b c m t kk s i k r b1 tb : Nat} {M : MTb} {ov ov1 : Bool} {mt ps : Nat → Nat} {yy yy1 : Nat → Ps} {bf wf : Nat → Nat} {y0 u z : Ps} {e e' : En} {en nw isn uc v x : Int32} {f : Nat → Int32}
theorem Sta.rfl : Sta Y Y := ⟨fun _ _ _ => Eq.refl _, Eq.refl _, Eq.refl _, Eq.refl _⟩
theorem Sta.up (h : Sta Y Z) (hr : 55 ≤ r ∧ r ≤ 74) : Sta Y (updA Z r f) := by
  obtain ⟨h1, h2, h3, h4⟩ := h
  unfold updA
  exact ⟨fun q a1 a2 => (if_neg (by omega)).trans (h1 q a1 a2), (if_neg (by omega)).trans h2, (if_neg (by omega)).trans h3, (if_neg (by omega)).trans h4⟩
theorem cenv_e (h : kk ≤ 23) : cenv X n e kk s i = e := by
  unfold cenv
  split <;> first | rfl | omega
theorem kid_pv (hF : Fs2 K T wr X gh nd) (hnd : nd ≤ 12000) (hp : Pv X b y0 p u) (pn : p < nd) (e : X 9 p = nI kk) (k4 : kk ≤ 23) (s1 : 1 ≤ s) (s4 : s ≤ 4) (hc : cdOf kk s = 101) (hn : nch kk s = false) : ∃ c : Nat, X (11 + s) p = nI c ∧ c < nd ∧ chN X s p = c ∧ gh 1 c < gh 1 p ∧ stq X p u c (pst X p u kk s 0) ∧ Pv X b y0 c (pst X p u kk s 0) ∧ ∃ kc : Nat, X 9 c = nI kc ∧ kc ≤ 23 := by
  obtain ⟨c, z1, z2, z3, z4, z5, z6, z7⟩ := hF.kid pn e (by omega) s1 s4 (by omega) hnd
  have g : stq X p u c (pst X p u kk s 0) := stq.mk e (by omega) s1 s4 hn (by omega) (by omega) z1
  obtain ⟨kc, w1, _, w3, _⟩ := hF.knd z2
  rw [hc] at z5
  exact ⟨c, z1, z2, z6, z4, g, hp.snoc g, kc, w1, (kcl1 z5 w1 w3).2⟩
theorem res_ty (P : Pg X Y gh nd T nm wr lz dc fd md pr bk M) (hm : m < md) : ∃ t : Nat, resF (X 39) (X 21) m = nI t ∧ TyC dc t := by
  have b := P.bd
  obtain ⟨d, _, _, _, _, _, h, _⟩ := P.ps.2.2.1 m hm
  unfold resF
  rcases h with h | ⟨y, h, hy⟩
  · rw [if_pos h]; exact ⟨0, rfl, Or.inl (by omega)⟩
  · rw [h, if_neg (nI_m1 (by omega)), nI_cl (by omega)]
    obtain ⟨x, x1, x2, _⟩ := (P.ty y hy).tc (by omega)
    exact ⟨x, x1, x2⟩
theorem ft_ty (P : Pg X Y gh nd T nm wr lz dc fd md pr bk M) {f : Nat} (hf : f < fd) : ftF X f = nI (ftN X f) ∧ TyC dc (ftN X f) ∧ ¬ ftN X f = 0 := by
  have b := P.bd
  obtain ⟨y, x, h1, h2, h3, h4, h5, h6⟩ := FdT.ft P.prf.2.2.2.2.1 hf (by omega)
  rw [h4]
  refine ⟨by unfold ftF; rw [h1, nI_cl (by omega)]; exact h3, ?_, ?_⟩
  · unfold baR baN at h6; unfold TyC; omega
  · unfold baR baN at h6; omega
theorem nod_ty (P : Pg X Y gh nd T nm wr lz dc fd md pr bk M) (hn : n < nd) (e : X 9 n = nI kk) (k4 : kk ≤ 44) (hc : cdOf kk 2 = 50) : ∃ y x : Nat, X 13 n = nI y ∧ y < wr ∧ X 21 y = nI x ∧ TyC dc x ∧ TyC dc (1000 + x) ∧ x ≤ 1050 ∧ 1 ≤ x ∧ baR dc x := by
  have b := P.bd
  obtain ⟨k2, e2, _, _, hs⟩ := P.fs.knd hn
  have ek : k2 = kk := (nI_eq (by omega) (by omega)).mp (e2.symm.trans e)
  subst ek
  obtain ⟨y, y1, y2⟩ := (hs 2 (by omega) (by omega)).1 hc
  obtain ⟨x, x1, x2, x3, x4, x5⟩ := (P.ty y y2).tc (by omega)
  refine ⟨y, x, y1, y2, x1, x2, x3, x4, x5, ?_⟩
  obtain ⟨x', q1, q2⟩ := P.ty y y2
  have hx' : x' ≤ 1100 := by unfold baN at q2; omega
  have : x' = x := (nI_eq (by omega) (by omega)).mp (q1.symm.trans x1)
  rw [← this]; exact q2
theorem phr_ty (P : Pg X Y gh nd T nm wr lz dc fd md pr bk M) (hm : m < md ∧ ¬ X 42 m = -1) : ∀ h j : Nat, ∀ u : Ps, gh 1 j < h → Pv X (M.1 m) (rtP M m) j u → (∃ kk : Nat, X 9 j = nI kk ∧ kk ≤ 23) → EnvT dc u.1 → ∃ t : Nat, Y 17 j = nI t ∧ TyC dc t ∧ ∀ kk : Nat, X 9 j = nI kk → kk ≤ 23 → kk ≠ 7 → kk ≠ 8 → kk ≠ 14 → kk ≠ 16 → ¬ t = 0 := by
  have bd := P.bd
  have hF := P.fs
  have hnd : nd ≤ 12000 := by omega
  obtain ⟨m1, m2, m3, m4, m5, m6, m7, m8, m9, m10, m11, m12, _⟩ := P.tbl m hm.1 hm.2
  intro h
  induction h with
  | zero => intro j u hg; exact absurd hg (Nat.not_lt_zero _)
  | succ h ih =>
    intro j u hg hv hk he
    obtain ⟨jn, _⟩ := sub.lt2 hF hnd m3 hv.ev.sub
    obtain ⟨kk, e, k23⟩ := hk
    obtain ⟨k2, x1, x2, x3⟩ := m12 j u.1 hv.ev
    have ek : k2 = kk := (nI_eq (by omega) (by omega)).mp (x1.symm.trans e)
    subst ek
    have hl : LTk X dc fd md nd (Y 17) (Y 18) u.1.2.2 u.1.1 (M.2.1 m) j k2 (Y 17 j) := by
      rcases x3 with x3 | x3
      · exact x3.2
      · omega
    have fin : ∀ t : Nat, Y 17 j = nI t → TyC dc t → (¬ t = 0 ∨ k2 = 7 ∨ k2 = 8 ∨ k2 = 14 ∨ k2 = 16) → ∃ t : Nat, Y 17 j = nI t ∧ TyC dc t ∧ ∀ kk : Nat, X 9 j = nI kk → kk ≤ 23 → kk ≠ 7 → kk ≠ 8 → kk ≠ 14 → kk ≠ 16 → ¬ t = 0 := fun t h1 h2 h3 => ⟨t, h1, h2, fun kk e1 a1 a2 a3 a4 a5 => by
      have : k2 = kk := (nI_eq (by omega) (by omega)).mp (x1.symm.trans e1)
      rcases h3 with h3 | h3
      · exact h3
      · omega⟩
    have kid : ∀ s : Nat, 1 ≤ s → s ≤ 4 → cdOf k2 s = 101 → nch k2 s = false → ∃ t : Nat, Y 17 (chN X s j) = nI t ∧ TyC dc t := fun s s1 s4 hc hn => by
      obtain ⟨c, c1, c2, c3, c4, c5, c6, c7⟩ := kid_pv hF hnd hv jn x1 k23 s1 s4 hc hn
      obtain ⟨t, t1, t2, _⟩ := ih c _ (by omega) c6 c7 (by show EnvT dc (cenv X j u.1 k2 s 0); rw [cenv_e k23]; exact he)
      exact ⟨t, by rw [c3]; exact t1, t2⟩
    have cal : ∀ k' : Nat, CalP X (Y 17) (Y 18) dc md nd k' j (Y 17 j) → ∃ t : Nat, Y 17 j = nI t ∧ TyC dc t := fun k' ⟨m', q, p0, _, a2, _, _, _, _, _, _, _, _, a11⟩ => by
      obtain ⟨t, t1, t2⟩ := res_ty P a2
      exact ⟨t, a11.trans t1, t2⟩
    have k1 : 1 ≤ k2 := (hF.kok jn x1 x2).1
    clear x3 fin
    have fin : ∀ t : Nat, Y 17 j = nI t → TyC dc t → (¬ t = 0 ∨ k2 = 7 ∨ k2 = 8 ∨ k2 = 14 ∨ k2 = 16) → ∃ t : Nat, Y 17 j = nI t ∧ TyC dc t ∧ ∀ kk : Nat, X 9 j = nI kk → kk ≤ 23 → kk ≠ 7 → kk ≠ 8 → kk ≠ 14 → kk ≠ 16 → ¬ t = 0 := fun t h1 h2 h3 => ⟨t, h1, h2, fun kk e1 a1 a2 a3 a4 a5 => by
      have : k2 = kk := (nI_eq (by omega) (by omega)).mp (x1.symm.trans e1)
      rcases h3 with h3 | h3
      · exact h3
      · omega⟩
    have num : ∀ t : Nat, Y 17 j = nI t → 1 ≤ t → t ≤ 3 → ∃ t : Nat, Y 17 j = nI t ∧ TyC dc t ∧ ∀ kk : Nat, X 9 j = nI kk → kk ≤ 23 → kk ≠ 7 → kk ≠ 8 → kk ≠ 14 → kk ≠ 16 → ¬ t = 0 := fun t h1 h2 h3 => fin t h1 (Or.inl h3) (Or.inl (by omega))
    have n01 : ∀ a b : Nat, a ≤ 3000 → b ≤ 3000 → nI a = nI b → a = b := fun a b ha hb w => (nI_eq (by omega) (by omega)).mp w
    rcases (show k2 = 1 ∨ k2 = 2 ∨ k2 = 3 ∨ k2 = 4 ∨ k2 = 5 ∨ k2 = 6 ∨ k2 = 7 ∨ k2 = 8 ∨ k2 = 9 ∨ k2 = 10 ∨ k2 = 11 ∨ k2 = 12 ∨ k2 = 13 ∨ k2 = 14 ∨ k2 = 15 ∨ k2 = 16 ∨ k2 = 17 ∨ k2 = 18 ∨ k2 = 19 ∨ k2 = 20 ∨ k2 = 21 ∨ k2 = 22 ∨ k2 = 23 by omega) with w | w | w | w | w | w | w | w | w | w | w | w | w | w | w | w | w | w | w | w | w | w | w <;> subst w
    · exact num 1 hl (by omega) (by omega)
    · exact num 2 hl (by omega) (by omega)
    · exact num 2 hl (by omega) (by omega)
    · exact num 3 hl (by omega) (by omega)
    · exact fin _ hl (TyC.cl m7) (Or.inl (by omega))
    · rcases hl with ⟨v, h1, h2, h3⟩ | ⟨f, h1, h2, h3, h4⟩
      · obtain ⟨t, t1, t2, t3⟩ := he v h1
        exact fin t (h3.trans t1) t2 (Or.inl t3)
      · obtain ⟨a1, a2, a3⟩ := ft_ty P h1
        exact fin _ (h4.trans a1) a2 (Or.inl a3)
    · obtain ⟨t, t1, t2⟩ := cal _ hl
      exact fin t t1 t2 (Or.inr (by omega))
    · obtain ⟨s, _, hl⟩ := hl
      obtain ⟨t, t1, t2⟩ := cal _ hl
      exact fin t t1 t2 (Or.inr (by omega))
    · obtain ⟨c, _, c1, _, c2⟩ := hl
      exact fin _ c2 (TyC.cl c1) (Or.inl (by omega))
    · obtain ⟨_, y, x, h1, h2, h3⟩ := hl
      obtain ⟨y', x', g1, g2, g3, g4, g5, g6, g7, _⟩ := nod_ty P jn x1 (by omega) (by decide)
      obtain ⟨h4, h5, h6⟩ := h3
      have ey : y' = y := (nI_eq (by omega) (by omega)).mp (g1.symm.trans h1)
      rw [ey] at g3
      have ex : x' = x := n01 _ _ (by omega) (by omega) (g3.symm.trans h2)
      rw [ex] at g5
      exact fin _ h4 g5 (Or.inl (by omega))
    · exact num 1 hl (by omega) (by omega)
    · obtain ⟨c, f, _, _, _, _, h1, _, h2⟩ := hl
      obtain ⟨a1, a2, a3⟩ := ft_ty P h1
      exact fin _ (h2.trans a1) a2 (Or.inl a3)
    · exact num 1 hl.1 (by omega) (by omega)
    · obtain ⟨c, _, hl⟩ := hl
      obtain ⟨t, t1, t2⟩ := cal _ hl
      exact fin t t1 t2 (Or.inr (by omega))
    · obtain ⟨_, x, h1, h2, h3⟩ := hl
      obtain ⟨t, t1, t2⟩ := kid 1 (by omega) (by omega) (by decide) (by decide)
      have tl := TyC.le t2 (by omega)
      have ex : t = 1000 + x := n01 _ _ (by omega) (by omega) (t1.symm.trans h1)
      rw [ex] at t2
      exact fin x h3 (by have := TyC.dn t2 (by omega) (by omega); rw [show 1000 + x - 1000 = x by omega] at this; exact this) (Or.inl (by unfold TyC at t2; omega))
    · obtain ⟨t, t1, t2⟩ := kid 1 (by omega) (by omega) (by decide) (by decide)
      exact fin t (hl.symm.trans t1) t2 (Or.inr (by omega))
    · rcases hl.2 with w | w
      · exact num 1 w (by omega) (by omega)
      · exact num 2 w (by omega) (by omega)
    · rcases hl.1 with w | w
      · exact num 1 w (by omega) (by omega)
      · exact num 2 w (by omega) (by omega)
    · exact num 2 hl.1 (by omega) (by omega)
    · exact num 2 hl.1 (by omega) (by omega)
    · exact num 2 hl.1 (by omega) (by omega)
    · obtain ⟨_, y, x, h1, h2, h3, h4, h5, h6⟩ := hl
      obtain ⟨y', x', g1, g2, g3, g4, g5, g6, g7, _⟩ := nod_ty P jn x1 (by omega) (by decide)
      have ey : y' = y := (nI_eq (by omega) (by omega)).mp (g1.symm.trans h1)
      rw [ey] at g3
      have ex : x' = x := n01 _ _ (by omega) (by omega) (g3.symm.trans h2)
      rw [ex] at g4
      exact fin _ h4 g4 (Or.inl (by omega))
    · obtain ⟨_, ⟨a, b, a1, a2, a3, a4, a5⟩, _, hl⟩ := hl
      have nz := (fit_cls a5).2.1
      rcases hl with hl | hl
      · obtain ⟨t, t1, t2⟩ := kid 2 (by omega) (by omega) (by decide) (by decide)
        have tl := TyC.le t2 (by omega)
        have eb : b = t := n01 _ _ (by omega) (by omega) (a2.symm.trans (hl.symm.trans t1))
        exact fin t (hl.symm.trans t1) t2 (Or.inl (by omega))
      · obtain ⟨t, t1, t2⟩ := kid 3 (by omega) (by omega) (by decide) (by decide)
        have tl := TyC.le t2 (by omega)
        have eb : b = t := n01 _ _ (by omega) (by omega) (a2.symm.trans (hl.symm.trans t1))
        exact fin t (hl.symm.trans t1) t2 (Or.inl (by omega))
end M12
section M13
variable {X Y Z : Nat → Nat → Int32} {K : Nat → Int32} {gh : Nat → Nat → Nat} {nd T nm wr lz dc fd md pr bk rmm mu op tp tp1 wn wn1 fu fu1 rd on idn fl ct j j1 p n b c m t kk s i k r b1 tb : Nat} {M : MTb} {ov ov1 : Bool} {mt ps : Nat → Nat} {yy yy1 : Nat → Ps} {bf wf : Nat → Nat} {y0 u z : Ps} {e e' : En} {en nw isn uc v x : Int32} {f : Nat → Int32}
theorem Rn.pg (h : Rn X Y gh nd T nm wr lz dc fd md pr bk M rmm op tp wn fu rd on idn fl ct j ov mt ps yy bf wf) : Pg X Y gh nd T nm wr lz dc fd md pr bk M := h.1
theorem Rn.hp (h : Rn X Y gh nd T nm wr lz dc fd md pr bk M rmm op tp wn fu rd on idn fl ct j ov mt ps yy bf wf) : Hp X Y dc fd on idn fl rmm ct := h.2.1
theorem Rn.cf (h : Rn X Y gh nd T nm wr lz dc fd md pr bk M rmm op tp wn fu rd on idn fl ct j ov mt ps yy bf wf) : Cfg X Y dc md on M op tp wn j ov mt ps yy bf wf := h.2.2.1
theorem Rn.room (h : Rn X Y gh nd T nm wr lz dc fd md pr bk M rmm op tp wn fu rd on idn fl ct j ov mt ps yy bf wf) : 1 ≤ op ∧ op ≤ 100 ∧ j < nd ∧ nd ≤ 12000 ∧ tp ≤ 363 * op + 1 ∧ wn ≤ 20 * op ∧ bf (op - 1) + (yy (op - 1)).2.1.length ≤ tp ∧ bf (op - 1) + (yy (op - 1)).2.1.length ≤ 363 * op ∧ rd ≤ 300000000 ∧ dc ≤ 37 ∧ 7 ≤ dc := by
  have b := h.pg.bd
  obtain ⟨r1, r2, r3, r4, r5, r6, r7, _⟩ := Cfg.room h.pg.fs (by omega) h.pg.tbl h.pg.blk h.cf
  obtain ⟨k, _, hk⟩ := h.2.2.2
  exact ⟨r1, r2, r3, by omega, r4, r5, r6, r7, by omega, by omega, by omega⟩
theorem Rn.rt (h : Rn X Y gh nd T nm wr lz dc fd md pr bk M rmm op tp wn fu rd on idn fl ct j ov mt ps yy bf wf) : (M.1 (mt (op - 1)) < nd ∧ gh 0 (M.1 (mt (op - 1))) = 160000 ∧ gh 1 (M.1 (mt (op - 1))) ≤ 361) ∧ (mt (op - 1) < md ∧ ¬ X 42 (mt (op - 1)) = -1) ∧ Pv X (M.1 (mt (op - 1))) (rtP M (mt (op - 1))) j (yy (op - 1)) := by
  have b := h.pg.bd
  obtain ⟨f, _⟩ := h.cf.top
  exact ⟨(f.bnd h.pg.fs (by omega) h.pg.tbl h.pg.blk).2.2.2.2, f.1, f.2.1⟩
theorem Vrs.envT (h : Vrs X Y on dc c e) : EnvT dc e := fun v hv => by
  obtain ⟨t, t1, t2, t3, _⟩ := h.2.2 v hv
  exact ⟨t, t1, t2, t3⟩
theorem EnvT.low (h : EnvT dc e') (l : EnL e e') : EnvT dc e := fun v hv => by
  obtain ⟨t, t1, t2⟩ := h v (Nat.lt_of_lt_of_le hv l.1)
  exact ⟨t, (l.2 v hv).symm.trans t1, t2⟩
theorem Rn.env (h : Rn X Y gh nd T nm wr lz dc fd md pr bk M rmm op tp wn fu rd on idn fl ct j ov mt ps yy bf wf) : EnvT dc (yy (op - 1)).1 := by
  obtain ⟨f, _⟩ := h.cf.top
  refine f.vrs.envT.low ?_
  split
  · exact EnL.aft
  · exact EnL.rfl
theorem Rn.pty (h : Rn X Y gh nd T nm wr lz dc fd md pr bk M rmm op tp wn fu rd on idn fl ct j ov mt ps yy bf wf) (hp : Pv X (M.1 (mt (op - 1))) (rtP M (mt (op - 1))) p u) (l : EnL u.1 (yy (op - 1)).1) (ek : X 9 p = nI kk) (k23 : kk ≤ 23) : ∃ t : Nat, Y 17 p = nI t ∧ TyC dc t ∧ (kk ≠ 7 → kk ≠ 8 → kk ≠ 14 → kk ≠ 16 → ¬ t = 0) := by
  obtain ⟨t, t1, t2, t3⟩ := phr_ty h.pg h.rt.2.1 (gh 1 p + 1) p u (by omega) hp ⟨kk, ek, k23⟩ (h.env.low l)
  exact ⟨t, t1, t2, fun a b c d => t3 kk ek k23 a b c d⟩
theorem Rn.ltk (h : Rn X Y gh nd T nm wr lz dc fd md pr bk M rmm op tp wn fu rd on idn fl ct j ov mt ps yy bf wf) (hp : Pv X (M.1 (mt (op - 1))) (rtP M (mt (op - 1))) p u) (ek : X 9 p = nI kk) (k23 : kk ≤ 23) : LTk X dc fd md nd (Y 17) (Y 18) u.1.2.2 u.1.1 (M.2.1 (mt (op - 1))) p kk (Y 17 p) := by
  obtain ⟨k2, x1, x2, x3⟩ := Cfg.typ h.pg.tbl h.cf hp
  have : k2 = kk := (nI_eq (by omega) (by omega)).mp (x1.symm.trans ek)
  subst this
  rcases x3 with x3 | x3
  · exact x3.2
  · omega
theorem Rn.lsk (h : Rn X Y gh nd T nm wr lz dc fd md pr bk M rmm op tp wn fu rd on idn fl ct j ov mt ps yy bf wf) (hp : Pv X (M.1 (mt (op - 1))) (rtP M (mt (op - 1))) p u) (ek : X 9 p = nI kk) (k24 : 24 ≤ kk) (k4 : kk ≤ 44) : LSk X dc (Y 17) (Y 18) (Y 14) (M.2.2.1 (mt (op - 1))) p u.1 kk := by
  obtain ⟨k2, x1, x2, x3⟩ := Cfg.typ h.pg.tbl h.cf hp
  have : k2 = kk := (nI_eq (by omega) (by omega)).mp (x1.symm.trans ek)
  subst this
  rcases x3 with x3 | x3
  · omega
  · exact x3.2
theorem Rn.go (h : Rn X Y gh nd T nm wr lz dc fd md pr bk M rmm op tp wn fu rd on idn fl ct j ov mt ps yy bf wf) (sta : Sta Y Z) (hp : Hp X Z dc fd on idn fl rmm ct) (c : Cfg X Z dc md on M op tp1 wn1 j1 ov1 mt ps yy1 bf wf) (l : Lss X gh nd j ov j1 ov1) : Nx X Z gh nd T nm wr lz dc fd md pr bk M rmm fu (Phi gh ps op (rkN gh j ov)) op tp1 wn1 fu rd on idn fl ct (-1) (nI j1) (if ov1 = true then 0 else 1) uc := by
  obtain ⟨k, h1, h2⟩ := h.2.2.2
  exact ⟨h.pg.same sta, hp, Or.inr ⟨Eq.refl _, j1, ov1, mt, ps, yy1, bf, wf, k, Eq.refl _, Eq.refl _, c, h1.lss l.2, h2, Or.inr ⟨Eq.refl _, by unfold Phi; have := l.1; omega⟩⟩⟩
theorem Rn.paid (h : Rn X Y gh nd T nm wr lz dc fd md pr bk M rmm op tp wn fu rd on idn fl ct j ov mt ps yy bf wf) (sta : Sta Y Z) (hp : Hp X Z dc fd on idn fl rmm ct) (c : Cfg X Z dc md on M op tp1 wn1 j1 ov1 mt ps yy1 bf wf) (hf : fu1 + 1 = fu) : Nx X Z gh nd T nm wr lz dc fd md pr bk M rmm fu mu op tp1 wn1 fu1 rd on idn fl ct (-1) (nI j1) (if ov1 = true then 0 else 1) uc := by
  obtain ⟨k, h1, h2⟩ := h.2.2.2
  have b := h.pg.bd
  have pg := h.pg.same sta
  have r := Cfg.room pg.fs (by omega) pg.tbl pg.blk c
  exact ⟨pg, hp, Or.inr ⟨Eq.refl _, j1, ov1, mt, ps, yy1, bf, wf, k + nd, Eq.refl _, Eq.refl _, c, h1.reset pg.fs (by omega) r.1 r.2.2.1, by omega, Or.inl (by omega)⟩⟩
theorem Rn.stop (h : Rn X Y gh nd T nm wr lz dc fd md pr bk M rmm op tp wn fu rd on idn fl ct j ov mt ps yy bf wf) (sta : Sta Y Z) (hp : Hp X Z dc fd on idn fl rmm ct) (e1 : ¬ en = -1) (e2 : ¬ en = 1) {fu2 mu2 op1 tp2 wn2 fu3 rd2 : Nat} : Nx X Z gh nd T nm wr lz dc fd md pr bk M rmm fu2 mu2 op1 tp2 wn2 fu3 rd2 on idn fl ct en nw isn uc := ⟨h.pg.same sta, hp, Or.inl ⟨e1, fun w => absurd w e2⟩⟩
theorem Slt.mk2 (hv : VTd (Y 73) (Y 55) (Y 56) (X 31) on dc v t) (hb : b1 ≤ 1 ∧ 3 * b1 ≤ t ∧ t ≤ 2 + 9000 * b1) : Slt X Y on dc v (nI b1) t := ⟨hv, b1, Eq.refl _, hb.1, fun w => by omega, fun w => Or.inl (by omega)⟩
theorem SlV.mk2 (hv : VTd (Y 73) (Y 55) (Y 56) (X 31) on dc v t) (hb : b1 ≤ 1 ∧ 3 * b1 ≤ t ∧ t ≤ 2 + 9000 * b1) : SlV X Y on dc v (nI b1) t := ⟨Slt.mk2 hv hb, fun w q => by have := (nI_eq (a := b1) (b := 0) (by omega) (by omega)).mp q; omega⟩
theorem Rn.gvC (h : Cfg X Y dc md on M op tp wn j false mt ps yy bf wf) (ek : X 9 j = nI kk) (k23 : kk ≤ 23) (np : kk = 12 ∨ kk = 15 → NPl X M (mt (op - 1)) j) (et : Y 17 j = nI t) (ht : TyC dc t) (h0 : ¬ t = 0) (hv : VTd (Y 73) (Y 55) (Y 56) (X 31) on dc v t) (hb : b1 ≤ 1 ∧ 3 * b1 ≤ t ∧ t ≤ 2 + 9000 * b1) : Cfg X (updA (updA Y 68 (upd (Y 68) tp v)) 69 (upd (Y 69) tp (nI b1))) dc md on M op (tp + 1) wn j true mt ps yy bf wf := Cfg.gives h ek k23 np et ht h0 (Slt.mk2 hv hb) ⟨Eq.refl _, Eq.refl _, Eq.refl _, Eq.refl _, Eq.refl _, Eq.refl _⟩ ⟨Eq.refl _, Eq.refl _, Eq.refl _, Eq.refl _, Eq.refl _, Eq.refl _⟩ ⟨Eq.refl _, Eq.refl _, Eq.refl _⟩ ⟨Eq.refl _, Eq.refl _⟩
theorem Sta.gv : Sta Y (updA (updA Y 68 f) 69 (upd (Y 69) tp x)) := Sta.up (Sta.up Sta.rfl (by omega)) (by omega)
theorem Rn.gives (h : Rn X Y gh nd T nm wr lz dc fd md pr bk M rmm op tp wn fu rd on idn fl ct j false mt ps yy bf wf) (ek : X 9 j = nI kk) (k23 : kk ≤ 23) (np : kk = 12 ∨ kk = 15 → NPl X M (mt (op - 1)) j) (et : Y 17 j = nI t) (ht : TyC dc t) (h0 : ¬ t = 0) (hv : VTd (Y 73) (Y 55) (Y 56) (X 31) on dc v t) (hb : b1 ≤ 1 ∧ 3 * b1 ≤ t ∧ t ≤ 2 + 9000 * b1) : Nx X (updA (updA Y 68 (upd (Y 68) tp v)) 69 (upd (Y 69) tp (nI b1))) gh nd T nm wr lz dc fd md pr bk M rmm fu (Phi gh ps op (rkN gh j false)) op (tp + 1) wn fu rd on idn fl ct (-1) (nI j) 0 uc := Rn.go (ov1 := true) h Sta.gv h.hp (Rn.gvC h.cf ek k23 np et ht h0 hv hb) Lss.fin
theorem Rn.read (h : Rn X Y gh nd T nm wr lz dc fd md pr bk M rmm op tp wn fu rd on idn fl ct j false mt ps yy bf wf) (ek : X 9 j = nI kk) (k23 : kk ≤ 23) (np : kk = 12 ∨ kk = 15 → NPl X M (mt (op - 1)) j) (et : Y 17 j = nI t) (ht : TyC dc t) (h0 : ¬ t = 0) (hv : VTd (Y 73) (Y 55) (Y 56) (X 31) on dc v t) (hb : b1 ≤ 1 ∧ 3 * b1 ≤ t ∧ t ≤ 2 + 9000 * b1) : Nx X (updA (updA Y 68 (upd (Y 68) tp v)) 69 (upd (Y 69) tp (nI b1))) gh nd T nm wr lz dc fd md pr bk M rmm fu (Phi gh ps op (rkN gh j false)) op (tp + 1) wn fu (rd + 1) on idn fl ct (-1) (nI j) 0 uc := by
  obtain ⟨k, h1, h2⟩ := h.2.2.2
  have bd := h.pg.bd
  obtain ⟨g1, g2⟩ := h1.read h.pg.fs (by omega) h.room.1
  exact ⟨h.pg.same Sta.gv, h.hp, Or.inr ⟨Eq.refl _, j, true, mt, ps, yy, bf, wf, k - 1, Eq.refl _, Eq.refl _, Rn.gvC h.cf ek k23 np et ht h0 hv hb, g2, by omega, Or.inr ⟨Eq.refl _, by unfold Phi; have := (Lss.fin (X := X) (gh := gh) (nd := nd) (j := j)).1; omega⟩⟩⟩
theorem Rn.still (h : Rn X Y gh nd T nm wr lz dc fd md pr bk M rmm op tp wn fu rd on idn fl ct j false mt ps yy bf wf) (ek : X 9 j = nI kk) (hk : 24 ≤ kk) (k4 : kk ≤ 44) (n3 : kk ≠ 30) : Nx X Y gh nd T nm wr lz dc fd md pr bk M rmm fu (Phi gh ps op (rkN gh j false)) op tp wn fu rd on idn fl ct (-1) (nI j) 0 uc := Rn.go (ov1 := true) h Sta.rfl h.hp (h.cf.still ek hk k4 n3) Lss.fin
theorem Rn.down (h : Rn X Y gh nd T nm wr lz dc fd md pr bk M rmm op tp wn fu rd on idn fl ct j false mt ps yy bf wf) (g : stq X j (yy (op - 1)) j1 z) (e1 : z.1 = (yy (op - 1)).1) (e2 : z.2 = (yy (op - 1)).2) (n4 : ¬ X 9 j1 = 44) : Nx X Y gh nd T nm wr lz dc fd md pr bk M rmm fu (Phi gh ps op (rkN gh j false)) op tp wn fu rd on idn fl ct (-1) (nI j1) 1 uc := by
  have b := h.pg.bd
  obtain ⟨⟨r1, r2, r3⟩, r4, r5⟩ := h.rt
  exact Rn.go (ov1 := false) h Sta.rfl h.hp (h.cf.down g e1 e2 n4) (Lss.down h.pg.fs (by omega) r1 r2 r3 r5 g)
theorem Rn.downP (h : Rn X Y gh nd T nm wr lz dc fd md pr bk M rmm op tp wn fu rd on idn fl ct j false mt ps yy bf wf) (g : stq X j (yy (op - 1)) j1 z) (e1 : z.1 = (yy (op - 1)).1) (e2 : z.2 = (yy (op - 1)).2) (n4 : ¬ X 9 j1 = 44) (hf : fu1 + 1 = fu) : Nx X Y gh nd T nm wr lz dc fd md pr bk M rmm fu mu op tp wn fu1 rd on idn fl ct (-1) (nI j1) 1 uc := Rn.paid (ov1 := false) h Sta.rfl h.hp (h.cf.down g e1 e2 n4) hf
theorem pnL_pre {w : List Nat} : ∃ x : List Nat, pnL X p w kk s i = w ++ x := by
  unfold pnL
  split
  · exact ⟨_, rfl⟩
  · exact ⟨_, rfl⟩
  · exact ⟨_, List.append_assoc _ _ _⟩
  · exact ⟨_, rfl⟩
  · exact ⟨_, rfl⟩
  · split
    · exact ⟨_, rfl⟩
    · split
      · exact ⟨_, List.append_assoc _ _ _⟩
      · exact ⟨[], (List.append_nil _).symm⟩
  · exact ⟨[], (List.append_nil _).symm⟩
theorem stq.pnd (h : stq X p u n z) : ∃ x : List Nat, z.2.1 = u.2.1 ++ x := by
  obtain ⟨kk, s, i, _, _, _, _, _, _, _, e⟩ := h
  rw [e]; exact pnL_pre
theorem stq.phr (hF : Fs2 K T wr X gh nd) (hnd : nd ≤ 12000) (pn : p < nd) (h : stq X p u n z) (ek : X 9 p = nI kk) (k23 : kk ≤ 23) : z.1 = u.1 ∧ z.2.2 = u.2.2 ∧ n < nd ∧ ∃ kc : Nat, X 9 n = nI kc ∧ kc ≤ 23 := by
  obtain ⟨k2, s, i, h1, h2, h3, h4, h5, h6, h7, h8⟩ := h
  have e : k2 = kk := (nI_eq (by omega) (by omega)).mp (h1.symm.trans ek)
  subst e
  have k1 : kcl 1 (X 9 p) = true := by
    have kok := hF.kok pn h1 h2
    have dec : ∀ q : Nat, q ≤ 23 → 1 ≤ q → kcl 1 (nI q) = true := by decide
    rw [h1]; exact dec k2 k23 kok.1
  have w := expr_kid hF hnd pn k1 (stq.stp (z := z) ⟨k2, s, i, h1, h2, h3, h4, h5, h6, h7, h8⟩)
  obtain ⟨kc, c1, _, c3, _⟩ := hF.knd w.2.2
  refine ⟨w.2.1, ?_, w.2.2, kc, c1, (kcl1 w.1 c1 c3).2⟩
  rw [h8]
  show (if k2 = 41 ∧ s = 3 then _ else _) = _
  rw [if_neg (by omega)]
theorem Rn.again (h : Rn X Y gh nd T nm wr lz dc fd md pr bk M rmm op tp wn fu rd on idn fl ct n true mt ps yy bf wf) (hp : Pv X (M.1 (mt (op - 1))) (rtP M (mt (op - 1))) p u) (hst : stq X p u n (yy (op - 1))) (ek : X 9 p = nI kk) (k23 : kk ≤ 23) : Cfg X Y dc md on M op (bf (op - 1) + u.2.1.length) wn p false mt ps (yyU yy (op - 1) u) bf wf ∧ Lss X gh nd n true p true := by
  have b := h.pg.bd
  obtain ⟨⟨r1, r2, r3⟩, r4, r5⟩ := h.rt
  have pn := (hp.und h.pg.fs (by omega) r1).1
  obtain ⟨a1, a2, a3, kc, a4, a5⟩ := hst.phr h.pg.fs (by omega) pn ek k23
  obtain ⟨f, _⟩ := h.cf.top
  rw [if_pos (Eq.refl _), aft_no (fun w => by
    have : kc = 30 := (nI_eq (by omega) (by omega)).mp (a4.symm.trans w)
    omega), a1] at f
  refine ⟨Cfg.turn h.cf hp hst.pnd a2.symm Kpt.rfl f.vrs (fun w => ?_), Lss.up h.pg.fs (by omega) r1 r2 r3 hp hst⟩
  have : kk = 44 := (nI_eq (by omega) (by omega)).mp (ek.symm.trans w)
  omega
theorem Rn.givesUp (h : Rn X Y gh nd T nm wr lz dc fd md pr bk M rmm op tp wn fu rd on idn fl ct n true mt ps yy bf wf) (hp : Pv X (M.1 (mt (op - 1))) (rtP M (mt (op - 1))) p u) (hst : stq X p u n (yy (op - 1))) (ek : X 9 p = nI kk) (k23 : kk ≤ 23) (np : kk = 12 ∨ kk = 15 → NPl X M (mt (op - 1)) p) (et : Y 17 p = nI t) (ht : TyC dc t) (h0 : ¬ t = 0) (hv : VTd (Y 73) (Y 55) (Y 56) (X 31) on dc v t) (hb : b1 ≤ 1 ∧ 3 * b1 ≤ t ∧ t ≤ 2 + 9000 * b1) (etb : tb = bf (op - 1) + u.2.1.length) : Nx X (updA (updA Y 68 (upd (Y 68) tb v)) 69 (upd (Y 69) tb (nI b1))) gh nd T nm wr lz dc fd md pr bk M rmm fu (Phi gh ps op (rkN gh n true)) op (tb + 1) wn fu rd on idn fl ct (-1) (nI p) 0 uc := by
  subst etb
  obtain ⟨a, l⟩ := h.again hp hst ek k23
  exact Rn.go (ov1 := true) h Sta.gv h.hp (Rn.gvC a ek k23 np et ht h0 hv hb) l
theorem Rn.keep (h : Rn X Y gh nd T nm wr lz dc fd md pr bk M rmm op tp wn fu rd on idn fl ct n true mt ps yy bf wf) (hp : Pv X (M.1 (mt (op - 1))) (rtP M (mt (op - 1))) p u) (hst : stq X p u n (yy (op - 1))) (ek : X 9 p = nI kk) (k23 : kk ≤ 23) (np : kk = 12 ∨ kk = 15 → NPl X M (mt (op - 1)) p) (hl : (yy (op - 1)).2.1 = u.2.1) (et : Y 17 p = nI t) (ht : TyC dc t) (hq : (t = 0 ∧ Y 17 n = 0 ∧ Z = Y) ∨ (¬ t = 0 ∧ ¬ Y 17 n = 0 ∧ Slt X Y on dc (Y 68 (tp - 1)) x t ∧ Z = updA Y 69 (upd (Y 69) (tp - 1) x)) ∨ (¬ t = 0 ∧ ¬ Y 17 n = 0 ∧ Slt X Y on dc (Y 68 (tp - 1)) (Y 69 (tp - 1)) t ∧ Z = Y)) : Nx X Z gh nd T nm wr lz dc fd md pr bk M rmm fu (Phi gh ps op (rkN gh n true)) op tp wn fu rd on idn fl ct (-1) (nI p) 0 uc := by
  have b := h.pg.bd
  obtain ⟨⟨r1, r2, r3⟩, r4, r5⟩ := h.rt
  have pn := (hp.und h.pg.fs (by omega) r1).1
  obtain ⟨a1, a2, a3, kc, a4, a5⟩ := hst.phr h.pg.fs (by omega) pn ek k23
  obtain ⟨f, _⟩ := h.cf.top
  have nf : aft X n (yy (op - 1)).1 = u.1 := by
    rw [aft_no (fun w => by
      have : kc = 30 := (nI_eq (by omega) (by omega)).mp (a4.symm.trans w)
      omega), a1]
  have pf : aft X p u.1 = u.1 := aft_no (fun w => by
    have : kk = 30 := (nI_eq (by omega) (by omega)).mp (ek.symm.trans w)
    omega)
  rw [if_pos (Eq.refl _), nf] at f
  have l := Lss.up (ov := true) h.pg.fs (by omega) r1 r2 r3 hp hst
  have w2 : ∃ x : List Nat, (yy (op - 1)).2.1 = u.2.1 ++ x := ⟨[], by rw [hl, List.append_nil]⟩
  rcases hq with ⟨t0, y0, eZ⟩ | ⟨t0, y0, sl, eZ⟩ | ⟨t0, y0, sl, eZ⟩
  · subst eZ
    have et0 := Cfg.noval (by omega) h.cf a4 (by omega) (Or.inr y0)
    rw [hl] at et0
    exact Rn.go (ov1 := true) h Sta.rfl h.hp (Cfg.rise h.cf hp w2 a2.symm Kpt.rfl (by rw [pf]; exact f.vrs) ⟨kk, ek, by omega, Or.inr ⟨k23, t, et, ht, Or.inl ⟨t0, et0⟩⟩⟩) l
  · subst eZ
    obtain ⟨_, e1, _⟩ := Cfg.val h.cf a4 a5 y0
    rw [hl] at e1
    have e2 : bf (op - 1) + u.2.1.length = tp - 1 := by omega
    refine Rn.go (ov1 := true) h (Sta.up Sta.rfl (by omega)) h.hp (Cfg.rise h.cf hp w2 a2.symm ⟨⟨Eq.refl _, Eq.refl _, Eq.refl _, Eq.refl _, Eq.refl _, Eq.refl _⟩, ⟨Eq.refl _, Eq.refl _, Eq.refl _, fun _ _ => Eq.refl _⟩, fun _ _ => ⟨Eq.refl _, Eq.refl _⟩, fun a ha => ⟨Eq.refl _, if_neg (by omega)⟩, fun _ _ => ⟨Eq.refl _, Eq.refl _, Eq.refl _⟩⟩ (by rw [pf]; exact f.vrs.same ⟨Eq.refl _, Eq.refl _, Eq.refl _⟩ (Eq.refl _) (fun _ _ => ⟨Eq.refl _, Eq.refl _⟩)) ⟨kk, ek, by omega, Or.inr ⟨k23, t, et, ht, Or.inr ⟨t0, by omega, ?_, np⟩⟩⟩) l
    rw [e2]
    show Slt X _ on dc (Y 68 (tp - 1)) (upd (Y 69) (tp - 1) x (tp - 1)) t
    rw [show upd (Y 69) (tp - 1) x (tp - 1) = x from if_pos (Eq.refl _)]
    exact sl.same ⟨Eq.refl _, Eq.refl _, Eq.refl _⟩
  · subst eZ
    obtain ⟨_, e1, _⟩ := Cfg.val h.cf a4 a5 y0
    rw [hl] at e1
    have e2 : bf (op - 1) + u.2.1.length = tp - 1 := by omega
    exact Rn.go (ov1 := true) h Sta.rfl h.hp (Cfg.rise h.cf hp w2 a2.symm Kpt.rfl (by rw [pf]; exact f.vrs) ⟨kk, ek, by omega, Or.inr ⟨k23, t, et, ht, Or.inr ⟨t0, by omega, by rw [e2]; exact sl, np⟩⟩⟩) l
theorem Rn.next (h : Rn X Y gh nd T nm wr lz dc fd md pr bk M rmm op tp wn fu rd on idn fl ct n true mt ps yy bf wf) (hp : Pv X (M.1 (mt (op - 1))) (rtP M (mt (op - 1))) p u) (hst : stq X p u n (yy (op - 1))) (g : stq X p u j1 z) (ej : X 9 n = nI kk) (hk : kk ≤ 23) (hv : ¬ Y 17 n = 0) (e1 : z.1 = (yy (op - 1)).1) (e2 : z.2.1 = (yy (op - 1)).2.1 ++ [n]) (e3 : z.2.2 = (yy (op - 1)).2.2) (n4 : ¬ X 9 j1 = 44) (lt : ordC gh n < ordC gh j1) : Nx X Y gh nd T nm wr lz dc fd md pr bk M rmm fu (Phi gh ps op (rkN gh n true)) op tp wn fu rd on idn fl ct (-1) (nI j1) 1 uc := by
  have b := h.pg.bd
  obtain ⟨⟨r1, r2, r3⟩, r4, r5⟩ := h.rt
  exact Rn.go (ov1 := false) h Sta.rfl h.hp (h.cf.next hp g ej hk hv e1 e2 e3 n4) (Lss.sib h.pg.fs (by omega) r1 r2 r3 hp hst g lt)
theorem Rn.turn (h : Rn X Y gh nd T nm wr lz dc fd md pr bk M rmm op tp wn fu rd on idn fl ct n true mt ps yy bf wf) (hp : Pv X (M.1 (mt (op - 1))) (rtP M (mt (op - 1))) p u) (hst : stq X p u n (yy (op - 1))) (g : stq X p u j1 z) (w2 : ∃ x : List Nat, (yy (op - 1)).2.1 = z.2.1 ++ x) (w3 : z.2.2 = (yy (op - 1)).2.2) (hv : Vrs X Y on dc (op - 1) z.1) (n4 : ¬ X 9 j1 = 44) (lt : ordC gh n < ordC gh j1) (etb : tb = bf (op - 1) + z.2.1.length) : Nx X Y gh nd T nm wr lz dc fd md pr bk M rmm fu (Phi gh ps op (rkN gh n true)) op tb wn fu rd on idn fl ct (-1) (nI j1) 1 uc := by
  have b := h.pg.bd
  obtain ⟨⟨r1, r2, r3⟩, r4, r5⟩ := h.rt
  subst etb
  exact Rn.go (ov1 := false) h Sta.rfl h.hp (Cfg.turn h.cf (hp.snoc g) w2 w3 Kpt.rfl hv n4) (Lss.sib h.pg.fs (by omega) r1 r2 r3 hp hst g lt)
end M13
section M14
variable {X Y Z : Nat → Nat → Int32} {K : Nat → Int32} {gh : Nat → Nat → Nat} {nd T nm wr lz dc fd md pr bk rmm mu op tp tp1 wn wn1 fu fu1 rd on idn fl ct j j1 p n b c m t kk s i k r b1 tb : Nat} {M : MTb} {ov ov1 : Bool} {mt ps : Nat → Nat} {yy yy1 : Nat → Ps} {bf wf : Nat → Nat} {y0 u z : Ps} {e e' : En} {en nw isn uc v x : Int32} {f : Nat → Int32}
theorem stq.slot (hF : Fs2 K T wr X gh nd) (hnd : nd ≤ 12000) (pn : p < nd) (h : stq X p u n z) (ek : X 9 p = nI kk) (k4 : kk ≤ 44) (al : ∀ s : Nat, s ≤ 4 → 1 ≤ s → nch kk s = false → cdOf kk s < 200) : ∃ s : Nat, 1 ≤ s ∧ s ≤ 4 ∧ nch kk s = false ∧ X (11 + s) p = nI n ∧ chN X s p = n ∧ z = pst X p u kk s 0 ∧ gh 0 n = 8 * p + s ∧ n < nd ∧ ∀ s' : Nat, s' ≤ 4 → 1 ≤ s' → nch kk s' = false → X (11 + s') p = nI n → s' = s := by
  obtain ⟨s, i, a1, a2, a3, a4, a5, a6, a7, a8⟩ := h.inv hF hnd pn ek k4
  have l := al s a2 a1 a3
  rw [if_neg (by omega)] at a8
  rcases a4 with ⟨_, w, i0⟩ | ⟨w, _⟩
  · refine ⟨s, a1, a2, a3, w, by unfold chN; rw [w, nI_cl (by omega)], by rw [← i0]; exact a5, a8, a6, fun s' s4 s1 hn g => ?_⟩
    have l' := al s' s4 s1 hn
    obtain ⟨_, _, b3⟩ := slP.p0 hF hnd pn ek k4 s1 s4 (show n < 20000 by omega) hn (Or.inl ⟨l', g⟩)
    rw [if_neg (by omega)] at b3
    omega
  · omega
theorem Rn.pn (h : Rn X Y gh nd T nm wr lz dc fd md pr bk M rmm op tp wn fu rd on idn fl ct n ov mt ps yy bf wf) (hp : Pv X (M.1 (mt (op - 1))) (rtP M (mt (op - 1))) p u) : p < nd := by
  have b := h.pg.bd
  exact (hp.und h.pg.fs (by omega) h.rt.1.1).1
theorem Rn.pl1 (h : Rn X Y gh nd T nm wr lz dc fd md pr bk M rmm op tp wn fu rd on idn fl ct n true mt ps yy bf wf) (hp : Pv X (M.1 (mt (op - 1))) (rtP M (mt (op - 1))) p u) (hst : stq X p u n (yy (op - 1))) (ek : X 9 p = nI kk) (k23 : kk ≤ 23) (d : ∀ s : Nat, s ≤ 4 → 1 ≤ s → nch kk s = false → s = 1 ∧ cdOf kk s < 200) (pn : pnL X p u.2.1 kk 1 0 = u.2.1) : X 12 p = nI n ∧ (yy (op - 1)).2.1 = u.2.1 ∧ chN X 1 p = n ∧ ∃ kc : Nat, X 9 n = nI kc ∧ kc ≤ 23 := by
  have b := h.pg.bd
  obtain ⟨s, s1, s4, hn, w, wc, ez, _⟩ := hst.slot h.pg.fs (by omega) (h.pn hp) ek (by omega) (fun s s4 s1 hn => (d s s4 s1 hn).2)
  have e1 := (d s s4 s1 hn).1
  subst e1
  refine ⟨w, by rw [ez]; exact pn, wc, (hst.phr h.pg.fs (by omega) (h.pn hp) ek k23).2.2.2⟩
theorem Rn.pl2 (h : Rn X Y gh nd T nm wr lz dc fd md pr bk M rmm op tp wn fu rd on idn fl ct n true mt ps yy bf wf) (hp : Pv X (M.1 (mt (op - 1))) (rtP M (mt (op - 1))) p u) (hst : stq X p u n (yy (op - 1))) (ek : X 9 p = nI kk) (k23 : kk ≤ 23) (d : ∀ s : Nat, s ≤ 4 → 1 ≤ s → nch kk s = false → (s = 1 ∨ s = 2) ∧ cdOf kk s = 101) (n1 : nch kk 1 = false) (n2 : nch kk 2 = false) : (∃ kc : Nat, X 9 n = nI kc ∧ kc ≤ 23) ∧ ((X 12 p = nI n ∧ chN X 1 p = n ∧ (yy (op - 1)).2.1 = pnL X p u.2.1 kk 1 0 ∧ ∃ j1 : Nat, X 13 p = nI j1 ∧ chN X 2 p = j1 ∧ j1 < nd ∧ stq X p u j1 (pst X p u kk 2 0) ∧ ordC gh n < ordC gh j1 ∧ ∃ kc : Nat, X 9 j1 = nI kc ∧ kc ≤ 23) ∨ (¬ X 12 p = nI n ∧ X 13 p = nI n ∧ chN X 2 p = n ∧ (yy (op - 1)).2.1 = pnL X p u.2.1 kk 2 0)) := by
  have b := h.pg.bd
  obtain ⟨s, s1, s4, hn, w, wc, ez, wg, wl, wu⟩ := hst.slot h.pg.fs (by omega) (h.pn hp) ek (by omega) (fun s s4 s1 hn => by rw [(d s s4 s1 hn).2]; decide)
  refine ⟨(hst.phr h.pg.fs (by omega) (h.pn hp) ek k23).2.2.2, ?_⟩
  rcases (d s s4 s1 hn).1 with e1 | e1
  · subst e1
    obtain ⟨c, c1, c2, c3, c4, c5, c6, c7⟩ := kid_pv (s := 2) h.pg.fs (by omega) hp (h.pn hp) ek k23 (by omega) (by omega) (d 2 (by omega) (by omega) n2).2 n2
    obtain ⟨c', x1, x2, _, _, _, _, x7⟩ := h.pg.fs.kid (h.pn hp) ek (by omega) (s := 2) (by omega) (by omega) (by rw [(d 2 (by omega) (by omega) n2).2]; decide) (by omega)
    have ec : c' = c := (nI_eq (by omega) (by omega)).mp (x1.symm.trans c1)
    subst ec
    refine Or.inl ⟨w, wc, by rw [ez]; rfl, c', c1, c3, c2, c5, ?_, c7⟩
    rw [ord_one wg (by omega) (by omega), ord_one x7 (by omega) (by omega)]
    decide
  · subst e1
    exact Or.inr ⟨fun q => absurd (wu 1 (by omega) (by omega) n1 q) (by omega), w, wc, by rw [ez]; rfl⟩
theorem Rn.val (h : Rn X Y gh nd T nm wr lz dc fd md pr bk M rmm op tp wn fu rd on idn fl ct n true mt ps yy bf wf) (ek : X 9 n = nI kk) (k23 : kk ≤ 23) (et : Y 17 n = nI t) (h0 : ¬ t = 0) (t5 : t ≤ 5000) : tp = bf (op - 1) + (yy (op - 1)).2.1.length + 1 ∧ TyC dc t ∧ Slt X Y on dc (Y 68 (tp - 1)) (Y 69 (tp - 1)) t := by
  have b := h.pg.bd
  obtain ⟨t', a1, a2, a3, a4, a5⟩ := Cfg.val h.cf ek k23 (fun w => h0 ((nI_eq (a := t) (b := 0) (by omega) (by omega)).mp (et.symm.trans w)))
  have tl := TyC.le a3 (by omega)
  have : t' = t := (nI_eq (by omega) (by omega)).mp (a2.symm.trans et)
  subst this
  exact ⟨a1, a3, a5⟩
theorem Rn.pnd (h : Rn X Y gh nd T nm wr lz dc fd md pr bk M rmm op tp wn fu rd on idn fl ct n ov mt ps yy bf wf) (hi : (yy (op - 1)).2.1[i]? = some c) (et : Y 17 c = nI t) (t5 : t ≤ 5000) : TyC dc t ∧ ¬ t = 0 ∧ Slt X Y on dc (Y 68 (bf (op - 1) + i)) (Y 69 (bf (op - 1) + i)) t := by
  have b := h.pg.bd
  obtain ⟨f, _⟩ := h.cf.top
  have hl : i < (yy (op - 1)).2.1.length := by
    rcases Nat.lt_or_ge i (yy (op - 1)).2.1.length with w | w
    · exact w
    · rw [List.getElem?_eq_none w] at hi; exact absurd hi (by simp)
  obtain ⟨c', t', z1, z2, z3, z4, z5⟩ := f.2.2.2.2.2.1 i hl
  have ec : c' = c := by rw [z1] at hi; exact Option.some.inj hi
  subst ec
  have tl := TyC.le z3 (by omega)
  have : t' = t := (nI_eq (by omega) (by omega)).mp (z2.symm.trans et)
  subst this
  exact ⟨z3, z4, z5⟩
theorem Rn.kty (h : Rn X Y gh nd T nm wr lz dc fd md pr bk M rmm op tp wn fu rd on idn fl ct n true mt ps yy bf wf) (hp : Pv X (M.1 (mt (op - 1))) (rtP M (mt (op - 1))) p u) (hst : stq X p u n (yy (op - 1))) (ek : X 9 p = nI kk) (k23 : kk ≤ 23) : ∃ t : Nat, Y 17 p = nI t ∧ TyC dc t ∧ t ≤ 2050 ∧ (kk ≠ 7 → kk ≠ 8 → kk ≠ 14 → kk ≠ 16 → ¬ t = 0) := by
  have b := h.pg.bd
  obtain ⟨t, t1, t2, t3⟩ := h.pty hp hst.enl ek k23
  exact ⟨t, t1, t2, TyC.le t2 (by omega), t3⟩
theorem Hp.arr (P : Pg X Y gh nd T nm wr lz dc fd md pr bk M) (hh : Hp X Y dc fd on idn fl rmm ct) (hx : TyC dc (1000 + t)) (hv : VTd (Y 73) (Y 55) (Y 56) (X 31) on dc v (1000 + t)) : v = 0 ∨ ∃ o q a so : Nat, v = nI (o + 1) ∧ o < 3000 ∧ Lvd (Y 73) on o ∧ Y 55 o = -1 ∧ Y 57 o = nI q ∧ q ≤ 3000 ∧ Y 58 o = nI a ∧ a + q ≤ 3000 ∧ Y 56 o = nI so ∧ baR dc so ∧ fitF (X 31) so t = 1 ∧ ∀ i : Nat, i < q → VTd (Y 73) (Y 55) (Y 56) (X 31) on dc (Y 60 (a + i)) t := by
  have bd := P.bd
  by_cases v0 : v = 0
  · exact Or.inl v0
  · obtain ⟨o, so, q, a, e1, e2, e3, e4, e5, e6, e7, e8, e9, e10, e11, e12⟩ := VTd.arr P.prf hh.2.2 hv hx v0
    have bl := HS.below hh.1 e3 e2 e7 e8 e9 e10
    refine Or.inr ⟨o, q, a, so, e1, e2, e3, e4, e7, e8, e9, by omega, e5, e6, e12, fun i hi => ?_⟩
    have hs : TyC dc so := by unfold baR baN at e6; unfold TyC; omega
    have htt : TyC dc t := by have := TyC.dn hx (by omega) (by omega); rw [show 1000 + t - 1000 = t by omega] at this; exact this
    exact VTd.up P.prf.1 (by omega) hs htt (e11 i hi) e12
theorem Hp.obj (P : Pg X Y gh nd T nm wr lz dc fd md pr bk M) (hh : Hp X Y dc fd on idn fl rmm ct) {f : Nat} (hc : c < dc) (hf : f < fd) (ho : FldO X dc c f) (hv : VTd (Y 73) (Y 55) (Y 56) (X 31) on dc v (10 + c)) : v = 0 ∨ ∃ o k a g : Nat, v = nI (o + 1) ∧ o < 3000 ∧ Lvd (Y 73) on o ∧ Y 55 o = nI k ∧ k < dc ∧ Y 58 o = nI a ∧ Y 53 f = nI g ∧ g = fplF X fd f ∧ a + g < 3000 ∧ a ≤ 3000 ∧ owF X k f = true ∧ VTd (Y 73) (Y 55) (Y 56) (X 31) on dc (Y 60 (a + g)) (ftN X f) := by
  have bd := P.bd
  by_cases v0 : v = 0
  · exact Or.inl v0
  · obtain ⟨o, k, a, e1, e2, e3, e4, e5, e6, e7, e8, e9, e10, e11⟩ := VTd.obj P.prf hh.2.2 hv hc v0 hf ho
    have hq : cfF X k fd ≤ fd := cfF_le fd
    have bl := HS.below hh.1 e3 e2 e10 (by omega) e6 e7
    exact Or.inr ⟨o, k, a, fplF X fd f, e1, e2, e3, e4, e5, e6, P.pl f hf, rfl, by omega, e7, e8, e11⟩
theorem Rn.k13 (h : Rn X Y gh nd T nm wr lz dc fd md pr bk M rmm op tp wn fu rd on idn fl ct n true mt ps yy bf wf) (hp : Pv X (M.1 (mt (op - 1))) (rtP M (mt (op - 1))) p u) (hst : stq X p u n (yy (op - 1))) (ek : X 9 p = nI 13) : tp = bf (op - 1) + u.2.1.length + 1 ∧ Y 17 p = nI 1 ∧ (Y 68 (tp - 1) = 0 ∨ ∃ o q : Nat, Y 68 (tp - 1) = nI (o + 1) ∧ o < 3000 ∧ Y 57 o = nI q ∧ q ≤ 3000) := by
  have b := h.pg.bd
  obtain ⟨p1, p2, p3, kc, p4, p5⟩ := h.pl1 hp hst ek (by omega) (by decide) rfl
  obtain ⟨l1, x, l2, l3⟩ := h.ltk hp ek (by omega)
  rw [p3] at l2
  obtain ⟨v1, v2, v3⟩ := h.val p4 p5 l2 (by omega) (by omega)
  rw [p2] at v1
  refine ⟨v1, l1, ?_⟩
  rcases Hp.arr h.pg h.hp v2 v3.1 with w | ⟨o, q, a, so, w1, w2, w3, w4, w5, w6, _⟩
  · exact Or.inl w
  · exact Or.inr ⟨o, q, w1, w2, w5, w6⟩
theorem Rn.k12 (h : Rn X Y gh nd T nm wr lz dc fd md pr bk M rmm op tp wn fu rd on idn fl ct n true mt ps yy bf wf) (hp : Pv X (M.1 (mt (op - 1))) (rtP M (mt (op - 1))) p u) (hst : stq X p u n (yy (op - 1))) (ek : X 9 p = nI 12) : tp = bf (op - 1) + u.2.1.length + 1 ∧ ∃ f t : Nat, Y 18 p = nI f ∧ f < fd ∧ Y 17 p = nI t ∧ TyC dc t ∧ ¬ t = 0 ∧ (Y 68 (tp - 1) = 0 ∨ ∃ o a g : Nat, Y 68 (tp - 1) = nI (o + 1) ∧ o < 3000 ∧ Y 58 o = nI a ∧ Y 53 f = nI g ∧ a + g < 3000 ∧ VTd (Y 73) (Y 55) (Y 56) (X 31) on dc (Y 60 (a + g)) t) := by
  have b := h.pg.bd
  obtain ⟨p1, p2, p3, kc, p4, p5⟩ := h.pl1 hp hst ek (by omega) (by decide) rfl
  obtain ⟨c, f, l1, l2, l3, l4, l5, l6, l7⟩ := h.ltk hp ek (by omega)
  rw [p3] at l1
  obtain ⟨v1, v2, v3⟩ := h.val p4 p5 l1 (by omega) (by omega)
  obtain ⟨g1, g2, g3⟩ := ft_ty h.pg l5
  rw [p2] at v1
  refine ⟨v1, f, ftN X f, l4, l5, l7.trans g1, g2, g3, ?_⟩
  rcases Hp.obj h.pg h.hp l2 l5 l6 v3.1 with w | ⟨o, k, a, g, w1, w2, w3, w4, w5, w6, w7, w8, w9, w10, w11, w12⟩
  · exact Or.inl w
  · exact Or.inr ⟨o, a, g, w1, w2, w6, w7, w9, w12⟩
theorem Rn.k15 (h : Rn X Y gh nd T nm wr lz dc fd md pr bk M rmm op tp wn fu rd on idn fl ct n true mt ps yy bf wf) (hp : Pv X (M.1 (mt (op - 1))) (rtP M (mt (op - 1))) p u) (hst : stq X p u n (yy (op - 1))) (ek : X 9 p = nI 15) (ns : ¬ X 12 p = nI n) : tp = bf (op - 1) + u.2.1.length + 2 ∧ ∃ t : Nat, Y 17 p = nI t ∧ TyC dc t ∧ ¬ t = 0 ∧ (Y 68 (tp - 1 - 1) = 0 ∨ ∃ o q a : Nat, Y 68 (tp - 1 - 1) = nI (o + 1) ∧ o < 3000 ∧ Y 57 o = nI q ∧ q ≤ 3000 ∧ Y 58 o = nI a ∧ a + q ≤ 3000 ∧ ∀ i : Nat, i < q → VTd (Y 73) (Y 55) (Y 56) (X 31) on dc (Y 60 (a + i)) t) := by
  have b := h.pg.bd
  obtain ⟨⟨kc, p4, p5⟩, q⟩ := h.pl2 hp hst ek (by omega) (by decide) (by decide) (by decide)
  obtain ⟨_, q1, q2, q3⟩ := q.resolve_left (fun w => ns w.1)
  obtain ⟨l1, x, l2, l3, l4⟩ := h.ltk hp ek (by omega)
  rw [q2] at l1
  obtain ⟨v1, _, _⟩ := h.val (t := 1) p4 p5 l1 (by omega) (by omega)
  have q3' : (yy (op - 1)).2.1 = u.2.1 ++ [chN X 1 p] := q3
  have hi : (yy (op - 1)).2.1[u.2.1.length]? = some (chN X 1 p) := by rw [q3', List.getElem?_append_right (Nat.le_refl _), Nat.sub_self]; rfl
  obtain ⟨d1, d2, d3⟩ := h.pnd hi l2 (by omega)
  rw [q3', List.length_append] at v1
  have v1' : tp = bf (op - 1) + (u.2.1.length + 1) + 1 := v1
  have e1 : bf (op - 1) + u.2.1.length = tp - 1 - 1 := by omega
  rw [e1] at d3
  have tx : TyC dc x := by have := TyC.dn d1 (by omega) (by omega); rw [show 1000 + x - 1000 = x by omega] at this; exact this
  refine ⟨by omega, x, l4, tx, by unfold TyC at d1; omega, ?_⟩
  rcases Hp.arr h.pg h.hp d1 d3.1 with w | ⟨o, q, a, so, w1, w2, w3, w4, w5, w6, w7, w8, w9, w10, w11, w12⟩
  · exact Or.inl w
  · exact Or.inr ⟨o, q, a, w1, w2, w5, w6, w7, w8, w12⟩
theorem Rn.k18 (h : Rn X Y gh nd T nm wr lz dc fd md pr bk M rmm op tp wn fu rd on idn fl ct n true mt ps yy bf wf) (hp : Pv X (M.1 (mt (op - 1))) (rtP M (mt (op - 1))) p u) (hst : stq X p u n (yy (op - 1))) (ek : X 9 p = nI 18) (ns : ¬ X 12 p = nI n) : tp = bf (op - 1) + u.2.1.length + 2 ∧ ∃ t tk : Nat, Y 17 p = nI t ∧ (t = 1 ∨ t = 2) ∧ X 11 p = nI tk ∧ tk ≤ T ∧ twoTok (X 2 tk) = true := by
  have b := h.pg.bd
  obtain ⟨⟨kc, p4, p5⟩, q⟩ := h.pl2 hp hst ek (by omega) (by decide) (by decide) (by decide)
  obtain ⟨_, q1, q2, q3⟩ := q.resolve_left (fun w => ns w.1)
  obtain ⟨l1, l2, l3⟩ := h.ltk hp ek (by omega)
  rw [q2] at l3
  obtain ⟨tn, a1, a2, a3, a4, a5⟩ := Cfg.val h.cf p4 p5 l3
  have q3' : (yy (op - 1)).2.1 = u.2.1 ++ [chN X 1 p] := q3
  rw [q3', List.length_append] at a1
  have v1' : tp = bf (op - 1) + (u.2.1.length + 1) + 1 := a1
  obtain ⟨_, ⟨tk, k1, k2, k3⟩, _⟩ := h.pg.fs p (h.pn hp)
  refine ⟨by omega, ?_⟩
  rcases l1 with w | w
  · exact ⟨1, tk, w, Or.inl rfl, k1, k2, k3 ek⟩
  · exact ⟨2, tk, w, Or.inr rfl, k1, k2, k3 ek⟩
theorem Rn.k17 (h : Rn X Y gh nd T nm wr lz dc fd md pr bk M rmm op tp wn fu rd on idn fl ct n true mt ps yy bf wf) (hp : Pv X (M.1 (mt (op - 1))) (rtP M (mt (op - 1))) p u) (hst : stq X p u n (yy (op - 1))) (ek : X 9 p = nI 17) : tp = bf (op - 1) + u.2.1.length + 1 ∧ ∃ t tk : Nat, Y 17 p = nI t ∧ (t = 1 ∨ t = 2) ∧ X 11 p = nI tk ∧ tk ≤ T := by
  have b := h.pg.bd
  obtain ⟨p1, p2, p3, kc, p4, p5⟩ := h.pl1 hp hst ek (by omega) (by decide) rfl
  obtain ⟨l1, l2⟩ := h.ltk hp ek (by omega)
  rw [p3] at l1
  obtain ⟨_, ⟨tk, k1, k2, k3⟩, _⟩ := h.pg.fs p (h.pn hp)
  rcases l2 with w | w
  · obtain ⟨v1, _, _⟩ := h.val (t := 1) p4 p5 (l1.trans w) (by omega) (by omega)
    rw [p2] at v1
    exact ⟨v1, 1, tk, w, Or.inl rfl, k1, k2⟩
  · obtain ⟨v1, _, _⟩ := h.val (t := 2) p4 p5 (l1.trans w) (by omega) (by omega)
    rw [p2] at v1
    exact ⟨v1, 2, tk, w, Or.inr rfl, k1, k2⟩
theorem Hp.ref (P : Pg X Y gh nd T nm wr lz dc fd md pr bk M) (hh : Hp X Y dc fd on idn fl rmm ct) (hx : TyC dc t) (h3 : 3 ≤ t) (hv : VTd (Y 73) (Y 55) (Y 56) (X 31) on dc v t) : v = 0 ∨ (∃ x k : Nat, v = nI x ∧ 1 ≤ x ∧ (x ≤ 3000 ∨ (4001 ≤ x ∧ x ≤ 4006)) ∧ ((x ≤ 3000 ∧ Lvd (Y 73) on (x - 1)) ∨ (4001 ≤ x ∧ x ≤ 4006)) ∧ clF (Y 55) x = nI k ∧ k < dc ∧ fitF (X 31) (10 + k) t = 1) ∨ ∃ x so : Nat, v = nI x ∧ 1 ≤ x ∧ x ≤ 3000 ∧ Lvd (Y 73) on (x - 1) ∧ clF (Y 55) x = -1 ∧ Y 56 (x - 1) = nI so ∧ baR dc so ∧ fitF (X 31) (1000 + so) t = 1 := by
  by_cases v0 : v = 0
  · exact Or.inl v0
  · obtain ⟨x, e1, e2, e3, e4⟩ := VTd.of P.prf hh.2.2 hv hx h3 v0
    rcases e4 with ⟨a1, a2, so, a3, a4, a5⟩ | ⟨k, a1, a2, a3⟩
    · rcases e3 with e3 | e3
      · exact Or.inr (Or.inr ⟨x, so, e1, e2, a2, e3.2, a1, a3, a4, a5⟩)
      · omega
    · exact Or.inr (Or.inl ⟨x, k, e1, e2, e3.imp (fun w => w.1) id, e3, a1, a2, a3⟩)
theorem VTd.isC (P : Pg X Y gh nd T nm wr lz dc fd md pr bk M) {x : Nat} (e : v = nI x) (h1 : 1 ≤ x) (h2 : (x ≤ 3000 ∧ Lvd (Y 73) on (x - 1)) ∨ (4001 ≤ x ∧ x ≤ 4006)) (h3 : clF (Y 55) x = nI k) (hk : k < dc) (g : fitF (X 31) (10 + k) t = 1) : VTd (Y 73) (Y 55) (Y 56) (X 31) on dc v t := by
  have bd := P.bd
  refine Or.inr (Or.inr ⟨x, e, h2.imp (fun w => ⟨h1, w.1, w.2⟩) id, ?_⟩)
  have er : rtO (Y 55) (Y 56) x = 10 + k := by
    unfold rtO
    rcases h2 with w | w
    · rw [if_neg (by omega)]
      rw [clF_2 (by omega)] at h3
      rw [h3, if_neg (nI_m1 (by omega)), nI_cl (by omega)]
    · rw [if_pos (by omega)]
      rw [clF_1 (by omega)] at h3
      have e9 : x - 4000 = k := (nI_eq (by omega) (by omega)).mp h3
      rw [← e9]
      exact (Nat.sub_eq_iff_eq_add (by omega)).mpr (by rw [Nat.add_comm 10, Nat.add_assoc]; exact (Nat.sub_add_cancel (by omega)).symm)
  rw [er]
  exact ⟨TyC.cl hk, g⟩
theorem VTd.isR (P : Pg X Y gh nd T nm wr lz dc fd md pr bk M) {x so : Nat} (e : v = nI x) (h1 : 1 ≤ x) (h2 : x ≤ 3000 ∧ Lvd (Y 73) on (x - 1)) (h3 : clF (Y 55) x = -1) (hs : Y 56 (x - 1) = nI so) (hb : baR dc so) (g : fitF (X 31) (1000 + so) t = 1) : VTd (Y 73) (Y 55) (Y 56) (X 31) on dc v t := by
  have bd := P.bd
  refine Or.inr (Or.inr ⟨x, e, Or.inl ⟨h1, h2.1, h2.2⟩, ?_⟩)
  have er : rtO (Y 55) (Y 56) x = 1000 + so := by
    unfold rtO
    rw [clF_2 (by omega)] at h3
    rw [if_neg (by omega), if_pos h3, hs, nI_cl (by unfold baR baN at hb; omega)]
  rw [er]
  refine ⟨?_, g⟩
  unfold baR baN at hb; unfold TyC; omega
theorem Rn.k21 (h : Rn X Y gh nd T nm wr lz dc fd md pr bk M rmm op tp wn fu rd on idn fl ct n true mt ps yy bf wf) (hp : Pv X (M.1 (mt (op - 1))) (rtP M (mt (op - 1))) p u) (hst : stq X p u n (yy (op - 1))) (ek : X 9 p = nI kk) (hk : kk = 21 ∨ kk = 22) : tp = bf (op - 1) + u.2.1.length + 1 ∧ ∃ y x tn t : Nat, X 13 p = nI y ∧ y < wr ∧ X 21 y = nI x ∧ TyC dc x ∧ (10 ≤ x ∧ x ≤ 1050) ∧ TyC dc tn ∧ 3 ≤ tn ∧ VTd (Y 73) (Y 55) (Y 56) (X 31) on dc (Y 68 (tp - 1)) tn ∧ Y 17 p = nI t ∧ (kk = 21 → t = 2) ∧ (kk = 22 → t = x) := by
  have b := h.pg.bd
  have hk23 : kk ≤ 23 := by omega
  have key : (yy (op - 1)).2.1 = u.2.1 ∧ chN X 1 p = n ∧ ∃ kc : Nat, X 9 n = nI kc ∧ kc ≤ 23 := by
    rcases hk with w | w
    · subst w; obtain ⟨_, a⟩ := h.pl1 hp hst ek (by omega) (by decide) rfl; exact a
    · subst w; obtain ⟨_, a⟩ := h.pl1 hp hst ek (by omega) (by decide) rfl; exact a
  obtain ⟨p2, p3, kc, p4, p5⟩ := key
  have cd : cdOf kk 2 = 50 := by rcases hk with w | w <;> subst w <;> decide
  obtain ⟨y', x', g1, g2, g3, g4, g5, g6, g7, g8⟩ := nod_ty h.pg (h.pn hp) ek (by omega) cd
  have l := h.ltk hp ek hk23
  have body : ∀ tn : Nat, Y 17 (chN X 1 p) = nI tn → 3 ≤ tn → tn ≤ 2050 → tp = bf (op - 1) + u.2.1.length + 1 ∧ TyC dc tn ∧ VTd (Y 73) (Y 55) (Y 56) (X 31) on dc (Y 68 (tp - 1)) tn := fun tn a1 a2 a3 => by
    rw [p3] at a1
    obtain ⟨v1, v2, v3⟩ := h.val p4 p5 a1 (by omega) (by omega)
    rw [p2] at v1
    exact ⟨v1, v2, v3.1⟩
  have same : ∀ y x : Nat, X 13 p = nI y → X 21 y = nI x → y ≤ 6000 → x ≤ 2050 → x' = x := fun y x a1 a2 a3 a4 => by
    have ey : y' = y := (nI_eq (by omega) (by omega)).mp (g1.symm.trans a1)
    rw [ey] at g3
    exact (nI_eq (by omega) (by omega)).mp (g3.symm.trans a2)
  rcases hk with w | w
  · subst w
    obtain ⟨l1, ⟨tn, a1, a2, a3⟩, y, x, b1, b2, b3, b4, b5⟩ := l
    obtain ⟨c1, c2, c3⟩ := body tn a1 a2 a3
    have ex := same y x b1 b2 b4 b5
    exact ⟨c1, y', x', tn, 2, g1, g2, g3, g4, ⟨by unfold baR baN at g8; omega, g6⟩, c2, a2, c3, l1, fun _ => rfl, fun w => absurd w (by omega)⟩
  · subst w
    obtain ⟨⟨tn, a1, a2, a3⟩, y, x, b1, b2, b3, b6, b4, b5⟩ := l
    obtain ⟨c1, c2, c3⟩ := body tn a1 a2 a3
    have ex := same y x b1 b2 b4 b5
    exact ⟨c1, y', x', tn, x, g1, g2, g3, g4, ⟨by unfold baR baN at g8; omega, g6⟩, c2, a2, c3, b6, fun w => absurd w (by omega), fun _ => ex.symm⟩
end M14
section M15
variable {X Y Z : Nat → Nat → Int32} {K : Nat → Int32} {gh : Nat → Nat → Nat} {nd T nm wr lz dc fd md pr bk rmm mu op tp tp1 wn wn1 fu fu1 rd on idn fl ct j j1 p n b c m t kk s i k r b1 tb q : Nat} {M : MTb} {ov ov1 : Bool} {mt ps : Nat → Nat} {yy yy1 : Nat → Ps} {bf wf : Nat → Nat} {y0 u z : Ps} {e e' : En} {en nw isn uc v x : Int32} {f : Nat → Int32}
theorem Rn.k10 (h : Rn X Y gh nd T nm wr lz dc fd md pr bk M rmm op tp wn fu rd on idn fl ct n true mt ps yy bf wf) (hp : Pv X (M.1 (mt (op - 1))) (rtP M (mt (op - 1))) p u) (hst : stq X p u n (yy (op - 1))) (ek : X 9 p = nI 10) : tp = bf (op - 1) + u.2.1.length + 1 ∧ ∃ y x : Nat, X 13 p = nI y ∧ y < wr ∧ X 21 y = nI x ∧ baR dc x ∧ x ≤ 1050 ∧ TyC dc (1000 + x) ∧ Y 17 p = nI (1000 + x) := by
  have b := h.pg.bd
  obtain ⟨p1, p2, p3, kc, p4, p5⟩ := h.pl1 hp hst ek (by omega) (by decide) rfl
  obtain ⟨l1, y, x, l2, l3, l4, l5, l6⟩ := h.ltk hp ek (by omega)
  rw [p3] at l1
  obtain ⟨v1, _, _⟩ := h.val (t := 1) p4 p5 l1 (by omega) (by omega)
  rw [p2] at v1
  obtain ⟨y', x', g1, g2, g3, g4, g5, g6, g7, g8⟩ := nod_ty h.pg (h.pn hp) ek (by omega) (by decide)
  have ey : y' = y := (nI_eq (by omega) (by omega)).mp (g1.symm.trans l2)
  rw [ey] at g3
  have ex : x' = x := (nI_eq (by omega) (by omega)).mp (g3.symm.trans l3)
  exact ⟨v1, y', x', g1, g2, by rw [ey]; exact g3, g8, g6, g5, by rw [ex]; exact l4⟩
theorem Rn.k16 (h : Rn X Y gh nd T nm wr lz dc fd md pr bk M rmm op tp wn fu rd on idn fl ct n true mt ps yy bf wf) (hp : Pv X (M.1 (mt (op - 1))) (rtP M (mt (op - 1))) p u) (hst : stq X p u n (yy (op - 1))) (ek : X 9 p = nI 16) : Nx X Y gh nd T nm wr lz dc fd md pr bk M rmm fu (Phi gh ps op (rkN gh n true)) op tp wn fu rd on idn fl ct (-1) (nI p) 0 uc := by
  have b := h.pg.bd
  obtain ⟨p1, p2, p3, kc, p4, p5⟩ := h.pl1 hp hst ek (by omega) (by decide) rfl
  have l : Y 17 (chN X 1 p) = Y 17 p := h.ltk hp ek (by omega)
  obtain ⟨t, t1, t2, t3, _⟩ := h.kty hp hst ek (by omega)
  rw [p3] at l
  by_cases t0 : t = 0
  · exact h.keep (x := 0) hp hst ek (by omega) (fun w => absurd w (by omega)) p2 t1 t2 (Or.inl ⟨t0, by rw [l, t1, t0]; rfl, rfl⟩)
  · obtain ⟨v1, v2, v3⟩ := h.val p4 p5 (l.trans t1) t0 (by omega)
    exact h.keep (x := 0) hp hst ek (by omega) (fun w => absurd w (by omega)) p2 t1 t2 (Or.inr (Or.inr ⟨t0, fun w => t0 ((nI_eq (a := t) (b := 0) (by omega) (by omega)).mp (t1.symm.trans (l.symm.trans w))), v3, rfl⟩))
theorem Rn.k19k (h : Rn X Y gh nd T nm wr lz dc fd md pr bk M rmm op tp wn fu rd on idn fl ct n true mt ps yy bf wf) (hp : Pv X (M.1 (mt (op - 1))) (rtP M (mt (op - 1))) p u) (hst : stq X p u n (yy (op - 1))) (ek : X 9 p = nI kk) (hk : kk = 19 ∨ kk = 20) : tp = bf (op - 1) + u.2.1.length + 1 ∧ Nx X Y gh nd T nm wr lz dc fd md pr bk M rmm fu (Phi gh ps op (rkN gh n true)) op tp wn fu rd on idn fl ct (-1) (nI p) 0 uc ∧ (X 12 p = nI n → ∃ j1 : Nat, X 13 p = nI j1 ∧ j1 < nd ∧ Nx X Y gh nd T nm wr lz dc fd md pr bk M rmm fu (Phi gh ps op (rkN gh n true)) op (tp - 1) wn fu rd on idn fl ct (-1) (nI j1) 1 uc) := by
  have b := h.pg.bd
  have key : (∃ kc : Nat, X 9 n = nI kc ∧ kc ≤ 23) ∧ (yy (op - 1)).2.1 = u.2.1 ∧ Y 17 n = 2 ∧ Y 17 p = 2 ∧ (X 12 p = nI n → ∃ j1 : Nat, X 13 p = nI j1 ∧ j1 < nd ∧ stq X p u j1 (pst X p u kk 2 0) ∧ pnL X p u.2.1 kk 2 0 = u.2.1 ∧ ordC gh n < ordC gh j1 ∧ ∃ kc : Nat, X 9 j1 = nI kc ∧ kc ≤ 23) := by
    rcases hk with w | w
    · subst w
      obtain ⟨k1, q⟩ := h.pl2 hp hst ek (by omega) (by decide) (by decide) (by decide)
      obtain ⟨l1, l2, l3⟩ := h.ltk hp ek (by omega)
      rcases q with ⟨a1, a2, a3, j1, a4, a5, a6, a7, a8, a9⟩ | ⟨a1, a2, a3, a4⟩
      · exact ⟨k1, a3, by rw [a2] at l2; exact l2, l1, fun _ => ⟨j1, a4, a6, a7, rfl, a8, a9⟩⟩
      · exact ⟨k1, a4, by rw [a3] at l3; exact l3, l1, fun w => absurd w a1⟩
    · subst w
      obtain ⟨k1, q⟩ := h.pl2 hp hst ek (by omega) (by decide) (by decide) (by decide)
      obtain ⟨l1, l2, l3⟩ := h.ltk hp ek (by omega)
      rcases q with ⟨a1, a2, a3, j1, a4, a5, a6, a7, a8, a9⟩ | ⟨a1, a2, a3, a4⟩
      · exact ⟨k1, a3, by rw [a2] at l2; exact l2, l1, fun _ => ⟨j1, a4, a6, a7, rfl, a8, a9⟩⟩
      · exact ⟨k1, a4, by rw [a3] at l3; exact l3, l1, fun w => absurd w a1⟩
  obtain ⟨⟨kc, c1, c2⟩, k2, k3, k4, k5⟩ := key
  have hk23 : kk ≤ 23 := by omega
  obtain ⟨v1, v2, v3⟩ := h.val (t := 2) c1 c2 k3 (by omega) (by omega)
  rw [k2] at v1
  refine ⟨v1, h.keep (x := 0) hp hst ek hk23 (fun w => absurd w (by omega)) k2 (t := 2) k4 (Or.inl (by omega)) (Or.inr (Or.inr ⟨by omega, by rw [k3]; decide, v3, rfl⟩)), fun w => ?_⟩
  obtain ⟨j1, x1, x2, x3, x4, x5, kd, x6, x7⟩ := k5 w
  refine ⟨j1, x1, x2, ?_⟩
  obtain ⟨f, _⟩ := h.cf.top
  obtain ⟨a1, a2, _⟩ := hst.phr h.pg.fs (by omega) (h.pn hp) ek hk23
  rw [if_pos (Eq.refl _), aft_no (fun w => by
    have : kc = 30 := (nI_eq (by omega) (by omega)).mp (c1.symm.trans w)
    omega), a1] at f
  refine h.turn hp hst x3 ⟨[], by show _ = pnL X p u.2.1 kk 2 0 ++ []; rw [x4, k2, List.append_nil]⟩ ?_ ?_ (fun w => ?_) x5 ?_
  · show (if kk = 41 ∧ 2 = 3 then _ else _) = _
    rw [if_neg (by omega)]; exact a2.symm
  · show Vrs X Y on dc (op - 1) (cenv X p u.1 kk 2 0)
    rw [cenv_e hk23]; exact f.vrs
  · have : kd = 44 := (nI_eq (by omega) (by omega)).mp (x6.symm.trans w)
    omega
  · show tp - 1 = bf (op - 1) + (pnL X p u.2.1 kk 2 0).length
    rw [x4]; omega
theorem Rn.pl23 (h : Rn X Y gh nd T nm wr lz dc fd md pr bk M rmm op tp wn fu rd on idn fl ct n true mt ps yy bf wf) (hp : Pv X (M.1 (mt (op - 1))) (rtP M (mt (op - 1))) p u) (hst : stq X p u n (yy (op - 1))) (ek : X 9 p = nI 23) : (∃ kc : Nat, X 9 n = nI kc ∧ kc ≤ 23) ∧ (yy (op - 1)).2.1 = u.2.1 ∧ ((X 12 p = nI n ∧ chN X 1 p = n ∧ gh 0 n = 8 * p + 1) ∨ (¬ X 12 p = nI n ∧ (chN X 2 p = n ∨ chN X 3 p = n))) := by
  have b := h.pg.bd
  obtain ⟨s, s1, s4, hn, w, wc, ez, wg, wl, wu⟩ := hst.slot h.pg.fs (by omega) (h.pn hp) ek (by omega) (by decide)
  have d : ∀ s : Nat, s ≤ 4 → 1 ≤ s → nch 23 s = false → s = 1 ∨ s = 2 ∨ s = 3 := by decide
  refine ⟨(hst.phr h.pg.fs (by omega) (h.pn hp) ek (by omega)).2.2.2, ?_, ?_⟩
  · rw [ez]
    rcases d s s4 s1 hn with w | w | w <;> subst w <;> rfl
  · rcases d s s4 s1 hn with w9 | w9 | w9 <;> subst w9
    · exact Or.inl ⟨w, wc, wg⟩
    · exact Or.inr ⟨fun q => absurd (wu 1 (by omega) (by omega) (by decide) q) (by omega), Or.inl wc⟩
    · exact Or.inr ⟨fun q => absurd (wu 1 (by omega) (by omega) (by decide) q) (by omega), Or.inr wc⟩
theorem Rn.k23a (h : Rn X Y gh nd T nm wr lz dc fd md pr bk M rmm op tp wn fu rd on idn fl ct n true mt ps yy bf wf) (hp : Pv X (M.1 (mt (op - 1))) (rtP M (mt (op - 1))) p u) (hst : stq X p u n (yy (op - 1))) (ek : X 9 p = nI 23) (ns : X 12 p = nI n) : 1 ≤ tp ∧ ∀ s : Nat, s = 2 ∨ s = 3 → ∃ j1 : Nat, X (11 + s) p = nI j1 ∧ j1 < nd ∧ Nx X Y gh nd T nm wr lz dc fd md pr bk M rmm fu (Phi gh ps op (rkN gh n true)) op (tp - 1) wn fu rd on idn fl ct (-1) (nI j1) 1 uc := by
  have b := h.pg.bd
  obtain ⟨⟨kc, c1, c2⟩, k2, k3⟩ := h.pl23 hp hst ek
  obtain ⟨_, k4, k5⟩ := k3.resolve_right (fun w => w.1 ns)
  obtain ⟨l1, _⟩ := h.ltk hp ek (by omega)
  rw [k4] at l1
  obtain ⟨v1, _, _⟩ := h.val (t := 2) c1 c2 l1 (by omega) (by omega)
  rw [k2] at v1
  refine ⟨by omega, fun s hs => ?_⟩
  have cd : cdOf 23 s = 101 ∧ nch 23 s = false ∧ 1 ≤ s ∧ s ≤ 4 := by rcases hs with w | w <;> subst w <;> decide
  obtain ⟨j1, x1, x2, x3, x4, x5, x6, kd, x7, x8⟩ := kid_pv h.pg.fs (by omega) hp (h.pn hp) ek (by omega) cd.2.2.1 cd.2.2.2 cd.1 cd.2.1
  obtain ⟨j2, y1, y2, _, _, _, _, y7⟩ := h.pg.fs.kid (h.pn hp) ek (by omega) cd.2.2.1 cd.2.2.2 (by omega) (by omega)
  have ec : j2 = j1 := (nI_eq (by omega) (by omega)).mp (y1.symm.trans x1)
  subst ec
  refine ⟨j2, x1, x2, ?_⟩
  obtain ⟨f, _⟩ := h.cf.top
  obtain ⟨a1, a2, _⟩ := hst.phr h.pg.fs (by omega) (h.pn hp) ek (by omega)
  rw [if_pos (Eq.refl _), aft_no (fun w => by
    have : kc = 30 := (nI_eq (by omega) (by omega)).mp (c1.symm.trans w)
    omega), a1] at f
  have pl : pnL X p u.2.1 23 s 0 = u.2.1 := by rcases hs with w | w <;> subst w <;> rfl
  refine h.turn hp hst x5 ⟨[], by show _ = pnL X p u.2.1 23 s 0 ++ []; rw [pl, k2, List.append_nil]⟩ ?_ ?_ (fun w => ?_) ?_ ?_
  · show (if (23 : Nat) = 41 ∧ s = 3 then u.2.2 ++ [u.1.2.1] else u.2.2) = _
    rw [if_neg (by omega)]; exact a2.symm
  · show Vrs X Y on dc (op - 1) (cenv X p u.1 23 s 0)
    rw [cenv_e (by omega)]; exact f.vrs
  · have : kd = 44 := (nI_eq (by omega) (by omega)).mp (x7.symm.trans w)
    omega
  · rw [ord_one k5 (by omega) (by omega), ord_one y7 (by omega) (by omega)]
    rcases hs with w | w <;> subst w <;> decide
  · show tp - 1 = bf (op - 1) + (pnL X p u.2.1 23 s 0).length
    rw [pl]; omega
theorem Rn.k23b (h : Rn X Y gh nd T nm wr lz dc fd md pr bk M rmm op tp wn fu rd on idn fl ct n true mt ps yy bf wf) (hp : Pv X (M.1 (mt (op - 1))) (rtP M (mt (op - 1))) p u) (hst : stq X p u n (yy (op - 1))) (ek : X 9 p = nI 23) (ns : ¬ X 12 p = nI n) : 1 ≤ tp ∧ ∃ t : Nat, Y 17 p = nI t ∧ t ≤ 2050 ∧ ∀ b1 : Nat, b1 ≤ 1 ∧ 3 * b1 ≤ t ∧ t ≤ 2 + 9000 * b1 → Nx X (updA Y 69 (upd (Y 69) (tp - 1) (nI b1))) gh nd T nm wr lz dc fd md pr bk M rmm fu (Phi gh ps op (rkN gh n true)) op tp wn fu rd on idn fl ct (-1) (nI p) 0 uc := by
  have b := h.pg.bd
  obtain ⟨⟨kc, c1, c2⟩, k2, k3⟩ := h.pl23 hp hst ek
  obtain ⟨_, k4⟩ := k3.resolve_left (fun w => ns w.1)
  obtain ⟨_, l2, l3, _⟩ := h.ltk hp ek (by omega)
  obtain ⟨t, t1, t2, t3, t4⟩ := h.kty hp hst ek (by omega)
  have ft : Fit (X 31) (Y 17 n) (Y 17 p) := by
    rcases k4 with w | w
    · rw [w] at l2; exact l2
    · rw [w] at l3; exact l3
  have ft' := ft
  obtain ⟨a, bb, f1, f2, f3, f4, f5⟩ := ft'
  obtain ⟨v1, v2, v3⟩ := h.val c1 c2 f1 (fit_cls f5).1 (by omega)
  rw [k2] at v1
  rw [f1, t1] at ft
  refine ⟨by omega, t, t1, t3, fun b1 hb => h.keep (x := nI b1) hp hst ek (by omega) (fun w => absurd w (by omega)) k2 t1 t2 (Or.inr (Or.inl ⟨t4 (by omega) (by omega) (by omega) (by omega), fun w => ?_, ?_, rfl⟩))⟩
  · exact (fit_cls f5).1 ((nI_eq (a := a) (b := 0) (by omega) (by omega)).mp (f1.symm.trans w))
  · exact Slt.mk2 (VTd.up2 h.pg.prf v2 t2 v3.1 ft) hb
theorem arL_s {v : Int32} (e : itr (X 16) v i = nI n) (hn : n < 2 ^ 31) : arL X v (i + 1) = arL X v i ++ [n] := by
  show arL X v i ++ [(itr (X 16) v i).toNatClampNeg] = _
  rw [e, nI_cl hn]
theorem arL_get {v : Int32} : ∀ q i : Nat, i < q → (arL X v q)[i]? = some (itr (X 16) v i).toNatClampNeg := by
  intro q
  induction q with
  | zero => intro i hi; omega
  | succ q ih =>
    intro i hi
    show (arL X v q ++ [_])[i]? = _
    by_cases w : i < q
    · rw [List.getElem?_append_left (by rw [arL_len]; exact w)]; exact ih i w
    · have : i = q := by omega
      subst this
      rw [List.getElem?_append_right (by rw [arL_len]; exact Nat.le_refl _), arL_len, Nat.sub_self]; rfl
def Rdy (X Y : Nat → Nat → Int32) (gh : Nat → Nat → Nat) (nd T nm wr lz dc fd md pr bk : Nat) (M : MTb) (rmm mu op tp wn fu rd on idn fl ct p : Nat) (mt ps : Nat → Nat) (yy : Nat → Ps) (bf wf : Nat → Nat) (q rc : Nat) : Prop := Pg X Y gh nd T nm wr lz dc fd md pr bk M ∧ Hp X Y dc fd on idn fl rmm ct ∧ (Cfg X Y dc md on M op (tp - q - rc) wn p false mt ps yy bf wf ∧ q + rc ≤ tp ∧ tp ≤ 40000) ∧ Phi gh ps op (rkO gh p) ≤ mu ∧ (∃ k : Nat, Pot X gh nd op ps p true k ∧ rd + k + 12000 * fu ≤ 300000000) ∧ (∀ i : Nat, i < q → ∃ c t : Nat, itr (X 16) (X 13 p) i = nI c ∧ c < 20000 ∧ Y 17 c = nI t ∧ TyC dc t ∧ Slt X Y on dc (Y 68 (tp - q + i)) (Y 69 (tp - q + i)) t) ∧ (rc = 1 → ∃ t : Nat, Y 17 (chN X 1 p) = nI t ∧ TyC dc t ∧ Slt X Y on dc (Y 68 (tp - q - 1)) (Y 69 (tp - q - 1)) t) ∧ ((rc = 0 ∧ (X 9 p = nI 7 ∨ X 9 p = nI 8)) ∨ (rc = 1 ∧ X 9 p = nI 14)) ∧ ∃ m : Nat, Y 18 p = nI m ∧ m < md ∧ X 41 m = nI q
theorem Pot.over (h : Pot X gh nd op ps j ov k) : Pot X gh nd op ps j true k := h.lss (fun i hi => by
  rcases hi with w | w
  · exact absurd w.1 (by decide)
  · exact Or.inr w)
theorem Rn.cal (h : Rn X Y gh nd T nm wr lz dc fd md pr bk M rmm op tp wn fu rd on idn fl ct n ov mt ps yy bf wf) (hp : Pv X (M.1 (mt (op - 1))) (rtP M (mt (op - 1))) p u) (ek : X 9 p = nI kk) (hk : kk = 7 ∨ kk = 8 ∨ kk = 14) : ∃ c : Nat, CalP X (Y 17) (Y 18) dc md nd c p (Y 17 p) ∧ (kk = 7 → c = M.2.1 (mt (op - 1))) ∧ (kk = 8 → X 29 (M.2.1 (mt (op - 1))) = nI c) ∧ (kk = 14 → Y 17 (chN X 1 p) = nI (10 + c)) := by
  have l := h.ltk hp ek (by omega)
  rcases hk with w | w | w <;> subst w
  · exact ⟨_, l, fun _ => rfl, fun w => absurd w (by omega), fun w => absurd w (by omega)⟩
  · obtain ⟨s, l1, l2⟩ := l
    exact ⟨s, l2, fun w => absurd w (by omega), fun _ => l1, fun w => absurd w (by omega)⟩
  · obtain ⟨s, l1, l2⟩ := l
    exact ⟨s, l2, fun w => absurd w (by omega), fun w => absurd w (by omega), fun _ => l1⟩
theorem Rn.rdy0 (h : Rn X Y gh nd T nm wr lz dc fd md pr bk M rmm op tp wn fu rd on idn fl ct p false mt ps yy bf wf) (ek : X 9 p = nI kk) (hk : kk = 7 ∨ kk = 8) (e : X 13 p = -1) : Rdy X Y gh nd T nm wr lz dc fd md pr bk M rmm (Phi gh ps op (rkN gh p false)) op tp wn fu rd on idn fl ct p mt ps yy bf wf 0 0 := by
  have r := h.room
  obtain ⟨k, k1, k2⟩ := h.2.2.2
  obtain ⟨c, ⟨m, q, p0, a1, a2, a3, a4, a5, a6, a7, a8, a9, a10, a11⟩, _⟩ := h.cal h.rt.2.2 ek (by omega)
  have q0 : q = 0 := by
    rcases Nat.eq_zero_or_pos q with w | w
    · exact w
    · obtain ⟨c, c1, c2, _⟩ := a9 0 w
      rw [e] at c1
      exact absurd c1.symm (nI_m1 (by omega))
  refine ⟨h.pg, h.hp, ⟨h.cf, by omega, by omega⟩, ?_, ⟨k, k1.over, k2⟩, fun i hi => absurd hi (by omega), fun w => absurd w (by omega), Or.inl ⟨rfl, by rw [ek]; rcases hk with w | w <;> subst w <;> simp⟩, m, a1, a2, by rw [← q0]; exact a5⟩
  unfold Phi; have := rkO_le (gh := gh) (j := p) (ov := false); omega
theorem Rn.plL (h : Rn X Y gh nd T nm wr lz dc fd md pr bk M rmm op tp wn fu rd on idn fl ct n true mt ps yy bf wf) (hp : Pv X (M.1 (mt (op - 1))) (rtP M (mt (op - 1))) p u) (hst : stq X p u n (yy (op - 1))) (ek : X 9 p = nI kk) (hk : kk = 7 ∨ kk = 8 ∨ kk = 14) : (∃ kc : Nat, X 9 n = nI kc ∧ kc ≤ 23) ∧ ((kk = 14 ∧ X 12 p = nI n ∧ chN X 1 p = n ∧ (yy (op - 1)).2.1 = u.2.1 ∧ gh 0 n = 8 * p + 1) ∨ ((kk = 14 → ¬ X 12 p = nI n) ∧ ∃ i : Nat, itr (X 16) (X 13 p) i = nI n ∧ gh 0 n = 8 * p + 5 ∧ gh 2 n = i ∧ (yy (op - 1)).2.1 = pnL X p u.2.1 kk 2 i)) := by
  have b := h.pg.bd
  refine ⟨(hst.phr h.pg.fs (by omega) (h.pn hp) ek (by omega)).2.2.2, ?_⟩
  obtain ⟨s, i, a1, a2, a3, a4, a5, a6, a7, a8⟩ := hst.inv h.pg.fs (by omega) (h.pn hp) ek (by omega)
  have sl : (kk = 14 ∧ s = 1) ∨ (s = 2 ∧ 200 ≤ cdOf kk s) := by
    rcases hk with w | w | w <;> subst w
    · have d : ∀ s : Nat, s ≤ 4 → 1 ≤ s → nch 7 s = false → s = 2 ∧ 200 ≤ cdOf 7 s := by decide
      exact Or.inr (d s a2 a1 a3)
    · have d : ∀ s : Nat, s ≤ 4 → 1 ≤ s → nch 8 s = false → s = 2 ∧ 200 ≤ cdOf 8 s := by decide
      exact Or.inr (d s a2 a1 a3)
    · have d : ∀ s : Nat, s ≤ 4 → 1 ≤ s → nch 14 s = false → s = 1 ∨ (s = 2 ∧ 200 ≤ cdOf 14 s) := by decide
      rcases d s a2 a1 a3 with w | w
      · exact Or.inl ⟨rfl, w⟩
      · exact Or.inr w
  rcases sl with ⟨w1, w2⟩ | ⟨w1, w2⟩
  · subst w1; subst w2
    rw [if_neg (by decide)] at a8
    rcases a4 with ⟨_, a4, i0⟩ | ⟨a4, _⟩
    · exact Or.inl ⟨rfl, a4, by unfold chN; rw [a4, nI_cl (by omega)], by rw [a5]; rfl, a8⟩
    · exact absurd a4 (by decide)
  · subst w1
    rw [if_pos w2] at a8
    rcases a4 with ⟨a4, _⟩ | ⟨_, a4⟩
    · omega
    · refine Or.inr ⟨fun w q => ?_, i, a4, a8, (list_pl h.pg.fs (by omega) (h.pn hp) ek (by omega) (by omega) (by omega) w2 (by omega) a4).1, by rw [a5]; rfl⟩
      subst w
      obtain ⟨_, _, b3⟩ := slP.p0 h.pg.fs (by omega) (h.pn hp) ek (by omega) (s := 1) (by omega) (by omega) (show n < 20000 by omega) (by decide) (Or.inl ⟨by decide, q⟩)
      rw [if_neg (by decide)] at b3
      omega
theorem Rn.nextL (h : Rn X Y gh nd T nm wr lz dc fd md pr bk M rmm op tp wn fu rd on idn fl ct n true mt ps yy bf wf) (hp : Pv X (M.1 (mt (op - 1))) (rtP M (mt (op - 1))) p u) (hst : stq X p u n (yy (op - 1))) (ek : X 9 p = nI kk) (hk : kk = 7 ∨ kk = 8 ∨ kk = 14) (kc : X 9 n = nI k) (k23 : k ≤ 23) (hv : ¬ Y 17 n = 0) (i : Nat) (ei : itr (X 16) (X 13 p) i = nI j1) (j20 : j1 < 20000) (ey : pnL X p u.2.1 kk 2 i = (yy (op - 1)).2.1 ++ [n]) (lt : ordC gh n < 2 + i) : j1 < nd ∧ Nx X Y gh nd T nm wr lz dc fd md pr bk M rmm fu (Phi gh ps op (rkN gh n true)) op tp wn fu rd on idn fl ct (-1) (nI j1) 1 uc := by
  have b := h.pg.bd
  have cd : 200 ≤ cdOf kk 2 ∧ cdOf kk 2 = 201 := by rcases hk with w | w | w <;> subst w <;> decide
  have hk23 : kk ≤ 23 := by omega
  have g : stq X p u j1 (pst X p u kk 2 i) := stq.mkL ek (by omega) (by omega) (by omega) cd.1 j20 ei
  obtain ⟨x1, x2, x3, kd, x4, x5⟩ := g.phr h.pg.fs (by omega) (h.pn hp) ek hk23
  obtain ⟨a1, a2, _⟩ := hst.phr h.pg.fs (by omega) (h.pn hp) ek hk23
  obtain ⟨_, _, b3⟩ := slP.p0 h.pg.fs (by omega) (h.pn hp) ek (by omega) (s := 2) (by omega) (by omega) j20 (by rcases hk with w | w | w <;> subst w <;> decide) (Or.inr ⟨cd.1, i, ei⟩)
  rw [if_pos cd.1] at b3
  refine ⟨x3, h.next hp hst g kc k23 hv (x1.trans a1.symm) ey (x2.trans a2.symm) (fun w => ?_) ?_⟩
  · have : kd = 44 := (nI_eq (by omega) (by omega)).mp (x4.symm.trans w)
    omega
  · rw [ord_lst b3 (list_pl h.pg.fs (by omega) (h.pn hp) ek (by omega) (by omega) (by omega) cd.1 j20 ei).1]; exact lt
theorem Rn.arg (h : Rn X Y gh nd T nm wr lz dc fd md pr bk M rmm op tp wn fu rd on idn fl ct n true mt ps yy bf wf) (hp : Pv X (M.1 (mt (op - 1))) (rtP M (mt (op - 1))) p u) (hst : stq X p u n (yy (op - 1))) (ek : X 9 p = nI kk) (hk : kk = 7 ∨ kk = 8 ∨ kk = 14) (ns : kk = 14 → ¬ X 12 p = nI n) : (X 16 n = -1 ∧ ∃ q : Nat, q ≤ 8 ∧ Rdy X Y gh nd T nm wr lz dc fd md pr bk M rmm (Phi gh ps op (rkN gh n true)) op tp wn fu rd on idn fl ct p mt ps (yyU yy (op - 1) u) bf wf q (if kk = 14 then 1 else 0)) ∨ ∃ j1 : Nat, X 16 n = nI j1 ∧ j1 < nd ∧ Nx X Y gh nd T nm wr lz dc fd md pr bk M rmm fu (Phi gh ps op (rkN gh n true)) op tp wn fu rd on idn fl ct (-1) (nI j1) 1 uc := by
  have hk23 : kk ≤ 23 := by rcases hk with w | w | w <;> omega
  have b := h.pg.bd
  have r := h.room
  obtain ⟨⟨kc, c1, c2⟩, pl⟩ := h.plL hp hst ek hk
  obtain ⟨_, i, e1, e2, e3, e4⟩ := pl.resolve_left (fun w => ns w.1 w.2.1)
  obtain ⟨c, ⟨m, q, p0, a1, a2, a3, a4, a5, a6, a7, a8, a9, a10, a11⟩, _, _, ck⟩ := h.cal hp ek hk
  have nn : n < nd := h.room.2.2.1
  have iq : i < q := by
    rcases Nat.lt_or_ge i q with w | w
    · exact w
    · rw [itr_m1 a10 i w] at e1; exact absurd e1.symm (nI_m1 (by omega))
  obtain ⟨n', f1, f2, a', b', f3, f4, f5, f6, f7⟩ := a9 i iq
  have en : n' = n := (nI_eq (by omega) (by omega)).mp (f1.symm.trans e1)
  subst en
  have nz := (fit_cls f7).1
  have hv : ¬ Y 17 n' = 0 := fun w => nz ((nI_eq (a := a') (b := 0) (by omega) (by omega)).mp (f3.symm.trans w))
  obtain ⟨v1, v2, v3⟩ := h.val c1 c2 f3 nz (by omega)
  have ond : ordC gh n' = 2 + i := ord_lst e2 e3
  have n16 : itr (X 16) (X 13 p) (i + 1) = X 16 n' := itr_s e1 (by omega)
  have pl2 : pnL X p u.2.1 kk 2 (i + 1) = (yy (op - 1)).2.1 ++ [n'] := by
    rw [e4]
    rcases hk with w | w | w <;> subst w
    · show u.2.1 ++ arL X (X 13 p) (i + 1) = u.2.1 ++ arL X (X 13 p) i ++ [n']
      rw [arL_s e1 (by omega), List.append_assoc]
    · show u.2.1 ++ arL X (X 13 p) (i + 1) = u.2.1 ++ arL X (X 13 p) i ++ [n']
      rw [arL_s e1 (by omega), List.append_assoc]
    · show u.2.1 ++ [chN X 1 p] ++ arL X (X 13 p) (i + 1) = u.2.1 ++ [chN X 1 p] ++ arL X (X 13 p) i ++ [n']
      rw [arL_s e1 (by omega), List.append_assoc, List.append_assoc, List.append_assoc]
  by_cases lst : i + 1 < q
  · obtain ⟨j1, g1, g2, _⟩ := a9 (i + 1) lst
    obtain ⟨x1, x2⟩ := h.nextL (uc := uc) hp hst ek hk c1 c2 hv (i + 1) g1 (by omega) pl2 (by omega)
    exact Or.inr ⟨j1, n16.symm.trans g1, x1, x2⟩
  · have eq : q = i + 1 := by omega
    obtain ⟨ag, al⟩ := h.again hp hst ek hk23
    obtain ⟨k, k1, k2⟩ := h.2.2.2
    have rc : (yy (op - 1)).2.1.length = u.2.1.length + (if kk = 14 then 1 else 0) + i := by
      rw [e4]
      rcases hk with w | w | w <;> subst w
      · show (u.2.1 ++ arL X (X 13 p) i).length = _
        rw [List.length_append, arL_len, if_neg (by decide)]; omega
      · show (u.2.1 ++ arL X (X 13 p) i).length = _
        rw [List.length_append, arL_len, if_neg (by decide)]; omega
      · show (u.2.1 ++ [chN X 1 p] ++ arL X (X 13 p) i).length = _
        rw [List.length_append, List.length_append, arL_len, if_pos rfl]; rfl
    have tq : tp - q - (if kk = 14 then 1 else 0) = bf (op - 1) + u.2.1.length := by omega
    have val : ∀ i' : Nat, i' < q → ∃ c t : Nat, itr (X 16) (X 13 p) i' = nI c ∧ c < 20000 ∧ Y 17 c = nI t ∧ TyC dc t ∧ Slt X Y on dc (Y 68 (tp - q + i')) (Y 69 (tp - q + i')) t := fun i' hi' => by
      obtain ⟨n2, g1, g2, a2', b2', g3, g4, g5, g6, g7⟩ := a9 i' hi'
      by_cases w : i' = i
      · subst w
        have : n2 = n' := (nI_eq (by omega) (by omega)).mp (g1.symm.trans e1)
        subst this
        exact ⟨n2, a', e1, by omega, f3, v2, by rw [show tp - q + i' = tp - 1 by omega]; exact v3⟩
      · have hi : (yy (op - 1)).2.1[u.2.1.length + (if kk = 14 then 1 else 0) + i']? = some n2 := by
          rw [e4]
          have ar : (arL X (X 13 p) i)[i']? = some n2 := by rw [arL_get i i' (by omega), g1, nI_cl (by omega)]
          rcases hk with w | w | w <;> subst w
          · show (u.2.1 ++ arL X (X 13 p) i)[_]? = _
            rw [if_neg (by decide), List.getElem?_append_right (by omega), show u.2.1.length + 0 + i' - u.2.1.length = i' by omega]; exact ar
          · show (u.2.1 ++ arL X (X 13 p) i)[_]? = _
            rw [if_neg (by decide), List.getElem?_append_right (by omega), show u.2.1.length + 0 + i' - u.2.1.length = i' by omega]; exact ar
          · show (u.2.1 ++ [chN X 1 p] ++ arL X (X 13 p) i)[_]? = _
            have l1 : (u.2.1 ++ [chN X 1 p]).length = u.2.1.length + 1 := by rw [List.length_append]; rfl
            rw [if_pos rfl, List.getElem?_append_right (by omega), l1, show u.2.1.length + 1 + i' - (u.2.1.length + 1) = i' by omega]; exact ar
        obtain ⟨d1, d2, d3⟩ := h.pnd hi g3 (by omega)
        refine ⟨n2, a2', g1, by omega, g3, d1, ?_⟩
        rw [show tp - q + i' = bf (op - 1) + (u.2.1.length + (if kk = 14 then 1 else 0) + i') by omega]; exact d3
    refine Or.inl ⟨n16.symm.trans (by rw [← eq]; exact a10), q, a7, h.pg, h.hp, ⟨by rw [tq]; exact ag, by omega, by omega⟩, ?_, ⟨k, k1.lss al.2, k2⟩, val, fun w => ?_, ?_, m, a1, a2, a5⟩
    · unfold Phi
      have h1 := al.1
      have h2 : rkN gh p true = rkO gh p := rfl
      omega
    · by_cases k14 : kk = 14
      · subst k14
        have hi : (yy (op - 1)).2.1[u.2.1.length]? = some (chN X 1 p) := by
          rw [e4]
          show (u.2.1 ++ [chN X 1 p] ++ arL X (X 13 p) i)[_]? = _
          have l1 : (u.2.1 ++ [chN X 1 p]).length = u.2.1.length + 1 := by rw [List.length_append]; rfl
          rw [List.getElem?_append_left (by omega), List.getElem?_append_right (Nat.le_refl _), Nat.sub_self]; rfl
        obtain ⟨d1, d2, d3⟩ := h.pnd hi (ck rfl) (by omega)
        rw [if_pos rfl] at tq
        exact ⟨10 + c, ck rfl, d1, by rw [tq]; exact d3⟩
      · rw [if_neg k14] at w; exact absurd w (by omega)
    · rcases hk with w | w | w <;> subst w
      · exact Or.inl ⟨rfl, Or.inl ek⟩
      · exact Or.inl ⟨rfl, Or.inr ek⟩
      · exact Or.inr ⟨rfl, ek⟩
theorem Rn.k14a (h : Rn X Y gh nd T nm wr lz dc fd md pr bk M rmm op tp wn fu rd on idn fl ct n true mt ps yy bf wf) (hp : Pv X (M.1 (mt (op - 1))) (rtP M (mt (op - 1))) p u) (hst : stq X p u n (yy (op - 1))) (ek : X 9 p = nI 14) (ns : X 12 p = nI n) : (X 13 p = -1 ∧ Rdy X Y gh nd T nm wr lz dc fd md pr bk M rmm (Phi gh ps op (rkN gh n true)) op tp wn fu rd on idn fl ct p mt ps (yyU yy (op - 1) u) bf wf 0 1) ∨ ∃ j1 : Nat, X 13 p = nI j1 ∧ j1 < nd ∧ Nx X Y gh nd T nm wr lz dc fd md pr bk M rmm fu (Phi gh ps op (rkN gh n true)) op tp wn fu rd on idn fl ct (-1) (nI j1) 1 uc := by
  have b := h.pg.bd
  have r := h.room
  obtain ⟨⟨kc, c1, c2⟩, pl⟩ := h.plL hp hst ek (by omega)
  obtain ⟨_, e1, e2, e3, e4⟩ := pl.resolve_right (fun w => w.1 rfl ns)
  obtain ⟨c, ⟨m, q, p0, a1, a2, a3, a4, a5, a6, a7, a8, a9, a10, a11⟩, _, _, ck⟩ := h.cal hp ek (by omega)
  have ck := ck rfl
  rw [e2] at ck
  obtain ⟨v1, v2, v3⟩ := h.val c1 c2 ck (by omega) (by omega)
  rw [e3] at v1
  rcases Nat.eq_zero_or_pos q with w | w
  · subst w
    obtain ⟨ag, al⟩ := h.again hp hst ek (by omega)
    obtain ⟨k, k1, k2⟩ := h.2.2.2
    refine Or.inl ⟨a10, h.pg, h.hp, ⟨by rw [show tp - 0 - 1 = bf (op - 1) + u.2.1.length by omega]; exact ag, by omega, by omega⟩, ?_, ⟨k, k1.lss al.2, k2⟩, fun i hi => absurd hi (by omega), fun _ => ⟨10 + c, by rw [e2]; exact ck, v2, by rw [show tp - 0 - 1 = tp - 1 by omega]; exact v3⟩, Or.inr ⟨rfl, ek⟩, m, a1, a2, a5⟩
    unfold Phi
    have h1 := al.1
    have h2 : rkN gh p true = rkO gh p := rfl
    omega
  · obtain ⟨j1, g1, g2, _⟩ := a9 0 w
    obtain ⟨x1, x2⟩ := h.nextL (uc := uc) hp hst ek (by omega) c1 c2 (by rw [ck]; intro w; have := (nI_eq (a := 10 + c) (b := 0) (by omega) (by omega)).mp w; omega) 0 g1 (by omega) (by
      show u.2.1 ++ [chN X 1 p] ++ [] = _
      rw [List.append_nil, e2, e3]) (by rw [ord_one e4 (by omega) (by omega)]; decide)
    exact Or.inr ⟨j1, g1, x1, x2⟩
end M15
def Cal1 (X Y : Nat → Nat → Int32) (dc md on : Nat) (M : MTb) (p q m2 : Nat) (v : Int32) : Prop := (m2 < md ∧ ¬ X 42 m2 = -1) ∧ X 41 m2 = nI q ∧ Y 17 p = resF (X 39) (X 21) m2 ∧ (¬ v = 0 ∧ VTd (Y 73) (Y 55) (Y 56) (X 31) on dc v (10 + M.2.1 m2)) ∧ ∃ p0 : Nat, X 40 m2 = nI p0 ∧ p0 + q ≤ 5000 ∧ (∀ i : Nat, i < q → ∃ y t : Nat, X 47 (p0 + i) = nI y ∧ y < 5000 ∧ X 21 y = nI t ∧ t ≤ 2050) ∧ ∀ i c : Nat, i < q → c < 20000 → itr (X 16) (X 13 p) i = nI c → Fit (X 31) (Y 17 c) (ytF X (p0 + i))
def upN (f : Nat → Nat) (k x : Nat) : Nat → Nat := fun i => if i = k then x else f i
section M16
variable {X Y Z : Nat → Nat → Int32} {K : Nat → Int32} {gh : Nat → Nat → Nat} {nd T nm wr lz dc fd md pr bk rmm mu op tp tp1 wn wn1 fu fu1 rd on idn fl ct j j1 p n b c m t kk s i k r b1 tb q rc m2 : Nat} {M : MTb} {ov ov1 : Bool} {mt ps : Nat → Nat} {yy yy1 : Nat → Ps} {bf wf : Nat → Nat} {y0 u z : Ps} {e e' : En} {en nw isn uc v x : Int32} {f : Nat → Int32}
theorem Rdy.cal (h : Rdy X Y gh nd T nm wr lz dc fd md pr bk M rmm mu op tp wn fu rd on idn fl ct p mt ps yy bf wf q rc) (ek : X 9 p = nI kk) (hk : kk = 7 ∨ kk = 8 ∨ kk = 14) : ∃ c : Nat, CalP X (Y 17) (Y 18) dc md nd c p (Y 17 p) ∧ (kk = 7 → c = M.2.1 (mt (op - 1))) ∧ (kk = 8 → X 29 (M.2.1 (mt (op - 1))) = nI c) ∧ (kk = 14 → Y 17 (chN X 1 p) = nI (10 + c)) := by
  obtain ⟨h1, h2, ⟨h3, _⟩, _⟩ := h
  obtain ⟨f, _⟩ := h3.top
  obtain ⟨k2, x1, x2, x3⟩ := Cfg.typ h1.tbl h3 f.2.1
  have : k2 = kk := (nI_eq (by omega) (by omega)).mp (x1.symm.trans ek)
  subst this
  have l := (x3.resolve_right (fun w => by have := w.1; omega)).2
  rcases hk with w | w | w <;> subst w
  · exact ⟨_, l, fun _ => rfl, fun w => absurd w (by omega), fun w => absurd w (by omega)⟩
  · obtain ⟨s, l1, l2⟩ := l
    exact ⟨s, l2, fun w => absurd w (by omega), fun _ => l1, fun w => absurd w (by omega)⟩
  · obtain ⟨s, l1, l2⟩ := l
    exact ⟨s, l2, fun w => absurd w (by omega), fun w => absurd w (by omega), fun _ => l1⟩
theorem Pg.par (P : Pg X Y gh nd T nm wr lz dc fd md pr bk M) (hm : m < md) : ∃ p0 q : Nat, X 40 m = nI p0 ∧ X 41 m = nI q ∧ p0 + q ≤ 5000 ∧ q ≤ 8 ∧ ∀ i : Nat, i < q → ∃ y t : Nat, X 47 (p0 + i) = nI y ∧ y < 5000 ∧ X 21 y = nI t ∧ t ≤ 2050 := by
  have b := P.bd
  obtain ⟨d, _, _, _, _, _, _, ⟨p0, q, h1, h2, h3, h4⟩, _⟩ := P.ps.2.2.1 m hm
  refine ⟨p0, q, h1, h2, by omega, h4, fun i hi => ?_⟩
  obtain ⟨_, y, y1, y2⟩ := P.ps.2.2.2.1 (p0 + i) (by omega)
  obtain ⟨x, x1, _, _, x2, _⟩ := (P.ty y y2).tc (by omega)
  exact ⟨y, x, y1, by omega, x1, by omega⟩
theorem Cal1.of (P : Pg X Y gh nd T nm wr lz dc fd md pr bk M) (hc : CalP X (Y 17) (Y 18) dc md nd c p (Y 17 p)) (em : Y 18 p = nI m) (hm : m < md) (hq : X 41 m = nI q) (q8 : q ≤ 100) (h2 : m2 < md ∧ ¬ X 42 m2 = -1) (al : Alk X m m2 ∨ Alk X m2 m) (hv : ¬ v = 0 ∧ VTd (Y 73) (Y 55) (Y 56) (X 31) on dc v (10 + M.2.1 m2)) : Cal1 X Y dc md on M p q m2 v ∧ q ≤ 8 := by
  have b := P.bd
  obtain ⟨m', q', p0, a1, a2, a3, a4, a5, a6, a7, a8, a9, a10, a11⟩ := hc
  have e1 : m' = m := (nI_eq (by omega) (by omega)).mp (a1.symm.trans em)
  subst e1
  have e2 : q' = q := (nI_eq (by omega) (by omega)).mp (a5.symm.trans hq)
  subst e2
  obtain ⟨p2, q2, g1, g2, g3, g4, g5⟩ := P.par h2.1
  have al3 : X 41 m2 = X 41 m' ∧ resF (X 39) (X 21) m' = resF (X 39) (X 21) m2 ∧ ∀ i : Nat, i < q' → ytF X (p0 + i) = ytF X (p2 + i) := by
    rcases al with ⟨w1, w2, w3⟩ | ⟨w1, w2, w3⟩
    · exact ⟨w1.symm, w2, fun i hi => w3 p0 p2 q' i a6 g1 a5 (by omega) (by omega) (by omega) hi⟩
    · exact ⟨w1, w2.symm, fun i hi => (w3 p2 p0 q' i g1 a6 (w1.trans a5) (by omega) (by omega) (by omega) hi).symm⟩
  have e3 : q2 = q' := (nI_eq (by omega) (by omega)).mp (g2.symm.trans (al3.1.trans a5))
  subst e3
  refine ⟨⟨h2, g2, a11.trans al3.2.1, hv, p2, g1, g3, g5, fun i c' hi hc' w => ?_⟩, g4⟩
  obtain ⟨c2, z1, z2, z3⟩ := a9 i hi
  have : c2 = c' := (nI_eq (by omega) (by omega)).mp (z1.symm.trans w)
  subst this
  rw [← al3.2.2 i hi]; exact z3
theorem VTd.cls (P : Pg X Y gh nd T nm wr lz dc fd md pr bk M) (hh : Hp X Y dc fd on idn fl rmm ct) (hc : c < dc) (own : ∃ d : Nat, 7 ≤ d ∧ d < dc ∧ (d = c ∨ X 31 (40 * d + c) = 1)) (hv : VTd (Y 73) (Y 55) (Y 56) (X 31) on dc v (10 + c)) (nz : ¬ v = 0) : ∃ x k : Nat, v = nI x ∧ 1 ≤ x ∧ x ≤ 3000 ∧ Lvd (Y 73) on (x - 1) ∧ clF (Y 55) x = nI k ∧ k < dc ∧ X 26 k = 0 ∧ (c = k ∨ X 31 (40 * c + k) = 1) := by
  have bd := P.bd
  have A := P.ab
  obtain ⟨d, d7, d1, ow⟩ := own
  have c7 := AbOK.own A (by omega) d7 d1 hc ow
  rcases hv with w | w | ⟨x, ex, h1, h2, h3⟩
  · omega
  · exact absurd w nz
  · have fc := (FitC.of h3 h2 (TyC.cl hc)).1
    rcases h1 with ⟨a1, a2, a3⟩ | a1
    · unfold rtO at fc
      rw [if_neg (by omega)] at fc
      rcases hh.2.2 (x - 1) (by omega) a3 with ⟨b0, so, _, _, b1, b2, _⟩ | ⟨k, _, b1, b2, b3, _⟩
      · rw [if_pos b0] at fc
        exfalso
        rcases fc with w | w | w | w | w <;> omega
      · rw [if_neg (by rw [b1]; exact nI_m1 (by omega)), b1, nI_cl (by omega)] at fc
        refine ⟨x, k, ex, a1, a2, a3, by rw [clF_2 (by omega)]; exact b1, b2, b3, ?_⟩
        rcases fc with w | w | w | w | w
        · exact Or.inl (by omega)
        · omega
        · rw [show 10 + c - 10 = c by omega, show 10 + k - 10 = k by omega] at w; exact Or.inr w.2.2.2.2
        · omega
        · omega
    · exfalso
      unfold rtO at fc
      rw [if_pos (by omega)] at fc
      rcases fc with w | w | w | w | w
      · omega
      · omega
      · have := AbOK.blt (x := c) (c := x - 4000) A (by omega) (by omega) (by rw [show 40 * c + (x - 4000) = 40 * (10 + c - 10) + (x - 3990 - 10) by omega]; exact w.2.2.2.2)
        omega
      · omega
      · omega
theorem AnyQ.own (P : Pg X Y gh nd T nm wr lz dc fd md pr bk M) (hc : c < dc) (hm : m < md) (an : AnyQ X dc md c x (nI m)) : ∃ d : Nat, X 36 m = nI d ∧ 7 ≤ d ∧ d < dc ∧ (d = c ∨ X 31 (40 * d + c) = 1) := by
  have bd := P.bd
  obtain ⟨d, e1, e2, e3, _⟩ := P.ps.2.2.1 m hm
  refine ⟨d, e1, e2, e3, ?_⟩
  rcases an with an | ⟨m', a1, a2, a3⟩
  · exact absurd an (nI_m1 (by omega))
  · have em : m = m' := (nI_eq (by omega) (by omega)).mp a1
    subst em
    rcases a3 with ⟨ic, a3⟩ | ⟨_, a4, a5⟩
    · obtain ⟨d2, r1, r2, r3, r4⟩ := mth_own P.ab (by omega) (by omega) hm 40 c hc ic a3.symm
      obtain ⟨m2, z1, z2, z3, z4, z5⟩ := (fm_or md 0).resolve_left (by rw [r1]; exact nI_m1 (by omega))
      have : m = m2 := (nI_eq (by omega) (by omega)).mp (r1.symm.trans z1)
      subst this
      have ed : d2 = d := (nI_eq (by omega) (by omega)).mp (z4.symm.trans e1)
      rw [← ed]; exact r4
    · rcases a5 with w | ⟨d3, w1, w2, w3⟩
      · exact Or.inl ((nI_eq (by omega) (by omega)).mp (e1.symm.trans w))
      · have : d = d3 := (nI_eq (by omega) (by omega)).mp (e1.symm.trans w1)
        rw [this]; exact Or.inr w3
theorem Tbl.own (P : Pg X Y gh nd T nm wr lz dc fd md pr bk M) (h : m < md ∧ ¬ X 42 m = -1) : X 36 m = nI (M.2.1 m) ∧ 7 ≤ M.2.1 m ∧ M.2.1 m < dc := by
  obtain ⟨_, _, _, _, h5, h6, h7, _⟩ := P.tbl m h.1 h.2
  exact ⟨h5, h6, h7⟩
theorem VTd.upc (P : Pg X Y gh nd T nm wr lz dc fd md pr bk M) {x d : Nat} (e : v = nI x) (h1 : 1 ≤ x) (h2 : x ≤ 3000 ∧ Lvd (Y 73) on (x - 1)) (h3 : clF (Y 55) x = nI k) (hk : k < dc) (hd : d < dc) (g : d = k ∨ X 31 (40 * d + k) = 1) : VTd (Y 73) (Y 55) (Y 56) (X 31) on dc v (10 + d) := by
  have bd := P.bd
  refine VTd.isC P e h1 (Or.inl h2) h3 hk (FitC.to ?_ (by omega) (by omega))
  rcases g with g | g
  · exact Or.inl (by omega)
  · exact Or.inr (Or.inr (Or.inl ⟨by omega, by omega, by omega, by omega, by rw [show 40 * (10 + d - 10) + (10 + k - 10) = 40 * d + k by omega]; exact g⟩))
theorem Rdy.tgt (h : Rdy X Y gh nd T nm wr lz dc fd md pr bk M rmm mu op tp wn fu rd on idn fl ct p mt ps yy bf wf q rc) (ek : X 9 p = nI kk) (hk : kk = 7 ∨ kk = 14) (hv : (kk = 7 ∧ v = Y 62 (op - 1)) ∨ (kk = 14 ∧ v = Y 68 (tp - q - 1))) (nz : ¬ v = 0) : ∃ m x k nv m2 : Nat, Y 18 p = nI m ∧ m < md ∧ v = nI x ∧ 1 ≤ x ∧ x ≤ 3000 ∧ clF (Y 55) x = nI k ∧ k < dc ∧ X 37 m = nI nv ∧ nv < nm ∧ mthF (X 36) (X 37) (X 29) md (nI nv) 40 k = nI m2 ∧ Cal1 X Y dc md on M p q m2 v ∧ q ≤ 8 := by
  have h' := h
  obtain ⟨c, hc, c7, _, c14⟩ := h.cal ek (by omega)
  obtain ⟨P, hh, ⟨hC, hq, ht⟩, hmu, hpt, ha, hr, hkd, m, em, hm, hqm⟩ := h
  have bd := P.bd
  have hc' := hc
  obtain ⟨m', q', p0, a1, a2, a3, a4, a5, a6, a7, a8, a9, a10, a11⟩ := hc'
  have e1 : m' = m := (nI_eq (by omega) (by omega)).mp (a1.symm.trans em)
  subst e1
  obtain ⟨f, _⟩ := hC.top
  have q8 : q ≤ 100 := by
    obtain ⟨_, q2, _, w2, _, w4, _⟩ := P.par hm
    have : q < 2 ^ 31 := by omega
    have := (nI_eq (a := q2) (b := q) (by omega) this).mp (w2.symm.trans hqm)
    omega
  have vt : VTd (Y 73) (Y 55) (Y 56) (X 31) on dc v (10 + c) := by
    rcases hv with ⟨w1, w2⟩ | ⟨w1, w2⟩
    · rw [w2, c7 w1]; exact f.2.2.1.2
    · rcases hkd with ⟨_, w⟩ | ⟨rc1, _⟩
      · exfalso
        rcases w with w | w
        · have := (nI_eq (by omega) (by omega)).mp (ek.symm.trans w); omega
        · have := (nI_eq (by omega) (by omega)).mp (ek.symm.trans w); omega
      · obtain ⟨t, t1, t2, t3⟩ := hr rc1
        have tl := TyC.le t2 (by omega)
        have : t = 10 + c := (nI_eq (by omega) (by omega)).mp (t1.symm.trans (c14 w1))
        rw [this] at t3
        rw [w2]; exact t3.1
  have own := AnyQ.own P a3 hm a4
  obtain ⟨d0, _, o1, o2, o3⟩ := own
  obtain ⟨x, k, x1, x2, x3, x4, x5, x6, x7, x8⟩ := VTd.cls P hh a3 ⟨d0, o1, o2, o3⟩ vt nz
  obtain ⟨g1, d', m2, g2, g3, g4, g5, g6, g7, g8, g9⟩ := target P.ab P.1.2.2.2.1 (by omega) (by omega) P.ps P.1.2.2.2.2.1 P.1.2.2.2.2.2.1 a3 hm a4 x6 x7 x8
  obtain ⟨_, _, _, _, ⟨nv, n1, n2⟩, _⟩ := P.ps.2.2.1 m' hm
  have ow := Tbl.own P ⟨g3, g8⟩
  have ed : M.2.1 m2 = d' := (nI_eq (by omega) (by omega)).mp (ow.1.symm.trans g4)
  obtain ⟨r1, r2⟩ := Cal1.of P hc em hm hqm q8 ⟨g3, g8⟩ g9 ⟨nz, by rw [ed]; exact VTd.upc P x1 x2 ⟨x3, x4⟩ x5 x6 g6 g7⟩
  exact ⟨m', x, k, nv, m2, em, hm, x1, x2, x3, x5, x6, n1, n2, by rw [← n1, g1]; exact g2, r1, r2⟩
theorem Rdy.sup (h : Rdy X Y gh nd T nm wr lz dc fd md pr bk M rmm mu op tp wn fu rd on idn fl ct p mt ps yy bf wf q rc) (ek : X 9 p = nI 8) : ∃ m : Nat, Y 18 p = nI m ∧ m < md ∧ ¬ Y 62 (op - 1) = 0 ∧ Cal1 X Y dc md on M p q m (Y 62 (op - 1)) ∧ q ≤ 8 := by
  obtain ⟨c, hc, _, c8, _⟩ := h.cal ek (by omega)
  have c8 := c8 rfl
  obtain ⟨P, hh, ⟨hC, hq, ht⟩, hmu, hpt, ha, hr, hkd, m, em, hm, hqm⟩ := h
  have bd := P.bd
  have hc' := hc
  obtain ⟨m', q', p0, a1, a2, a3, a4, a5, a6, a7, a8, a9, a10, a11⟩ := hc'
  have e1 : m' = m := (nI_eq (by omega) (by omega)).mp (a1.symm.trans em)
  subst e1
  obtain ⟨f, _⟩ := hC.top
  have q8 : q ≤ 100 := by
    obtain ⟨_, q2, _, w2, _, w4, _⟩ := P.par hm
    have := (nI_eq (a := q2) (b := q) (by omega) (by omega)).mp (w2.symm.trans hqm)
    omega
  have ow0 := Tbl.own P f.1
  obtain ⟨x, k, x1, x2, x3, x4, x5, x6, x7, x8⟩ := VTd.cls P hh ow0.2.2 ⟨_, ow0.2.1, ow0.2.2, Or.inl rfl⟩ f.2.2.1.2 f.2.2.1.1
  obtain ⟨d0, o0, o1, o2, o3⟩ := AnyQ.own P a3 hm a4
  obtain ⟨_, s', w1, w2, w3⟩ := P.ab.2.2.1 (M.2.1 (mt (op - 1))) (by omega) ow0.2.2
  have es : s' = c := (nI_eq (by omega) (by omega)).mp (w1.symm.trans c8)
  subst es
  have ab : X 31 (40 * s' + M.2.1 (mt (op - 1))) = 1 ∧ X 26 s' = 0 := by
    rcases w3 with w | w
    · exfalso
      rw [w] at o3
      rcases o3 with o3 | o3
      · omega
      · have := (P.ab.2.2.2 d0 0 (by omega) (by omega) o3).2.1; omega
    · exact ⟨w.1, w.2.1⟩
  obtain ⟨g1, d', m2, g2, g3, g4, g5, g6, g7, g8, g9⟩ := target P.ab P.1.2.2.2.1 (by omega) (by omega) P.ps P.1.2.2.2.2.1 P.1.2.2.2.2.2.1 a3 hm a4 a3 ab.2 (Or.inl rfl)
  have mm : m2 = m' := by
    rcases a4 with a4 | ⟨m3, b1, b2, b3⟩
    · exact absurd a4 (nI_m1 (by omega))
    · rcases b3 with ⟨_, b3⟩ | ⟨b3, _⟩
      · exact (nI_eq (by omega) (by omega)).mp (g2.symm.trans b3.symm)
      · rw [b3 ab.2] at g2; exact absurd g2.symm (nI_m1 (by omega))
  subst mm
  have ow := Tbl.own P ⟨g3, g8⟩
  have ed : M.2.1 m2 = d' := (nI_eq (by omega) (by omega)).mp (ow.1.symm.trans g4)
  have dk : d' = k ∨ X 31 (40 * d' + k) = 1 := by
    have sk : s' = k ∨ X 31 (40 * s' + k) = 1 := by
      rcases x8 with w | w
      · rw [← w]; exact Or.inr ab.1
      · exact Or.inr (P.ab.2.1 _ s' k ow0.2.2 a3 x6 ab.1 w)
    rcases g7 with w | w
    · rw [w]; exact sk
    · rcases sk with w' | w'
      · rw [← w']; exact Or.inr w
      · exact Or.inr (P.ab.2.1 s' d' k a3 g6 x6 w w')
  obtain ⟨r1, r2⟩ := Cal1.of P hc em hm hqm q8 ⟨g3, g8⟩ (Or.inl Alk.rfl) ⟨f.2.2.1.1, by rw [ed]; exact VTd.upc P x1 x2 ⟨x3, x4⟩ x5 x6 g6 dk⟩
  exact ⟨m2, em, hm, f.2.2.1.1, r1, r2⟩
theorem Rdy.opens (h : Rdy X Y gh nd T nm wr lz dc fd md pr bk M rmm mu op tp wn fu rd on idn fl ct p mt ps yy bf wf q rc) (hc : Cal1 X Y dc md on M p q m2 v) (o99 : op < 100) {p0 : Nat} (ep : X 40 m2 = nI p0) (p6 : p0 ≤ 6000) (sta : Sta Y Z) (hp : Hp X Z dc fd on idn fl rmm ct) (g : (Z 14 = Y 14 ∧ Z 17 = Y 17 ∧ Z 18 = Y 18 ∧ Z 55 = Y 55 ∧ Z 56 = Y 56 ∧ Z 73 = Y 73)) (g1 : Z 62 = upd (Y 62) op v) (g2 : Z 63 = upd (Y 63) op (nI q)) (g3 : (∀ i : Nat, i < op → Z 64 i = Y 64 i) ∧ Z 64 op = nI (tp - q - rc)) (g4 : Z 65 = upd (Y 65) op (nI p)) (g5 : ArgV (Y 68) (Y 66) (Z 66) (32 * op) (tp - q) q) (g6 : ArgF X (Y 67) (Z 67) (32 * op) p0 q) (g7 : Z 68 = Y 68 ∧ Z 69 = Y 69) (g8 : Z 70 = Y 70 ∧ Z 71 = Y 71 ∧ Z 72 = Y 72) (hf : fu1 + 1 = fu) {mu2 : Nat} : ∃ b : Nat, X 42 m2 = nI b ∧ Nx X Z gh nd T nm wr lz dc fd md pr bk M rmm fu mu2 (op + 1) (tp - q - rc) wn fu1 rd on idn fl ct (-1) (nI b) 1 uc := by
  obtain ⟨P, hh, ⟨hC, hq, ht⟩, hmu, ⟨k, hk1, hk2⟩, ha, hr, hkd, m, em, hm, hqm⟩ := h
  have bd := P.bd
  obtain ⟨c1, c2, c3, c4, p0', c5, c6, c7, c8⟩ := hc
  obtain ⟨m1, mb, m3, m4, m5, m6, m7, m8, m9, m10, m11, m12, p1, mp, mp5, mev⟩ := P.tbl m2 c1.1 c1.2
  have e0 : p0' = p0 := (nI_eq (by omega) (by omega)).mp (c5.symm.trans ep)
  subst e0
  have e1 : p1 = p0' := (nI_eq (by omega) (by omega)).mp (mp.symm.trans ep)
  subst e1
  have rm := Cfg.room P.fs (by omega) P.tbl P.blk hC
  have q8 : q ≤ 8 := by
    have := (nI_eq (a := M.2.2.2.1 m2) (b := q) (by omega) (by omega)).mp (m10.symm.trans c2)
    omega
  have e2 : M.2.2.2.1 m2 = q := (nI_eq (by omega) (by omega)).mp (m10.symm.trans c2)
  have bas := Cfg.base hC
  have etp := (hC.2.2.2.2.2.2.2.2.1 rfl).1
  obtain ⟨f, a8⟩ := hC.top
  rw [if_neg (by decide)] at f
  obtain ⟨o1, o2, o3, o4, o5, o6, _⟩ := hC
  have pgz := P.same sta
  have same : ∀ c' : Nat, c' < op → ∀ m' j' : Nat, ∀ y' : Ps, ∀ e' : En, ∀ b' w' : Nat, Frm X Y dc md on M c' m' j' y' e' b' w' → Frm X Z dc md on M c' m' j' y' e' b' w' := fun c' hc' m' j' y' e' b' w' fr => by
    refine fr.same ⟨g, ⟨by rw [g1]; exact if_neg (by omega), g3.1 c' hc'⟩, fun i _ => by rw [g7.1, g7.2]; exact ⟨rfl, rfl⟩, fun i _ => by rw [g8.1, g8.2.1, g8.2.2]; exact ⟨rfl, rfl, rfl⟩⟩ (fr.vrs.same g.2.2.2 (by rw [g2]; exact if_neg (by omega)) (fun v hv => ⟨g5.2 _ (by omega), g6.2 _ (by omega)⟩))
  refine ⟨M.1 m2, mb, pgz, hp, Or.inr ⟨rfl, M.1 m2, false, upN mt op m2, upN ps (op - 1) p, yyU yy op (rtP M m2), upN bf op (tp - q - rc), upN wf op wn, k + nd, rfl, rfl, ?_, ?_, by omega, Or.inl (by omega)⟩⟩
  · have t1 : upN mt op m2 (op + 1 - 1) = m2 := if_pos (by omega)
    have t2 : yyU yy op (rtP M m2) (op + 1 - 1) = rtP M m2 := if_pos (by omega)
    have t3 : upN bf op (tp - q - rc) (op + 1 - 1) = tp - q - rc := if_pos (by omega)
    have t4 : upN wf op wn (op + 1 - 1) = wn := if_pos (by omega)
    refine ⟨by omega, by omega, ?_, ?_, ?_, fun c' hc' => ?_, ?_, ?_, fun _ => ⟨?_, ?_⟩, fun w => absurd w (by decide)⟩
    · show (if 0 = op then _ else bf 0) = 0
      rw [if_neg (by omega)]; exact o3
    · show (if 0 = op then _ else wf 0) = 0
      rw [if_neg (by omega)]; exact o4
    · rw [g4]; show (if 0 = op then _ else Y 65 0) = -1
      rw [if_neg (by omega)]; exact o5
    · have z1 : upN mt op m2 c' = mt c' := if_neg (by omega)
      have z2 : yyU yy op (rtP M m2) c' = yy c' := if_neg (by omega)
      have z3 : upN bf op (tp - q - rc) c' = bf c' := if_neg (by omega)
      have z4 : upN wf op wn c' = wf c' := if_neg (by omega)
      rw [z1, z2, z3, z4]
      by_cases w : c' = op - 1
      · subst w
        rw [show upN ps (op - 1) p (op - 1) = p from if_pos rfl, show op - 1 + 1 = op by omega, show upN bf op (tp - q - rc) op = tp - q - rc from if_pos rfl, show upN wf op wn op = wn from if_pos rfl, show upN mt op m2 op = m2 from if_pos rfl]
        refine ⟨same _ (by omega) _ _ _ _ _ _ f, by rw [g4]; exact if_pos rfl, etp, a8, ?_, by rw [g.2.1]; exact c3⟩
        rcases hkd with ⟨_, w | w⟩ | ⟨_, w⟩
        · exact Or.inl w
        · exact Or.inr (Or.inl w)
        · exact Or.inr (Or.inr w)
      · obtain ⟨x1, x2, x3, x4, x5, x6⟩ := o6 c' (by omega)
        rw [show upN ps (op - 1) p c' = ps c' from if_neg w, show upN bf op (tp - q - rc) (c' + 1) = bf (c' + 1) from if_neg (by omega), show upN wf op wn (c' + 1) = wf (c' + 1) from if_neg (by omega), show upN mt op m2 (c' + 1) = mt (c' + 1) from if_neg (by omega)]
        exact ⟨same _ (by omega) _ _ _ _ _ _ x1, by rw [g4]; exact (if_neg (by omega)).trans x2, x3, x4, x5, by rw [g.2.1]; exact x6⟩
    · rw [t1, t2, t3, t4, show op + 1 - 1 = op by omega, if_neg (by decide)]
      refine ⟨c1, Pv.rfl, by rw [g1, g.2.2.2.1, g.2.2.2.2.1, g.2.2.2.2.2, show upd (Y 62) op v op = v from if_pos rfl]; exact c4, ⟨?_, ?_, fun i hi => ?_⟩, g3.2, fun i hi => absurd hi (Nat.not_lt_zero _), fun i hi => absurd hi (Nat.not_lt_zero _)⟩
      · rw [g2]; show upd (Y 63) op (nI q) op = nI (M.2.2.2.1 m2)
        rw [e2]; exact if_pos rfl
      · show M.2.2.2.1 m2 ≤ 30; omega
      · have hi' : i < q := by rw [← e2]; exact hi
        obtain ⟨v1, v2⟩ := mev i (by rw [e2]; exact hi')
        obtain ⟨t, x1, x2, x3, x4, x5⟩ := v2.tc (by omega)
        obtain ⟨c', tc, i1, i2, i3, i4, i5⟩ := ha i hi'
        have ft := c8 i c' hi' i2 i1
        rw [i3, ← v1, x1] at ft
        refine ⟨t, x1, x2, by omega, ?_⟩
        rw [g5.1 i hi']
        obtain ⟨b', y', t', w1, w2, w3, w4, w5, w6⟩ := g6.1 i hi'
        rw [w5]
        have et : t' = t := by
          have : ytF X (p1 + i) = nI t' := by unfold ytF; rw [w1, nI_cl (by omega)]; exact w3
          exact (nI_eq (by omega) (by omega)).mp (this.symm.trans (v1.symm.trans x1))
        subst et
        exact SlV.same (Y := Y) (SlV.mk2 (VTd.up2 P.prf i4 x2 i5.1 ft) w6) ⟨g.2.2.2.1, g.2.2.2.2.1, g.2.2.2.2.2⟩
    · rw [t2, t4]; rfl
    · rw [t2, t3]; rfl
    · rw [m4]; decide
  · exact hk1.call P.fs (by omega) o1 m3 (fun c' hc' => if_neg (by omega)) (if_pos rfl)
end M16
