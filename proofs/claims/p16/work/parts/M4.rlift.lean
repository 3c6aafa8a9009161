theorem nI_all (x : Int32) : ∃ k : Nat, x = nI k := ⟨x.toBitVec.toNat, by
  apply Int32.toBitVec_inj.mp
  show x.toBitVec = BitVec.ofNat 32 x.toBitVec.toNat
  rw [BitVec.ofNat_toNat, BitVec.setWidth_eq]⟩
section RTAPE
variable {X Xs Y : Nat → Nat → Int32} {gh : Nat → Nat → Nat} {nd T nm wr lz dc fd md pr bk on idn fl rmm ct k n i g : Nat} {M : MTb} {f : Nat → Int32} {v : Int32} {en : En}
theorem tp_row {s : Nat} : updA X 0 f (11 + s) = X (11 + s) := if_neg (by omega)
theorem cfF_tape : cfF (updA X 0 f) k n = cfF X k n := by
  induction n with
  | zero => rfl
  | succ n ih => exact congrArg (· + (if owF X k n = true then 1 else 0)) ih
theorem cntO_tape : cntO (updA X 0 f) k n = cntO X k n := by
  induction n with
  | zero => rfl
  | succ n ih => exact congrArg (· + (if X 32 n = X 32 k then 1 else 0)) ih
theorem fplF_tape : fplF (updA X 0 f) fd g = fplF X fd g := by
  unfold fplF
  rw [cfF_tape, cntO_tape]; rfl
theorem envL_tape : envL (updA X 0 f) = envL X := funext fun v => funext fun e => funext fun i => by
  induction i with
  | zero => rfl
  | succ i ih =>
    show aft (updA X 0 f) (itr (updA X 0 f 16) v i).toNatClampNeg (envL (updA X 0 f) v e i) = aft X (itr (X 16) v i).toNatClampNeg (envL X v e i)
    rw [ih]; rfl
theorem cenv_tape {e : En} {k1 k2 k3 : Nat} : cenv (updA X 0 f) n e k1 k2 k3 = cenv X n e k1 k2 k3 := by
  unfold cenv
  rw [envL_tape]; rfl
theorem stp_tape {e e1 : En} {c : Nat} : stp (updA X 0 f) n e c e1 ↔ stp X n e c e1 := by
  constructor
  · rintro ⟨kk, s, i, h1, h2, h3, h4, h5, h6, h7, h8⟩
    rw [tp_row] at h7
    rw [cenv_tape] at h8
    exact ⟨kk, s, i, h1, h2, h3, h4, h5, h6, h7, h8⟩
  · rintro ⟨kk, s, i, h1, h2, h3, h4, h5, h6, h7, h8⟩
    refine ⟨kk, s, i, h1, h2, h3, h4, h5, h6, ?_, ?_⟩
    · rw [tp_row]; exact h7
    · rw [cenv_tape]; exact h8
theorem EvP_tape {h : Nat} : ∀ {n : Nat} {e : En} {j : Nat} {e2 : En}, EvP (updA X 0 f) h n e j e2 → EvP X h n e j e2 := by
  induction h with
  | zero => intro n e j e2 z; exact z
  | succ h ih =>
    intro n e j e2 z
    rcases z with z | ⟨c, e1, z1, z2⟩
    · exact Or.inl z
    · exact Or.inr ⟨c, e1, stp_tape.mp z1, ih z2⟩
theorem TyS.tape {ty mn nc : Nat → Int32} {rs : Nat} {e : En} (h : TyS X dc fd md nd ty mn nc k rs n e) : TyS (updA X 0 f) dc fd md nd ty mn nc k rs n e := fun j e1 hv => by
  obtain ⟨z, hz⟩ := hv
  exact h j e1 ⟨z, EvP_tape hz⟩
theorem BdA.tape {ty mn nc : Nat → Int32} (h : BdA X dc fd md nd ty mn nc i) : BdA (updA X 0 f) dc fd md nd ty mn nc i := fun m b hm hb e => by
  obtain ⟨k, rs, q, p0, ev, h1, h2, h3, h4, h5, h6, h7, h8, h9, h10, h11⟩ := h m b hm hb e
  exact ⟨k, rs, q, p0, ev, h1, h2, h3, h4, h5, h6, h7, h8, h9, h10, TyS.tape h11⟩
theorem Tbl.tape (h : Tbl X Y dc fd md nd M) : Tbl (updA X 0 f) (updA Y 0 f) dc fd md nd M := fun m hm hb => by
  obtain ⟨h1, h2, h3, h4, h5, h6, h7, h8, h9, h10, h11, h12, h13⟩ := h m hm hb
  exact ⟨h1, h2, h3, h4, h5, h6, h7, h8, h9, h10, h11, TyS.tape h12, h13⟩
theorem Fs2.tape {K : Nat → Int32} (h : Fs2 K T wr X gh nd) : Fs2 K T wr (updA X 0 f) gh nd := fun i hi => by
  obtain ⟨h1, h2, h3, h4, k, e1, e2, e3, e4⟩ := h i hi
  exact ⟨h1, h2, h3, h4, k, e1, e2, e3, fun s hs1 hs2 => by rw [tp_row]; exact e4 s hs1 hs2⟩
theorem PrgOK.tape (h : PrgOK Xs Y gh nd T nm wr lz dc fd md pr bk) : PrgOK (updA Xs 0 f) (updA Y 0 f) gh nd T nm wr lz dc fd md pr bk := by
  obtain ⟨a1, a2, a3, a4, a5, a6, a7, a8, a9, a10, a11, a12, a13, a14, a15, a16, a17, a18⟩ := h
  refine ⟨⟨Fs2.tape a1.1, a1.2⟩, a2, a3, a4, a5, a6, a7, BdA.tape a8, a9, a10, fun r h1 h2 h3 h4 h5 => ?_, fun d hd => ?_, fun g hg => ?_, fun n j hn hj hp => ?_, a15, a16, a17, a18⟩
  · by_cases e : r = 0
    · subst e; rfl
    · show (if r = 0 then f else Y r) = (if r = 0 then f else Xs r)
      rw [if_neg e, if_neg e]; exact a11 r h1 h2 h3 h4 h5
  · rw [cfF_tape]; exact a12 d hd
  · rw [fplF_tape]; exact a13 g hg
  · obtain ⟨k, s, e1, e2, e3, e4, e5⟩ := hp
    rw [tp_row] at e5
    exact a14 n j hn hj ⟨k, s, e1, e2, e3, e4, e5⟩
theorem Pg.tape (h : Pg Xs Y gh nd T nm wr lz dc fd md pr bk M) : Pg (updA Xs 0 f) (updA Y 0 f) gh nd T nm wr lz dc fd md pr bk M := ⟨h.1.tape, Tbl.tape h.2⟩
theorem Hp.tape (h : Hp Xs Y dc fd on idn fl rmm ct) : Hp (updA Xs 0 f) (updA Y 0 f) dc fd on idn fl rmm ct := by
  obtain ⟨h1, h2, h3⟩ := h
  refine ⟨h1, h2, fun o ho hl => ?_⟩
  rcases h3 o ho hl with z | ⟨k, p, e1, e2, e3, e4, e5, e6, e7⟩
  · exact Or.inl z
  · exact Or.inr ⟨k, p, e1, e2, e3, by rw [cfF_tape]; exact e4, e5, e6, fun g hg hw => by rw [fplF_tape]; exact e7 g hg hw⟩
theorem PrgOK.inp (h : PrgOK Xs Y gh nd T nm wr lz dc fd md pr bk) : PrgOK Xs (updA Y 50 f) gh nd T nm wr lz dc fd md pr bk := by
  obtain ⟨a1, a2, a3, a4, a5, a6, a7, a8, a9, a10, a11, a12, a13, a14, a15, a16, a17, a18⟩ := h
  refine ⟨a1, a2, a3, a4, a5, a6, a7, a8, a9, a10, fun r h1 h2 h3 h4 h5 => ?_, a12, a13, a14, a15, a16, a17, a18⟩
  show (if r = 50 then f else Y r) = Xs r
  rw [if_neg (by omega)]; exact a11 r h1 h2 h3 h4 h5
theorem Pg.inp (h : Pg Xs Y gh nd T nm wr lz dc fd md pr bk M) : Pg Xs (updA Y 50 f) gh nd T nm wr lz dc fd md pr bk M := ⟨h.1.inp, h.2⟩
theorem Hp.inp (h : Hp Xs Y dc fd on idn fl rmm ct) : Hp Xs (updA Y 50 f) dc fd on idn fl rmm ct := h
end RTAPE
def RsB (F : Nat → Int32) (B : Nat → Nat → Int32) (tl ni : Nat) : Prop := (F 2 = nI tl ∧ tl ≤ 5000 ∧ ∀ j : Nat, j < tl → tOk (B 0 j)) ∧ (F 85 = nI ni ∧ ni ≤ 200) ∧ (∃ ou : Nat, F 87 = nI ou ∧ ou ≤ 400) ∧ ∃ lk : Nat, F 66 = nI lk ∧ lk ≤ 60
def RsP (F : Nat → Int32) (B : Nat → Nat → Int32) : Prop := F 82 = 0 ∨ (F 82 = 1 ∧ PrgF F B)
def RsT (F : Nat → Int32) (B : Nat → Nat → Int32) : Prop := ¬ F 116 = 1 ∨ ∃ (Xs : Nat → Nat → Int32) (gh : Nat → Nat → Nat) (nd T nm wr lz dc fd md pr bk : Nat) (M : MTb) (on idn fl c9 ct : Nat), F 44 = nI fd ∧ Pg Xs B gh nd T nm wr lz dc fd md pr bk M ∧ Hp Xs B dc fd on idn fl c9 ct ∧ Thr B on dc (F 119)
/-- the reference between two calls -/
def InR (G : pT) (h0 : Nat) (a : Nat → Nat) (tl ni : Nat) (w : va_W) : Prop := ∃ (F : Nat → Int32) (B : Nat → Nat → Int32), w = mW G h0 a F B ∧ RsB F B tl ni ∧ RsP F B ∧ RsT F B
section RL
variable {F : Nat → Int32} {B : Nat → Nat → Int32} {tl ni : Nat} {x : Int32} {f : Nat → Int32}
theorem RsP.zero (h : RsP F B) : RsP (upd F 0 x) B := h
theorem RsT.zero (h : RsT F B) : RsT (upd F 0 x) B := h
theorem RsP.tape {y : Int32} (h : RsP F B) : RsP (upd (upd F 0 x) 2 y) (updA B 0 f) := by
  rcases h with h | ⟨h, Xs, gh, nd, T, nm, wr, lz, dc, fd, md, pr, bk, us, e1, e2, e3, e4, e5, e6, e7, e8, e9, e10⟩
  · exact Or.inl h
  · exact Or.inr ⟨h, updA Xs 0 f, gh, nd, T, nm, wr, lz, dc, fd, md, pr, bk, us, e1, e2, e3, e4, e5, e6, e7, e8, e9, e10.tape⟩
theorem RsT.tape {y : Int32} (h : RsT F B) : RsT (upd (upd F 0 x) 2 y) (updA B 0 f) := by
  rcases h with h | ⟨Xs, gh, nd, T, nm, wr, lz, dc, fd, md, pr, bk, M, on, idn, fl, c9, ct, e1, e2, e3, e4⟩
  · exact Or.inl h
  · exact Or.inr ⟨updA Xs 0 f, gh, nd, T, nm, wr, lz, dc, fd, md, pr, bk, M, on, idn, fl, c9, ct, e1, e2.tape, e3.tape, e4⟩
theorem RsP.inp {y : Int32} (h : RsP F B) : RsP (upd (upd F 0 x) 85 y) (updA B 50 f) := by
  rcases h with h | ⟨h, Xs, gh, nd, T, nm, wr, lz, dc, fd, md, pr, bk, us, e1, e2, e3, e4, e5, e6, e7, e8, e9, e10⟩
  · exact Or.inl h
  · exact Or.inr ⟨h, Xs, gh, nd, T, nm, wr, lz, dc, fd, md, pr, bk, us, e1, e2, e3, e4, e5, e6, e7, e8, e9, e10.inp⟩
theorem RsT.inp {y : Int32} (h : RsT F B) : RsT (upd (upd F 0 x) 85 y) (updA B 50 f) := by
  rcases h with h | ⟨Xs, gh, nd, T, nm, wr, lz, dc, fd, md, pr, bk, M, on, idn, fl, c9, ct, e1, e2, e3, e4⟩
  · exact Or.inl h
  · exact Or.inr ⟨Xs, gh, nd, T, nm, wr, lz, dc, fd, md, pr, bk, M, on, idn, fl, c9, ct, e1, e2.inp, e3.inp, e4⟩
theorem RsP.get (h : RsP F B) : ∃ (Xs : Nat → Nat → Int32) (gh : Nat → Nat → Nat) (nd T nm wr lz dc fd md pr bk us : Nat) (M : MTb), F 35 = nI dc ∧ F 44 = nI fd ∧ F 49 = nI md ∧ F 59 = nI bk ∧ us ≤ 5040 ∧ (¬ F 82 = 0 → F 82 = 1 ∧ F 9 = nI T ∧ F 14 = nI nm ∧ F 27 = nI nd ∧ Pg Xs B gh nd T nm wr lz dc fd md pr bk M ∧ rNm nm us (B 6) (B 7)) := by
  rcases h with h | ⟨h, Xs, gh, nd, T, nm, wr, lz, dc, fd, md, pr, bk, us, e1, e2, e3, e4, e5, e6, e7, e8, e9, e10⟩
  · obtain ⟨dc, e1⟩ := nI_all (F 35)
    obtain ⟨fd, e2⟩ := nI_all (F 44)
    obtain ⟨md, e3⟩ := nI_all (F 49)
    obtain ⟨bk, e4⟩ := nI_all (F 59)
    exact ⟨B, fun _ _ => 0, 0, 0, 0, 0, 0, dc, fd, md, 0, bk, 0, (fun _ => 0, fun _ => 0, fun _ => 0, fun _ => 0, fun _ _ => 0), e1, e2, e3, e4, by omega, fun z => absurd h z⟩
  · obtain ⟨M, hM⟩ := e10.tbl
    exact ⟨Xs, gh, nd, T, nm, wr, lz, dc, fd, md, pr, bk, us, M, e4, e5, e6, e7, e9, fun _ => ⟨h, e1, e2, e3, hM, e8⟩⟩
theorem isin_no {x lo hi : Int32} (h : ¬ isin x lo hi = 0) : ¬ x < lo ∧ ¬ hi < x := by
  unfold isin at h
  by_cases z : x < lo ∨ hi < x
  · rw [if_pos z] at h; exact absurd rfl h
  · exact ⟨fun q => z (Or.inl q), fun q => z (Or.inr q)⟩
theorem isin_nat {x : Int32} {lo hi : Nat} (hl : lo < 2 ^ 30) (hh : hi < 2 ^ 30) (h : ¬ isin x (nI lo) (nI hi) = 0) : ∃ k : Nat, x = nI k ∧ lo ≤ k ∧ k ≤ hi := by
  obtain ⟨h1, h2⟩ := isin_no h
  rw [Int32.lt_iff_toInt_lt, nI_toInt (by omega)] at h1 h2
  refine ⟨x.toInt.toNat, ?_, by omega, by omega⟩
  apply Int32.toInt_inj.mp
  rw [nI_toInt (by omega)]
  omega
end RL
theorem bkT_le {x : Int32} {t t1 : Nat} (h : t ≤ 5000) (h1 : t1 ≤ 5000) (e : nI t1 = bkT x t) : t1 ≤ t := by
  unfold bkT at e
  by_cases z : x < 0 ∨ nI t < x
  · rw [if_pos z] at e
    have := (nI_eq (a := t1) (b := t) (by omega) (by omega)).mp e
    omega
  · rw [if_neg z] at e
    have z1 : ¬ x.toInt < (0 : Int32).toInt := fun q => z (Or.inl (Int32.lt_iff_toInt_lt.mpr q))
    have z2 : ¬ (nI t).toInt < x.toInt := fun q => z (Or.inr (Int32.lt_iff_toInt_lt.mpr q))
    rw [nI_toInt (by omega)] at z2
    have z0 : (0 : Int32).toInt = 0 := by decide
    have e2 := congrArg Int32.toInt e
    rw [Int32.toInt_sub, nI_toInt (by omega), nI_toInt (by omega), Int.bmod_eq_of_le (by omega) (by omega)] at e2
    omega
set_option maxRecDepth 100000 in
theorem M_type (l : Launch) (G : pT) (h0 : Nat) (a : Nat → Nat) (tl ni : Nat) (w : va_W) (x : Int32) (y : Int32) (h : InR G h0 a tl ni w) : PM l G pX0 yX12_type cX12_type 7 (some .int) ({ frames := 40, cells := 0, slots := 0, locals := 1000 }) [.ref h0, .int x, .int y] w (fun (v : Option Value) (u : va_W) => ∃ r : Int32, v = some (.int r) ∧ InR G h0 a tl ni u) (fun u => u) := by
  obtain ⟨F, B, rfl, hb, hp, ht⟩ := h
  obtain ⟨Xs, gh, nd, T, nm, wr, lz, dc, fd, md, pr, bk, us, M, e35, e44, e49, e59, hus, hg⟩ := hp.get
  have h9 := R_type l G h0 a F B Xs gh nd T nm wr lz dc fd md pr bk M (F 82) x y (fun z => (hg z).2.2.2.2.1)
  rw [upd_at (F := F) (k := 35) (v := nI dc) e35, upd_at (F := F) (k := 44) (v := nI fd) e44, upd_at (F := F) (k := 49) (v := nI md) e49, upd_at (F := F) (k := 59) (v := nI bk) e59, upd_at (F := F) (k := 82) (v := F 82) rfl, upd_at (F := upd F 0 0) (k := 35) (v := nI dc) e35, upd_at (F := upd F 0 0) (k := 44) (v := nI fd) e44, upd_at (F := upd F 0 0) (k := 49) (v := nI md) e49, upd_at (F := upd F 0 0) (k := 59) (v := nI bk) e59, upd_at (F := upd F 0 0) (k := 82) (v := F 82) rfl] at h9
  refine pm_up h9 (by refine ⟨?_, ?_, ?_, ?_⟩ <;> decide) ⟨rfl, rfl⟩ (fun v u hu => ?_)
  exact ⟨mW G h0 a (upd F 0 0) B, ⟨u, hu, upd F 0 0, B, rfl, hb, hp.zero, ht.zero⟩, rfl⟩
set_option maxRecDepth 100000 in
theorem M_above (l : Launch) (G : pT) (h0 : Nat) (a : Nat → Nat) (tl ni : Nat) (w : va_W) (x : Int32) (y : Int32) (h : InR G h0 a tl ni w) : PM l G pX0 yX12_above cX12_above 3 (some .int) ({ frames := 40, cells := 0, slots := 0, locals := 1000 }) [.ref h0, .int x, .int y] w (fun (v : Option Value) (u : va_W) => ∃ r : Int32, v = some (.int r) ∧ InR G h0 a tl ni u) (fun u => u) := by
  obtain ⟨F, B, rfl, hb, hp, ht⟩ := h
  obtain ⟨Xs, gh, nd, T, nm, wr, lz, dc, fd, md, pr, bk, us, M, e35, e44, e49, e59, hus, hg⟩ := hp.get
  have h9 := R_above l G h0 a F B Xs gh nd T nm wr lz dc fd md pr bk M (F 82) x y (fun z => (hg z).2.2.2.2.1)
  rw [upd_at (F := F) (k := 35) (v := nI dc) e35, upd_at (F := F) (k := 44) (v := nI fd) e44, upd_at (F := F) (k := 49) (v := nI md) e49, upd_at (F := F) (k := 59) (v := nI bk) e59, upd_at (F := F) (k := 82) (v := F 82) rfl, upd_at (F := upd F 0 0) (k := 35) (v := nI dc) e35, upd_at (F := upd F 0 0) (k := 44) (v := nI fd) e44, upd_at (F := upd F 0 0) (k := 49) (v := nI md) e49, upd_at (F := upd F 0 0) (k := 59) (v := nI bk) e59, upd_at (F := upd F 0 0) (k := 82) (v := F 82) rfl] at h9
  refine pm_up h9 (by refine ⟨?_, ?_, ?_, ?_⟩ <;> decide) ⟨rfl, rfl⟩ (fun v u hu => ?_)
  exact ⟨mW G h0 a (upd F 0 0) B, ⟨u, hu, upd F 0 0, B, rfl, hb, hp.zero, ht.zero⟩, rfl⟩
set_option maxRecDepth 100000 in
theorem M_called (l : Launch) (G : pT) (h0 : Nat) (a : Nat → Nat) (tl ni : Nat) (w : va_W) (x : Int32) (y : Int32) (h : InR G h0 a tl ni w) : PM l G pX0 yX12_called cX12_called 5 (some .int) ({ frames := 40, cells := 0, slots := 0, locals := 1000 }) [.ref h0, .int x, .int y] w (fun (v : Option Value) (u : va_W) => ∃ r : Int32, v = some (.int r) ∧ InR G h0 a tl ni u) (fun u => u) := by
  obtain ⟨F, B, rfl, hb, hp, ht⟩ := h
  obtain ⟨Xs, gh, nd, T, nm, wr, lz, dc, fd, md, pr, bk, us, M, e35, e44, e49, e59, hus, hg⟩ := hp.get
  have h9 := R_called l G h0 a F B Xs gh nd T nm wr lz dc fd md pr bk M (F 82) x y (fun z => (hg z).2.2.2.2.1)
  rw [upd_at (F := F) (k := 35) (v := nI dc) e35, upd_at (F := F) (k := 44) (v := nI fd) e44, upd_at (F := F) (k := 49) (v := nI md) e49, upd_at (F := F) (k := 59) (v := nI bk) e59, upd_at (F := F) (k := 82) (v := F 82) rfl, upd_at (F := upd F 0 0) (k := 35) (v := nI dc) e35, upd_at (F := upd F 0 0) (k := 44) (v := nI fd) e44, upd_at (F := upd F 0 0) (k := 49) (v := nI md) e49, upd_at (F := upd F 0 0) (k := 59) (v := nI bk) e59, upd_at (F := upd F 0 0) (k := 82) (v := F 82) rfl] at h9
  refine pm_up h9 (by refine ⟨?_, ?_, ?_, ?_⟩ <;> decide) ⟨rfl, rfl⟩ (fun v u hu => ?_)
  exact ⟨mW G h0 a (upd F 0 0) B, ⟨u, hu, upd F 0 0, B, rfl, hb, hp.zero, ht.zero⟩, rfl⟩
set_option maxRecDepth 100000 in
theorem M_letter (l : Launch) (G : pT) (h0 : Nat) (a : Nat → Nat) (tl ni : Nat) (w : va_W) (x : Int32) (y : Int32) (h : InR G h0 a tl ni w) : PM l G pX0 yX12_letter cX12_letter 3 (some .int) ({ frames := 40, cells := 0, slots := 0, locals := 1000 }) [.ref h0, .int x, .int y] w (fun (v : Option Value) (u : va_W) => ∃ r : Int32, v = some (.int r) ∧ InR G h0 a tl ni u) (fun u => u) := by
  obtain ⟨F, B, rfl, hb, hp, ht⟩ := h
  obtain ⟨Xs, gh, nd, T, nm, wr, lz, dc, fd, md, pr, bk, us, M, e35, e44, e49, e59, hus, hg⟩ := hp.get
  have h9 := R_letter l G h0 a F B Xs gh nd T nm wr lz dc fd md pr bk M (F 82) x y us (fun z => (hg z).2.2.2.2.1) (fun z => (hg z).2.2.2.2.2) hus
  rw [upd_at (F := F) (k := 35) (v := nI dc) e35, upd_at (F := F) (k := 44) (v := nI fd) e44, upd_at (F := F) (k := 49) (v := nI md) e49, upd_at (F := F) (k := 59) (v := nI bk) e59, upd_at (F := F) (k := 82) (v := F 82) rfl, upd_at (F := upd F 0 0) (k := 35) (v := nI dc) e35, upd_at (F := upd F 0 0) (k := 44) (v := nI fd) e44, upd_at (F := upd F 0 0) (k := 49) (v := nI md) e49, upd_at (F := upd F 0 0) (k := 59) (v := nI bk) e59, upd_at (F := upd F 0 0) (k := 82) (v := F 82) rfl] at h9
  refine pm_up h9 (by refine ⟨?_, ?_, ?_, ?_⟩ <;> decide) ⟨rfl, rfl⟩ (fun v u hu => ?_)
  exact ⟨mW G h0 a (upd F 0 0) B, ⟨u, hu, upd F 0 0, B, rfl, hb, hp.zero, ht.zero⟩, rfl⟩
set_option maxRecDepth 100000 in
theorem M_count (l : Launch) (G : pT) (h0 : Nat) (a : Nat → Nat) (tl ni : Nat) (w : va_W) (x : Int32) (h : InR G h0 a tl ni w) : PM l G pX0 yX12_count cX12_count 2 (some .int) ({ frames := 40, cells := 0, slots := 0, locals := 1000 }) [.ref h0, .int x] w (fun (v : Option Value) (u : va_W) => ∃ r : Int32, v = some (.int r) ∧ InR G h0 a tl ni u) (fun u => u) := by
  obtain ⟨F, B, rfl, hb, hp, ht⟩ := h
  have h9 := R_count l G h0 a F B x
  refine pm_up h9 (by refine ⟨?_, ?_, ?_, ?_⟩ <;> decide) ⟨rfl, rfl⟩ (fun v u hu => ?_)
  exact ⟨mW G h0 a (upd F 0 0) B, ⟨u, hu, upd F 0 0, B, rfl, hb, hp.zero, ht.zero⟩, rfl⟩
set_option maxRecDepth 100000 in
theorem M_result (l : Launch) (G : pT) (h0 : Nat) (a : Nat → Nat) (tl ni : Nat) (w : va_W) (h : InR G h0 a tl ni w) : PM l G pX0 yX12_result cX12_result 1 (some .int) ({ frames := 40, cells := 0, slots := 0, locals := 1000 }) [.ref h0] w (fun (v : Option Value) (u : va_W) => ∃ r : Int32, v = some (.int r) ∧ InR G h0 a tl ni u) (fun u => u) := by
  obtain ⟨F, B, rfl, hb, hp, ht⟩ := h
  have h9 := R_result l G h0 a F B
  refine pm_up h9 (by refine ⟨?_, ?_, ?_, ?_⟩ <;> decide) ⟨rfl, rfl⟩ (fun v u hu => ?_)
  exact ⟨mW G h0 a (upd F 0 0) B, ⟨u, hu, upd F 0 0, B, rfl, hb, hp.zero, ht.zero⟩, rfl⟩
set_option maxRecDepth 100000 in
theorem M_output (l : Launch) (G : pT) (h0 : Nat) (a : Nat → Nat) (tl ni : Nat) (w : va_W) (x : Int32) (h : InR G h0 a tl ni w) : PM l G pX0 yX12_output cX12_output 2 (some .int) ({ frames := 40, cells := 0, slots := 0, locals := 1000 }) [.ref h0, .int x] w (fun (v : Option Value) (u : va_W) => ∃ r : Int32, v = some (.int r) ∧ InR G h0 a tl ni u) (fun u => u) := by
  obtain ⟨F, B, rfl, hb, hp, ht⟩ := h
  obtain ⟨ou, eou, hou⟩ := hb.2.2.1
  have h9 := R_output l G h0 a F B x ou hou
  rw [upd_at (F := F) (k := 87) (v := nI ou) eou, upd_at (F := upd F 0 0) (k := 87) (v := nI ou) eou] at h9
  refine pm_up h9 (by refine ⟨?_, ?_, ?_, ?_⟩ <;> decide) ⟨rfl, rfl⟩ (fun v u hu => ?_)
  exact ⟨mW G h0 a (upd F 0 0) B, ⟨u, hu, upd F 0 0, B, rfl, hb, hp.zero, ht.zero⟩, rfl⟩
set_option maxRecDepth 100000 in
theorem M_refusals (l : Launch) (G : pT) (h0 : Nat) (a : Nat → Nat) (tl ni : Nat) (w : va_W) (h : InR G h0 a tl ni w) : PM l G pX0 yX12_refusals cX12_refusals 1 (some .int) ({ frames := 40, cells := 0, slots := 0, locals := 1000 }) [.ref h0] w (fun (v : Option Value) (u : va_W) => v = some (.int 0) ∧ InR G h0 a tl ni u) (fun u => u) := by
  obtain ⟨F, B, rfl, hb, hp, ht⟩ := h
  refine pm_up (R_refusals l G h0 a F B) (by refine ⟨?_, ?_, ?_, ?_⟩ <;> decide) ⟨rfl, rfl⟩ (fun v u hu => ?_)
  exact ⟨mW G h0 a (upd F 0 0) B, ⟨hu, upd F 0 0, B, rfl, hb, hp.zero, ht.zero⟩, rfl⟩
set_option maxRecDepth 100000 in
theorem M_forget (l : Launch) (G : pT) (h0 : Nat) (a : Nat → Nat) (tl ni : Nat) (w : va_W) (h : InR G h0 a tl ni w) : PM l G pX0 yX12_forget cX12_forget 1 none ({ frames := 40, cells := 0, slots := 0, locals := 1000 }) [.ref h0] w (fun (v : Option Value) (u : va_W) => v = none ∧ InR G h0 a tl 0 u) (fun u => u) := by
  obtain ⟨F, B, rfl, hb, hp, ht⟩ := h
  refine pm_up (R_forget l G h0 a F B) (by refine ⟨?_, ?_, ?_, ?_⟩ <;> decide) ⟨rfl, rfl⟩ (fun v u hu => ?_)
  exact ⟨mW G h0 a (upd (upd F 0 0) 85 0) B, ⟨hu, upd (upd F 0 0) 85 0, B, rfl, ⟨hb.1, ⟨rfl, Nat.zero_le _⟩, hb.2.2⟩, hp, ht⟩, rfl⟩
set_option maxRecDepth 100000 in
theorem M_feed (l : Launch) (G : pT) (h0 : Nat) (a : Nat → Nat) (tl ni : Nat) (w : va_W) (x1 : Int32) (x2 : Int32) (x3 : Int32) (x4 : Int32) (x5 : Int32) (h : InR G h0 a tl ni w) : PM l G pX0 yX12_feed cX12_feed 8 (some .int) ({ frames := 40, cells := 0, slots := 0, locals := 1000 }) [.ref h0, .int x1, .int x2, .int x3, .int x4, .int x5] w (fun (v : Option Value) (u : va_W) => ∃ t1 : Nat, v = some (.int (fdR tl)) ∧ nI t1 = fdT tl ∧ t1 ≤ 5000 ∧ InR G h0 a t1 ni u) (fun u => u) := by
  obtain ⟨F, B, rfl, hb, hp, ht⟩ := h
  have h9 := R_feed l G h0 a F B x1 x2 x3 x4 x5 tl hb.1.2.1 hb.1.2.2
  rw [upd_at (F := F) (k := 2) (v := nI tl) hb.1.1] at h9
  refine pm_up h9 (by refine ⟨?_, ?_, ?_, ?_⟩ <;> decide) ⟨rfl, rfl⟩ (fun v u hu => ?_)
  obtain ⟨t1, f0⟩ := u
  obtain ⟨hv, q1, q2, q3⟩ := hu
  exact ⟨mW G h0 a (upd (upd F 0 0) 2 (nI t1)) (updA B 0 f0), ⟨t1, hv, q2, q1, upd (upd F 0 0) 2 (nI t1), updA B 0 f0, rfl, ⟨⟨rfl, q1, q3⟩, hb.2⟩, hp.tape, ht.tape⟩, rfl⟩
set_option maxRecDepth 100000 in
theorem M_back (l : Launch) (G : pT) (h0 : Nat) (a : Nat → Nat) (tl ni : Nat) (w : va_W) (x : Int32) (h : InR G h0 a tl ni w) : PM l G pX0 yX12_back cX12_back 2 (some .int) ({ frames := 40, cells := 0, slots := 0, locals := 1000 }) [.ref h0, .int x] w (fun (v : Option Value) (u : va_W) => ∃ t1 : Nat, v = some (.int (bkR x tl)) ∧ nI t1 = bkT x tl ∧ t1 ≤ 5000 ∧ InR G h0 a t1 ni u) (fun u => u) := by
  obtain ⟨F, B, rfl, hb, hp, ht⟩ := h
  have h9 := R_back l G h0 a F B x tl hb.1.2.1
  rw [upd_at (F := F) (k := 2) (v := nI tl) hb.1.1] at h9
  refine pm_up h9 (by refine ⟨?_, ?_, ?_, ?_⟩ <;> decide) ⟨rfl, rfl⟩ (fun v u hu => ?_)
  obtain ⟨hv, q1, q2⟩ := hu
  exact ⟨mW G h0 a (upd (upd F 0 0) 2 (nI u)) B, ⟨u, hv, q2, q1, upd (upd F 0 0) 2 (nI u), B, rfl, ⟨⟨rfl, q1, fun j hj => hb.1.2.2 j (Nat.lt_of_lt_of_le hj (bkT_le hb.1.2.1 q1 q2))⟩, hb.2⟩, hp, ht⟩, rfl⟩
set_option maxRecDepth 100000 in
theorem M_input (l : Launch) (G : pT) (h0 : Nat) (a : Nat → Nat) (tl ni : Nat) (w : va_W) (x : Int32) (h : InR G h0 a tl ni w) : PM l G pX0 yX12_input cX12_input 2 (some .int) ({ frames := 40, cells := 0, slots := 0, locals := 1000 }) [.ref h0, .int x] w (fun (v : Option Value) (u : va_W) => ∃ (n1 : Nat) (r : Int32), v = some (.int r) ∧ InQ ni n1 r ∧ InR G h0 a tl n1 u) (fun u => u) := by
  obtain ⟨F, B, rfl, hb, hp, ht⟩ := h
  have h9 := R_input l G h0 a F B x ni hb.2.1.2
  rw [upd_at (F := F) (k := 85) (v := nI ni) hb.2.1.1] at h9
  refine pm_up h9 (by refine ⟨?_, ?_, ?_, ?_⟩ <;> decide) ⟨rfl, rfl⟩ (fun v u hu => ?_)
  obtain ⟨n1, ip, r⟩ := u
  obtain ⟨hv, q1, q2⟩ := hu
  exact ⟨mW G h0 a (upd (upd F 0 0) 85 (nI n1)) (updA B 50 ip), ⟨n1, r, hv, q2, upd (upd F 0 0) 85 (nI n1), updA B 50 ip, rfl, ⟨hb.1, ⟨rfl, q1⟩, hb.2.2⟩, hp.inp, ht.inp⟩, rfl⟩
set_option maxRecDepth 100000 in
theorem M_read (l : Launch) (G : pT) (h0 : Nat) (a : Nat → Nat) (tl ni : Nat) (w : va_W) (h : InR G h0 a tl ni w) : PM l G pX0 yX12_read cX12_read 3 (some .int) ({ frames := 1510, cells := 0, slots := 0, locals := 64200 }) [.ref h0] w (fun (v : Option Value) (u : va_W) => ∃ r : Int32, v = some (.int r) ∧ InR G h0 a 0 ni u) (fun u => u) := by
  obtain ⟨F, B, rfl, hb, hp, ht⟩ := h
  obtain ⟨lk, elk, hlk⟩ := hb.2.2.2
  obtain ⟨mf, emf⟩ := nI_all (F 67)
  obtain ⟨mm, emm⟩ := nI_all (F 68)
  have h9 := R_read l G h0 a F B tl lk mf mm hb.1.2.1 hlk hb.1.2.2
  rw [upd_at (F := F) (k := 2) (v := nI tl) hb.1.1, upd_at (F := F) (k := 66) (v := nI lk) elk, upd_at (F := F) (k := 67) (v := nI mf) emf, upd_at (F := F) (k := 68) (v := nI mm) emm] at h9
  refine pm_up h9 ⟨Nat.le_refl _, Nat.le_refl _, Nat.le_refl _, Nat.le_refl _⟩ ⟨rfl, rfl⟩ (fun v u hu => ?_)
  obtain ⟨F1, X1, r⟩ := u
  obtain ⟨hv, qa, qb, qc, qd, qe, qf, qg⟩ := hu
  exact ⟨mW G h0 a F1 X1, ⟨r, hv, F1, X1, rfl, ⟨⟨qb, Nat.zero_le _, fun j hj => absurd hj (Nat.not_lt_zero j)⟩, ⟨Eq.trans qc hb.2.1.1, hb.2.1.2⟩, ⟨0, qe, Nat.zero_le _⟩, lk, qa, hlk⟩, qg, Or.inl (fun z => absurd (Eq.trans (Eq.symm qd) z) (by decide))⟩, rfl⟩
set_option maxRecDepth 100000 in
theorem M_thrown (l : Launch) (G : pT) (h0 : Nat) (a : Nat → Nat) (tl ni : Nat) (w : va_W) (x : Int32) (h : InR G h0 a tl ni w) : PM l G pX0 yX12_thrown cX12_thrown 6 (some .int) ({ frames := 40, cells := 0, slots := 0, locals := 1000 }) [.ref h0, .int x] w (fun (v : Option Value) (u : va_W) => ∃ r : Int32, v = some (.int r) ∧ InR G h0 a tl ni u) (fun u => u) := by
  obtain ⟨F, B, rfl, hb, hp, ht⟩ := h
  have hs : ∃ (Xs : Nat → Nat → Int32) (gh : Nat → Nat → Nat) (nd T nm wr lz dc fd md pr bk : Nat) (M : MTb) (on idn fl c9 ct : Nat), F 44 = nI fd ∧ (F 116 = 1 → Pg Xs B gh nd T nm wr lz dc fd md pr bk M ∧ Hp Xs B dc fd on idn fl c9 ct ∧ Thr B on dc (F 119)) := by
    rcases ht with h | ⟨Xs, gh, nd, T, nm, wr, lz, dc, fd, md, pr, bk, M, on, idn, fl, c9, ct, e1, e2, e3, e4⟩
    · obtain ⟨fd, e2⟩ := nI_all (F 44)
      exact ⟨B, fun _ _ => 0, 0, 0, 0, 0, 0, 0, fd, 0, 0, 0, (fun _ => 0, fun _ => 0, fun _ => 0, fun _ => 0, fun _ _ => 0), 0, 0, 0, 0, 0, e2, fun z => absurd z h⟩
    · exact ⟨Xs, gh, nd, T, nm, wr, lz, dc, fd, md, pr, bk, M, on, idn, fl, c9, ct, e1, fun _ => ⟨e2, e3, e4⟩⟩
  obtain ⟨Xs, gh, nd, T, nm, wr, lz, dc, fd, md, pr, bk, M, on, idn, fl, c9, ct, e44, hg⟩ := hs
  have h9 := R_thrownW l G h0 a F B Xs gh nd T nm wr lz dc fd md pr bk M on idn fl c9 ct (F 116) (F 119) x hg
  rw [upd_at (F := F) (k := 44) (v := nI fd) e44, upd_at (F := F) (k := 116) (v := F 116) rfl, upd_at (F := F) (k := 119) (v := F 119) rfl, upd_at (F := upd F 0 0) (k := 44) (v := nI fd) e44, upd_at (F := upd F 0 0) (k := 116) (v := F 116) rfl, upd_at (F := upd F 0 0) (k := 119) (v := F 119) rfl] at h9
  refine pm_up h9 (by refine ⟨?_, ?_, ?_, ?_⟩ <;> decide) ⟨rfl, rfl⟩ (fun v u hu => ?_)
  exact ⟨mW G h0 a (upd F 0 0) B, ⟨u, hu, upd F 0 0, B, rfl, hb, hp.zero, ht.zero⟩, rfl⟩
set_option maxRecDepth 100000 in
theorem M_run (l : Launch) (G : pT) (h0 : Nat) (a : Nat → Nat) (tl ni : Nat) (w : va_W) (x : Int32) (y : Int32) (h : InR G h0 a tl ni w) : PM l G pX0 yX12_run cX12_run 5 (some .int) ({ frames := 40, cells := 0, slots := 0, locals := 1000 }) [.ref h0, .int x, .int y] w (fun (v : Option Value) (u : va_W) => ∃ r : Int32, v = some (.int r) ∧ InR G h0 a tl ni u) (fun u => u) := by
  obtain ⟨F, B, rfl, hb, hp, ht⟩ := h
  by_cases hz : isin x 0 20000 = 0 ∨ isin y 10 3000 = 0 ∨ F 82 = 0
  · have h9 := R_run0 l G h0 a F B x y (F 82) hz
    rw [upd_at (F := F) (k := 82) (v := F 82) rfl] at h9
    refine pm_up h9 (by refine ⟨?_, ?_, ?_, ?_⟩ <;> decide) ⟨rfl, rfl⟩ (fun v u hu => ?_)
    refine ⟨mW G h0 a (upd F 0 u) B, ⟨0, hu, upd F 0 u, B, rfl, hb, hp.zero, ht.zero⟩, ?_⟩
    show mW G h0 a (upd F 0 u) B = mW G h0 a (upd (upd F 0 u) 82 (F 82)) B
    rw [upd_at (F := upd F 0 u) (k := 82) (v := F 82) rfl]
  · obtain ⟨f9, rfl, -, hf9⟩ := isin_nat (lo := 0) (hi := 20000) (by decide) (by decide) (fun q => hz (Or.inl q))
    obtain ⟨c9, rfl, hc9⟩ := isin_nat (lo := 10) (hi := 3000) (by decide) (by decide) (fun q => hz (Or.inr (Or.inl q)))
    obtain ⟨Xs, gh, nd, T, nm, wr, lz, dc, fd, md, pr, bk, us, M, e35, e44, e49, e59, hus, hg⟩ := hp.get
    obtain ⟨e82, e9, e14, e27, hPg, hnm⟩ := hg (fun q => hz (Or.inr (Or.inr q)))
    have h9 := R_run1 l G h0 a F B Xs gh nd T nm wr lz dc fd md pr bk M f9 c9 ni hPg hf9 hc9 hb.2.1.2
    rw [upd_at (F := F) (k := 35) (v := nI dc) e35, upd_at (F := F) (k := 49) (v := nI md) e49, upd_at (F := F) (k := 82) (v := 1) e82, upd_at (F := F) (k := 85) (v := nI ni) hb.2.1.1] at h9
    refine pm_up h9 (by refine ⟨?_, ?_, ?_, ?_⟩ <;> decide) ⟨rfl, rfl⟩ (fun v u hu => ?_)
    obtain ⟨o_op1, o_tp1, o_wn1, o_fu1, o_rd1, o_ou1, o_on1, o_idn1, o_fl1, o_ct1, o_en1, o_nw1, o_is1, o_rs1, o_uc1, o_td1, o_ma1, o_mc1, o_ca1, o_mo1, o_X1⟩ := u
    obtain ⟨hv, q1, q2, q3, q4⟩ := hu
    have q1 : Pg Xs o_X1 gh nd T nm wr lz dc fd md pr bk M := q1
    have r0 : o_X1 0 = B 0 := Eq.trans (q1.row 0 (by decide) (by decide) (by decide) (by decide) (by decide)) (Eq.symm (hPg.row 0 (by decide) (by decide) (by decide) (by decide) (by decide)))
    have r6 : o_X1 6 = B 6 := Eq.trans (q1.row 6 (by decide) (by decide) (by decide) (by decide) (by decide)) (Eq.symm (hPg.row 6 (by decide) (by decide) (by decide) (by decide) (by decide)))
    have r7 : o_X1 7 = B 7 := Eq.trans (q1.row 7 (by decide) (by decide) (by decide) (by decide) (by decide)) (Eq.symm (hPg.row 7 (by decide) (by decide) (by decide) (by decide) (by decide)))
    have ho : o_ou1 ≤ 400 := q4.elim (fun z => z.1) id
    refine ⟨mW G h0 a (upd (upd (upd (upd (upd (upd (upd (upd (upd (upd (upd (upd (upd (upd (upd (upd (upd (upd (upd (upd (upd (upd (upd (upd (upd (upd (upd F 0 0) 35 (nI dc)) 49 (nI md)) 82 1) 83 1) 85 (nI ni)) 87 (nI o_ou1)) 97 (nI o_ct1)) 98 (nI o_fl1)) 99 (nI c9)) 101 o_td1) 102 (nI o_op1)) 111 (nI o_tp1)) 115 (nI o_wn1)) 116 o_en1) 117 (nI o_fu1)) 118 o_rs1) 119 o_uc1) 120 (nI o_rd1)) 121 o_ma1) 122 o_mc1) 123 o_ca1) 124 o_mo1) 125 o_nw1) 126 o_is1) 128 (nI o_on1)) 130 (nI o_idn1)) o_X1, ⟨o_en1, hv, (upd (upd (upd (upd (upd (upd (upd (upd (upd (upd (upd (upd (upd (upd (upd (upd (upd (upd (upd (upd (upd (upd (upd (upd (upd (upd (upd F 0 0) 35 (nI dc)) 49 (nI md)) 82 1) 83 1) 85 (nI ni)) 87 (nI o_ou1)) 97 (nI o_ct1)) 98 (nI o_fl1)) 99 (nI c9)) 101 o_td1) 102 (nI o_op1)) 111 (nI o_tp1)) 115 (nI o_wn1)) 116 o_en1) 117 (nI o_fu1)) 118 o_rs1) 119 o_uc1) 120 (nI o_rd1)) 121 o_ma1) 122 o_mc1) 123 o_ca1) 124 o_mo1) 125 o_nw1) 126 o_is1) 128 (nI o_on1)) 130 (nI o_idn1)), o_X1, rfl, ⟨⟨hb.1.1, hb.1.2.1, ?_⟩, ⟨rfl, hb.2.1.2⟩, ⟨o_ou1, rfl, ho⟩, hb.2.2.2⟩, Or.inr ⟨rfl, Xs, gh, nd, T, nm, wr, lz, dc, fd, md, pr, bk, us, e9, e14, e27, rfl, e44, rfl, e59, ?_, hus, q1.1⟩, ?_⟩, rfl⟩
    · rw [r0]; exact hb.1.2.2
    · rw [r6, r7]; exact hnm
    · by_cases e : o_en1 = 1
      · exact Or.inr ⟨Xs, gh, nd, T, nm, wr, lz, dc, fd, md, pr, bk, M, o_on1, o_idn1, o_fl1, c9, o_ct1, e44, q1, q2, q3 e⟩
      · exact Or.inl e
