def Slt (X Y : Nat → Nat → Int32) (on dc : Nat) (v f : Int32) (t : Nat) : Prop := VTd (Y 73) (Y 55) (Y 56) (X 31) on dc v t ∧ ∃ b : Nat, f = nI b ∧ b ≤ 1 ∧ (1 ≤ b → 3 ≤ t) ∧ (3 ≤ t → b = 1 ∨ v = 0)
def SlV (X Y : Nat → Nat → Int32) (on dc : Nat) (v f : Int32) (t : Nat) : Prop := Slt X Y on dc v f t ∧ (3 ≤ t → ¬ f = 0)
def Thr (Y : Nat → Nat → Int32) (on dc : Nat) (v : Int32) : Prop := ∃ x k : Nat, v = nI x ∧ 1 ≤ x ∧ ((x ≤ 3000 ∧ Lvd (Y 73) on (x - 1)) ∨ (4001 ≤ x ∧ x ≤ 4006)) ∧ clF (Y 55) x = nI k ∧ k < dc
def Pnd (X Y : Nat → Nat → Int32) (on dc : Nat) (w : List Nat) (bs : Nat) : Prop := ∀ i : Nat, i < w.length → ∃ n t : Nat, w[i]? = some n ∧ Y 17 n = nI t ∧ TyC dc t ∧ ¬ t = 0 ∧ Slt X Y on dc (Y 68 (bs + i)) (Y 69 (bs + i)) t
def Wts (X Y : Nat → Nat → Int32) (on dc rs : Nat) (w : List Nat) (wb : Nat) : Prop := ∀ i : Nat, i < w.length → ∃ n : Nat, w[i]? = some n ∧ (Y 70 (wb + i) = 0 ∨ (Y 70 (wb + i) = 1 ∧ Thr Y on dc (Y 71 (wb + i)) ∧ ¬ Y 72 (wb + i) = 0) ∨ (Y 70 (wb + i) = 2 ∧ (rs = 0 ∨ Slt X Y on dc (Y 71 (wb + i)) (Y 72 (wb + i)) rs)) ∨ ((Y 70 (wb + i) = 3 ∨ Y 70 (wb + i) = 4) ∧ 1 ≤ n)) ∧ (¬ Y 72 (wb + i) = 0 → RfV (Y 73) on (Y 71 (wb + i))) ∧ ∃ b : Nat, Y 72 (wb + i) = nI b ∧ b ≤ 1
def BdyR (X Y : Nat → Nat → Int32) (dc fd md nd m b k rs q : Nat) (ev : Nat → Int32) : Prop := m < md ∧ X 42 m = nI b ∧ b < nd ∧ X 9 b = nI 31 ∧ X 36 m = nI k ∧ 7 ≤ k ∧ k < dc ∧ resF (X 39) (X 21) m = nI rs ∧ TyC dc rs ∧ X 41 m = nI q ∧ q ≤ 8 ∧ TyS X dc fd md nd (Y 17) (Y 18) (Y 14) k rs b (q, 0, ev) ∧ ∃ p0 : Nat, X 40 m = nI p0 ∧ p0 + q ≤ 5000 ∧ ∀ i : Nat, i < q → ev i = ytF X (p0 + i) ∧ tyOK dc (ev i)
abbrev MTb : Type := (Nat → Nat) × (Nat → Nat) × (Nat → Nat) × (Nat → Nat) × (Nat → Nat → Int32)
def Tbl (X Y : Nat → Nat → Int32) (dc fd md nd : Nat) (M : MTb) : Prop := ∀ m : Nat, m < md → ¬ X 42 m = -1 → BdyR X Y dc fd md nd m (M.1 m) (M.2.1 m) (M.2.2.1 m) (M.2.2.2.1 m) (M.2.2.2.2 m)
def rtP (M : MTb) (m : Nat) : Ps := ((M.2.2.2.1 m, 0, M.2.2.2.2 m), [], [])
def Vrs (X Y : Nat → Nat → Int32) (on dc c : Nat) (e : En) : Prop := Y 63 c = nI e.1 ∧ e.1 ≤ 30 ∧ ∀ v : Nat, v < e.1 → ∃ t : Nat, e.2.2 v = nI t ∧ TyC dc t ∧ ¬ t = 0 ∧ SlV X Y on dc (Y 66 (32 * c + v)) (Y 67 (32 * c + v)) t
def Frm (X Y : Nat → Nat → Int32) (dc md on : Nat) (M : MTb) (c m j : Nat) (y : Ps) (e : En) (bs wb : Nat) : Prop := (m < md ∧ ¬ X 42 m = -1) ∧ Pv X (M.1 m) (rtP M m) j y ∧ (¬ Y 62 c = 0 ∧ VTd (Y 73) (Y 55) (Y 56) (X 31) on dc (Y 62 c) (10 + M.2.1 m)) ∧ Vrs X Y on dc c e ∧ Y 64 c = nI bs ∧ Pnd X Y on dc y.2.1 bs ∧ Wts X Y on dc (M.2.2.1 m) y.2.2 wb
def NPl (X : Nat → Nat → Int32) (M : MTb) (m j : Nat) : Prop := ∀ q : Nat, ∀ u : Ps, Pv X (M.1 m) (rtP M m) q u → X 9 q = nI 32 → ¬ X 12 q = nI j
def Ovr (X Y : Nat → Nat → Int32) (on dc : Nat) (M : MTb) (m j bs tp : Nat) : Prop := ∃ kk : Nat, X 9 j = nI kk ∧ kk ≤ 44 ∧ ((24 ≤ kk ∧ tp = bs) ∨ (kk ≤ 23 ∧ ∃ t : Nat, Y 17 j = nI t ∧ TyC dc t ∧ ((t = 0 ∧ tp = bs) ∨ (¬ t = 0 ∧ tp = bs + 1 ∧ Slt X Y on dc (Y 68 bs) (Y 69 bs) t ∧ (kk = 12 ∨ kk = 15 → NPl X M m j)))))
def Cfg (X Y : Nat → Nat → Int32) (dc md on : Nat) (M : MTb) (op tp wn j : Nat) (ov : Bool) (mt ps : Nat → Nat) (yy : Nat → Ps) (bs wb : Nat → Nat) : Prop := 1 ≤ op ∧ op ≤ 100 ∧ bs 0 = 0 ∧ wb 0 = 0 ∧ Y 65 0 = -1 ∧
  (∀ c : Nat, c + 1 < op → Frm X Y dc md on M c (mt c) (ps c) (yy c) (yy c).1 (bs c) (wb c) ∧ Y 65 (c + 1) = nI (ps c) ∧ bs (c + 1) = bs c + (yy c).2.1.length ∧ wb (c + 1) = wb c + (yy c).2.2.length ∧ (X 9 (ps c) = nI 7 ∨ X 9 (ps c) = nI 8 ∨ X 9 (ps c) = nI 14) ∧ Y 17 (ps c) = resF (X 39) (X 21) (mt (c + 1))) ∧
  Frm X Y dc md on M (op - 1) (mt (op - 1)) j (yy (op - 1)) (if ov = true then aft X j (yy (op - 1)).1 else (yy (op - 1)).1) (bs (op - 1)) (wb (op - 1)) ∧ wn = wb (op - 1) + (yy (op - 1)).2.2.length ∧
  (ov = false → tp = bs (op - 1) + (yy (op - 1)).2.1.length ∧ ¬ X 9 j = 44) ∧ (ov = true → Ovr X Y on dc M (mt (op - 1)) j (bs (op - 1) + (yy (op - 1)).2.1.length) tp)
section M4
variable {X Y Z : Nat → Nat → Int32} {dc fd md nd on op tp wn j c m bs wb k rs q b t : Nat} {y : Ps} {e : En} {v f : Int32} {ov : Bool} {mt ps : Nat → Nat} {yy : Nat → Ps} {bf wf : Nat → Nat} {M : MTb}
def SameF (Y Z : Nat → Nat → Int32) (c bs n wb w : Nat) : Prop := (Z 14 = Y 14 ∧ Z 17 = Y 17 ∧ Z 18 = Y 18 ∧ Z 55 = Y 55 ∧ Z 56 = Y 56 ∧ Z 73 = Y 73) ∧ (Z 62 c = Y 62 c ∧ Z 64 c = Y 64 c) ∧ (∀ i : Nat, i < n → Z 68 (bs + i) = Y 68 (bs + i) ∧ Z 69 (bs + i) = Y 69 (bs + i)) ∧ ∀ i : Nat, i < w → Z 70 (wb + i) = Y 70 (wb + i) ∧ Z 71 (wb + i) = Y 71 (wb + i) ∧ Z 72 (wb + i) = Y 72 (wb + i)
theorem Slt.same (h : Slt X Y on dc v f t) (g : Z 55 = Y 55 ∧ Z 56 = Y 56 ∧ Z 73 = Y 73) : Slt X Z on dc v f t := by
  unfold Slt at h ⊢
  rw [g.1, g.2.1, g.2.2]; exact h
theorem SlV.same (h : SlV X Y on dc v f t) (g : Z 55 = Y 55 ∧ Z 56 = Y 56 ∧ Z 73 = Y 73) : SlV X Z on dc v f t := ⟨h.1.same g, h.2⟩
theorem Thr.same (h : Thr Y on dc v) (g : Z 55 = Y 55 ∧ Z 73 = Y 73) : Thr Z on dc v := by
  unfold Thr at h ⊢
  rw [g.1, g.2]; exact h
theorem Frm.same (h : Frm X Y dc md on M c m j y e bs wb) (g : SameF Y Z c bs y.2.1.length wb y.2.2.length) (gv : Vrs X Z on dc c e) : Frm X Z dc md on M c m j y e bs wb := by
  obtain ⟨h1, h2, h3, h4, h5, h6, h7⟩ := h
  obtain ⟨⟨g1, g2, g3, g4, g5, g6⟩, ⟨g7, g8⟩, g9, g10⟩ := g
  refine ⟨h1, h2, by rw [g7, g4, g5, g6]; exact h3, gv, by rw [g8]; exact h5, fun i hi => ?_, fun i hi => ?_⟩
  · obtain ⟨n, t, z1, z2, z3, z4, z5⟩ := h6 i hi
    exact ⟨n, t, z1, by rw [g2]; exact z2, z3, z4, by rw [(g9 i hi).1, (g9 i hi).2]; exact z5.same ⟨g4, g5, g6⟩⟩
  · obtain ⟨n, z1, z2, z3⟩ := h7 i hi
    obtain ⟨w1, w2, w3⟩ := g10 i hi
    rw [w1, w2, w3, g6]
    refine ⟨n, z1, ?_, z3⟩
    rcases z2 with z | z | z | z
    · exact Or.inl z
    · exact Or.inr (Or.inl ⟨z.1, z.2.1.same ⟨g4, g6⟩, z.2.2⟩)
    · exact Or.inr (Or.inr (Or.inl ⟨z.1, z.2.imp id (fun u => u.same ⟨g4, g5, g6⟩)⟩))
    · exact Or.inr (Or.inr (Or.inr z))
theorem Vrs.same (h : Vrs X Y on dc c e) (g : Z 55 = Y 55 ∧ Z 56 = Y 56 ∧ Z 73 = Y 73) (g1 : Z 63 c = Y 63 c) (g2 : ∀ v : Nat, v < 32 → Z 66 (32 * c + v) = Y 66 (32 * c + v) ∧ Z 67 (32 * c + v) = Y 67 (32 * c + v)) : Vrs X Z on dc c e := by
  obtain ⟨h1, h2, h3⟩ := h
  refine ⟨g1.trans h1, h2, fun v hv => ?_⟩
  obtain ⟨t, z1, z2, z3, z4⟩ := h3 v hv
  exact ⟨t, z1, z2, z3, by rw [(g2 v (by omega)).1, (g2 v (by omega)).2]; exact z4.same g⟩
theorem Frm.vrs (h : Frm X Y dc md on M c m j y e bs wb) : Vrs X Y on dc c e := by
  obtain ⟨_, _, _, h4, _⟩ := h
  exact h4
theorem Cfg.base (h : Cfg X Y dc md on M op tp wn j ov mt ps yy bf wf) : ∀ d c : Nat, c + d = op - 1 → bf c + (if d = 0 then 0 else (yy c).2.1.length) ≤ bf (op - 1) ∧ wf c + (if d = 0 then 0 else (yy c).2.2.length) ≤ wf (op - 1) := by
  intro d
  induction d with
  | zero => intro c e; rw [if_pos rfl, if_pos rfl, show c = op - 1 by omega]; exact ⟨Nat.le_refl _, Nat.le_refl _⟩
  | succ d ih =>
    intro c e
    obtain ⟨_, _, h1, h2, _⟩ := h.2.2.2.2.2.1 c (by omega)
    obtain ⟨i1, i2⟩ := ih (c + 1) (by omega)
    rw [if_neg (by omega), if_neg (by omega)]
    exact ⟨by omega, by omega⟩
theorem Cfg.low (h : Cfg X Y dc md on M op tp wn j ov mt ps yy bf wf) (g : (Z 14 = Y 14 ∧ Z 17 = Y 17 ∧ Z 18 = Y 18 ∧ Z 55 = Y 55 ∧ Z 56 = Y 56 ∧ Z 73 = Y 73)) (g1 : ∀ i : Nat, i + 1 < op → Z 62 i = Y 62 i ∧ Z 63 i = Y 63 i ∧ Z 64 i = Y 64 i) (g2 : ∀ i : Nat, i < 32 * (op - 1) → Z 66 i = Y 66 i ∧ Z 67 i = Y 67 i) (g3 : ∀ i : Nat, i < bf (op - 1) → Z 68 i = Y 68 i ∧ Z 69 i = Y 69 i) (g4 : ∀ i : Nat, i < wf (op - 1) → Z 70 i = Y 70 i ∧ Z 71 i = Y 71 i ∧ Z 72 i = Y 72 i) (g5 : ∀ i : Nat, i < op → Z 65 i = Y 65 i) : ∀ c : Nat, c + 1 < op → Frm X Z dc md on M c (mt c) (ps c) (yy c) (yy c).1 (bf c) (wf c) ∧ Z 65 (c + 1) = nI (ps c) ∧ bf (c + 1) = bf c + (yy c).2.1.length ∧ wf (c + 1) = wf c + (yy c).2.2.length ∧ (X 9 (ps c) = nI 7 ∨ X 9 (ps c) = nI 8 ∨ X 9 (ps c) = nI 14) ∧ Z 17 (ps c) = resF (X 39) (X 21) (mt (c + 1)) := fun c hc => by
  obtain ⟨f1, f2, f3, f4, f5, f6⟩ := h.2.2.2.2.2.1 c hc
  obtain ⟨b1, b2⟩ := Cfg.base h (op - 1 - c) c (by omega)
  rw [if_neg (by omega)] at b1 b2
  obtain ⟨v1, v2, v3⟩ := g1 c hc
  refine ⟨f1.same ⟨g, ⟨v1, v3⟩, fun i hi => g3 _ (by omega), fun i hi => g4 _ (by omega)⟩ (f1.vrs.same ⟨g.2.2.2.1, g.2.2.2.2.1, g.2.2.2.2.2⟩ v2 (fun v hv => g2 _ (by omega))), by rw [g5 (c + 1) (by omega)]; exact f2, f3, f4, f5, by rw [g.2.1]; exact f6⟩
theorem Cfg.gives (h : Cfg X Y dc md on M op tp wn j false mt ps yy bf wf) {kk : Nat} (ek : X 9 j = nI kk) (hk : kk ≤ 23) (np : kk = 12 ∨ kk = 15 → NPl X M (mt (op - 1)) j) (et : Y 17 j = nI t) (ht : TyC dc t) (h0 : ¬ t = 0) (hs : Slt X Y on dc v f t) (g : (Z 14 = Y 14 ∧ Z 17 = Y 17 ∧ Z 18 = Y 18 ∧ Z 55 = Y 55 ∧ Z 56 = Y 56 ∧ Z 73 = Y 73)) (g1 : Z 62 = Y 62 ∧ Z 63 = Y 63 ∧ Z 64 = Y 64 ∧ Z 65 = Y 65 ∧ Z 66 = Y 66 ∧ Z 67 = Y 67) (g2 : Z 70 = Y 70 ∧ Z 71 = Y 71 ∧ Z 72 = Y 72) (g3 : Z 68 = upd (Y 68) tp v ∧ Z 69 = upd (Y 69) tp f) : Cfg X Z dc md on M op (tp + 1) wn j true mt ps yy bf wf := by
  have etp : tp = bf (op - 1) + (yy (op - 1)).2.1.length := (h.2.2.2.2.2.2.2.2.1 rfl).1
  have low : ∀ i : Nat, i < tp → Z 68 i = Y 68 i ∧ Z 69 i = Y 69 i := fun i hi => by
    rw [g3.1, g3.2]; exact ⟨if_neg (by omega), if_neg (by omega)⟩
  have L := Cfg.low (Z := Z) h g (fun i _ => by rw [g1.1, g1.2.1, g1.2.2.1]; exact ⟨rfl, rfl, rfl⟩) (fun i _ => by rw [g1.2.2.2.2.1, g1.2.2.2.2.2]; exact ⟨rfl, rfl⟩) (fun i hi => low i (by omega)) (fun i _ => by rw [g2.1, g2.2.1, g2.2.2]; exact ⟨rfl, rfl, rfl⟩) (fun i _ => by rw [g1.2.2.2.1])
  obtain ⟨a1, a2, a3, a4, a5, _, a7, a8, a9, a10⟩ := h
  have na : aft X j (yy (op - 1)).1 = (yy (op - 1)).1 := aft_no (fun w => by
    have : kk = 30 := (nI_eq (by omega) (by omega)).mp (ek.symm.trans w)
    omega)
  refine ⟨a1, a2, a3, a4, by rw [g1.2.2.2.1]; exact a5, L, ?_, a8, fun w => absurd w (by decide), fun _ => ⟨kk, ek, by omega, Or.inr ⟨hk, t, by rw [g.2.1]; exact et, ht, Or.inr ⟨h0, by omega, ?_, np⟩⟩⟩⟩
  · rw [if_pos rfl, na]
    rw [if_neg (by decide)] at a7
    exact a7.same ⟨g, by rw [g1.1, g1.2.2.1]; exact ⟨rfl, rfl⟩, fun i hi => low _ (by omega), fun i _ => by rw [g2.1, g2.2.1, g2.2.2]; exact ⟨rfl, rfl, rfl⟩⟩ (a7.vrs.same ⟨g.2.2.2.1, g.2.2.2.2.1, g.2.2.2.2.2⟩ (by rw [g1.2.1]) (fun v _ => by rw [g1.2.2.2.2.1, g1.2.2.2.2.2]; exact ⟨rfl, rfl⟩))
  · rw [← etp, g3.1, g3.2, show upd (Y 68) tp v tp = v from if_pos rfl, show upd (Y 69) tp f tp = f from if_pos rfl]
    exact hs.same ⟨g.2.2.2.1, g.2.2.2.2.1, g.2.2.2.2.2⟩
def yyU (yy : Nat → Ps) (n : Nat) (z : Ps) : Nat → Ps := fun c => if c = n then z else yy c
theorem Cfg.to {z : Ps} {i tp1 wn1 : Nat} {e1 : En} {ov1 : Bool} (h : Cfg X Y dc md on M op tp wn j ov mt ps yy bf wf) (g : (Z 14 = Y 14 ∧ Z 17 = Y 17 ∧ Z 18 = Y 18 ∧ Z 55 = Y 55 ∧ Z 56 = Y 56 ∧ Z 73 = Y 73)) (g1 : Z 62 = Y 62 ∧ Z 64 = Y 64 ∧ Z 65 = Y 65 ∧ ∀ c : Nat, c + 1 < op → Z 63 c = Y 63 c) (g2 : ∀ a : Nat, a < 32 * (op - 1) → Z 66 a = Y 66 a ∧ Z 67 a = Y 67 a) (g3 : ∀ a : Nat, a < bf (op - 1) → Z 68 a = Y 68 a ∧ Z 69 a = Y 69 a) (g4 : ∀ a : Nat, a < wf (op - 1) → Z 70 a = Y 70 a ∧ Z 71 a = Y 71 a ∧ Z 72 a = Y 72 a)
    (hpv : Pv X (M.1 (mt (op - 1))) (rtP M (mt (op - 1))) i z) (hvr : Vrs X Z on dc (op - 1) e1) (he : e1 = (if ov1 = true then aft X i z.1 else z.1)) (hpn : Pnd X Z on dc z.2.1 (bf (op - 1))) (hwt : Wts X Z on dc (M.2.2.1 (mt (op - 1))) z.2.2 (wf (op - 1))) (hwn : wn1 = wf (op - 1) + z.2.2.length) (ht1 : ov1 = false → tp1 = bf (op - 1) + z.2.1.length ∧ ¬ X 9 i = 44) (ht2 : ov1 = true → Ovr X Z on dc M (mt (op - 1)) i (bf (op - 1) + z.2.1.length) tp1) : Cfg X Z dc md on M op tp1 wn1 i ov1 mt ps (yyU yy (op - 1) z) bf wf := by
  have L := Cfg.low (Z := Z) h g (fun c hc => by rw [g1.1, g1.2.1]; exact ⟨rfl, g1.2.2.2 c hc, rfl⟩) g2 g3 g4 (fun c _ => by rw [g1.2.2.1])
  obtain ⟨a1, a2, a3, a4, a5, _, a7, a8, a9, a10⟩ := h
  have top : yyU yy (op - 1) z (op - 1) = z := if_pos rfl
  have oth : ∀ c : Nat, c + 1 < op → yyU yy (op - 1) z c = yy c := fun c hc => if_neg (by omega)
  refine ⟨a1, a2, a3, a4, by rw [g1.2.2.1]; exact a5, fun c hc => by rw [oth c hc]; exact L c hc, ?_, by rw [top]; exact hwn, by rw [top]; exact ht1, by rw [top]; exact ht2⟩
  rw [top, ← he]
  obtain ⟨f1, f2, f3, f4, f5, f6, f7⟩ := a7
  exact ⟨f1, hpv, by rw [g1.1, g.2.2.2.1, g.2.2.2.2.1, g.2.2.2.2.2]; exact f3, hvr, by rw [g1.2.1]; exact f5, hpn, hwt⟩
theorem Wts.same {w : List Nat} (h : Wts X Y on dc rs w wb) (g : Z 55 = Y 55 ∧ Z 56 = Y 56 ∧ Z 73 = Y 73) (g1 : ∀ i : Nat, i < w.length → Z 70 (wb + i) = Y 70 (wb + i) ∧ Z 71 (wb + i) = Y 71 (wb + i) ∧ Z 72 (wb + i) = Y 72 (wb + i)) : Wts X Z on dc rs w wb := fun i hi => by
  obtain ⟨n, z1, z2, z3⟩ := h i hi
  obtain ⟨w1, w2, w3⟩ := g1 i hi
  rw [w1, w2, w3, g.2.2]
  refine ⟨n, z1, ?_, z3⟩
  rcases z2 with z | z | z | z
  · exact Or.inl z
  · exact Or.inr (Or.inl ⟨z.1, z.2.1.same ⟨g.1, g.2.2⟩, z.2.2⟩)
  · exact Or.inr (Or.inr (Or.inl ⟨z.1, z.2.imp id (fun u => u.same g)⟩))
  · exact Or.inr (Or.inr (Or.inr z))
theorem Pnd.same {w : List Nat} (h : Pnd X Y on dc w bs) (g : Z 17 = Y 17 ∧ Z 55 = Y 55 ∧ Z 56 = Y 56 ∧ Z 73 = Y 73) (g1 : ∀ i : Nat, i < w.length → Z 68 (bs + i) = Y 68 (bs + i) ∧ Z 69 (bs + i) = Y 69 (bs + i)) : Pnd X Z on dc w bs := fun i hi => by
  obtain ⟨n, t, z1, z2, z3, z4, z5⟩ := h i hi
  exact ⟨n, t, z1, by rw [g.1]; exact z2, z3, z4, by rw [(g1 i hi).1, (g1 i hi).2]; exact z5.same g.2⟩
theorem Pnd.snoc {w : List Nat} {n : Nat} (h : Pnd X Y on dc w bs) (et : Y 17 n = nI t) (ht : TyC dc t) (h0 : ¬ t = 0) (hs : Slt X Y on dc (Y 68 (bs + w.length)) (Y 69 (bs + w.length)) t) : Pnd X Y on dc (w ++ [n]) bs := fun i hi => by
  rw [List.length_append] at hi
  have hi' : i < w.length + 1 := hi
  by_cases q : i < w.length
  · obtain ⟨n', t', z1, z⟩ := h i q
    exact ⟨n', t', by rw [List.getElem?_append_left q]; exact z1, z⟩
  · have e : i = w.length := by omega
    subst e
    exact ⟨n, t, by rw [List.getElem?_append_right (Nat.le_refl _), Nat.sub_self]; rfl, et, ht, h0, hs⟩
theorem Pnd.take {w u : List Nat} (h : Pnd X Y on dc (w ++ u) bs) : Pnd X Y on dc w bs := fun i hi => by
  obtain ⟨n, t, z1, z⟩ := h i (by rw [List.length_append]; omega)
  exact ⟨n, t, by rw [List.getElem?_append_left hi] at z1; exact z1, z⟩
theorem Cfg.up {K : Nat → Int32} {T wr : Nat} {gh : Nat → Nat → Nat} {up : Nat → Int32} (hF : Fs2 K T wr X gh nd) (hnd : nd ≤ 12000) (hT : Tbl X Y dc fd md nd M) (hup : ∀ n j : Nat, n < nd → j < nd → pch X n j → up j = nI n) (hroot : ∀ m b : Nat, m < md → b < 20000 → X 42 m = nI b → up b = -1) (h : Cfg X Y dc md on M op tp wn j ov mt ps yy bf wf) : j < nd ∧ ((up j = -1 ∧ j = M.1 (mt (op - 1)) ∧ yy (op - 1) = rtP M (mt (op - 1))) ∨ ∃ p : Nat, ∃ u : Ps, p < nd ∧ up j = nI p ∧ stq X p u j (yy (op - 1)) ∧ Pv X (M.1 (mt (op - 1))) (rtP M (mt (op - 1))) p u) := by
  obtain ⟨_, _, _, _, _, _, ⟨⟨f1, f0⟩, f2, _⟩, _⟩ := h
  obtain ⟨m1, m2, m3, m4, _⟩ := hT _ f1 f0
  have jn : j < nd := (sub.lt2 hF hnd m3 f2.ev.sub).1
  refine ⟨jn, ?_⟩
  rcases f2.last with ⟨e1, e2⟩ | ⟨p, u, q1, q2⟩
  · exact Or.inl ⟨by rw [← e1]; exact hroot _ _ m1 (by omega) m2, e1.symm, e2.symm⟩
  · have pn : p < nd := (sub.lt2 hF hnd m3 q1.ev.sub).1
    exact Or.inr ⟨p, u, pn, hup p j pn jn q2.stp.pch.1, q2, q1⟩
theorem Cfg.typ (hT : Tbl X Y dc fd md nd M) (h : Cfg X Y dc md on M op tp wn j ov mt ps yy bf wf) {p : Nat} {u : Ps} (hp : Pv X (M.1 (mt (op - 1))) (rtP M (mt (op - 1))) p u) : LTX X dc fd md nd (Y 17) (Y 18) (Y 14) (M.2.1 (mt (op - 1))) (M.2.2.1 (mt (op - 1))) p u.1 := by
  obtain ⟨_, _, _, _, _, _, ⟨⟨f1, f0⟩, _⟩, _⟩ := h
  obtain ⟨_, _, _, _, _, _, _, _, _, _, _, m12, _⟩ := hT _ f1 f0
  exact m12 p u.1 hp.ev
theorem Cfg.down {z : Ps} {i : Nat} (h : Cfg X Y dc md on M op tp wn j false mt ps yy bf wf) (g : stq X j (yy (op - 1)) i z) (e1 : z.1 = (yy (op - 1)).1) (e2 : z.2 = (yy (op - 1)).2) (n4 : ¬ X 9 i = 44) : Cfg X Y dc md on M op tp wn i false mt ps (yyU yy (op - 1) z) bf wf := by
  have h' := h
  obtain ⟨_, _, _, _, _, _, f, a8, a9, _⟩ := h'
  rw [if_neg (by decide)] at f
  refine Cfg.to h ⟨rfl, rfl, rfl, rfl, rfl, rfl⟩ ⟨rfl, rfl, rfl, fun _ _ => rfl⟩ (fun _ _ => ⟨rfl, rfl⟩) (fun _ _ => ⟨rfl, rfl⟩) (fun _ _ => ⟨rfl, rfl, rfl⟩) (f.2.1.snoc g) f.vrs (by rw [if_neg (by decide), e1]) (by rw [e2]; exact f.2.2.2.2.2.1) (by rw [e2]; exact f.2.2.2.2.2.2) (by rw [e2]; exact a8) (fun _ => ⟨by rw [e2]; exact (a9 rfl).1, n4⟩) (fun w => absurd w (by decide))
theorem Cfg.next {p i kk : Nat} {u z : Ps} (h : Cfg X Y dc md on M op tp wn j true mt ps yy bf wf) (hp : Pv X (M.1 (mt (op - 1))) (rtP M (mt (op - 1))) p u) (g : stq X p u i z) (ej : X 9 j = nI kk) (hk : kk ≤ 23) (hv : ¬ Y 17 j = 0) (e1 : z.1 = (yy (op - 1)).1) (e2 : z.2.1 = (yy (op - 1)).2.1 ++ [j]) (e3 : z.2.2 = (yy (op - 1)).2.2) (n4 : ¬ X 9 i = 44) : Cfg X Y dc md on M op tp wn i false mt ps (yyU yy (op - 1) z) bf wf := by
  have h' := h
  obtain ⟨_, _, _, _, _, _, f, a8, _, a10⟩ := h'
  rw [if_pos rfl] at f
  have na : aft X j (yy (op - 1)).1 = (yy (op - 1)).1 := aft_no (fun w => by
    have : kk = 30 := (nI_eq (by omega) (by omega)).mp (ej.symm.trans w)
    omega)
  obtain ⟨k2, w1, w2, w3⟩ := a10 rfl
  have ek : k2 = kk := (nI_eq (by omega) (by omega)).mp (w1.symm.trans ej)
  rcases w3 with w3 | ⟨_, t, t1, t2, t3⟩
  · omega
  · rcases t3 with ⟨t4, _⟩ | ⟨t4, t5, t6, _⟩
    · rw [t4] at t1; exact absurd t1 hv
    · refine Cfg.to h ⟨rfl, rfl, rfl, rfl, rfl, rfl⟩ ⟨rfl, rfl, rfl, fun _ _ => rfl⟩ (fun _ _ => ⟨rfl, rfl⟩) (fun _ _ => ⟨rfl, rfl⟩) (fun _ _ => ⟨rfl, rfl, rfl⟩) (hp.snoc g) f.vrs (by rw [if_neg (by decide), na, e1]) (by rw [e2]; exact Pnd.snoc f.2.2.2.2.2.1 t1 t2 t4 t6) (by rw [e3]; exact f.2.2.2.2.2.2) (by rw [e3]; exact a8) (fun _ => ⟨by rw [e2, List.length_append, t5]; show _ = _ + (_ + 1); omega, n4⟩) (fun w => absurd w (by decide))
end M4
def KK : Nat := 60000
def ordF (s i : Nat) : Nat := if s = 1 then 1 else if s = 2 then 2 else if s = 5 then 2 + i else if s = 4 then 13000 else 14000
def ordC (gh : Nat → Nat → Nat) (j : Nat) : Nat := ordF (gh 0 j % 8) (gh 2 j)
def rkF (gh : Nat → Nat → Nat) : Nat → Nat → Nat
  | 0, _ => 0
  | h + 1, j => if gh 0 j = 160000 then 0 else rkF gh h (gh 0 j / 8) + (KK - 2 * ordC gh j) * KK ^ gh 1 (gh 0 j / 8)
def rkO (gh : Nat → Nat → Nat) (j : Nat) : Nat := rkF gh (400 - gh 1 j) j
def rkN (gh : Nat → Nat → Nat) (j : Nat) (ov : Bool) : Nat := if ov = true then rkO gh j else rkO gh j + KK ^ (gh 1 j + 1)
def RB : Nat := KK ^ 362
section M5
variable {K : Nat → Int32} {T wr nd b p j i kk s n c : Nat} {X : Nat → Nat → Int32} {gh : Nat → Nat → Nat} {y0 u z z2 : Ps}
theorem KK_pos (g : Nat) : 1 ≤ KK ^ g := Nat.one_le_pow _ _ (by decide)
theorem KK_mono {g g' : Nat} (h : g ≤ g') : KK ^ g ≤ KK ^ g' := Nat.pow_le_pow_right (by decide) h
theorem stq.inv (hF : Fs2 K T wr X gh nd) (hnd : nd ≤ 12000) (hp : p < nd) (h : stq X p u j z) (e : X 9 p = nI kk) (k4 : kk ≤ 44) : ∃ s i : Nat, 1 ≤ s ∧ s ≤ 4 ∧ nch kk s = false ∧ ((cdOf kk s < 200 ∧ X (11 + s) p = nI j ∧ i = 0) ∨ (200 ≤ cdOf kk s ∧ itr (X 16) (X (11 + s) p) i = nI j)) ∧ z = pst X p u kk s i ∧ j < nd ∧ pch X p j ∧ gh 0 j = 8 * p + (if 200 ≤ cdOf kk s then 5 else s) := by
  obtain ⟨k2, s, i, h1, h2, h3, h4, h5, h6, h7, h8⟩ := h
  have ek : k2 = kk := (nI_eq (by omega) (by omega)).mp (h1.symm.trans e)
  subst ek
  obtain ⟨p1, p2, p3⟩ := slP.p0 hF hnd hp h1 h2 h3 h4 h5 h6 (h7.imp (fun q => ⟨q.1, q.2.1⟩) (fun q => ⟨q.1, i, q.2⟩))
  exact ⟨s, i, h3, h4, h6, h7, h8, p1, p2, p3⟩
theorem stq.mk (e : X 9 p = nI kk) (k4 : kk ≤ 44) (s1 : 1 ≤ s) (s4 : s ≤ 4) (hn : nch kk s = false) (hc : cdOf kk s < 200) (hj : j < 20000) (h : X (11 + s) p = nI j) : stq X p u j (pst X p u kk s 0) := ⟨kk, s, 0, e, k4, s1, s4, hj, hn, Or.inl ⟨hc, h, rfl⟩, rfl⟩
theorem stq.mkL (e : X 9 p = nI kk) (k4 : kk ≤ 44) (s1 : 1 ≤ s) (s4 : s ≤ 4) (hc : 200 ≤ cdOf kk s) (hj : j < 20000) (h : itr (X 16) (X (11 + s) p) i = nI j) : stq X p u j (pst X p u kk s i) := ⟨kk, s, i, e, k4, s1, s4, hj, by unfold nch; simp only [Bool.or_eq_false_iff, beq_eq_false_iff_ne]; omega, Or.inr ⟨hc, h⟩, rfl⟩
theorem stq.at (hF : Fs2 K T wr X gh nd) (hnd : nd ≤ 12000) (hp : p < nd) (h : stq X p u j z) (e : X 9 p = nI kk) (k4 : kk ≤ 44) (s1 : 1 ≤ s) (s4 : s ≤ 4) (hn : nch kk s = false) (hc : cdOf kk s < 200) (g : X (11 + s) p = nI j) : z = pst X p u kk s 0 := by
  obtain ⟨s', i, a1, a2, a3, a4, a5, a6, a7, a8⟩ := h.inv hF hnd hp e k4
  obtain ⟨b1, b2, b3⟩ := slP.p0 hF hnd hp e k4 s1 s4 (show j < 20000 by omega) hn (Or.inl ⟨hc, g⟩)
  rw [b3, if_neg (show ¬ 200 ≤ cdOf kk s by omega)] at a8
  by_cases q : 200 ≤ cdOf kk s'
  · rw [if_pos q] at a8; omega
  · rw [if_neg q] at a8
    have : s' = s := by omega
    subst this
    rcases a4 with ⟨_, _, i0⟩ | ⟨w, _⟩
    · rw [a5, i0]
    · omega
theorem itr_pl (hF : Fs2 K T wr X gh nd) (hnd : nd ≤ 12000) {v : Int32} {d : Nat} (hd : v = nI d) (hd2 : d < nd) (g0 : gh 2 d = 0) : ∀ i c : Nat, c < 20000 → itr (X 16) v i = nI c → gh 2 c = i ∧ i ≤ c := by
  intro i
  induction i with
  | zero => intro c hc e; have : d = c := (nI_eq (by omega) (by omega)).mp (hd.symm.trans e); rw [← this]; exact ⟨g0, by omega⟩
  | succ i ih =>
    intro c hc e
    rcases itr_ln hF.lnr (Or.inr ⟨d, hd, hd2⟩) (by omega) i with w | ⟨q, w1, _, w2⟩
    · rw [itr_m1 w (i + 1) (by omega)] at e; exact absurd e.symm (nI_m1 (by omega))
    · rw [itr_s w1 (by omega)] at e
      rcases (hF q w2).2.2.1 with y | ⟨j, y1, y2, y3, y4, y5, y6, y7⟩
      · rw [y] at e; exact absurd e.symm (nI_m1 (by omega))
      · have : j = c := (nI_eq (by omega) (by omega)).mp (y1.symm.trans e)
        have := ih q (by omega) w1
        rw [← ‹j = c›, y6]; exact ⟨by omega, by omega⟩
theorem list_pl (hF : Fs2 K T wr X gh nd) (hnd : nd ≤ 12000) (hn : n < nd) (e : X 9 n = nI kk) (k4 : kk ≤ 44) (s1 : 1 ≤ s) (s4 : s ≤ 4) (hc : 200 ≤ cdOf kk s) (hz : c < 20000) (w : itr (X 16) (X (11 + s) n) i = nI c) : gh 2 c = i ∧ i ≤ c := by
  obtain ⟨k2, e2, _, k44, hs⟩ := hF.knd hn
  have ek : k2 = kk := (nI_eq (by omega) (by omega)).mp (e2.symm.trans e)
  subst ek
  rcases (hs s s1 s4).2.2.2 (by omega) (by omega) (by omega) (by omega) with ⟨y, _⟩ | ⟨d, y1, _, y2, y3, y4, y5, y6⟩
  · rw [itr_m1 (k := 0) y i (Nat.zero_le _)] at w; exact absurd w.symm (nI_m1 (by omega))
  · exact itr_pl hF hnd y1 y2 (y6 hc) i c hz w
theorem stq.ord (hF : Fs2 K T wr X gh nd) (hnd : nd ≤ 12000) (hp : p < nd) (h : stq X p u j z) : j < nd ∧ gh 0 j / 8 = p ∧ ¬ gh 0 j = 160000 ∧ gh 1 j < gh 1 p ∧ 1 ≤ ordC gh j ∧ ordC gh j ≤ 14000 := by
  obtain ⟨kk, e, _, k4, _⟩ := hF.knd hp
  obtain ⟨s, i, a1, a2, a3, a4, a5, a6, a7, a8⟩ := h.inv hF hnd hp e k4
  obtain ⟨_, _, p3⟩ := pch_par hF hnd hp (by omega) a7
  have q5 : (if 200 ≤ cdOf kk s then 5 else s) ≤ 5 ∧ 1 ≤ (if 200 ≤ cdOf kk s then 5 else s) := by split <;> omega
  refine ⟨a6, by omega, by omega, p3, ?_⟩
  have m8 : gh 0 j % 8 = (if 200 ≤ cdOf kk s then 5 else s) := by omega
  unfold ordC ordF
  rw [m8]
  rcases a4 with ⟨w, _, _⟩ | ⟨w, w2⟩
  · rw [if_neg (show ¬ 200 ≤ cdOf kk s by omega)]
    split
    · omega
    · split
      · omega
      · split
        · omega
        · split <;> omega
  · rw [if_pos w, if_neg (by decide), if_neg (by decide), if_pos rfl]
    obtain ⟨l1, l2⟩ := list_pl hF hnd hp e k4 a1 a2 w (by omega) w2
    omega
theorem ord_one (h : gh 0 j = 8 * p + s) (s1 : 1 ≤ s) (s4 : s ≤ 4) : ordC gh j = ordF s 0 := by
  unfold ordC
  rw [show gh 0 j % 8 = s by omega]
  have : s = 1 ∨ s = 2 ∨ s = 3 ∨ s = 4 := by omega
  rcases this with w | w | w | w <;> subst w <;> rfl
theorem ord_lst (h : gh 0 j = 8 * p + 5) (g : gh 2 j = i) : ordC gh j = 2 + i := by
  unfold ordC
  rw [show gh 0 j % 8 = 5 by omega, g]
  rfl
theorem Pv.und (hF : Fs2 K T wr X gh nd) (hnd : nd ≤ 12000) (hb : b < nd) (h : Pv X b y0 j z) : j < nd ∧ gh 1 j ≤ gh 1 b := by
  obtain ⟨a1, a2⟩ := sub.lt2 hF hnd hb h.ev.sub
  refine ⟨a1, ?_⟩
  by_cases e : j = b
  · rw [e]; exact Nat.le_refl _
  · have := a2 e; omega
theorem rkF_st (hF : Fs2 K T wr X gh nd) (hnd : nd ≤ 12000) (hb : b < nd) (gb : gh 0 b = 160000) (hh : gh 1 b ≤ 361) : ∀ d j : Nat, ∀ z : Ps, Pv X b y0 j z → 400 - gh 1 j ≤ d → ∀ h : Nat, 400 - gh 1 j ≤ h → rkF gh h j = rkO gh j := by
  intro d
  induction d with
  | zero => intro j z hv hd; have := (hv.und hF hnd hb).2; omega
  | succ d ih =>
    intro j z hv hd h hq
    have hj := (hv.und hF hnd hb).2
    obtain ⟨h', e1⟩ : ∃ h' : Nat, h = h' + 1 := ⟨h - 1, by omega⟩
    obtain ⟨k', e2⟩ : ∃ k' : Nat, 400 - gh 1 j = k' + 1 := ⟨400 - gh 1 j - 1, by omega⟩
    unfold rkO
    rw [e1, e2]
    show (if gh 0 j = 160000 then 0 else _) = (if gh 0 j = 160000 then 0 else _)
    rcases hv.last with ⟨w1, _⟩ | ⟨p, u, w1, w2⟩
    · rw [← w1, if_pos gb, if_pos gb]
    · have hp := w1.und hF hnd hb
      obtain ⟨o1, o2, o3, o4, _⟩ := w2.ord hF hnd hp.1
      rw [if_neg o3, if_neg o3, o2, ih p u w1 (by omega) h' (by omega), ih p u w1 (by omega) k' (by omega)]
theorem rkO_step (hF : Fs2 K T wr X gh nd) (hnd : nd ≤ 12000) (hb : b < nd) (gb : gh 0 b = 160000) (hh : gh 1 b ≤ 361) (hp : Pv X b y0 p u) (g : stq X p u j z) : rkO gh j = rkO gh p + (KK - 2 * ordC gh j) * KK ^ gh 1 p := by
  have hv := hp.snoc g
  have hj := (hv.und hF hnd hb).2
  obtain ⟨o1, o2, o3, o4, _⟩ := g.ord hF hnd (hp.und hF hnd hb).1
  rw [← rkF_st hF hnd hb gb hh (400 - gh 1 j) j z hv (Nat.le_refl _) (400 - gh 1 j + 1) (by omega)]
  show (if gh 0 j = 160000 then 0 else _) = _
  rw [if_neg o3, o2, rkF_st hF hnd hb gb hh (400 - gh 1 p) p u hp (Nat.le_refl _) _ (by omega)]
theorem rk_up (hF : Fs2 K T wr X gh nd) (hnd : nd ≤ 12000) (hb : b < nd) (gb : gh 0 b = 160000) (hh : gh 1 b ≤ 361) (hp : Pv X b y0 p u) (g : stq X p u j z) : rkO gh p < rkO gh j := by
  obtain ⟨_, _, _, _, o5, o6⟩ := g.ord hF hnd (hp.und hF hnd hb).1
  rw [rkO_step hF hnd hb gb hh hp g]
  have h1 : 1 ≤ (KK - 2 * ordC gh j) * KK ^ gh 1 p := Nat.mul_pos (by unfold KK; omega) (KK_pos _)
  omega
theorem rk_down (hF : Fs2 K T wr X gh nd) (hnd : nd ≤ 12000) (hb : b < nd) (gb : gh 0 b = 160000) (hh : gh 1 b ≤ 361) (hp : Pv X b y0 p u) (g : stq X p u j z) : rkN gh j false < rkN gh p false := by
  obtain ⟨_, _, _, o4, o5, o6⟩ := g.ord hF hnd (hp.und hF hnd hb).1
  show rkO gh j + KK ^ (gh 1 j + 1) < rkO gh p + KK ^ (gh 1 p + 1)
  rw [rkO_step hF hnd hb gb hh hp g]
  have h1 : KK ^ (gh 1 j + 1) ≤ KK ^ gh 1 p := KK_mono o4
  have h2 := KK_pos (gh 1 p)
  have h3 : KK ^ (gh 1 p + 1) = KK * KK ^ gh 1 p := by rw [Nat.pow_succ, Nat.mul_comm]
  have h4 : KK * KK ^ gh 1 p = (KK - 2 * ordC gh j) * KK ^ gh 1 p + (2 * ordC gh j) * KK ^ gh 1 p := by rw [← Nat.add_mul, Nat.sub_add_cancel (by unfold KK; omega)]
  have h5 : 2 * KK ^ gh 1 p ≤ (2 * ordC gh j) * KK ^ gh 1 p := Nat.mul_le_mul_right _ (by omega)
  rw [h3, h4]
  omega
theorem rk_sib (hF : Fs2 K T wr X gh nd) (hnd : nd ≤ 12000) (hb : b < nd) (gb : gh 0 b = 160000) (hh : gh 1 b ≤ 361) (hp : Pv X b y0 p u) (g : stq X p u j z) (g2 : stq X p u i z2) (lt : ordC gh j < ordC gh i) : rkN gh i false < rkO gh j := by
  obtain ⟨_, _, _, _, o5, o6⟩ := g.ord hF hnd (hp.und hF hnd hb).1
  obtain ⟨_, _, _, q4, q5, q6⟩ := g2.ord hF hnd (hp.und hF hnd hb).1
  show rkO gh i + KK ^ (gh 1 i + 1) < rkO gh j
  rw [rkO_step hF hnd hb gb hh hp g, rkO_step hF hnd hb gb hh hp g2]
  have h1 : KK ^ (gh 1 i + 1) ≤ KK ^ gh 1 p := KK_mono q4
  have h2 := KK_pos (gh 1 p)
  have h4 : (KK - 2 * ordC gh j) * KK ^ gh 1 p = (KK - 2 * ordC gh i) * KK ^ gh 1 p + (2 * ordC gh i - 2 * ordC gh j) * KK ^ gh 1 p := by rw [← Nat.add_mul]; congr 1; unfold KK; omega
  have h5 : 2 * KK ^ gh 1 p ≤ (2 * ordC gh i - 2 * ordC gh j) * KK ^ gh 1 p := Nat.mul_le_mul_right _ (by omega)
  rw [h4]
  omega
theorem rk_le (hF : Fs2 K T wr X gh nd) (hnd : nd ≤ 12000) (hb : b < nd) (gb : gh 0 b = 160000) (hh : gh 1 b ≤ 361) : ∀ d j : Nat, ∀ z : Ps, Pv X b y0 j z → 400 - gh 1 j ≤ d → rkN gh j false ≤ RB := by
  intro d
  induction d with
  | zero => intro j z hv hd; have := (hv.und hF hnd hb).2; omega
  | succ d ih =>
    intro j z hv hd
    rcases hv.last with ⟨w1, _⟩ | ⟨p, u, w1, w2⟩
    · rw [← w1]
      have e : rkO gh b = 0 := by
        unfold rkO
        rw [show 400 - gh 1 b = (399 - gh 1 b) + 1 by omega]
        show (if gh 0 b = 160000 then 0 else _) = 0
        rw [if_pos gb]
      have r : KK ^ (gh 1 b + 1) ≤ RB := KK_mono (by omega)
      show rkO gh b + KK ^ (gh 1 b + 1) ≤ _
      rw [e, Nat.zero_add]; exact r
    · have hp := w1.und hF hnd hb
      obtain ⟨_, _, _, o4, _⟩ := w2.ord hF hnd hp.1
      have := rk_down hF hnd hb gb hh w1 w2
      have := ih p u w1 (by omega)
      omega
end M5
def PhS (gh : Nat → Nat → Nat) (ps : Nat → Nat) : Nat → Nat
  | 0 => 0
  | c + 1 => PhS gh ps c + (rkO gh (ps c) + 1)
def Phi (gh : Nat → Nat → Nat) (ps : Nat → Nat) (op r : Nat) : Nat := PhS gh ps (op - 1) + r + 1
section M6
variable {X Y Z : Nat → Nat → Int32} {K : Nat → Int32} {T wr dc fd md nd on op tp tp1 wn j c m bs wb k rs q b t i p kk s n : Nat} {y u z : Ps} {e e' : En} {v f : Int32} {ov : Bool} {mt ps : Nat → Nat} {yy : Nat → Ps} {bf wf : Nat → Nat} {M : MTb} {gh : Nat → Nat → Nat} {v9 : Int32}
def Kpt (Y Z : Nat → Nat → Int32) (op b q : Nat) : Prop := (Z 14 = Y 14 ∧ Z 17 = Y 17 ∧ Z 18 = Y 18 ∧ Z 55 = Y 55 ∧ Z 56 = Y 56 ∧ Z 73 = Y 73) ∧ (Z 62 = Y 62 ∧ Z 64 = Y 64 ∧ Z 65 = Y 65 ∧ ∀ c : Nat, c + 1 < op → Z 63 c = Y 63 c) ∧ (∀ a : Nat, a < 32 * (op - 1) → Z 66 a = Y 66 a ∧ Z 67 a = Y 67 a) ∧ (∀ a : Nat, a < b → Z 68 a = Y 68 a ∧ Z 69 a = Y 69 a) ∧ ∀ a : Nat, a < q → Z 70 a = Y 70 a ∧ Z 71 a = Y 71 a ∧ Z 72 a = Y 72 a
theorem Kpt.rfl : Kpt Y Y op b q := ⟨⟨Eq.refl _, Eq.refl _, Eq.refl _, Eq.refl _, Eq.refl _, Eq.refl _⟩, ⟨Eq.refl _, Eq.refl _, Eq.refl _, fun _ _ => Eq.refl _⟩, fun _ _ => ⟨Eq.refl _, Eq.refl _⟩, fun _ _ => ⟨Eq.refl _, Eq.refl _⟩, fun _ _ => ⟨Eq.refl _, Eq.refl _, Eq.refl _⟩⟩
theorem Cfg.top (h : Cfg X Y dc md on M op tp wn j ov mt ps yy bf wf) : Frm X Y dc md on M (op - 1) (mt (op - 1)) j (yy (op - 1)) (if ov = true then aft X j (yy (op - 1)).1 else (yy (op - 1)).1) (bf (op - 1)) (wf (op - 1)) ∧ wn = wf (op - 1) + (yy (op - 1)).2.2.length := ⟨h.2.2.2.2.2.2.1, h.2.2.2.2.2.2.2.1⟩
theorem Cfg.rise (h : Cfg X Y dc md on M op tp wn j ov mt ps yy bf wf) (hp : Pv X (M.1 (mt (op - 1))) (rtP M (mt (op - 1))) p u) (w2 : ∃ x : List Nat, (yy (op - 1)).2.1 = u.2.1 ++ x) (w3 : u.2.2 = (yy (op - 1)).2.2) (g : Kpt Y Z op (bf (op - 1) + u.2.1.length) wn) (hv : Vrs X Z on dc (op - 1) (aft X p u.1)) (ho : Ovr X Z on dc M (mt (op - 1)) p (bf (op - 1) + u.2.1.length) tp1) : Cfg X Z dc md on M op tp1 wn p true mt ps (yyU yy (op - 1) u) bf wf := by
  obtain ⟨f, a8⟩ := h.top
  obtain ⟨x, ex⟩ := w2
  obtain ⟨g1, g2, g3, g4, g5⟩ := g
  have fp : Pnd X Y on dc u.2.1 (bf (op - 1)) := Pnd.take (u := x) (by rw [← ex]; exact f.2.2.2.2.2.1)
  exact Cfg.to h g1 g2 g3 (fun a ha => g4 a (by omega)) (fun a ha => g5 a (by omega)) hp hv (by rw [if_pos (Eq.refl _)]) (fp.same ⟨g1.2.1, g1.2.2.2⟩ (fun i hi => g4 _ (by omega))) (by rw [w3]; exact f.2.2.2.2.2.2.same g1.2.2.2 (fun i hi => g5 _ (by omega))) (by rw [w3]; exact a8) (fun w => absurd w (by decide)) (fun _ => ho)
theorem Cfg.turn (h : Cfg X Y dc md on M op tp wn j ov mt ps yy bf wf) (hz : Pv X (M.1 (mt (op - 1))) (rtP M (mt (op - 1))) i z) (w2 : ∃ x : List Nat, (yy (op - 1)).2.1 = z.2.1 ++ x) (w3 : z.2.2 = (yy (op - 1)).2.2) (g : Kpt Y Z op (bf (op - 1) + z.2.1.length) wn) (hv : Vrs X Z on dc (op - 1) z.1) (n4 : ¬ X 9 i = 44) : Cfg X Z dc md on M op (bf (op - 1) + z.2.1.length) wn i false mt ps (yyU yy (op - 1) z) bf wf := by
  obtain ⟨f, a8⟩ := h.top
  obtain ⟨x, ex⟩ := w2
  obtain ⟨g1, g2, g3, g4, g5⟩ := g
  have fp : Pnd X Y on dc z.2.1 (bf (op - 1)) := Pnd.take (u := x) (by rw [← ex]; exact f.2.2.2.2.2.1)
  exact Cfg.to h g1 g2 g3 (fun a ha => g4 a (by omega)) (fun a ha => g5 a (by omega)) hz hv (by rw [if_neg (by decide)]) (fp.same ⟨g1.2.1, g1.2.2.2⟩ (fun i hi => g4 _ (by omega))) (by rw [w3]; exact f.2.2.2.2.2.2.same g1.2.2.2 (fun i hi => g5 _ (by omega))) (by rw [w3]; exact a8) (fun _ => ⟨Eq.refl _, n4⟩) (fun w => absurd w (by decide))
def EnL (e e' : En) : Prop := e.1 ≤ e'.1 ∧ ∀ v : Nat, v < e.1 → e'.2.2 v = e.2.2 v
theorem EnL.rfl : EnL e e := ⟨Nat.le_refl _, fun _ _ => Eq.refl _⟩
theorem EnL.trans {e2 : En} (h : EnL e e') (g : EnL e' e2) : EnL e e2 := ⟨Nat.le_trans h.1 g.1, fun v hv => (g.2 v (Nat.lt_of_lt_of_le hv h.1)).trans (h.2 v hv)⟩
theorem EnL.aft : EnL e (aft X n e) := by
  unfold _root_.Jvm.Pilot.@@N@@.aft
  split
  · exact ⟨by show e.1 ≤ e.1 + 1; omega, fun v hv => if_neg (by omega)⟩
  · exact EnL.rfl
theorem EnL.envL : ∀ i : Nat, EnL e (envL X v9 e i) := by
  intro i
  induction i with
  | zero => exact EnL.rfl
  | succ i ih => exact ih.trans EnL.aft
theorem EnL.forE : EnL e (forE X n e) := by
  unfold _root_.Jvm.Pilot.@@N@@.forE
  split
  · exact EnL.rfl
  · exact EnL.aft
theorem EnL.cenv (k4 : kk ≤ 44) (s4 : s ≤ 4) : EnL e (cenv X n e kk s i) := by
  unfold _root_.Jvm.Pilot.@@N@@.cenv
  split
  · exact EnL.aft
  · exact EnL.envL _
  · exact EnL.rfl
  · exact EnL.rfl
  · exact EnL.forE
  · exact EnL.forE
  · exact ⟨by show e.1 ≤ e.1 + 1; omega, fun v hv => if_neg (by omega)⟩
  · exact EnL.rfl
theorem stq.enl (h : stq X p u j z) : EnL u.1 z.1 := by
  obtain ⟨kk, s, i, _, h2, _, h4, _, _, _, h8⟩ := h
  rw [h8]; exact EnL.cenv h2 h4
theorem Vrs.cut (h : Vrs X Y on dc c e') (l : EnL e e') (g : Z 55 = Y 55 ∧ Z 56 = Y 56 ∧ Z 73 = Y 73) (g1 : Z 63 c = nI e.1) (g2 : ∀ v : Nat, v < e.1 → Z 66 (32 * c + v) = Y 66 (32 * c + v) ∧ Z 67 (32 * c + v) = Y 67 (32 * c + v)) : Vrs X Z on dc c e := by
  obtain ⟨h1, h2, h3⟩ := h
  refine ⟨g1, Nat.le_trans l.1 h2, fun v hv => ?_⟩
  obtain ⟨t, z1, z2, z3, z4⟩ := h3 v (Nat.lt_of_lt_of_le hv l.1)
  exact ⟨t, (l.2 v hv).symm.trans z1, z2, z3, by rw [(g2 v hv).1, (g2 v hv).2]; exact z4.same g⟩
theorem Vrs.env (h : Vrs X Y on dc c e) (e1 : e'.1 = e.1) (e2 : e'.2.2 = e.2.2) : Vrs X Y on dc c e' := by
  unfold Vrs at h ⊢
  rw [e1, e2]; exact h
theorem Vrs.ext {il : Nat} (h : Vrs X Y on dc c e) (g : Z 55 = Y 55 ∧ Z 56 = Y 56 ∧ Z 73 = Y 73) (h30 : e.1 < 30) (g1 : Z 63 c = nI (e.1 + 1)) (g2 : ∀ v : Nat, v < e.1 → Z 66 (32 * c + v) = Y 66 (32 * c + v) ∧ Z 67 (32 * c + v) = Y 67 (32 * c + v)) (ht : TyC dc t) (h0 : ¬ t = 0) (hs : SlV X Z on dc (Z 66 (32 * c + e.1)) (Z 67 (32 * c + e.1)) t) : Vrs X Z on dc c (e.1 + 1, il, upd e.2.2 e.1 (nI t)) := by
  obtain ⟨h1, h2, h3⟩ := h
  refine ⟨g1, by show e.1 + 1 ≤ 30; omega, fun v hv => ?_⟩
  have hv' : v < e.1 + 1 := hv
  by_cases q : v = e.1
  · subst q; exact ⟨t, if_pos (Eq.refl _), ht, h0, hs⟩
  · obtain ⟨t', z1, z2, z3, z4⟩ := h3 v (by omega)
    exact ⟨t', (if_neg q).trans z1, z2, z3, by rw [(g2 v (by omega)).1, (g2 v (by omega)).2]; exact z4.same g⟩
theorem Vrs.set {w : Nat} (h : Vrs X Y on dc c e) (g : Z 55 = Y 55 ∧ Z 56 = Y 56 ∧ Z 73 = Y 73) (g1 : Z 63 c = Y 63 c) (g67 : Z 67 = Y 67) (hw : w < e.1) (g66 : Z 66 = upd (Y 66) (32 * c + w) v) (et : e.2.2 w = nI t) (ht : TyC dc t) (hd : dc ≤ 37) (hv : VTd (Y 73) (Y 55) (Y 56) (X 31) on dc v t) : Vrs X Z on dc c e := by
  obtain ⟨h1, h2, h3⟩ := h
  refine ⟨g1.trans h1, h2, fun x hx => ?_⟩
  obtain ⟨t', z1, z2, z3, z4⟩ := h3 x hx
  rw [g67, g66]
  by_cases q : x = w
  · subst q
    have tt : t' = t := (nI_eq (by unfold TyC at z2; omega) (by unfold TyC at ht; omega)).mp (z1.symm.trans et)
    subst tt
    refine ⟨t', z1, z2, z3, ?_⟩
    rw [show upd (Y 66) (32 * c + x) v (32 * c + x) = v from if_pos (Eq.refl _)]
    obtain ⟨⟨_, bb, b1, b2, b3, b4⟩, fl⟩ := z4
    refine SlV.same (Y := Y) ⟨⟨hv, bb, b1, b2, b3, fun t3 => Or.inl ?_⟩, fl⟩ g
    rcases Nat.eq_zero_or_pos bb with w0 | w0
    · have q := fl t3
      rw [b1, w0] at q; exact absurd (Eq.refl _) q
    · omega
  · rw [show upd (Y 66) (32 * c + w) v (32 * c + x) = Y 66 (32 * c + x) from if_neg (by omega)]
    exact ⟨t', z1, z2, z3, z4.same g⟩
theorem Frm.bnd (hF : Fs2 K T wr X gh nd) (hnd : nd ≤ 12000) (hT : Tbl X Y dc fd md nd M) (hB : Blk X gh nd md) (h : Frm X Y dc md on M c m j y e bs wb) : j < nd ∧ y.2.1.length ≤ 363 ∧ y.2.2.length ≤ 20 ∧ (∀ q : Nat, X 9 j = nI q → q ≤ 44 → 24 ≤ q → y.2.1 = []) ∧ (M.1 m < nd ∧ gh 0 (M.1 m) = 160000 ∧ gh 1 (M.1 m) ≤ 361) := by
  obtain ⟨⟨f1, f0⟩, ⟨d, f2⟩, _⟩ := h
  obtain ⟨m1, m2, m3, m4, m5, m6, m7, m8, m9, m10, m11, m12, _⟩ := hT _ f1 f0
  obtain ⟨b1, b2, b3, _⟩ := hB.1 m (M.1 m) m1 (by omega) m2
  obtain ⟨r1, r2, r3, r4, _⟩ := PvP.bnd hF hnd d (M.1 m) (rtP M m) j y f2 m3 m12 (fun _ _ _ _ => Eq.refl _)
  have l1 : (rtP M m).2.1.length = 0 := Eq.refl _
  have l2 : (rtP M m).2.2.length = 0 := Eq.refl _
  refine ⟨r1, by omega, by omega, r4, b1, b2, b3⟩
theorem Cfg.low2 (hF : Fs2 K T wr X gh nd) (hnd : nd ≤ 12000) (hT : Tbl X Y dc fd md nd M) (hB : Blk X gh nd md) (h : Cfg X Y dc md on M op tp wn j ov mt ps yy bf wf) : ∀ c : Nat, c < op → bf c ≤ 363 * c ∧ wf c ≤ 20 * c := by
  intro c
  induction c with
  | zero => intro _; rw [h.2.2.1, h.2.2.2.1]; exact ⟨by omega, by omega⟩
  | succ c ih =>
    intro hc
    obtain ⟨f1, _, f3, f4, _⟩ := h.2.2.2.2.2.1 c hc
    have := ih (by omega)
    obtain ⟨_, g1, g2, _⟩ := f1.bnd hF hnd hT hB
    omega
theorem Cfg.room (hF : Fs2 K T wr X gh nd) (hnd : nd ≤ 12000) (hT : Tbl X Y dc fd md nd M) (hB : Blk X gh nd md) (h : Cfg X Y dc md on M op tp wn j ov mt ps yy bf wf) : 1 ≤ op ∧ op ≤ 100 ∧ j < nd ∧ tp ≤ 363 * op + 1 ∧ wn ≤ 20 * op ∧ bf (op - 1) + (yy (op - 1)).2.1.length ≤ tp ∧ bf (op - 1) + (yy (op - 1)).2.1.length ≤ 363 * op ∧ Y 64 (op - 1) = nI (bf (op - 1)) ∧ (∀ q : Nat, X 9 j = nI q → q ≤ 44 → 24 ≤ q → (yy (op - 1)).2.1 = []) := by
  have l := Cfg.low2 hF hnd hT hB h (op - 1) (by have := h.1; omega)
  obtain ⟨f, a8⟩ := h.top
  obtain ⟨g0, g1, g2, g3, _⟩ := f.bnd hF hnd hT hB
  have o1 := h.1
  have o2 := h.2.1
  have t9 : tp ≤ bf (op - 1) + (yy (op - 1)).2.1.length + 1 ∧ bf (op - 1) + (yy (op - 1)).2.1.length ≤ tp := by
    cases ov with
    | false => have := (h.2.2.2.2.2.2.2.2.1 (Eq.refl _)).1; omega
    | true =>
      obtain ⟨_, _, _, w⟩ := h.2.2.2.2.2.2.2.2.2 (Eq.refl _)
      rcases w with ⟨_, w⟩ | ⟨_, _, _, _, w⟩
      · omega
      · rcases w with ⟨_, w⟩ | ⟨_, w, _⟩ <;> omega
  exact ⟨o1, o2, g0, by omega, by omega, t9.2, by omega, f.2.2.2.2.1, g3⟩
theorem Cfg.still (h : Cfg X Y dc md on M op tp wn j false mt ps yy bf wf) (ek : X 9 j = nI kk) (hk : 24 ≤ kk) (k4 : kk ≤ 44) (n3 : kk ≠ 30) : Cfg X Y dc md on M op tp wn j true mt ps (yyU yy (op - 1) (yy (op - 1))) bf wf := by
  obtain ⟨f, a8⟩ := h.top
  rw [if_neg (by decide)] at f
  have e := (h.2.2.2.2.2.2.2.2.1 (Eq.refl _)).1
  refine Cfg.rise h f.2.1 ⟨[], (List.append_nil _).symm⟩ (Eq.refl _) Kpt.rfl ?_ ⟨kk, ek, k4, Or.inl ⟨hk, e⟩⟩
  rw [aft_no (fun w => n3 ((nI_eq (by omega) (by omega)).mp (ek.symm.trans w)))]
  exact f.vrs
theorem Cfg.val (h : Cfg X Y dc md on M op tp wn j true mt ps yy bf wf) (ek : X 9 j = nI kk) (hk : kk ≤ 23) (hv : ¬ Y 17 j = 0) : ∃ t : Nat, tp = bf (op - 1) + (yy (op - 1)).2.1.length + 1 ∧ Y 17 j = nI t ∧ TyC dc t ∧ ¬ t = 0 ∧ Slt X Y on dc (Y 68 (tp - 1)) (Y 69 (tp - 1)) t := by
  obtain ⟨k2, w1, w2, w3⟩ := h.2.2.2.2.2.2.2.2.2 (Eq.refl _)
  have ek2 : k2 = kk := (nI_eq (by omega) (by omega)).mp (w1.symm.trans ek)
  rcases w3 with w3 | ⟨_, t, t1, t2, t3⟩
  · omega
  · rcases t3 with ⟨t4, _⟩ | ⟨t4, t5, t6, _⟩
    · rw [t4] at t1; exact absurd t1 hv
    · exact ⟨t, t5, t1, t2, t4, by rw [t5, Nat.add_sub_cancel]; exact t6⟩
theorem Cfg.npl (h : Cfg X Y dc md on M op tp wn j true mt ps yy bf wf) (ek : X 9 j = nI kk) (hk : kk = 12 ∨ kk = 15) (hv : ¬ Y 17 j = 0) : NPl X M (mt (op - 1)) j := by
  obtain ⟨k2, w1, w2, w3⟩ := h.2.2.2.2.2.2.2.2.2 (Eq.refl _)
  have ek2 : k2 = kk := (nI_eq (by omega) (by omega)).mp (w1.symm.trans ek)
  rcases w3 with w3 | ⟨_, t, t1, t2, t3⟩
  · omega
  · rcases t3 with ⟨t4, _⟩ | ⟨t4, t5, t6, t7⟩
    · rw [t4] at t1; exact absurd t1 hv
    · exact t7 (by omega)
theorem Cfg.noval (hd : dc ≤ 37) (h : Cfg X Y dc md on M op tp wn j true mt ps yy bf wf) (ek : X 9 j = nI kk) (k4 : kk ≤ 44) (hk : 24 ≤ kk ∨ Y 17 j = 0) : tp = bf (op - 1) + (yy (op - 1)).2.1.length := by
  obtain ⟨k2, w1, w2, w3⟩ := h.2.2.2.2.2.2.2.2.2 (Eq.refl _)
  have ek2 : k2 = kk := (nI_eq (by omega) (by omega)).mp (w1.symm.trans ek)
  rcases w3 with w3 | ⟨w0, t, t1, t2, t3⟩
  · exact w3.2
  · rcases t3 with ⟨t4, t5⟩ | ⟨t4, t5, t6⟩
    · exact t5
    · rcases hk with hk | hk
      · omega
      · rw [hk] at t1
        exact absurd ((nI_eq (a := 0) (b := t) (by omega) (by unfold TyC at t2; omega)).mp t1).symm t4
end M6
section M7
variable {X : Nat → Nat → Int32} {dc fd on t x c f k : Nat} {od oc os om oa cl da ds dI : Nat → Int32} {v : Int32}
theorem AbOK.blt (A : AbOK da ds dI dc) (hx : x < 40) (hc : c ≤ 6) (h : da (40 * x + c) = 1) : x = 0 ∧ 1 ≤ c := by
  obtain ⟨_, y1, _, z, z1, z2, z3, z4⟩ := A.2.2.2 x c hx (by omega) h
  refine ⟨?_, y1⟩
  have z0 : z = 0 := by omega
  subst z0
  rcases z4 with w | w
  · exact w
  · obtain ⟨_, q, _⟩ := A.2.2.2 x 0 hx (by omega) w
    omega
theorem AbOK.own (A : AbOK da ds dI dc) {d : Nat} (hd : dc ≤ 37) (d7 : 7 ≤ d) (d1 : d < dc) (hc : c < dc) (h : d = c ∨ da (40 * d + c) = 1) : 7 ≤ c := by
  rcases Nat.lt_or_ge c 7 with w | w
  · rcases h with h | h
    · omega
    · have := AbOK.blt A (by omega) (by omega) h; omega
  · exact w
theorem rtO_ge {oc os : Nat → Int32} {w : Nat} : 10 ≤ rtO oc os w := by
  unfold rtO
  split
  · omega
  · split <;> omega
theorem VTd.arr (P : PrF X dc fd) (H : HTd X dc fd od oc os om oa cl on) (h : VTd od oc os (X 31) on dc v (1000 + x)) (hx : TyC dc (1000 + x)) (nz : ¬ v = 0) : ∃ o so q p : Nat, v = nI (o + 1) ∧ o < 3000 ∧ Lvd od on o ∧ oc o = -1 ∧ os o = nI so ∧ baR dc so ∧ om o = nI q ∧ q ≤ 3000 ∧ oa o = nI p ∧ p ≤ 3000 ∧ (∀ i : Nat, i < q → VTd od oc os (X 31) on dc (cl (p + i)) so) ∧ fitF (X 31) so x = 1 := by
  have hd := P.2.2.1
  rcases h with h | h | ⟨w, e, h1, h2, h3⟩
  · omega
  · exact absurd h nz
  · have fc := FitC.of h3 h2 hx
    have big : 1000 ≤ rtO oc os w := by
      have ge := rtO_ge (oc := oc) (os := os) (w := w)
      rcases fc.1 with q | q | q | q | q <;> omega
    rcases h1 with ⟨a1, a2, a3⟩ | a1
    · unfold rtO at big h2 h3 fc
      rw [if_neg (by omega)] at big h2 h3 fc
      rcases H (w - 1) (by omega) a3 with ⟨b0, so, q, p, b1, b2, b3, b4, b5, b6, b7⟩ | ⟨k, p, b1, b2, _⟩
      · rw [if_pos b0, b1, nI_cl (by unfold baR baN at b2; omega)] at fc
        refine ⟨w - 1, so, q, p, by rw [Nat.sub_add_cancel a1]; exact e, by omega, a3, b0, b1, b2, b3, b4, b5, b6, b7, ?_⟩
        have n1 : ¬ so = 0 := by unfold baR baN at b2; omega
        have n2 : ¬ x = 0 := by unfold TyC at hx; omega
        refine FitC.to ?_ n1 n2
        rcases fc.1 with q | q | q | q | q
        · exact Or.inl (by omega)
        · omega
        · omega
        · omega
        · obtain ⟨q1, q2, q3, q4, q5⟩ := q
          exact Or.inr (Or.inr (Or.inl ⟨by omega, by omega, by omega, by omega, by rw [show 40 * (x - 10) + (so - 10) = 40 * (1000 + x - 1010) + (1000 + so - 1010) by omega]; exact q5⟩))
      · rw [if_neg (by rw [b1]; exact nI_m1 (by omega)), b1, nI_cl (by omega)] at big; omega
    · unfold rtO at big; rw [if_pos (by omega)] at big; omega
theorem VTd.obj (P : PrF X dc fd) (H : HTd X dc fd od oc os om oa cl on) (h : VTd od oc os (X 31) on dc v (10 + c)) (hc : c < dc) (nz : ¬ v = 0) (hf : f < fd) (ho : FldO X dc c f) : ∃ o k p : Nat, v = nI (o + 1) ∧ o < 3000 ∧ Lvd od on o ∧ oc o = nI k ∧ k < dc ∧ oa o = nI p ∧ p ≤ 3000 ∧ owF X k f = true ∧ fplF X fd f < cfF X k fd ∧ om o = nI (cfF X k fd) ∧ VTd od oc os (X 31) on dc (cl (p + fplF X fd f)) (ftN X f) := by
  have P' := P
  obtain ⟨A, irr, hd, g, gt, g6⟩ := P'
  obtain ⟨d, e, d7, d1, di⟩ := g f hf
  have ow : d = c ∨ X 31 (40 * d + c) = 1 := by
    rcases ho with w | ⟨d2, w1, w2, w3⟩
    · exact Or.inl ((nI_eq (by omega) (by omega)).mp (e.symm.trans w))
    · have : d = d2 := (nI_eq (by omega) (by omega)).mp (e.symm.trans w1)
      rw [this]; exact Or.inr w3
  have c7 := AbOK.own A hd d7 d1 hc ow
  rcases h with h | h | ⟨w, ew, h1, h2, h3⟩
  · omega
  · exact absurd h nz
  · have fc := (FitC.of h3 h2 (TyC.cl hc)).1
    rcases h1 with ⟨a1, a2, a3⟩ | a1
    · unfold rtO at fc
      rw [if_neg (by omega)] at fc
      rcases H (w - 1) (by omega) a3 with ⟨b0, so, q, p, b1, b2, b3, b4, b5, b6, b7⟩ | ⟨k, p, b1, b2, b3, b4, b5, b6, b7⟩
      · rw [if_pos b0] at fc
        exfalso
        rcases fc with q | q | q | q | q <;> omega
      · rw [if_neg (by rw [b1]; exact nI_m1 (by omega)), b1, nI_cl (by omega)] at fc
        have ck : c = k ∨ X 31 (40 * c + k) = 1 := by
          rcases fc with q | q | q | q | q
          · exact Or.inl (by omega)
          · omega
          · rw [show 10 + c - 10 = c by omega, show 10 + k - 10 = k by omega] at q; exact Or.inr q.2.2.2.2
          · omega
          · omega
        have dk : d = k ∨ X 31 (40 * d + k) = 1 := by
          rcases ow with w1 | w1
          · rw [w1]; exact ck
          · rcases ck with w2 | w2
            · rw [← w2]; exact Or.inr w1
            · exact Or.inr (A.2.1 c d k hc d1 b2 w1 w2)
        have oo : owF X k f = true := (owF_iff e (by omega) (by omega)).mpr dk
        exact ⟨w - 1, k, p, by rw [Nat.sub_add_cancel a1]; exact ew, by omega, a3, b1, b2, b5, b6, oo, P.lt b2 hf oo, b4, b7 f hf oo⟩
    · exfalso
      unfold rtO at fc
      rw [if_pos (by omega)] at fc
      rcases fc with q | q | q | q | q
      · omega
      · omega
      · have := AbOK.blt (x := c) (c := w - 4000) A (by omega) (by omega) (by rw [show 40 * c + (w - 4000) = 40 * (10 + c - 10) + (w - 3990 - 10) by omega]; exact q.2.2.2.2)
        omega
      · omega
      · omega
theorem VTd.of (P : PrF X dc fd) (H : HTd X dc fd od oc os om oa cl on) (h : VTd od oc os (X 31) on dc v t) (ht : TyC dc t) (h3 : 3 ≤ t) (nz : ¬ v = 0) : ∃ x : Nat, v = nI x ∧ 1 ≤ x ∧ ((x ≤ 3000 ∧ Lvd od on (x - 1)) ∨ (4001 ≤ x ∧ x ≤ 4006)) ∧ ((clF oc x = -1 ∧ x ≤ 3000 ∧ ∃ so : Nat, os (x - 1) = nI so ∧ baR dc so ∧ fitF (X 31) (1000 + so) t = 1) ∨ ∃ k : Nat, clF oc x = nI k ∧ k < dc ∧ fitF (X 31) (10 + k) t = 1) := by
  have hd := P.2.2.1
  rcases h with h | h | ⟨w, ew, h1, h2, h3⟩
  · omega
  · exact absurd h nz
  · unfold rtO at h2 h3
    rcases h1 with ⟨a1, a2, a3⟩ | a1
    · rw [if_neg (by omega)] at h2 h3
      refine ⟨w, ew, a1, Or.inl ⟨a2, a3⟩, ?_⟩
      rw [clF_2 (by omega)]
      rcases H (w - 1) (by omega) a3 with ⟨b0, so, q, p, b1, b2, b3, b4, b5, b6, b7⟩ | ⟨k, p, b1, b2, b3, b4, b5, b6, b7⟩
      · rw [if_pos b0, b1, nI_cl (by unfold baR baN at b2; omega)] at h3
        exact Or.inl ⟨b0, a2, so, b1, b2, h3⟩
      · rw [if_neg (by rw [b1]; exact nI_m1 (by omega)), b1, nI_cl (by omega)] at h3
        exact Or.inr ⟨k, b1, b2, h3⟩
    · rw [if_pos (by omega)] at h2 h3
      refine ⟨w, ew, by omega, Or.inr a1, Or.inr ⟨w - 4000, clF_1 (by omega), ?_, ?_⟩⟩
      · unfold TyC at h2; omega
      · rw [show 10 + (w - 4000) = w - 3990 by omega]; exact h3
theorem VTd.up2 (P : PrF X dc fd) {s : Nat} (hs : TyC dc s) (ht : TyC dc t) (h : VTd od oc os (X 31) on dc v s) (g : Fit (X 31) (nI s) (nI t)) : VTd od oc os (X 31) on dc v t := by
  obtain ⟨a, b, e1, e2, h1, h2, g⟩ := g
  have hd := P.2.2.1
  have ea : s = a := (nI_eq (by unfold TyC at hs; omega) (by omega)).mp e1
  have eb : t = b := (nI_eq (by unfold TyC at ht; omega) (by omega)).mp e2
  subst ea; subst eb
  exact VTd.up P.1 hd hs ht h g
end M7
def Pg (Xs Y : Nat → Nat → Int32) (gh : Nat → Nat → Nat) (nd T nm wr lz dc fd md pr bk : Nat) (M : MTb) : Prop := PrgOK Xs Y gh nd T nm wr lz dc fd md pr bk ∧ Tbl Xs Y dc fd md nd M
def Sta (Y Z : Nat → Nat → Int32) : Prop := (∀ r : Nat, r ≤ 54 → r ≠ 51 → Z r = Y r) ∧ Z 75 = Y 75 ∧ Z 76 = Y 76 ∧ Z 77 = Y 77
section M8
variable {Xs Y Z : Nat → Nat → Int32} {gh : Nat → Nat → Nat} {nd T nm wr lz dc fd md pr bk k n : Nat} {M : MTb} {rf rm rp : Nat → Int32}
theorem RfsK.same (h : RfsK Y rf rm rp fd k n) (g : Z 26 = Y 26 ∧ Z 31 = Y 31 ∧ Z 32 = Y 32 ∧ Z 35 = Y 35 ∧ Z 21 = Y 21 ∧ Z 53 = Y 53) : RfsK Z rf rm rp fd k n := by
  unfold RfsK RfsTo RfsC RefQ owF at h ⊢
  rw [g.1, g.2.1, g.2.2.1, g.2.2.2.1, g.2.2.2.2.1, g.2.2.2.2.2]; exact h
theorem Pg.same (h : Pg Xs Y gh nd T nm wr lz dc fd md pr bk M) (g : Sta Y Z) : Pg Xs Z gh nd T nm wr lz dc fd md pr bk M := by
  obtain ⟨⟨a1, a2, a3, a4, a5, a6, a7, a8, a9, a10, a11, a12, a13, a14, a15, a16, ⟨mx, m1, m2⟩, a18⟩, a19⟩ := h
  obtain ⟨g1, g2, g3, g4⟩ := g
  have r : ∀ r : Nat, r ≤ 54 → r ≠ 51 → Z r = Y r := g1
  refine ⟨⟨a1, a2, a3, a4, a5, a6, a7, ?_, ?_, ?_, fun q h1 h2 h3 h4 h5 => (r q (by omega) (by omega)).trans (a11 q h1 h2 h3 h4 h5), ?_, ?_, ?_, ?_, ?_, ⟨mx, m1, fun k hk => ?_⟩, a18⟩, ?_⟩
  · rw [r 17 (by omega) (by omega), r 18 (by omega) (by omega), r 14 (by omega) (by omega)]; exact a8
  · rw [r 18 (by omega) (by omega)]; exact a9
  · rw [r 14 (by omega) (by omega)]; exact a10
  · rw [r 30 (by omega) (by omega)]; exact a12
  · rw [r 53 (by omega) (by omega)]; exact a13
  · rw [r 52 (by omega) (by omega)]; exact a14
  · rw [r 52 (by omega) (by omega)]; exact a15
  · rw [r 54 (by omega) (by omega)]; exact a16
  · rw [g2, g3, g4]
    exact (m2 k hk).same ⟨r 26 (by omega) (by omega), r 31 (by omega) (by omega), r 32 (by omega) (by omega), r 35 (by omega) (by omega), r 21 (by omega) (by omega), r 53 (by omega) (by omega)⟩
  · intro m hm hb
    have := a19 m hm hb
    unfold BdyR at this ⊢
    rw [r 17 (by omega) (by omega), r 18 (by omega) (by omega), r 14 (by omega) (by omega)]; exact this
theorem Pg.cho {co : Nat → Int32} (h : Pg Xs Y gh nd T nm wr lz dc fd md pr bk M) (g : ChO Xs co dc md nm) : Pg Xs (updA Y 54 co) gh nd T nm wr lz dc fd md pr bk M := by
  obtain ⟨⟨a1, a2, a3, a4, a5, a6, a7, a8, a9, a10, a11, a12, a13, a14, a15, a16, a17, a18⟩, a19⟩ := h
  exact ⟨⟨a1, a2, a3, a4, a5, a6, a7, a8, a9, a10, fun q h1 h2 h3 h4 h5 => by unfold updA; rw [if_neg (by omega)]; exact a11 q h1 h2 h3 h4 h5, a12, a13, a14, a15, g, a17, a18⟩, a19⟩
theorem Pg.bd (h : Pg Xs Y gh nd T nm wr lz dc fd md pr bk M) : nd ≤ 12000 ∧ T ≤ 5000 ∧ wr ≤ 5000 ∧ 7 ≤ dc ∧ dc ≤ 37 ∧ fd ≤ 620 ∧ md ≤ 920 ∧ pr ≤ 5000 ∧ bk ≤ md ∧ 9 ≤ nm ∧ nm ≤ 5009 := h.1.2.2.2.2.2.2.2.2.2.2.2.2.2.2.2.2.2
theorem Pg.fs (h : Pg Xs Y gh nd T nm wr lz dc fd md pr bk M) : Fs2 (Xs 2) T wr Xs gh nd := h.1.1.1
theorem Pg.blk (h : Pg Xs Y gh nd T nm wr lz dc fd md pr bk M) : Blk Xs gh nd md := h.1.2.1
theorem Pg.ps (h : Pg Xs Y gh nd T nm wr lz dc fd md pr bk M) : PS T nm wr lz dc fd md pr bk Xs := h.1.1.2.1
theorem Pg.ty (h : Pg Xs Y gh nd T nm wr lz dc fd md pr bk M) : ∀ y : Nat, y < wr → tyOK dc (Xs 21 y) := h.1.1.2.2.2.2.1
theorem Pg.tbl (h : Pg Xs Y gh nd T nm wr lz dc fd md pr bk M) : Tbl Xs Y dc fd md nd M := h.2
theorem Pg.row (h : Pg Xs Y gh nd T nm wr lz dc fd md pr bk M) : ∀ r : Nat, r ≤ 47 → r ≠ 14 → r ≠ 17 → r ≠ 18 → r ≠ 30 → Y r = Xs r := h.1.2.2.2.2.2.2.2.2.2.2.1
theorem Pg.r14 (h : Pg Xs Y gh nd T nm wr lz dc fd md pr bk M) : ∀ i : Nat, i < nd → ¬ Xs 9 i = 44 → Y 14 i = Xs 14 i := h.1.2.2.2.2.2.2.2.2.2.1
theorem Pg.up (h : Pg Xs Y gh nd T nm wr lz dc fd md pr bk M) : ∀ n j : Nat, n < nd → j < nd → pch Xs n j → Y 52 j = nI n := h.1.2.2.2.2.2.2.2.2.2.2.2.2.2.1
theorem Pg.root (h : Pg Xs Y gh nd T nm wr lz dc fd md pr bk M) : ∀ m b : Nat, m < md → b < 20000 → Xs 42 m = nI b → Y 52 b = -1 := fun m b hm hb e => by
  obtain ⟨b1, b2, _⟩ := h.blk.1 m b hm hb e
  exact h.1.2.2.2.2.2.2.2.2.2.2.2.2.2.2.1 b b1 b2
theorem Pg.pl (h : Pg Xs Y gh nd T nm wr lz dc fd md pr bk M) : ∀ f : Nat, f < fd → Y 53 f = nI (fplF Xs fd f) := h.1.2.2.2.2.2.2.2.2.2.2.2.2.1
theorem Pg.cells (h : Pg Xs Y gh nd T nm wr lz dc fd md pr bk M) : ∀ d : Nat, d < dc → Y 30 d = nI (1 + cfF Xs d fd) := h.1.2.2.2.2.2.2.2.2.2.2.2.1
theorem Pg.ch (h : Pg Xs Y gh nd T nm wr lz dc fd md pr bk M) : ChO Xs (Y 54) dc md nm := h.1.2.2.2.2.2.2.2.2.2.2.2.2.2.2.2.1
theorem Pg.ab (h : Pg Xs Y gh nd T nm wr lz dc fd md pr bk M) : AbOK (Xs 31) (Xs 29) (Xs 26) dc := h.1.2.2.1
theorem Pg.prf (h : Pg Xs Y gh nd T nm wr lz dc fd md pr bk M) : PrF Xs dc fd := by
  have b := h.bd
  refine ⟨h.ab, h.1.2.2.2.1, by omega, fun f hf => ?_, fun f hf => ?_, by omega⟩
  · obtain ⟨⟨d, d1, d2, d3⟩, _⟩ := h.ps.2.1 f hf
    obtain ⟨d', e1, e2, e3⟩ := h.ps.2.2.2.2.2 f hf
    have : d' = d := (nI_eq (by omega) (by omega)).mp (e1.symm.trans d1)
    exact ⟨d, d1, d2, d3, by rw [← this]; exact e3⟩
  · obtain ⟨_, _, y, y1, y2⟩ := h.ps.2.1 f hf
    obtain ⟨x, x1, x2⟩ := h.ty y y2
    exact ⟨y, x, y1, by omega, x1, x2⟩
theorem Pg.rfp (h : Pg Xs Y gh nd T nm wr lz dc fd md pr bk M) : RfP Xs dc fd (Y 75) (Y 76) (Y 77) := fun k hk ik => by
  have b := h.bd
  obtain ⟨mx, m1, m2⟩ := h.1.2.2.2.2.2.2.2.2.2.2.2.2.2.2.2.2.1
  obtain ⟨u, z, r1, r2, r3, r4, r5⟩ := m2 k hk
  have q := h.row
  have eo : ∀ f : Nat, owF Y k f = owF Xs k f := fun f => by unfold owF; rw [q 31 (by omega) (by omega) (by omega) (by omega) (by omega), q 32 (by omega) (by omega) (by omega) (by omega) (by omega)]
  have ft := h.prf.2.2.2.2.1
  have e35 := q 35 (by omega) (by omega) (by omega) (by omega) (by omega)
  have e21 := q 21 (by omega) (by omega) (by omega) (by omega) (by omega)
  refine ⟨u, z, r1, r2, by omega, fun i hi => ?_, fun f hf o t3 => ?_⟩
  · obtain ⟨f, y, x, f1, f2, f3, f4, f5, ⟨f7, f8⟩, f6⟩ := r4 (u + i) (by omega) (by omega)
    obtain ⟨y', x', g1, g2, g3, g4, g5, _⟩ := FdT.ft ft f1 (by omega)
    rw [e35] at f3
    rw [e21] at f4
    refine ⟨f, f1, by rw [← eo]; exact f2, ?_, by rw [f6]; exact h.pl f f1⟩
    rw [g4]
    have ey : y = y' := (nI_eq (by omega) (by omega)).mp (f3.symm.trans g1)
    rw [ey] at f4
    have := (nI_eq (by omega) (by omega)).mp (f4.symm.trans g3)
    omega
  · obtain ⟨y', x', g1, g2, g3, g4, g5, _⟩ := FdT.ft ft hf (by omega)
    have ik' : Y 26 k = 0 := by rw [q 26 (by omega) (by omega) (by omega) (by omega) (by omega)]; exact ik
    obtain ⟨i, i1, i2, i3⟩ := r5 ik' f hf (by rw [eo]; exact o) y' x' (by rw [e35]; exact g1) (by rw [e21]; exact g3) (by omega) (by omega) (by omega)
    exact ⟨i - u, by omega, by rw [show u + (i - u) = i by omega, i3]; exact h.pl f hf⟩
end M8
section M9
variable {X Y Z : Nat → Nat → Int32} {K : Nat → Int32} {T wr dc fd md nd on on1 op tp tp1 wn wn1 j c m bs wb k rs q b t i p kk s n r : Nat} {y u z : Ps} {e e' : En} {v f so k9 : Int32} {ov ov1 : Bool} {mt ps : Nat → Nat} {yy : Nat → Ps} {bf wf : Nat → Nat} {M : MTb} {gh : Nat → Nat → Nat} {sn : Nat → Int32}
theorem Slt.ref (h : Slt X Y on dc v f t) (hf : ¬ f = 0) : RfV (Y 73) on v := by
  obtain ⟨h1, b, h2, h3, h4, h5⟩ := h
  rcases Nat.eq_zero_or_pos b with w | w
  · rw [w] at h2; exact absurd h2 hf
  · exact h1.ref (h4 w)
theorem Cfg.frm (h : Cfg X Y dc md on M op tp wn j ov mt ps yy bf wf) (hc : c < op) : ∃ j' : Nat, ∃ e' : En, Frm X Y dc md on M c (mt c) j' (yy c) e' (bf c) (wf c) := by
  by_cases q : c + 1 < op
  · exact ⟨_, _, (h.2.2.2.2.2.1 c q).1⟩
  · have : c = op - 1 := by omega
    subst this
    exact ⟨_, _, h.top.1⟩
theorem Cfg.stk (h : Cfg X Y dc md on M op tp wn j ov mt ps yy bf wf) : ∀ d c : Nat, c + d = op - 1 → c < op → ∀ k : Nat, bf c ≤ k → k < bf (op - 1) + (yy (op - 1)).2.1.length → ∃ t : Nat, TyC dc t ∧ Slt X Y on dc (Y 68 k) (Y 69 k) t := by
  intro d
  induction d with
  | zero =>
    intro c e hc k h1 h2
    have : c = op - 1 := by omega
    subst this
    obtain ⟨n, t, _, _, z3, _, z5⟩ := h.top.1.2.2.2.2.2.1 (k - bf (op - 1)) (by omega)
    rw [show bf (op - 1) + (k - bf (op - 1)) = k by omega] at z5
    exact ⟨t, z3, z5⟩
  | succ d ih =>
    intro c e hc k h1 h2
    obtain ⟨f1, _, f3, _⟩ := h.2.2.2.2.2.1 c (by omega)
    by_cases q : k < bf (c + 1)
    · obtain ⟨n, t, _, _, z3, _, z5⟩ := f1.2.2.2.2.2.1 (k - bf c) (by omega)
      rw [show bf c + (k - bf c) = k by omega] at z5
      exact ⟨t, z3, z5⟩
    · exact ih (c + 1) (by omega) (by omega) k (by omega) h2
theorem Cfg.wts (h : Cfg X Y dc md on M op tp wn j ov mt ps yy bf wf) : ∀ d c : Nat, c + d = op - 1 → c < op → ∀ k : Nat, wf c ≤ k → k < wn → ¬ Y 72 k = 0 → RfV (Y 73) on (Y 71 k) := by
  intro d
  have e9 := h.top.2
  induction d with
  | zero =>
    intro c e hc k h1 h2
    have : c = op - 1 := by omega
    subst this
    obtain ⟨n, _, _, z3, _⟩ := h.top.1.2.2.2.2.2.2 (k - wf (op - 1)) (by omega)
    rw [show wf (op - 1) + (k - wf (op - 1)) = k by omega] at z3
    exact z3
  | succ d ih =>
    intro c e hc k h1 h2
    obtain ⟨f1, _, _, f4, _⟩ := h.2.2.2.2.2.1 c (by omega)
    by_cases q : k < wf (c + 1)
    · obtain ⟨n, _, _, z3, _⟩ := f1.2.2.2.2.2.2 (k - wf c) (by omega)
      rw [show wf c + (k - wf c) = k by omega] at z3
      exact z3
    · exact ih (c + 1) (by omega) (by omega) k (by omega) h2
theorem Cfg.roots (h : Cfg X Y dc md on M op tp wn j ov mt ps yy bf wf) : (∀ c : Nat, c < op → RfV (Y 73) on (Y 62 c)) ∧ (∀ c : Nat, c < op → ∃ s : Nat, s ≤ 30 ∧ Y 63 c = nI s ∧ ∀ v : Nat, v < s → ¬ Y 67 (32 * c + v) = 0 → RfV (Y 73) on (Y 66 (32 * c + v))) ∧ (∀ k : Nat, k < bf (op - 1) + (yy (op - 1)).2.1.length → ¬ Y 69 k = 0 → RfV (Y 73) on (Y 68 k)) ∧ ∀ k : Nat, k < wn → ¬ Y 72 k = 0 → RfV (Y 73) on (Y 71 k) := by
  refine ⟨fun c hc => ?_, fun c hc => ?_, fun k hk hf => ?_, fun k hk => ?_⟩
  · obtain ⟨_, _, f1⟩ := h.frm hc
    exact f1.2.2.1.2.ref (by omega)
  · obtain ⟨_, e', f1⟩ := h.frm hc
    obtain ⟨v1, v2, v3⟩ := f1.vrs
    refine ⟨e'.1, v2, v1, fun v hv hf => ?_⟩
    obtain ⟨t, _, _, _, z⟩ := v3 v hv
    exact z.1.ref hf
  · obtain ⟨t, _, z⟩ := h.stk (op - 1) 0 (by omega) (by have := h.1; omega) k (by rw [h.2.2.1]; omega) hk
    exact z.ref hf
  · exact h.wts (op - 1) 0 (by omega) (by have := h.1; omega) k (by rw [h.2.2.2.1]; omega) hk
def Mkd (Y Z : Nat → Nat → Int32) (sn : Nat → Int32) (on on1 r : Nat) (k9 so : Int32) : Prop := (∀ o : Nat, o < 3000 → (Lvd (Z 73) on1 o ↔ (Lvd (Y 73) on o ∧ ¬ sn o = 0) ∨ (0 < r ∧ o = r - 1))) ∧ (0 < r → Z 55 = upd (Y 55) (r - 1) k9 ∧ Z 56 = upd (Y 56) (r - 1) so ∧ (¬ Lvd (Y 73) on (r - 1) ∨ sn (r - 1) = 0)) ∧ (r = 0 → Z 55 = Y 55 ∧ Z 56 = Y 56)
theorem Mkd.vtd (g : Mkd Y Z sn on on1 r k9 so) {da : Nat → Int32} (h : VTd (Y 73) (Y 55) (Y 56) da on dc v t) (w : 3 ≤ t → RfS sn v) : VTd (Z 73) (Z 55) (Z 56) da on1 dc v t := VTd.make g.1 g.2.1 g.2.2 h w
theorem Slt.make (g : Mkd Y Z sn on on1 r k9 so) (h : Slt X Y on dc v f t) (w : ¬ f = 0 → RfS sn v) : Slt X Z on1 dc v f t := by
  obtain ⟨h1, b, h2, h3, h4, h5⟩ := h
  refine ⟨?_, b, h2, h3, h4, h5⟩
  by_cases t3 : 3 ≤ t
  · rcases h5 t3 with q | q
    · exact g.vtd h1 (fun _ => w (by rw [h2, q]; decide))
    · rw [q]; exact VTd.zero
  · exact VTd.num (by omega)
theorem SlV.make (g : Mkd Y Z sn on on1 r k9 so) (h : SlV X Y on dc v f t) (w : ¬ f = 0 → RfS sn v) : SlV X Z on1 dc v f t := ⟨Slt.make g h.1 w, h.2⟩
theorem Thr.make (g : Mkd Y Z sn on on1 r k9 so) (h : Thr Y on dc v) (w : RfS sn v) : Thr Z on1 dc v := by
  obtain ⟨x, k, e, h1, h2, h3, h4⟩ := h
  rcases h2 with ⟨a1, a2⟩ | a1
  · have s0 := w x e h1 a1
    have lv : Lvd (Z 73) on1 (x - 1) := (g.1 (x - 1) (by omega)).mpr (Or.inl ⟨a2, s0⟩)
    refine ⟨x, k, e, h1, Or.inl ⟨a1, lv⟩, ?_, h4⟩
    rw [clF_2 (by omega)] at h3 ⊢
    rcases Nat.eq_zero_or_pos r with q | q
    · rw [(g.2.2 q).1]; exact h3
    · obtain ⟨c1, _, c3⟩ := g.2.1 q
      rw [c1]
      refine (if_neg (fun z => ?_)).trans h3
      rw [← z] at c3
      rcases c3 with c3 | c3
      · exact c3 a2
      · exact s0 c3
  · exact ⟨x, k, e, h1, Or.inr a1, by rw [clF_1 (by omega)] at h3 ⊢; exact h3, h4⟩
theorem Pnd.make {w : List Nat} (g : Mkd Y Z sn on on1 r k9 so) (g0 : Z 17 = Y 17 ∧ Z 68 = Y 68 ∧ Z 69 = Y 69) (h : Pnd X Y on dc w bs) (hs : ∀ i : Nat, i < w.length → ¬ Y 69 (bs + i) = 0 → RfS sn (Y 68 (bs + i))) : Pnd X Z on1 dc w bs := fun i hi => by
  obtain ⟨n, t, z1, z2, z3, z4, z5⟩ := h i hi
  rw [g0.1, g0.2.1, g0.2.2]
  exact ⟨n, t, z1, z2, z3, z4, Slt.make g z5 (hs i hi)⟩
theorem Wts.make {w : List Nat} (g : Mkd Y Z sn on on1 r k9 so) (g0 : Z 70 = Y 70 ∧ Z 71 = Y 71 ∧ Z 72 = Y 72) (h : Wts X Y on dc rs w wb) (hs : ∀ i : Nat, i < w.length → ¬ Y 72 (wb + i) = 0 → RfS sn (Y 71 (wb + i))) : Wts X Z on1 dc rs w wb := fun i hi => by
  obtain ⟨n, z1, z2, z3, z9⟩ := h i hi
  rw [g0.1, g0.2.1, g0.2.2]
  refine ⟨n, z1, ?_, fun w => ?_, z9⟩
  · rcases z2 with z | z | z | z
    · exact Or.inl z
    · exact Or.inr (Or.inl ⟨z.1, Thr.make g z.2.1 (hs i hi z.2.2), z.2.2⟩)
    · exact Or.inr (Or.inr (Or.inl ⟨z.1, z.2.imp id (fun u => Slt.make g u (hs i hi))⟩))
    · exact Or.inr (Or.inr (Or.inr z))
  · obtain ⟨x, e, q⟩ := z3 w
    have s0 := hs i hi w
    refine ⟨x, e, q.imp id (fun q => q.imp (fun q => ⟨q.1, q.2.1, (g.1 (x - 1) (by omega)).mpr (Or.inl ⟨q.2.2, s0 x e q.1 q.2.1⟩)⟩) id)⟩
theorem Frm.make (g : Mkd Y Z sn on on1 r k9 so) (g0 : Z 17 = Y 17 ∧ Z 68 = Y 68 ∧ Z 69 = Y 69) (g1 : Z 70 = Y 70 ∧ Z 71 = Y 71 ∧ Z 72 = Y 72) (g2 : Z 62 = Y 62 ∧ Z 63 = Y 63 ∧ Z 64 = Y 64 ∧ Z 66 = Y 66 ∧ Z 67 = Y 67) (h : Frm X Y dc md on M c m j y e bs wb) (s1 : RfS sn (Y 62 c)) (s2 : ∀ v : Nat, v < e.1 → ¬ Y 67 (32 * c + v) = 0 → RfS sn (Y 66 (32 * c + v))) (s3 : ∀ i : Nat, i < y.2.1.length → ¬ Y 69 (bs + i) = 0 → RfS sn (Y 68 (bs + i))) (s4 : ∀ i : Nat, i < y.2.2.length → ¬ Y 72 (wb + i) = 0 → RfS sn (Y 71 (wb + i))) : Frm X Z dc md on1 M c m j y e bs wb := by
  obtain ⟨h1, h2, h3, ⟨v1, v2, v3⟩, h5, h6, h7⟩ := h
  refine ⟨h1, h2, by rw [g2.1]; exact ⟨h3.1, g.vtd h3.2 (fun _ => s1)⟩, ⟨by rw [g2.2.1]; exact v1, v2, fun v hv => ?_⟩, by rw [g2.2.2.1]; exact h5, Pnd.make g g0 h6 s3, Wts.make g g1 h7 s4⟩
  obtain ⟨t, z1, z2, z3, z4⟩ := v3 v hv
  rw [g2.2.2.2.1, g2.2.2.2.2]
  exact ⟨t, z1, z2, z3, SlV.make g z4 (s2 v hv)⟩
theorem Cfg.make (h : Cfg X Y dc md on M op tp wn j false mt ps yy bf wf) (g : Mkd Y Z sn on on1 r k9 so) (g0 : Z 17 = Y 17 ∧ Z 68 = Y 68 ∧ Z 69 = Y 69) (g1 : Z 70 = Y 70 ∧ Z 71 = Y 71 ∧ Z 72 = Y 72) (g2 : Z 62 = Y 62 ∧ Z 63 = Y 63 ∧ Z 64 = Y 64 ∧ Z 66 = Y 66 ∧ Z 67 = Y 67) (g3 : Z 65 = Y 65)
    (s1 : ∀ c : Nat, c < op → RfS sn (Y 62 c)) (s2 : ∀ c s v : Nat, c < op → Y 63 c = nI s → s ≤ 30 → v < s → ¬ Y 67 (32 * c + v) = 0 → RfS sn (Y 66 (32 * c + v))) (s3 : ∀ k : Nat, k < tp → ¬ Y 69 k = 0 → RfS sn (Y 68 k)) (s4 : ∀ k : Nat, k < wn → ¬ Y 72 k = 0 → RfS sn (Y 71 k)) : Cfg X Z dc md on1 M op tp wn j false mt ps yy bf wf := by
  have bas := Cfg.base h
  obtain ⟨f, a8⟩ := h.top
  have et := (h.2.2.2.2.2.2.2.2.1 rfl).1
  obtain ⟨a1, a2, a3, a4, a5, a6, a7, _, a9, a10⟩ := h
  refine ⟨a1, a2, a3, a4, by rw [g3]; exact a5, fun c hc => ?_, Frm.make g g0 g1 g2 f (s1 _ (by omega)) (fun v hv => s2 _ _ v (by omega) f.vrs.1 f.vrs.2.1 hv) (fun i hi => s3 _ (by omega)) (fun i hi => s4 _ (by omega)), a8, a9, fun w => absurd w (by decide)⟩
  obtain ⟨f1, f2, f3, f4, f5, f6⟩ := a6 c hc
  obtain ⟨b1, b2⟩ := bas (op - 1 - c) c (by omega)
  rw [if_neg (by omega)] at b1 b2
  exact ⟨Frm.make g g0 g1 g2 f1 (s1 _ (by omega)) (fun v hv => s2 _ _ v (by omega) f1.vrs.1 f1.vrs.2.1 hv) (fun i hi => s3 _ (by omega)) (fun i hi => s4 _ (by omega)), by rw [g3]; exact f2, f3, f4, f5, by rw [g0.1]; exact f6⟩
def VrsL (X Y : Nat → Nat → Int32) (on dc c : Nat) (e : En) : Prop := e.1 ≤ 30 ∧ ∀ v : Nat, v < e.1 → ∃ t : Nat, e.2.2 v = nI t ∧ TyC dc t ∧ ¬ t = 0 ∧ SlV X Y on dc (Y 66 (32 * c + v)) (Y 67 (32 * c + v)) t
def Lvg (X Y : Nat → Nat → Int32) (dc md on : Nat) (M : MTb) (op wn j : Nat) (mt ps : Nat → Nat) (yy : Nat → Ps) (bs wb : Nat → Nat) : Prop := 1 ≤ op ∧ op ≤ 100 ∧ bs 0 = 0 ∧ wb 0 = 0 ∧ Y 65 0 = -1 ∧
  (∀ c : Nat, c + 1 < op → Frm X Y dc md on M c (mt c) (ps c) (yy c) (yy c).1 (bs c) (wb c) ∧ Y 65 (c + 1) = nI (ps c) ∧ bs (c + 1) = bs c + (yy c).2.1.length ∧ wb (c + 1) = wb c + (yy c).2.2.length ∧ (X 9 (ps c) = nI 7 ∨ X 9 (ps c) = nI 8 ∨ X 9 (ps c) = nI 14) ∧ Y 17 (ps c) = resF (X 39) (X 21) (mt (c + 1))) ∧
  ((mt (op - 1) < md ∧ ¬ X 42 (mt (op - 1)) = -1) ∧ Pv X (M.1 (mt (op - 1))) (rtP M (mt (op - 1))) j (yy (op - 1)) ∧ (¬ Y 62 (op - 1) = 0 ∧ VTd (Y 73) (Y 55) (Y 56) (X 31) on dc (Y 62 (op - 1)) (10 + M.2.1 (mt (op - 1)))) ∧ VrsL X Y on dc (op - 1) (yy (op - 1)).1 ∧ Y 64 (op - 1) = nI (bs (op - 1)) ∧ Wts X Y on dc (M.2.2.1 (mt (op - 1))) (yy (op - 1)).2.2 (wb (op - 1))) ∧ wn = wb (op - 1) + (yy (op - 1)).2.2.length
theorem Vrs.low (h : Vrs X Y on dc c e') (l : EnL e e') : VrsL X Y on dc c e := ⟨Nat.le_trans l.1 h.2.1, fun v hv => by
  obtain ⟨t, z1, z⟩ := h.2.2 v (Nat.lt_of_lt_of_le hv l.1)
  exact ⟨t, (l.2 v hv).symm.trans z1, z⟩⟩
theorem VrsL.low (h : VrsL X Y on dc c e') (l : EnL e e') : VrsL X Y on dc c e := ⟨Nat.le_trans l.1 h.1, fun v hv => by
  obtain ⟨t, z1, z⟩ := h.2 v (Nat.lt_of_lt_of_le hv l.1)
  exact ⟨t, (l.2 v hv).symm.trans z1, z⟩⟩
theorem VrsL.at (h : VrsL X Y on dc c e) (g : Z 55 = Y 55 ∧ Z 56 = Y 56 ∧ Z 73 = Y 73) (g1 : Z 63 c = nI e.1) (g2 : ∀ v : Nat, v < e.1 → Z 66 (32 * c + v) = Y 66 (32 * c + v) ∧ Z 67 (32 * c + v) = Y 67 (32 * c + v)) : Vrs X Z on dc c e := ⟨g1, h.1, fun v hv => by
  obtain ⟨t, z1, z2, z3, z4⟩ := h.2 v hv
  exact ⟨t, z1, z2, z3, by rw [(g2 v hv).1, (g2 v hv).2]; exact z4.same g⟩⟩
theorem VrsL.ext {il : Nat} (h : VrsL X Y on dc c e) (g : Z 55 = Y 55 ∧ Z 56 = Y 56 ∧ Z 73 = Y 73) (h30 : e.1 < 30) (g1 : Z 63 c = nI (e.1 + 1)) (g2 : ∀ v : Nat, v < e.1 → Z 66 (32 * c + v) = Y 66 (32 * c + v) ∧ Z 67 (32 * c + v) = Y 67 (32 * c + v)) (ht : TyC dc t) (h0 : ¬ t = 0) (hs : SlV X Z on dc (Z 66 (32 * c + e.1)) (Z 67 (32 * c + e.1)) t) : Vrs X Z on dc c (e.1 + 1, il, upd e.2.2 e.1 (nI t)) := by
  refine ⟨g1, by show e.1 + 1 ≤ 30; omega, fun v hv => ?_⟩
  have hv' : v < e.1 + 1 := hv
  by_cases q : v = e.1
  · subst q; exact ⟨t, if_pos rfl, ht, h0, hs⟩
  · obtain ⟨t', z1, z2, z3, z4⟩ := h.2 v (by omega)
    exact ⟨t', (if_neg q).trans z1, z2, z3, by rw [(g2 v (by omega)).1, (g2 v (by omega)).2]; exact z4.same g⟩
theorem Cfg.lvg (h : Cfg X Y dc md on M op tp wn j ov mt ps yy bf wf) : Lvg X Y dc md on M op wn j mt ps yy bf wf := by
  obtain ⟨a1, a2, a3, a4, a5, a6, ⟨f1, f2, f3, f4, f5, f6, f7⟩, a8, _⟩ := h
  refine ⟨a1, a2, a3, a4, a5, a6, ⟨f1, f2, f3, f4.low ?_, f5, f7⟩, a8⟩
  split
  · exact EnL.aft
  · exact EnL.rfl
theorem Lvg.to (h : Lvg X Y dc md on M op wn j mt ps yy bf wf) (hp : Pv X (M.1 (mt (op - 1))) (rtP M (mt (op - 1))) p u) (l : EnL u.1 (yy (op - 1)).1) (w3 : ∃ x : List Nat, (yy (op - 1)).2.2 = u.2.2 ++ x) : Lvg X Y dc md on M op (wf (op - 1) + u.2.2.length) p mt ps (yyU yy (op - 1) u) bf wf := by
  obtain ⟨a1, a2, a3, a4, a5, a6, ⟨f1, f2, f3, f4, f5, f7⟩, a8⟩ := h
  have top : yyU yy (op - 1) u (op - 1) = u := if_pos rfl
  have oth : ∀ c : Nat, c + 1 < op → yyU yy (op - 1) u c = yy c := fun c hc => if_neg (by omega)
  obtain ⟨x, ex⟩ := w3
  refine ⟨a1, a2, a3, a4, a5, fun c hc => by rw [oth c hc]; exact a6 c hc, ?_, by rw [top]⟩
  rw [top]
  refine ⟨f1, hp, f3, f4.low l, f5, fun i hi => ?_⟩
  obtain ⟨n, z1, z2⟩ := f7 i (by rw [ex, List.length_append]; omega)
  exact ⟨n, by rw [ex, List.getElem?_append_left hi] at z1; exact z1, z2⟩
theorem Lvg.out (h : Lvg X Y dc md on M op wn j mt ps yy bf wf) (h2 : 2 ≤ op) (hr : (yy (op - 1)).2.2 = []) : Lvg X Y dc md on M (op - 1) wn (ps (op - 2)) mt ps yy bf wf ∧ Y 65 (op - 1) = nI (ps (op - 2)) := by
  obtain ⟨a1, a2, a3, a4, a5, a6, _, a8⟩ := h
  obtain ⟨f, b2, b3, b4, b5, b6⟩ := a6 (op - 2) (by omega)
  rw [show op - 2 + 1 = op - 1 by omega] at b2 b4
  rw [hr] at a8
  have a8' : wn = wf (op - 1) := a8
  refine ⟨⟨by omega, by omega, a3, a4, a5, fun c hc => a6 c (by omega), ?_, ?_⟩, b2⟩
  · rw [show op - 1 - 1 = op - 2 by omega]
    obtain ⟨f1, f2, f3, f4, f5, _, f7⟩ := f
    exact ⟨f1, f2, f3, f4.low EnL.rfl, f5, f7⟩
  · rw [show op - 1 - 1 = op - 2 by omega]; omega
theorem Lvg.low (h : Lvg X Y dc md on M op wn j mt ps yy bf wf) (g : Kpt Y Z op (bf (op - 1)) (wf (op - 1))) : ∀ c : Nat, c + 1 < op → Frm X Z dc md on M c (mt c) (ps c) (yy c) (yy c).1 (bf c) (wf c) ∧ Z 65 (c + 1) = nI (ps c) ∧ bf (c + 1) = bf c + (yy c).2.1.length ∧ wf (c + 1) = wf c + (yy c).2.2.length ∧ (X 9 (ps c) = nI 7 ∨ X 9 (ps c) = nI 8 ∨ X 9 (ps c) = nI 14) ∧ Z 17 (ps c) = resF (X 39) (X 21) (mt (c + 1)) := by
  have bas : ∀ d c : Nat, c + d = op - 1 → bf c + (if d = 0 then 0 else (yy c).2.1.length) ≤ bf (op - 1) ∧ wf c + (if d = 0 then 0 else (yy c).2.2.length) ≤ wf (op - 1) := by
    intro d
    induction d with
    | zero => intro c e; rw [if_pos rfl, if_pos rfl, show c = op - 1 by omega]; exact ⟨Nat.le_refl _, Nat.le_refl _⟩
    | succ d ih =>
      intro c e
      obtain ⟨_, _, h1, h2, _⟩ := h.2.2.2.2.2.1 c (by omega)
      obtain ⟨i1, i2⟩ := ih (c + 1) (by omega)
      rw [if_neg (by omega), if_neg (by omega)]
      exact ⟨by omega, by omega⟩
  intro c hc
  obtain ⟨f1, f2, f3, f4, f5, f6⟩ := h.2.2.2.2.2.1 c hc
  obtain ⟨b1, b2⟩ := bas (op - 1 - c) c (by omega)
  rw [if_neg (by omega)] at b1 b2
  obtain ⟨g1, ⟨v1, v2, v3, v4⟩, g3, g4, g5⟩ := g
  refine ⟨f1.same ⟨g1, ⟨by rw [v1], by rw [v2]⟩, fun i hi => g4 _ (by omega), fun i hi => g5 _ (by omega)⟩ (f1.vrs.same g1.2.2.2 (v4 c hc) (fun v hv => g3 _ (by omega))), by rw [v3]; exact f2, f3, f4, f5, by rw [g1.2.1]; exact f6⟩
theorem Lvg.land {e1 : En} (h : Lvg X Y dc md on M op wn j mt ps yy bf wf) (g : Kpt Y Z op (bf (op - 1)) (wf (op - 1))) (hpv : Pv X (M.1 (mt (op - 1))) (rtP M (mt (op - 1))) i z) (hvr : Vrs X Z on dc (op - 1) e1) (he : e1 = (if ov1 = true then aft X i z.1 else z.1)) (hpn : z.2.1 = []) (hwt : Wts X Z on dc (M.2.2.1 (mt (op - 1))) z.2.2 (wf (op - 1))) (hwn : wn1 = wf (op - 1) + z.2.2.length) (ht1 : ov1 = false → ¬ X 9 i = 44) (ht2 : ov1 = true → Ovr X Z on dc M (mt (op - 1)) i (bf (op - 1)) (bf (op - 1))) : Cfg X Z dc md on M op (bf (op - 1)) wn1 i ov1 mt ps (yyU yy (op - 1) z) bf wf := by
  have L := Lvg.low h g
  obtain ⟨a1, a2, a3, a4, a5, _, ⟨f1, f2, f3, f4, f5, f7⟩, a8⟩ := h
  obtain ⟨g1, ⟨v1, v2, v3, v4⟩, g3, g4, g5⟩ := g
  have top : yyU yy (op - 1) z (op - 1) = z := if_pos rfl
  have oth : ∀ c : Nat, c + 1 < op → yyU yy (op - 1) z c = yy c := fun c hc => if_neg (by omega)
  have l0 : z.2.1.length = 0 := by rw [hpn]; rfl
  refine ⟨a1, a2, a3, a4, by rw [v3]; exact a5, fun c hc => by rw [oth c hc]; exact L c hc, ?_, by rw [top]; exact hwn, fun w => ⟨by rw [top, l0]; rfl, ht1 w⟩, fun w => by rw [top, l0]; exact ht2 w⟩
  rw [top, ← he]
  exact ⟨f1, hpv, by rw [v1, g1.2.2.2.1, g1.2.2.2.2.1, g1.2.2.2.2.2]; exact f3, hvr, by rw [v2]; exact f5, by rw [hpn]; exact fun i hi => absurd hi (Nat.not_lt_zero _), hwt⟩
theorem Lvg.back (h : Lvg X Y dc md on M op wn j mt ps yy bf wf) (h2 : 2 ≤ op) (hr : (yy (op - 1)).2.2 = []) (et : Y 17 (ps (op - 2)) = nI t) (ht : TyC dc t) (g : (t = 0 ∧ tp1 = bf (op - 1) ∧ Z = Y) ∨ (¬ t = 0 ∧ tp1 = bf (op - 1) + 1 ∧ Z = updA (updA Y 68 (upd (Y 68) (bf (op - 1)) v)) 69 (upd (Y 69) (bf (op - 1)) f) ∧ Slt X Y on dc v f t)) : Cfg X Z dc md on M (op - 1) tp1 wn (ps (op - 2)) true mt ps yy bf wf := by
  have e1 : op - 1 - 1 = op - 2 := by omega
  obtain ⟨a1, a2, a3, a4, a5, a6, _, a8⟩ := h
  obtain ⟨fr, b2, b3, b4, b5, b6⟩ := a6 (op - 2) (by omega)
  rw [show op - 2 + 1 = op - 1 by omega] at b2 b3 b4
  rw [hr] at a8
  have a8' : wn = wf (op - 1) := a8
  obtain ⟨kk, ek, k23, kn⟩ : ∃ kk : Nat, X 9 (ps (op - 2)) = nI kk ∧ kk ≤ 23 ∧ kk ≠ 12 ∧ kk ≠ 15 := by
    rcases b5 with w | w | w
    · exact ⟨7, w, by omega, by omega, by omega⟩
    · exact ⟨8, w, by omega, by omega, by omega⟩
    · exact ⟨14, w, by omega, by omega, by omega⟩
  have na : aft X (ps (op - 2)) (yy (op - 2)).1 = (yy (op - 2)).1 := aft_no (fun w => by
    have : kk = 30 := (nI_eq (by omega) (by omega)).mp (ek.symm.trans w)
    omega)
  rcases g with ⟨t0, etp, eZ⟩ | ⟨t0, etp, eZ, hs⟩
  · subst eZ
    refine ⟨by omega, by omega, a3, a4, a5, fun c hc => a6 c (by omega), ?_, by rw [e1]; omega, fun w => absurd w (by decide), fun _ => ?_⟩
    · rw [if_pos rfl, e1, na]; exact fr
    · rw [e1, ← b3]; exact ⟨kk, ek, by omega, Or.inr ⟨k23, t, et, ht, Or.inl ⟨t0, etp⟩⟩⟩
  · have L := Lvg.low (Z := Z) (op := op) ⟨a1, a2, a3, a4, a5, a6, ‹_›, by rw [hr]⟩ (by
      rw [eZ]
      exact ⟨⟨rfl, rfl, rfl, rfl, rfl, rfl⟩, ⟨rfl, rfl, rfl, fun _ _ => rfl⟩, fun _ _ => ⟨rfl, rfl⟩, fun a ha => ⟨if_neg (by omega), if_neg (by omega)⟩, fun _ _ => ⟨rfl, rfl, rfl⟩⟩)
    obtain ⟨fr', _⟩ := L (op - 2) (by omega)
    refine ⟨by omega, by omega, a3, a4, by rw [eZ]; exact a5, fun c hc => L c (by omega), ?_, by rw [e1]; omega, fun w => absurd w (by decide), fun _ => ?_⟩
    · rw [if_pos rfl, e1, na]; exact fr'
    · rw [e1, ← b3]
      refine ⟨kk, ek, by omega, Or.inr ⟨k23, t, by rw [eZ]; exact et, ht, Or.inr ⟨t0, etp, ?_, fun w => absurd w (by omega)⟩⟩⟩
      rw [eZ]
      show Slt X _ on dc (upd (Y 68) (bf (op - 1)) v (bf (op - 1))) (upd (Y 69) (bf (op - 1)) f (bf (op - 1))) t
      rw [show upd (Y 68) (bf (op - 1)) v (bf (op - 1)) = v from if_pos rfl, show upd (Y 69) (bf (op - 1)) f (bf (op - 1)) = f from if_pos rfl]
      exact hs.same ⟨rfl, rfl, rfl⟩
end M9
section M10
variable {X Y : Nat → Nat → Int32} {dc fd md nd k c d m : Nat} {x : Int32} {f g da ds dI : Nat → Int32}
theorem fm_some : ∀ n k m : Nat, k ≤ m → m < k + n → ∀ d x : Int32, f m = d → g m = x → ¬ fmF f g d x n k = -1 ∨ 2 ^ 31 ≤ m := by
  intro n
  induction n with
  | zero => intro k m h1 h2; omega
  | succ n ih =>
    intro k m h1 h2 d x e1 e2
    by_cases q : 2 ^ 31 ≤ m
    · exact Or.inr q
    · refine Or.inl ?_
      show ¬ (if _ then _ else _) = _
      by_cases h : f k = d ∧ g k = x
      · rw [if_pos h]; exact nI_m1 (by omega)
      · rw [if_neg h]
        have ne : k ≠ m := fun z => h (by rw [z]; exact ⟨e1, e2⟩)
        exact (ih (k + 1) m (by omega) (by omega) d x e1 e2).resolve_right q
theorem mth_reach {md : Nat} (A : AbOK da ds dI dc) (irr : ∀ d : Nat, 7 ≤ d → d < dc → ¬ da (40 * d + d) = 1) (hd : dc ≤ 37) (hmd : md ≤ 920) (d7 : 7 ≤ d) (d1 : d < dc) (id : dI d = 0) (hit : ¬ fmF f g (nI d) x md 0 = -1) : ∀ n k : Nat, cntA da k dc < n → k < dc → dI k = 0 → (d = k ∨ da (40 * d + k) = 1) → ∃ d' m' : Nat, mthF f g ds md x n k = nI m' ∧ m' < md ∧ fmF f g (nI d') x md 0 = nI m' ∧ d' < dc ∧ dI d' = 0 ∧ 7 ≤ d' ∧ (d' = k ∨ da (40 * d' + k) = 1) ∧ (d' = d ∨ da (40 * d + d') = 1) := by
  intro n
  induction n with
  | zero => intro k h; omega
  | succ n ih =>
    intro k hn hk ik hdk
    have k7 : 7 ≤ k := AbOK.own A hd d7 d1 hk hdk
    by_cases q : fmF f g (nI k) x md 0 = -1
    · have ne : ¬ d = k := fun z => hit (by rw [z]; exact q)
      have ab := hdk.resolve_left ne
      obtain ⟨s, e1, e2, e3, e4⟩ := AbOK.sup A irr hd (by omega) (by omega) d7 id ik ab
      have is : dI s = 0 := by
        obtain ⟨_, s', w1, w2, w3⟩ := A.2.2.1 k (by omega) hk
        have : s' = s := (nI_eq (by omega) (by omega)).mp (w1.symm.trans e1)
        rw [this] at w3
        rcases w3 with w3 | w3
        · exfalso
          rw [w3] at e3
          rcases e3 with e3 | e3
          · omega
          · have := (A.2.2.2 d 0 (by omega) (by omega) e3).2.1; omega
        · exact w3.2.1
      have lt := AbOK.lt A irr hd e2 hk e4
      obtain ⟨d', m', r1, r2, r3, r4, r5, r6, r7, r8⟩ := ih s (by omega) e2 is e3
      refine ⟨d', m', by rw [mth_go (by omega) q e1 (by omega)]; exact r1, r2, r3, r4, r5, r6, ?_, r8⟩
      rcases r7 with w | w
      · rw [w]; exact Or.inr e4
      · exact Or.inr (A.2.1 s d' k e2 r4 hk w e4)
    · obtain ⟨m', a, b, c, z1, z2⟩ := (fm_or md 0).resolve_left q
      refine ⟨k, m', mth_hit (by omega) a (by omega), by omega, a, hk, ik, k7, Or.inl (Eq.refl _), ?_⟩
      exact hdk.imp (fun w => w.symm) (fun w => w)
theorem mth_own {md : Nat} (A : AbOK da ds dI dc) (hd : dc ≤ 37) (hmd : md ≤ 920) {m : Nat} (hm : m < md) : ∀ n k : Nat, k < dc → dI k = 0 → mthF f g ds md x n k = nI m → ∃ d' : Nat, fmF f g (nI d') x md 0 = nI m ∧ d' < dc ∧ dI d' = 0 ∧ (d' = k ∨ da (40 * d' + k) = 1) := by
  intro n
  induction n with
  | zero => intro k _ _ h; exact absurd h.symm (nI_m1 (by omega))
  | succ n ih =>
    intro k hk ik h
    by_cases z : k = 0
    · rw [z, mth_0] at h; exact absurd h.symm (nI_m1 (by omega))
    · by_cases q : fmF f g (nI k) x md 0 = -1
      · obtain ⟨_, s, w1, w2, w3⟩ := A.2.2.1 k (by omega) hk
        rw [mth_go z q w1 (by omega)] at h
        rcases w3 with w3 | ⟨w3, w4, _⟩
        · rw [w3, mth_0] at h; exact absurd h.symm (nI_m1 (by omega))
        · obtain ⟨d', r1, r2, r3, r4⟩ := ih s w2 w4 h
          refine ⟨d', r1, r2, r3, Or.inr ?_⟩
          rcases r4 with r4 | r4
          · rw [r4]; exact w3
          · exact A.2.1 s d' k w2 r2 hk r4 w3
      · obtain ⟨m', a, b, c, z1, z2⟩ := (fm_or md 0).resolve_left q
        rw [mth_hit z a (by omega)] at h
        exact ⟨k, a.trans h, hk, ik, Or.inl (Eq.refl _)⟩
theorem Alk.rfl : Alk X m m := ⟨Eq.refl _, Eq.refl _, fun pm po q i h1 h2 _ h3 h4 _ _ => by
  have : pm = po := (nI_eq (by omega) (by omega)).mp (h1.symm.trans h2)
  rw [this]⟩
theorem target {T nm wr lz pr bk : Nat} (A : AbOK (X 31) (X 29) (X 26) dc) (irr : ∀ d : Nat, 7 ≤ d → d < dc → ¬ X 31 (40 * d + d) = 1) (hd : dc ≤ 37) (hmd : md ≤ 920) (hps : PS T nm wr lz dc fd md pr bk X) (t1 : ∀ m : Nat, m < md → ∀ o : Nat, o < md → T1P X m o) (t2 : ∀ d : Nat, 7 ≤ d → d < dc → ∀ m : Nat, m < md → TT X md d m)
    (hc : c < dc) (hm : m < md) (an : AnyQ X dc md c x (nI m)) (hk : k < dc) (ik : X 26 k = 0) (ck : c = k ∨ X 31 (40 * c + k) = 1) : X 37 m = x ∧ ∃ d' m' : Nat, mthF (X 36) (X 37) (X 29) md x 40 k = nI m' ∧ m' < md ∧ X 36 m' = nI d' ∧ 7 ≤ d' ∧ d' < dc ∧ (d' = k ∨ X 31 (40 * d' + k) = 1) ∧ ¬ X 42 m' = -1 ∧ (Alk X m m' ∨ Alk X m' m) := by
  have cl : ∀ z : Nat, cntA (X 31) z dc < 40 := fun z => by have := cntA_le (da := X 31) (d := z) dc; omega
  have up : ∀ d : Nat, d < dc → (d = c ∨ X 31 (40 * d + c) = 1) → d = k ∨ X 31 (40 * d + k) = 1 := fun d d1 h => by
    rcases h with h | h
    · rw [h]; exact ck
    · rcases ck with w | w
      · rw [← w]; exact Or.inr h
      · exact Or.inr (A.2.1 c d k hc d1 hk h w)
  have blk : ∀ m' d' : Nat, m' < md → X 36 m' = nI d' → d' < dc → X 26 d' = 0 → ¬ X 42 m' = -1 := fun m' d' h1 h2 h3 h4 w => by
    obtain ⟨e, e1, e2, e3, _, _, _, _, e4⟩ := hps.2.2.1 m' h1
    have : e = d' := (nI_eq (by omega) (by omega)).mp (e1.symm.trans h2)
    rcases e4 with ⟨_, _, e5⟩ | ⟨b, t, j, ⟨e5, e6⟩, _⟩
    · rw [this, h4] at e5; exact absurd e5 (by decide)
    · exact absurd (e5.symm.trans w) (nI_m1 (by omega))
  rcases an with an | ⟨m2, a1, a2, a3⟩
  · exact absurd an (nI_m1 (by omega))
  · have em : m = m2 := (nI_eq (by omega) (by omega)).mp a1
    subst em
    obtain ⟨d, e1, e2, e3, _, _, _, _, e4⟩ := hps.2.2.1 m hm
    rcases a3 with ⟨ic, a3⟩ | ⟨a3, a4, a5⟩
    · obtain ⟨d2, r1, r2, r3, r4⟩ := mth_own A hd hmd hm 40 c hc ic a3.symm
      obtain ⟨m2, z1, z2, z3, z4, z5⟩ := (fm_or md 0).resolve_left (by rw [r1]; exact nI_m1 (by omega))
      have : m = m2 := (nI_eq (by omega) (by omega)).mp (r1.symm.trans z1)
      subst this
      have ed : d2 = d := (nI_eq (by omega) (by omega)).mp (z4.symm.trans e1)
      subst ed
      obtain ⟨d', m', s1, s2, s3, s4, s5, s6, s7, s8⟩ := mth_reach (f := X 36) (g := X 37) (x := x) A irr hd hmd e2 e3 r3 (by rw [r1]; exact nI_m1 (by omega)) 40 k (cl k) hk ik (up d2 e3 r4)
      obtain ⟨m3, y1, y2, y3, y4, y5⟩ := (fm_or md 0).resolve_left (by rw [s3]; exact nI_m1 (by omega))
      have : m' = m3 := (nI_eq (by omega) (by omega)).mp (s3.symm.trans y1)
      subst this
      refine ⟨z5, d', m', s1, s2, y4, s6, s4, s7, blk m' d' s2 y4 s4 s5, ?_⟩
      rcases s8 with s8 | s8
      · rw [s8, r1] at s3
        have : m = m' := (nI_eq (by omega) (by omega)).mp s3
        rw [this]; exact Or.inl Alk.rfl
      · exact Or.inr (t1 m' s2 m hm d' d2 y4 e1 (by omega) (by omega) s8 (by rw [z5, y5]))
    · have od : d = c ∨ X 31 (40 * d + c) = 1 := by
        rcases a5 with w | ⟨d3, w1, w2, w3⟩
        · exact Or.inl ((nI_eq (by omega) (by omega)).mp (e1.symm.trans w))
        · have : d = d3 := (nI_eq (by omega) (by omega)).mp (e1.symm.trans w1)
          rw [this]; exact Or.inr w3
      have some : ¬ fmF (X 36) (X 37) (nI d) x md 0 = -1 := (fm_some md 0 m (by omega) (by omega) (nI d) x e1 a4).resolve_right (by omega)
      have hdI : X 26 d = 0 ∨ X 26 d = 1 := (hps.1 d e3).2.2.1
      rcases hdI with id | id
      · exfalso
        rcases (hps.1 c hc).2.2.1 with ic | ic
        · obtain ⟨d', m', s1, s2, _⟩ := mth_reach (f := X 36) (g := X 37) (x := x) A irr hd hmd e2 e3 id some 40 c (cl c) hc ic od
          exact absurd ((a3 ic).symm.trans s1).symm (nI_m1 (by omega))
        · rcases od with w | w
          · rw [w, ic] at id; exact absurd id (by decide)
          · rcases AbOK.ifc A irr hd _ d c (Nat.le_refl _) (by omega) (by omega) w ic with q | q
            · omega
            · rw [id] at q; exact absurd q (by decide)
      · have dk : X 31 (40 * d + k) = 1 := by
          rcases up d e3 od with w | w
          · rw [w, ik] at id; exact absurd id (by decide)
          · exact w
        have k7 : 7 ≤ k := AbOK.own A hd e2 e3 hk (Or.inr dk)
        obtain ⟨tt2, tt3⟩ := t2 k k7 hk m hm
        have nn := tt3 d e1 (by omega) dk ik (by rw [id]; decide)
        rw [a4] at nn
        obtain ⟨m', q1, q2, q3⟩ := (mth_or 40 k).resolve_left nn
        obtain ⟨d', r1, r2, r3, r4⟩ := mth_own A hd hmd q2 40 k hk ik q1
        obtain ⟨m3, y1, y2, y3, y4, y5⟩ := (fm_or md 0).resolve_left (by rw [r1]; exact nI_m1 (by omega))
        have : m' = m3 := (nI_eq (by omega) (by omega)).mp (r1.symm.trans y1)
        subst this
        obtain ⟨d4, e5, e6, e7, _⟩ := hps.2.2.1 m' q2
        have ed : d4 = d' := (nI_eq (by omega) (by omega)).mp (e5.symm.trans y4)
        rw [ed] at e6
        refine ⟨a4, d', m', q1, q2, y4, e6, r2, r4, blk m' d' q2 y4 r2 r3, ?_⟩
        have own : d' = k → Alk X m' m := fun z => t1 m' q2 m hm d' d y4 e1 (by omega) (by omega) (by rw [z]; exact dk) (by rw [a4, y5])
        rcases r4 with r4 | r4
        · exact Or.inr (own r4)
        · rcases tt2 d e1 (by omega) dk with ⟨o, o1, o2, o3⟩ | al
          · have sm := (fm_some (f := X 36) (g := X 37) md 0 o (by omega) (by omega) (nI k) x o2 (by rw [o3, a4])).resolve_right (by omega)
            obtain ⟨m5, v1, v2, v3, v4, v5⟩ := (fm_or md 0).resolve_left sm
            have h5 := mth_hit (ds := X 29) (n := 39) (by omega) v1 (by omega)
            have : m5 = m' := (nI_eq (by omega) (by omega)).mp (h5.symm.trans q1)
            rw [this, y4] at v4
            exact Or.inr (own ((nI_eq (by omega) (by omega)).mp v4))
          · exact Or.inl (al m' q2 d' y4 (by omega) r4 (by rw [y5, a4]))
end M10
