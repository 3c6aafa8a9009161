section MONO
variable {l : Launch} {G : pT} {X : State → Prop} {y : MethodName} {cc : ByteArray} {n : Nat} {ret : Option FieldType} {hh : List (Nat × Nat × Nat × Nat)} {rm rm1 : Room} {av : List Value} {w : va_W} {ws : List Cond} {Pc : Array Value → State → Prop} {Qc Qd : Array Value → State → Outcome → State → Prop} {XC XD : String → State → State → Prop} {mc ms : Nat} {free : Addr → Prop} {S S1 S2 S3 : Type}
def rm_le (rm rm1 : Room) : Prop := rm.frames ≤ rm1.frames ∧ rm.cells ≤ rm1.cells ∧ rm.slots ≤ rm1.slots ∧ rm.locals ≤ rm1.locals
theorem room_up {s : State} {pl : Platform} (hr : rm_le rm rm1) (h : s.hasRoom pl rm1 = true) : s.hasRoom pl rm = true := by
  obtain ⟨h1, h2, h3, h4⟩ := hr
  unfold State.hasRoom at h ⊢
  simp only [Bool.and_eq_true, decide_eq_true_eq] at h ⊢
  obtain ⟨⟨⟨⟨a1, a2, a3, a4, a5, a6⟩, a7⟩, a8⟩, a9⟩ := h
  exact ⟨⟨⟨⟨by omega, by omega, by omega, by omega, by omega, a6⟩, by omega⟩, by omega⟩, a9⟩
theorem mt_up (h : MetFree l y (headSpec ws rm) Pc (fun _ _ _ _ _ => True) Qc) (hr : rm_le rm rm1) (hq : ∀ a st o t, Qc a st o t → Qd a st o t) : MetFree l y (headSpec ws rm1) Pc (fun _ _ _ _ _ => True) Qd := by
  intro p e ha hc hk s m args below hf happ hP hK
  have h1 := (Spec.appliesLoose_iff hf).mp happ
  have happ1 : (headSpec ws rm).appliesLoose y e.platform s = true := (Spec.appliesLoose_iff hf).mpr ⟨h1.1, h1.2.1, h1.2.2.1, h1.2.2.2.1, h1.2.2.2.2.1, h1.2.2.2.2.2.1, room_up hr h1.2.2.2.2.2.2.1, h1.2.2.2.2.2.2.2⟩
  obtain ⟨k, o, b1, b2, b3, b4⟩ := h p e ha hc hk s m args below hf happ1 hP hK
  exact ⟨k, o, b1, b2, b3, hq _ _ _ _ b4⟩
theorem pq_up {A : Nat → Prop} {Q : Option Value → S → Prop} {w1 : S → va_W} {Q1 : Option Value → S1 → Prop} {w2 : S1 → va_W} (hq : ∀ (v : Option Value) (u : S), Q v u → ∃ u1 : S1, Q1 v u1 ∧ w2 u1 = w1 u) {a : Array Value} {st t : State} {o : Outcome} (h : pQ G A Q w1 a st o t) : pQ G A Q1 w2 a st o t := by
  obtain ⟨⟨v, u, ho, h1, h2, h3⟩, h4⟩ := h
  obtain ⟨u1, h5, h6⟩ := hq v u h1
  exact ⟨⟨v, u1, ho, h5, by rw [h6]; exact h2, by rw [h6]; exact h3⟩, h4⟩
theorem pm_up {Q : Option Value → S → Prop} {w1 : S → va_W} {Q1 : Option Value → S1 → Prop} {w2 : S1 → va_W} (h : PM l G X y cc n ret rm av w Q w1) (hr : rm_le rm rm1) (hc : rm1.cells = rm.cells ∧ rm1.slots = rm.slots) (hq : ∀ (v : Option Value) (u : S), Q v u → ∃ u1 : S1, Q1 v u1 ∧ w2 u1 = w1 u) : PM l G X y cc n ret rm1 av w Q1 w2 := fun sz => by
  have h9 := h sz
  unfold Met at h9 ⊢
  rw [hc.1, hc.2]
  exact mt_up h9 hr (fun a st o t hQ => ⟨pq_up hq hQ.1, hQ.2⟩)
theorem pw_up {Q : Option Value → S → Prop} {w1 : S → va_W} {Q1 : Option Value → S1 → Prop} {w2 : S1 → va_W} (h : PMW l G X y cc n ret hh rm av w Q w1) (hr : rm_le rm rm1) (hc : rm1.cells = rm.cells ∧ rm1.slots = rm.slots) (hq : ∀ (v : Option Value) (u : S), Q v u → ∃ u1 : S1, Q1 v u1 ∧ w2 u1 = w1 u) : PMW l G X y cc n ret hh rm1 av w Q1 w2 := fun sz => by
  have h9 := h sz
  unfold Met at h9 ⊢
  rw [hc.1, hc.2]
  exact mt_up h9 hr (fun a st o t hQ => ⟨pq_up hq hQ.1, hQ.2⟩)
theorem py_up {Q : Option Value → S → Prop} {w1 : S → va_W} {Q1 : Option Value → S1 → Prop} {w2 : S1 → va_W} {Qx : S2 → Prop} {x1 : S2 → va_W} (h : PY l G X y cc n ret rm av w Q w1 Qx x1) (hr : rm_le rm rm1) (hc : rm1.cells = rm.cells ∧ rm1.slots = rm.slots) (hq : ∀ (v : Option Value) (u : S), Q v u → ∃ u1 : S1, Q1 v u1 ∧ w2 u1 = w1 u) : PY l G X y cc n ret rm1 av w Q1 w2 Qx x1 := fun sz => by
  have h9 := h sz
  unfold vx_Met at h9 ⊢
  rw [hc.1, hc.2]
  exact mt_up h9 hr (fun a st o t hQ => hQ.imp (fun z => ⟨pq_up hq z.1, z.2⟩) id)
end MONO
theorem upd_at {F : Nat → Int32} {k : Nat} {v : Int32} (h : F k = v) : upd F k v = F := funext fun j => by
  unfold upd
  by_cases e : j = k
  · rw [if_pos e, e]; exact h.symm
  · rw [if_neg e]
theorem updR_at {R : Nat → Value} {k : Nat} {v : Value} (h : R k = v) : updR R k v = R := funext fun j => by
  unfold updR
  by_cases e : j = k
  · rw [if_pos e, e]; exact h.symm
  · rw [if_neg e]
theorem updA_at {B : Nat → Nat → Int32} {k : Nat} {v : Nat → Int32} (h : B k = v) : updA B k v = B := funext fun j => by
  unfold updA
  by_cases e : j = k
  · rw [if_pos e, e]; exact h.symm
  · rw [if_neg e]
set_option maxHeartbeats 4000000 in
theorem C_type (l : Launch) (G : pT) (h0 : Nat) (a : Nat → Nat) (tl ni : Nat) (w : va_W) (x : Int32) (y : Int32) (h : InC G h0 a tl ni w) : PM l G pX0 yX11_type cX11_type 4 (some .int) ({ frames := 40, cells := 0, slots := 0, locals := 1000 }) [.ref h0, .int x, .int y] w (fun (v : Option Value) (u : va_W) => ∃ r : Int32, v = some (.int r) ∧ InC G h0 a tl ni u) (fun u => u) := by
  obtain ⟨F, R, Z, B, J, hb, ⟨h1, h5, hO⟩ | ⟨K, g, rk, it, pq, dr, ml, nd, nm, cp, s9, cs, rg, h1, h5, hO, hwp, hps, hrk, ⟨hcs, hcs2⟩, ⟨hrg, hrg2⟩, nz, hnz, hnm, y9, m9, k9, hpy, hmx⟩⟩ := h
  · refine pm_up (J_typeN l G h0 a F R Z B J (fun _ => 0) (fun _ _ => True) w x y (show OKW G h0 a F (updR R 0 (.null)) Z B J (fun _ => 0) (fun _ _ => True) w from by rw [updR_at (show R 0 = .null from h1)]; exact hO)) (by refine ⟨?_, ?_, ?_, ?_⟩ <;> decide) ⟨rfl, rfl⟩ (fun v u hu => ?_)
    obtain ⟨w9, o_r⟩ := u
    obtain ⟨hv, hO9⟩ := hu
    exact ⟨w9, ⟨o_r, hv, (⟨F, (updR R 0 (.null)), Z, B, J, ⟨hb.1, hb.2.1, hb.2.2.1, hb.2.2.2.1, hb.2.2.2.2.1, hb.2.2.2.2.2⟩, Or.inl ⟨rfl, h5, hO9⟩⟩ : InC G h0 a tl ni w9)⟩, rfl⟩
  · refine pm_up (J_type l G h0 a F R Z B J K w x y pq dr ml nd nm cp it s9 g rk hwp hps hrk (show OKP G h0 a F (updR R 0 (.ref pq)) Z B J K w from by rw [updR_at (show R 0 = .ref pq from h1)]; exact hO)) (by refine ⟨?_, ?_, ?_, ?_⟩ <;> decide) ⟨rfl, rfl⟩ (fun v u hu => ?_)
    obtain ⟨w9, o_r⟩ := u
    obtain ⟨hv, hO9⟩ := hu
    exact ⟨w9, ⟨o_r, hv, (⟨F, (updR R 0 (.ref pq)), Z, B, J, ⟨hb.1, hb.2.1, hb.2.2.1, hb.2.2.2.1, hb.2.2.2.2.1, hb.2.2.2.2.2⟩, Or.inr ⟨K, g, rk, it, pq, dr, ml, nd, nm, cp, s9, cs, rg, rfl, h5, hO9, hwp, hps, hrk, ⟨hcs, hcs2⟩, ⟨hrg, hrg2⟩, nz, hnz, hnm, y9, m9, k9, hpy, hmx⟩⟩ : InC G h0 a tl ni w9)⟩, rfl⟩
set_option maxHeartbeats 4000000 in
theorem C_above (l : Launch) (G : pT) (h0 : Nat) (a : Nat → Nat) (tl ni : Nat) (w : va_W) (x : Int32) (y : Int32) (h : InC G h0 a tl ni w) : PM l G pX0 yX11_above cX11_above 3 (some .int) ({ frames := 40, cells := 0, slots := 0, locals := 1000 }) [.ref h0, .int x, .int y] w (fun (v : Option Value) (u : va_W) => ∃ r : Int32, v = some (.int r) ∧ InC G h0 a tl ni u) (fun u => u) := by
  obtain ⟨F, R, Z, B, J, hb, ⟨h1, h5, hO⟩ | ⟨K, g, rk, it, pq, dr, ml, nd, nm, cp, s9, cs, rg, h1, h5, hO, hwp, hps, hrk, ⟨hcs, hcs2⟩, ⟨hrg, hrg2⟩, nz, hnz, hnm, y9, m9, k9, hpy, hmx⟩⟩ := h
  · refine pm_up (J_aboveN l G h0 a F R Z B J (fun _ => 0) (fun _ _ => True) w x y (show OKW G h0 a F (updR R 0 (.null)) Z B J (fun _ => 0) (fun _ _ => True) w from by rw [updR_at (show R 0 = .null from h1)]; exact hO)) (by refine ⟨?_, ?_, ?_, ?_⟩ <;> decide) ⟨rfl, rfl⟩ (fun v u hu => ?_)
    obtain ⟨w9, o_r⟩ := u
    obtain ⟨hv, hO9⟩ := hu
    exact ⟨w9, ⟨o_r, hv, (⟨F, (updR R 0 (.null)), Z, B, J, ⟨hb.1, hb.2.1, hb.2.2.1, hb.2.2.2.1, hb.2.2.2.2.1, hb.2.2.2.2.2⟩, Or.inl ⟨rfl, h5, hO9⟩⟩ : InC G h0 a tl ni w9)⟩, rfl⟩
  · refine pm_up (J_above l G h0 a F R Z B J K w x y pq dr ml nd nm cp it s9 g rk hwp hps hrk (show OKP G h0 a F (updR R 0 (.ref pq)) Z B J K w from by rw [updR_at (show R 0 = .ref pq from h1)]; exact hO)) (by refine ⟨?_, ?_, ?_, ?_⟩ <;> decide) ⟨rfl, rfl⟩ (fun v u hu => ?_)
    obtain ⟨w9, o_r⟩ := u
    obtain ⟨hv, hO9⟩ := hu
    exact ⟨w9, ⟨o_r, hv, (⟨F, (updR R 0 (.ref pq)), Z, B, J, ⟨hb.1, hb.2.1, hb.2.2.1, hb.2.2.2.1, hb.2.2.2.2.1, hb.2.2.2.2.2⟩, Or.inr ⟨K, g, rk, it, pq, dr, ml, nd, nm, cp, s9, cs, rg, rfl, h5, hO9, hwp, hps, hrk, ⟨hcs, hcs2⟩, ⟨hrg, hrg2⟩, nz, hnz, hnm, y9, m9, k9, hpy, hmx⟩⟩ : InC G h0 a tl ni w9)⟩, rfl⟩
set_option maxHeartbeats 4000000 in
theorem C_called (l : Launch) (G : pT) (h0 : Nat) (a : Nat → Nat) (tl ni : Nat) (w : va_W) (x : Int32) (y : Int32) (h : InC G h0 a tl ni w) : PM l G pX0 yX11_called cX11_called 6 (some .int) ({ frames := 40, cells := 0, slots := 0, locals := 1000 }) [.ref h0, .int x, .int y] w (fun (v : Option Value) (u : va_W) => ∃ r : Int32, v = some (.int r) ∧ InC G h0 a tl ni u) (fun u => u) := by
  obtain ⟨F, R, Z, B, J, hb, ⟨h1, h5, hO⟩ | ⟨K, g, rk, it, pq, dr, ml, nd, nm, cp, s9, cs, rg, h1, h5, hO, hwp, hps, hrk, ⟨hcs, hcs2⟩, ⟨hrg, hrg2⟩, nz, hnz, hnm, y9, m9, k9, hpy, hmx⟩⟩ := h
  · refine pm_up (J_calledN l G h0 a F R Z B J (fun _ => 0) (fun _ _ => True) w x y (show OKW G h0 a F (updR R 0 (.null)) Z B J (fun _ => 0) (fun _ _ => True) w from by rw [updR_at (show R 0 = .null from h1)]; exact hO)) (by refine ⟨?_, ?_, ?_, ?_⟩ <;> decide) ⟨rfl, rfl⟩ (fun v u hu => ?_)
    obtain ⟨w9, o_r⟩ := u
    obtain ⟨hv, hO9⟩ := hu
    exact ⟨w9, ⟨o_r, hv, (⟨F, (updR R 0 (.null)), Z, B, J, ⟨hb.1, hb.2.1, hb.2.2.1, hb.2.2.2.1, hb.2.2.2.2.1, hb.2.2.2.2.2⟩, Or.inl ⟨rfl, h5, hO9⟩⟩ : InC G h0 a tl ni w9)⟩, rfl⟩
  · refine pm_up (J_called l G h0 a F R Z B J K w x y pq dr ml nd nm cp it s9 g rk hwp hps hrk (show OKP G h0 a F (updR R 0 (.ref pq)) Z B J K w from by rw [updR_at (show R 0 = .ref pq from h1)]; exact hO)) (by refine ⟨?_, ?_, ?_, ?_⟩ <;> decide) ⟨rfl, rfl⟩ (fun v u hu => ?_)
    obtain ⟨w9, o_r⟩ := u
    obtain ⟨hv, hO9⟩ := hu
    exact ⟨w9, ⟨o_r, hv, (⟨F, (updR R 0 (.ref pq)), Z, B, J, ⟨hb.1, hb.2.1, hb.2.2.1, hb.2.2.2.1, hb.2.2.2.2.1, hb.2.2.2.2.2⟩, Or.inr ⟨K, g, rk, it, pq, dr, ml, nd, nm, cp, s9, cs, rg, rfl, h5, hO9, hwp, hps, hrk, ⟨hcs, hcs2⟩, ⟨hrg, hrg2⟩, nz, hnz, hnm, y9, m9, k9, hpy, hmx⟩⟩ : InC G h0 a tl ni w9)⟩, rfl⟩
set_option maxHeartbeats 4000000 in
theorem C_count (l : Launch) (G : pT) (h0 : Nat) (a : Nat → Nat) (tl ni : Nat) (w : va_W) (x : Int32) (h : InC G h0 a tl ni w) : PM l G pX0 yX11_count cX11_count 2 (some .int) ({ frames := 40, cells := 0, slots := 0, locals := 1000 }) [.ref h0, .int x] w (fun (v : Option Value) (u : va_W) => ∃ r : Int32, v = some (.int r) ∧ InC G h0 a tl ni u) (fun u => u) := by
  obtain ⟨F, R, Z, B, J, hb, ⟨h1, h5, hO⟩ | ⟨K, g, rk, it, pq, dr, ml, nd, nm, cp, s9, cs, rg, h1, h5, hO, hwp, hps, hrk, ⟨hcs, hcs2⟩, ⟨hrg, hrg2⟩, nz, hnz, hnm, y9, m9, k9, hpy, hmx⟩⟩ := h
  · refine pm_up (J_countN l G h0 a F R Z B J (fun _ => 0) (fun _ _ => True) w x (show OKW G h0 a F (updR R 0 (.null)) Z B J (fun _ => 0) (fun _ _ => True) w from by rw [updR_at (show R 0 = .null from h1)]; exact hO)) (by refine ⟨?_, ?_, ?_, ?_⟩ <;> decide) ⟨rfl, rfl⟩ (fun v u hu => ?_)
    obtain ⟨w9, o_r⟩ := u
    obtain ⟨hv, hO9⟩ := hu
    exact ⟨w9, ⟨o_r, hv, (⟨F, (updR R 0 (.null)), Z, B, J, ⟨hb.1, hb.2.1, hb.2.2.1, hb.2.2.2.1, hb.2.2.2.2.1, hb.2.2.2.2.2⟩, Or.inl ⟨rfl, h5, hO9⟩⟩ : InC G h0 a tl ni w9)⟩, rfl⟩
  · refine pm_up (J_count l G h0 a F R Z B J K w x pq dr ml nd nm cp it s9 g rk hwp hps hrk (show OKP G h0 a F (updR R 0 (.ref pq)) Z B J K w from by rw [updR_at (show R 0 = .ref pq from h1)]; exact hO)) (by refine ⟨?_, ?_, ?_, ?_⟩ <;> decide) ⟨rfl, rfl⟩ (fun v u hu => ?_)
    obtain ⟨w9, o_r⟩ := u
    obtain ⟨hv, hO9⟩ := hu
    exact ⟨w9, ⟨o_r, hv, (⟨F, (updR R 0 (.ref pq)), Z, B, J, ⟨hb.1, hb.2.1, hb.2.2.1, hb.2.2.2.1, hb.2.2.2.2.1, hb.2.2.2.2.2⟩, Or.inr ⟨K, g, rk, it, pq, dr, ml, nd, nm, cp, s9, cs, rg, rfl, h5, hO9, hwp, hps, hrk, ⟨hcs, hcs2⟩, ⟨hrg, hrg2⟩, nz, hnz, hnm, y9, m9, k9, hpy, hmx⟩⟩ : InC G h0 a tl ni w9)⟩, rfl⟩
set_option maxHeartbeats 4000000 in
theorem C_letter (l : Launch) (G : pT) (h0 : Nat) (a : Nat → Nat) (tl ni : Nat) (w : va_W) (x : Int32) (y : Int32) (h : InC G h0 a tl ni w) : PM l G pX0 yX11_letter cX11_letter 4 (some .int) ({ frames := 40, cells := 0, slots := 0, locals := 1000 }) [.ref h0, .int x, .int y] w (fun (v : Option Value) (u : va_W) => ∃ r : Int32, v = some (.int r) ∧ InC G h0 a tl ni u) (fun u => u) := by
  obtain ⟨F, R, Z, B, J, hb, ⟨h1, h5, hO⟩ | ⟨K, g, rk, it, pq, dr, ml, nd, nm, cp, s9, cs, rg, h1, h5, hO, hwp, hps, hrk, ⟨hcs, hcs2⟩, ⟨hrg, hrg2⟩, nz, hnz, hnm, y9, m9, k9, hpy, hmx⟩⟩ := h
  · refine pm_up (J_letterN l G h0 a F R Z B J (fun _ => 0) (fun _ _ => True) w x y (show OKW G h0 a F (updR R 0 (.null)) Z B J (fun _ => 0) (fun _ _ => True) w from by rw [updR_at (show R 0 = .null from h1)]; exact hO)) (by refine ⟨?_, ?_, ?_, ?_⟩ <;> decide) ⟨rfl, rfl⟩ (fun v u hu => ?_)
    obtain ⟨w9, o_r⟩ := u
    obtain ⟨hv, hO9⟩ := hu
    exact ⟨w9, ⟨o_r, hv, (⟨F, (updR R 0 (.null)), Z, B, J, ⟨hb.1, hb.2.1, hb.2.2.1, hb.2.2.2.1, hb.2.2.2.2.1, hb.2.2.2.2.2⟩, Or.inl ⟨rfl, h5, hO9⟩⟩ : InC G h0 a tl ni w9)⟩, rfl⟩
  · refine pm_up (J_letter l G h0 a F R Z B J K w x y nz (B 12) (B 13) (B 14) (B 15) pq dr ml nd nm cp it s9 g rk hwp hps hrk hnm (show OKP G h0 a (upd F 3 (nI nz)) (updR R 0 (.ref pq)) Z (updA (updA (updA (updA B 12 (B 12)) 13 (B 13)) 14 (B 14)) 15 (B 15)) J K w from by rw [upd_at (show F 3 = (nI nz) from hnz), updR_at (show R 0 = .ref pq from h1), updA_at (show B 12 = (B 12) from rfl), updA_at (show B 13 = (B 13) from rfl), updA_at (show B 14 = (B 14) from rfl), updA_at (show B 15 = (B 15) from rfl)]; exact hO)) (by refine ⟨?_, ?_, ?_, ?_⟩ <;> decide) ⟨rfl, rfl⟩ (fun v u hu => ?_)
    obtain ⟨w9, o_r⟩ := u
    obtain ⟨hv, hO9⟩ := hu
    exact ⟨w9, ⟨o_r, hv, (⟨(upd F 3 (nI nz)), (updR R 0 (.ref pq)), Z, (updA (updA (updA (updA B 12 (B 12)) 13 (B 13)) 14 (B 14)) 15 (B 15)), J, ⟨hb.1, hb.2.1, hb.2.2.1, hb.2.2.2.1, hb.2.2.2.2.1, hb.2.2.2.2.2⟩, Or.inr ⟨K, g, rk, it, pq, dr, ml, nd, nm, cp, s9, cs, rg, rfl, h5, hO9, hwp, hps, hrk, ⟨hcs, hcs2⟩, ⟨hrg, hrg2⟩, nz, rfl, hnm, y9, m9, k9, hpy, hmx⟩⟩ : InC G h0 a tl ni w9)⟩, rfl⟩
set_option maxHeartbeats 4000000 in
theorem C_result (l : Launch) (G : pT) (h0 : Nat) (a : Nat → Nat) (tl ni : Nat) (w : va_W) (h : InC G h0 a tl ni w) : PM l G pX0 yX11_result cX11_result 1 (some .int) ({ frames := 40, cells := 0, slots := 0, locals := 1000 }) [.ref h0] w (fun (v : Option Value) (u : va_W) => ∃ r : Int32, v = some (.int r) ∧ InC G h0 a tl ni u) (fun u => u) := by
  obtain ⟨F, R, Z, B, J, hb, ⟨h1, h5, hO⟩ | ⟨K, g, rk, it, pq, dr, ml, nd, nm, cp, s9, cs, rg, h1, h5, hO, hwp, hps, hrk, ⟨hcs, hcs2⟩, ⟨hrg, hrg2⟩, nz, hnz, hnm, y9, m9, k9, hpy, hmx⟩⟩ := h
  · refine pm_up (J_result l G h0 a F R Z B J (fun _ => 0) (fun _ _ => True) w (show OKW G h0 a F R Z B J (fun _ => 0) (fun _ _ => True) w from hO)) (by refine ⟨?_, ?_, ?_, ?_⟩ <;> decide) ⟨rfl, rfl⟩ (fun v u hu => ?_)
    obtain ⟨w9, o_r⟩ := u
    obtain ⟨hv, q_q1, hO9⟩ := hu
    exact ⟨w9, ⟨o_r, hv, (⟨F, R, Z, B, J, ⟨hb.1, hb.2.1, hb.2.2.1, hb.2.2.2.1, hb.2.2.2.2.1, hb.2.2.2.2.2⟩, Or.inl ⟨h1, h5, hO9⟩⟩ : InC G h0 a tl ni w9)⟩, rfl⟩
  · refine pm_up (J_result l G h0 a F R Z B J K.1 (fun q99 x99 => x99 = rep G a K q99) w (show OKW G h0 a F R Z B J K.1 (fun q99 x99 => x99 = rep G a K q99) w from hO)) (by refine ⟨?_, ?_, ?_, ?_⟩ <;> decide) ⟨rfl, rfl⟩ (fun v u hu => ?_)
    obtain ⟨w9, o_r⟩ := u
    obtain ⟨hv, q_q1, hO9⟩ := hu
    exact ⟨w9, ⟨o_r, hv, (⟨F, R, Z, B, J, ⟨hb.1, hb.2.1, hb.2.2.1, hb.2.2.2.1, hb.2.2.2.2.1, hb.2.2.2.2.2⟩, Or.inr ⟨K, g, rk, it, pq, dr, ml, nd, nm, cp, s9, cs, rg, h1, h5, hO9, hwp, hps, hrk, ⟨hcs, hcs2⟩, ⟨hrg, hrg2⟩, nz, hnz, hnm, y9, m9, k9, hpy, hmx⟩⟩ : InC G h0 a tl ni w9)⟩, rfl⟩
set_option maxHeartbeats 4000000 in
theorem C_refusals (l : Launch) (G : pT) (h0 : Nat) (a : Nat → Nat) (tl ni : Nat) (w : va_W) (h : InC G h0 a tl ni w) : PM l G pX0 yX11_refusals cX11_refusals 1 (some .int) ({ frames := 40, cells := 0, slots := 0, locals := 1000 }) [.ref h0] w (fun (v : Option Value) (u : va_W) => v = some (.int 0) ∧ InC G h0 a tl ni u) (fun u => u) := by
  obtain ⟨F, R, Z, B, J, hb, ⟨h1, h5, hO⟩ | ⟨K, g, rk, it, pq, dr, ml, nd, nm, cp, s9, cs, rg, h1, h5, hO, hwp, hps, hrk, ⟨hcs, hcs2⟩, ⟨hrg, hrg2⟩, nz, hnz, hnm, y9, m9, k9, hpy, hmx⟩⟩ := h
  · refine pm_up (J_refusals l G h0 a F R Z B J (fun _ => 0) (fun _ _ => True) w (show OKW G h0 a F R Z B J (fun _ => 0) (fun _ _ => True) w from hO)) (by refine ⟨?_, ?_, ?_, ?_⟩ <;> decide) ⟨rfl, rfl⟩ (fun v u hu => ?_)
    obtain ⟨w9, o_r⟩ := u
    obtain ⟨hv, q_q1, hO9⟩ := hu
    exact ⟨w9, ⟨(by obtain ⟨_, _, _, _, _, _, hz8⟩ := hb.2.2.2.2.1; rw [hv, q_q1, hz8]), (⟨F, R, Z, B, J, ⟨hb.1, hb.2.1, hb.2.2.1, hb.2.2.2.1, hb.2.2.2.2.1, hb.2.2.2.2.2⟩, Or.inl ⟨h1, h5, hO9⟩⟩ : InC G h0 a tl ni w9)⟩, rfl⟩
  · refine pm_up (J_refusals l G h0 a F R Z B J K.1 (fun q99 x99 => x99 = rep G a K q99) w (show OKW G h0 a F R Z B J K.1 (fun q99 x99 => x99 = rep G a K q99) w from hO)) (by refine ⟨?_, ?_, ?_, ?_⟩ <;> decide) ⟨rfl, rfl⟩ (fun v u hu => ?_)
    obtain ⟨w9, o_r⟩ := u
    obtain ⟨hv, q_q1, hO9⟩ := hu
    exact ⟨w9, ⟨(by obtain ⟨_, _, _, _, _, _, hz8⟩ := hb.2.2.2.2.1; rw [hv, q_q1, hz8]), (⟨F, R, Z, B, J, ⟨hb.1, hb.2.1, hb.2.2.1, hb.2.2.2.1, hb.2.2.2.2.1, hb.2.2.2.2.2⟩, Or.inr ⟨K, g, rk, it, pq, dr, ml, nd, nm, cp, s9, cs, rg, h1, h5, hO9, hwp, hps, hrk, ⟨hcs, hcs2⟩, ⟨hrg, hrg2⟩, nz, hnz, hnm, y9, m9, k9, hpy, hmx⟩⟩ : InC G h0 a tl ni w9)⟩, rfl⟩
set_option maxHeartbeats 4000000 in
theorem C_output (l : Launch) (G : pT) (h0 : Nat) (a : Nat → Nat) (tl ni : Nat) (w : va_W) (x : Int32) (h : InC G h0 a tl ni w) : PM l G pX0 yX11_output cX11_output 2 (some .int) ({ frames := 40, cells := 0, slots := 0, locals := 1000 }) [.ref h0, .int x] w (fun (v : Option Value) (u : va_W) => ∃ r : Int32, v = some (.int r) ∧ InC G h0 a tl ni u) (fun u => u) := by
  obtain ⟨F, R, Z, B, J, hb, ⟨h1, h5, hO⟩ | ⟨K, g, rk, it, pq, dr, ml, nd, nm, cp, s9, cs, rg, h1, h5, hO, hwp, hps, hrk, ⟨hcs, hcs2⟩, ⟨hrg, hrg2⟩, nz, hnz, hnm, y9, m9, k9, hpy, hmx⟩⟩ := h
  · refine pm_up (J_output l G h0 a F R Z B J (fun _ => 0) (fun _ _ => True) w x (show OKW G h0 a F R Z B J (fun _ => 0) (fun _ _ => True) w from hO)) (by refine ⟨?_, ?_, ?_, ?_⟩ <;> decide) ⟨rfl, rfl⟩ (fun v u hu => ?_)
    obtain ⟨w9, o_r⟩ := u
    obtain ⟨hv, hO9⟩ := hu
    exact ⟨w9, ⟨o_r, hv, (⟨F, R, Z, B, J, ⟨hb.1, hb.2.1, hb.2.2.1, hb.2.2.2.1, hb.2.2.2.2.1, hb.2.2.2.2.2⟩, Or.inl ⟨h1, h5, hO9⟩⟩ : InC G h0 a tl ni w9)⟩, rfl⟩
  · refine pm_up (J_output l G h0 a F R Z B J K.1 (fun q99 x99 => x99 = rep G a K q99) w x (show OKW G h0 a F R Z B J K.1 (fun q99 x99 => x99 = rep G a K q99) w from hO)) (by refine ⟨?_, ?_, ?_, ?_⟩ <;> decide) ⟨rfl, rfl⟩ (fun v u hu => ?_)
    obtain ⟨w9, o_r⟩ := u
    obtain ⟨hv, hO9⟩ := hu
    exact ⟨w9, ⟨o_r, hv, (⟨F, R, Z, B, J, ⟨hb.1, hb.2.1, hb.2.2.1, hb.2.2.2.1, hb.2.2.2.2.1, hb.2.2.2.2.2⟩, Or.inr ⟨K, g, rk, it, pq, dr, ml, nd, nm, cp, s9, cs, rg, h1, h5, hO9, hwp, hps, hrk, ⟨hcs, hcs2⟩, ⟨hrg, hrg2⟩, nz, hnz, hnm, y9, m9, k9, hpy, hmx⟩⟩ : InC G h0 a tl ni w9)⟩, rfl⟩
set_option maxHeartbeats 4000000 in
theorem C_forget (l : Launch) (G : pT) (h0 : Nat) (a : Nat → Nat) (tl ni : Nat) (w : va_W) (h : InC G h0 a tl ni w) : PM l G pX0 yX11_forget cX11_forget 1 none ({ frames := 40, cells := 0, slots := 0, locals := 1000 }) [.ref h0] w (fun (v : Option Value) (u : va_W) => v = none ∧ InC G h0 a tl 0 u) (fun u => u) := by
  obtain ⟨F, R, Z, B, J, hb, ⟨h1, h5, hO⟩ | ⟨K, g, rk, it, pq, dr, ml, nd, nm, cp, s9, cs, rg, h1, h5, hO, hwp, hps, hrk, ⟨hcs, hcs2⟩, ⟨hrg, hrg2⟩, nz, hnz, hnm, y9, m9, k9, hpy, hmx⟩⟩ := h
  · refine pm_up (J_forget l G h0 a F R Z B J (fun _ => 0) (fun _ _ => True) w (show OKW G h0 a F R Z B J (fun _ => 0) (fun _ _ => True) w from hO)) (by refine ⟨?_, ?_, ?_, ?_⟩ <;> decide) ⟨rfl, rfl⟩ (fun v u hu => ?_)
    obtain ⟨w9, _⟩ := u
    obtain ⟨hv, hO9⟩ := hu
    exact ⟨w9, ⟨hv, (⟨(upd F 17 0), R, Z, B, J, ⟨hb.1, hb.2.1, hb.2.2.1, ⟨rfl, Nat.zero_le _⟩, hb.2.2.2.2.1, hb.2.2.2.2.2⟩, Or.inl ⟨h1, h5, hO9⟩⟩ : InC G h0 a tl 0 w9)⟩, rfl⟩
  · refine pm_up (J_forget l G h0 a F R Z B J K.1 (fun q99 x99 => x99 = rep G a K q99) w (show OKW G h0 a F R Z B J K.1 (fun q99 x99 => x99 = rep G a K q99) w from hO)) (by refine ⟨?_, ?_, ?_, ?_⟩ <;> decide) ⟨rfl, rfl⟩ (fun v u hu => ?_)
    obtain ⟨w9, _⟩ := u
    obtain ⟨hv, hO9⟩ := hu
    exact ⟨w9, ⟨hv, (⟨(upd F 17 0), R, Z, B, J, ⟨hb.1, hb.2.1, hb.2.2.1, ⟨rfl, Nat.zero_le _⟩, hb.2.2.2.2.1, hb.2.2.2.2.2⟩, Or.inr ⟨K, g, rk, it, pq, dr, ml, nd, nm, cp, s9, cs, rg, h1, h5, hO9, hwp, hps, hrk, ⟨hcs, hcs2⟩, ⟨hrg, hrg2⟩, nz, hnz, hnm, y9, m9, k9, hpy, hmx⟩⟩ : InC G h0 a tl 0 w9)⟩, rfl⟩
set_option maxHeartbeats 4000000 in
theorem C_input (l : Launch) (G : pT) (h0 : Nat) (a : Nat → Nat) (tl ni : Nat) (w : va_W) (x : Int32) (h : InC G h0 a tl ni w) : PM l G pX0 yX11_input cX11_input 2 (some .int) ({ frames := 40, cells := 0, slots := 0, locals := 1000 }) [.ref h0, .int x] w (fun (v : Option Value) (u : va_W) => ∃ (n1 : Nat) (r : Int32), v = some (.int r) ∧ InQ ni n1 r ∧ InC G h0 a tl n1 u) (fun u => u) := by
  obtain ⟨F, R, Z, B, J, hb, ⟨h1, h5, hO⟩ | ⟨K, g, rk, it, pq, dr, ml, nd, nm, cp, s9, cs, rg, h1, h5, hO, hwp, hps, hrk, ⟨hcs, hcs2⟩, ⟨hrg, hrg2⟩, nz, hnz, hnm, y9, m9, k9, hpy, hmx⟩⟩ := h
  · refine pm_up (J_input l G h0 a F R Z B J (fun _ => 0) (fun _ _ => True) w x ni hb.2.2.2.1.2 (show OKW G h0 a (upd F 17 (nI ni)) R Z B J (fun _ => 0) (fun _ _ => True) w from by rw [upd_at (show F 17 = (nI ni) from hb.2.2.2.1.1)]; exact hO)) (by refine ⟨?_, ?_, ?_, ?_⟩ <;> decide) ⟨rfl, rfl⟩ (fun v u hu => ?_)
    obtain ⟨w9, o_ni1, o_r, o_f1⟩ := u
    obtain ⟨hv, q_q1, q_q2, hO9⟩ := hu
    exact ⟨w9, ⟨o_ni1, o_r, hv, q_q2, (⟨(upd F 17 (nI o_ni1)), R, Z, (updA B 31 o_f1), J, ⟨hb.1, hb.2.1, hb.2.2.1, ⟨rfl, q_q1⟩, hb.2.2.2.2.1, hb.2.2.2.2.2⟩, Or.inl ⟨h1, h5, hO9⟩⟩ : InC G h0 a tl o_ni1 w9)⟩, rfl⟩
  · refine pm_up (J_input l G h0 a F R Z B J K.1 (fun q99 x99 => x99 = rep G a K q99) w x ni hb.2.2.2.1.2 (show OKW G h0 a (upd F 17 (nI ni)) R Z B J K.1 (fun q99 x99 => x99 = rep G a K q99) w from by rw [upd_at (show F 17 = (nI ni) from hb.2.2.2.1.1)]; exact hO)) (by refine ⟨?_, ?_, ?_, ?_⟩ <;> decide) ⟨rfl, rfl⟩ (fun v u hu => ?_)
    obtain ⟨w9, o_ni1, o_r, o_f1⟩ := u
    obtain ⟨hv, q_q1, q_q2, hO9⟩ := hu
    exact ⟨w9, ⟨o_ni1, o_r, hv, q_q2, (⟨(upd F 17 (nI o_ni1)), R, Z, (updA B 31 o_f1), J, ⟨hb.1, hb.2.1, hb.2.2.1, ⟨rfl, q_q1⟩, hb.2.2.2.2.1, hb.2.2.2.2.2⟩, Or.inr ⟨K, g, rk, it, pq, dr, ml, nd, nm, cp, s9, cs, rg, h1, h5, hO9, hwp, hps, hrk, ⟨hcs, hcs2⟩, ⟨hrg, hrg2⟩, nz, hnz, hnm, y9, m9, k9, hpy, hmx⟩⟩ : InC G h0 a tl o_ni1 w9)⟩, rfl⟩
set_option maxHeartbeats 4000000 in
theorem C_feed (l : Launch) (G : pT) (h0 : Nat) (a : Nat → Nat) (tl ni : Nat) (w : va_W) (x1 : Int32) (x2 : Int32) (x3 : Int32) (x4 : Int32) (x5 : Int32) (h : InC G h0 a tl ni w) : PM l G pX0 yX11_feed cX11_feed 6 (some .int) ({ frames := 40, cells := 0, slots := 0, locals := 1000 }) [.ref h0, .int x1, .int x2, .int x3, .int x4, .int x5] w (fun (v : Option Value) (u : va_W) => ∃ t1 : Nat, v = some (.int (fdR tl)) ∧ nI t1 = fdT tl ∧ t1 ≤ 5000 ∧ InC G h0 a t1 ni u) (fun u => u) := by
  obtain ⟨F, R, Z, B, J, hb, ⟨h1, h5, hO⟩ | ⟨K, g, rk, it, pq, dr, ml, nd, nm, cp, s9, cs, rg, h1, h5, hO, hwp, hps, hrk, ⟨hcs, hcs2⟩, ⟨hrg, hrg2⟩, nz, hnz, hnm, y9, m9, k9, hpy, hmx⟩⟩ := h
  · refine pm_up (K_feed l G h0 a F R Z B J (fun _ => 0) (fun _ _ => True) w x1 x2 x3 x4 x5 tl hb.1.2 hb.2.1 (show OKW G h0 a (upd F 0 (nI tl)) R Z B J (fun _ => 0) (fun _ _ => True) w from by rw [upd_at (show F 0 = (nI tl) from hb.1.1)]; exact hO)) (by refine ⟨?_, ?_, ?_, ?_⟩ <;> decide) ⟨rfl, rfl⟩ (fun v u hu => ?_)
    obtain ⟨w9, o_t1, o_f1⟩ := u
    obtain ⟨hv, q_q1, q_q2, q_q3, hO9⟩ := hu
    exact ⟨w9, ⟨o_t1, hv, q_q2, q_q1, (⟨(upd F 0 (nI o_t1)), R, Z, (updA B 0 o_f1), J, ⟨⟨rfl, q_q1⟩, q_q3, hb.2.2.1, hb.2.2.2.1, hb.2.2.2.2.1, hb.2.2.2.2.2⟩, Or.inl ⟨h1, h5, hO9⟩⟩ : InC G h0 a o_t1 ni w9)⟩, rfl⟩
  · refine pm_up (K_feed l G h0 a F R Z B J K.1 (fun q99 x99 => x99 = rep G a K q99) w x1 x2 x3 x4 x5 tl hb.1.2 hb.2.1 (show OKW G h0 a (upd F 0 (nI tl)) R Z B J K.1 (fun q99 x99 => x99 = rep G a K q99) w from by rw [upd_at (show F 0 = (nI tl) from hb.1.1)]; exact hO)) (by refine ⟨?_, ?_, ?_, ?_⟩ <;> decide) ⟨rfl, rfl⟩ (fun v u hu => ?_)
    obtain ⟨w9, o_t1, o_f1⟩ := u
    obtain ⟨hv, q_q1, q_q2, q_q3, hO9⟩ := hu
    exact ⟨w9, ⟨o_t1, hv, q_q2, q_q1, (⟨(upd F 0 (nI o_t1)), R, Z, (updA B 0 o_f1), J, ⟨⟨rfl, q_q1⟩, q_q3, hb.2.2.1, hb.2.2.2.1, hb.2.2.2.2.1, hb.2.2.2.2.2⟩, Or.inr ⟨K, g, rk, it, pq, dr, ml, nd, nm, cp, s9, cs, rg, h1, h5, hO9, hwp, hps, hrk, ⟨hcs, hcs2⟩, ⟨hrg, hrg2⟩, nz, hnz, hnm, y9, m9, k9, hpy, hmx⟩⟩ : InC G h0 a o_t1 ni w9)⟩, rfl⟩
set_option maxHeartbeats 4000000 in
theorem C_back (l : Launch) (G : pT) (h0 : Nat) (a : Nat → Nat) (tl ni : Nat) (w : va_W) (x : Int32) (h : InC G h0 a tl ni w) : PM l G pX0 yX11_back cX11_back 2 (some .int) ({ frames := 40, cells := 0, slots := 0, locals := 1000 }) [.ref h0, .int x] w (fun (v : Option Value) (u : va_W) => ∃ t1 : Nat, v = some (.int (bkR x tl)) ∧ nI t1 = bkT x tl ∧ t1 ≤ 5000 ∧ InC G h0 a t1 ni u) (fun u => u) := by
  obtain ⟨F, R, Z, B, J, hb, ⟨h1, h5, hO⟩ | ⟨K, g, rk, it, pq, dr, ml, nd, nm, cp, s9, cs, rg, h1, h5, hO, hwp, hps, hrk, ⟨hcs, hcs2⟩, ⟨hrg, hrg2⟩, nz, hnz, hnm, y9, m9, k9, hpy, hmx⟩⟩ := h
  · refine pm_up (K_back l G h0 a F R Z B J (fun _ => 0) (fun _ _ => True) w x tl hb.1.2 (show OKW G h0 a (upd F 0 (nI tl)) R Z B J (fun _ => 0) (fun _ _ => True) w from by rw [upd_at (show F 0 = (nI tl) from hb.1.1)]; exact hO)) (by refine ⟨?_, ?_, ?_, ?_⟩ <;> decide) ⟨rfl, rfl⟩ (fun v u hu => ?_)
    obtain ⟨w9, o_t1, o_r⟩ := u
    obtain ⟨hv, q_q1, q_q2, q_q3, hO9⟩ := hu
    exact ⟨w9, ⟨o_t1, (by rw [← q_q3]; exact hv), q_q2, q_q1, (⟨(upd F 0 (nI o_t1)), R, Z, B, J, ⟨⟨rfl, q_q1⟩, hb.2.1, hb.2.2.1, hb.2.2.2.1, hb.2.2.2.2.1, hb.2.2.2.2.2⟩, Or.inl ⟨h1, h5, hO9⟩⟩ : InC G h0 a o_t1 ni w9)⟩, rfl⟩
  · refine pm_up (K_back l G h0 a F R Z B J K.1 (fun q99 x99 => x99 = rep G a K q99) w x tl hb.1.2 (show OKW G h0 a (upd F 0 (nI tl)) R Z B J K.1 (fun q99 x99 => x99 = rep G a K q99) w from by rw [upd_at (show F 0 = (nI tl) from hb.1.1)]; exact hO)) (by refine ⟨?_, ?_, ?_, ?_⟩ <;> decide) ⟨rfl, rfl⟩ (fun v u hu => ?_)
    obtain ⟨w9, o_t1, o_r⟩ := u
    obtain ⟨hv, q_q1, q_q2, q_q3, hO9⟩ := hu
    exact ⟨w9, ⟨o_t1, (by rw [← q_q3]; exact hv), q_q2, q_q1, (⟨(upd F 0 (nI o_t1)), R, Z, B, J, ⟨⟨rfl, q_q1⟩, hb.2.1, hb.2.2.1, hb.2.2.2.1, hb.2.2.2.2.1, hb.2.2.2.2.2⟩, Or.inr ⟨K, g, rk, it, pq, dr, ml, nd, nm, cp, s9, cs, rg, h1, h5, hO9, hwp, hps, hrk, ⟨hcs, hcs2⟩, ⟨hrg, hrg2⟩, nz, hnz, hnm, y9, m9, k9, hpy, hmx⟩⟩ : InC G h0 a o_t1 ni w9)⟩, rfl⟩
set_option maxHeartbeats 4000000 in
theorem C_thrown (l : Launch) (G : pT) (h0 : Nat) (a : Nat → Nat) (tl ni : Nat) (w : va_W) (x : Int32) (h : InC G h0 a tl ni w) : PM l G pX0 yX11_thrown cX11_thrown 2 (some .int) ({ frames := 40, cells := 0, slots := 0, locals := 1000 }) [.ref h0, .int x] w (fun (v : Option Value) (u : va_W) => ∃ r : Int32, v = some (.int r) ∧ InC G h0 a tl ni u) (fun u => u) := by
  obtain ⟨F, R, Z, B, J, hb, ⟨h1, h5, hO⟩ | ⟨K, g, rk, it, pq, dr, ml, nd, nm, cp, s9, cs, rg, h1, h5, hO, hwp, hps, hrk, ⟨hcs, hcs2⟩, ⟨hrg, hrg2⟩, nz, hnz, hnm, y9, m9, k9, hpy, hmx⟩⟩ := h
  · rcases h5 with h5 | h5
    · refine pm_up (J_thrownN l G h0 a F R Z B J (fun _ => 0) (fun _ _ => True) w x (show OKW G h0 a F (updR R 5 (.null)) Z B J (fun _ => 0) (fun _ _ => True) w from by rw [updR_at (show R 5 = .null from h5)]; exact hO)) (by refine ⟨?_, ?_, ?_, ?_⟩ <;> decide) ⟨rfl, rfl⟩ (fun v u hu => ?_)
      obtain ⟨w9, o_r⟩ := u
      obtain ⟨hv, hO9⟩ := hu
      exact ⟨w9, ⟨o_r, hv, (⟨F, (updR R 5 (.null)), Z, B, J, ⟨hb.1, hb.2.1, hb.2.2.1, hb.2.2.2.1, hb.2.2.2.2.1, hb.2.2.2.2.2⟩, Or.inl ⟨h1, Or.inl rfl, hO9⟩⟩ : InC G h0 a tl ni w9)⟩, rfl⟩
    · refine pm_up (J_thrownZ l G h0 a F R Z B J (fun _ => 0) (fun _ _ => True) w x h5 (show OKW G h0 a F R Z B J (fun _ => 0) (fun _ _ => True) w from hO)) (by refine ⟨?_, ?_, ?_, ?_⟩ <;> decide) ⟨rfl, rfl⟩ (fun v u hu => ?_)
      obtain ⟨w9, o_r⟩ := u
      obtain ⟨hv, hO9⟩ := hu
      exact ⟨w9, ⟨o_r, hv, (⟨F, R, Z, B, J, ⟨hb.1, hb.2.1, hb.2.2.1, hb.2.2.2.1, hb.2.2.2.2.1, hb.2.2.2.2.2⟩, Or.inl ⟨h1, (Or.inr h5), hO9⟩⟩ : InC G h0 a tl ni w9)⟩, rfl⟩
  · rcases h5 with h5 | h5 | h5
    · refine pm_up (J_thrownN l G h0 a F R Z B J K.1 (fun q99 x99 => x99 = rep G a K q99) w x (show OKW G h0 a F (updR R 5 (.null)) Z B J K.1 (fun q99 x99 => x99 = rep G a K q99) w from by rw [updR_at (show R 5 = .null from h5)]; exact hO)) (by refine ⟨?_, ?_, ?_, ?_⟩ <;> decide) ⟨rfl, rfl⟩ (fun v u hu => ?_)
      obtain ⟨w9, o_r⟩ := u
      obtain ⟨hv, hO9⟩ := hu
      exact ⟨w9, ⟨o_r, hv, (⟨F, (updR R 5 (.null)), Z, B, J, ⟨hb.1, hb.2.1, hb.2.2.1, hb.2.2.2.1, hb.2.2.2.2.1, hb.2.2.2.2.2⟩, Or.inr ⟨K, g, rk, it, pq, dr, ml, nd, nm, cp, s9, cs, rg, h1, Or.inl rfl, hO9, hwp, hps, hrk, ⟨hcs, hcs2⟩, ⟨hrg, hrg2⟩, nz, hnz, hnm, y9, m9, k9, hpy, hmx⟩⟩ : InC G h0 a tl ni w9)⟩, rfl⟩
    · refine pm_up (J_thrownZ l G h0 a F R Z B J K.1 (fun q99 x99 => x99 = rep G a K q99) w x h5 (show OKW G h0 a F R Z B J K.1 (fun q99 x99 => x99 = rep G a K q99) w from hO)) (by refine ⟨?_, ?_, ?_, ?_⟩ <;> decide) ⟨rfl, rfl⟩ (fun v u hu => ?_)
      obtain ⟨w9, o_r⟩ := u
      obtain ⟨hv, hO9⟩ := hu
      exact ⟨w9, ⟨o_r, hv, (⟨F, R, Z, B, J, ⟨hb.1, hb.2.1, hb.2.2.1, hb.2.2.2.1, hb.2.2.2.2.1, hb.2.2.2.2.2⟩, Or.inr ⟨K, g, rk, it, pq, dr, ml, nd, nm, cp, s9, cs, rg, h1, (Or.inr (Or.inl h5)), hO9, hwp, hps, hrk, ⟨hcs, hcs2⟩, ⟨hrg, hrg2⟩, nz, hnz, hnm, y9, m9, k9, hpy, hmx⟩⟩ : InC G h0 a tl ni w9)⟩, rfl⟩
    · obtain ⟨sp, op, hsp, hs1, hs2, hle, hz9⟩ := hb.2.2.2.2.1
      obtain ⟨ht, hht, hht2⟩ := hb.2.2.2.2.2
      refine pm_up (J_thrown l G h0 a F R Z B J K w x sp op ht pq dr ml nd nm cp it s9 g rk hsp hht2 hwp hps hrk (show OKP G h0 a (upd F 26 (nI ht)) (updR (updR (updR R 5 (.ref pq)) 7 (.ref (a sp))) 8 (.ref (a op))) Z B J K w from by rw [upd_at (show F 26 = (nI ht) from hht), updR_at (show R 5 = .ref pq from h5), updR_at (show R 7 = .ref (a sp) from hs1), updR_at (show R 8 = .ref (a op) from hs2)]; exact hO)) (by refine ⟨?_, ?_, ?_, ?_⟩ <;> decide) ⟨rfl, rfl⟩ (fun v u hu => ?_)
      obtain ⟨w9, o_r⟩ := u
      obtain ⟨hv, hO9⟩ := hu
      exact ⟨w9, ⟨o_r, hv, (⟨(upd F 26 (nI ht)), (updR (updR (updR R 5 (.ref pq)) 7 (.ref (a sp))) 8 (.ref (a op))), Z, B, J, ⟨hb.1, hb.2.1, hb.2.2.1, hb.2.2.2.1, ⟨sp, op, hsp, rfl, rfl, hle, hz9⟩, ⟨ht, rfl, hht2⟩⟩, Or.inr ⟨K, g, rk, it, pq, dr, ml, nd, nm, cp, s9, cs, rg, h1, Or.inr (Or.inr rfl), hO9, hwp, hps, hrk, ⟨hcs, hcs2⟩, ⟨hrg, hrg2⟩, nz, hnz, hnm, y9, m9, k9, hpy, hmx⟩⟩ : InC G h0 a tl ni w9)⟩, rfl⟩
set_option maxHeartbeats 4000000 in
theorem C_run (l : Launch) (G : pT) (h0 : Nat) (a : Nat → Nat) (tl ni : Nat) (w : va_W) (x : Int32) (y : Int32) (h : InC G h0 a tl ni w) (hl0 : l.stackTraces = false) : PY l G pX0 yX11_run cX11_run 3 (some .int) ({ frames := 60, cells := 1, slots := 6, locals := 5000 }) [.ref h0, .int x, .int y] w (fun (v : Option Value) (u : va_W) => ∃ r : Int32, v = some (.int r) ∧ InC G h0 a tl ni u) (fun u => u) (fun (u : va_W) => u = w) (fun u => u) := by
  obtain ⟨F, R, Z, B, J, hb, ⟨h1, h5, hO⟩ | ⟨K, g, rk, it, pq, dr, ml, nd, nm, cp, s9, cs, rg, h1, h5, hO, hwp, hps, hrk, ⟨hcs, hcs2⟩, ⟨hrg, hrg2⟩, nz, hnz, hnm, y9, m9, k9, hpy, hmx⟩⟩ := h
  · refine py_up (J_runN l G h0 a F R Z B J (fun _ => 0) (fun _ _ => True) w x y (show OKW G h0 a F (updR R 0 (.null)) Z B J (fun _ => 0) (fun _ _ => True) w from by rw [updR_at (show R 0 = .null from h1)]; exact hO) hl0) (by refine ⟨?_, ?_, ?_, ?_⟩ <;> decide) ⟨rfl, rfl⟩ (fun v u hu => ?_)
    obtain ⟨w9, _⟩ := u
    exact hu.elim
  · obtain ⟨sp, op, hsp, hs1, hs2, hle, hz9⟩ := hb.2.2.2.2.1
    obtain ⟨ht, hht, hht2⟩ := hb.2.2.2.2.2
    refine py_up (J_runX l G h0 a F R Z B J K w x y y9 sp op m9 k9 pq dr ml nd nm cp it s9 g rk cs rg hsp hle hmx hrg2 hwp hps hrk hpy hcs2 (show OKP G h0 a (upd (upd F 5 (nI cs)) 6 (nI rg)) (updR (updR (updR R 0 (.ref pq)) 7 (.ref (a sp))) 8 (.ref (a op))) Z B J K w from by rw [upd_at (show F 5 = (nI cs) from hcs), upd_at (show F 6 = (nI rg) from hrg), updR_at (show R 0 = .ref pq from h1), updR_at (show R 7 = .ref (a sp) from hs1), updR_at (show R 8 = .ref (a op) from hs2)]; exact hO) hl0) (by refine ⟨?_, ?_, ?_, ?_⟩ <;> decide) ⟨rfl, rfl⟩ (fun v u hu => ?_)
    obtain ⟨w9, o_r, o_en1, o_nx1, o_pc1, o_rs1, o_tp1, o_ba1, o_on1, o_sp1, o_op1, o_ht1, o_ot1, o_z1, o_J1, o_mo1, o_ta1, o_ou1, o_fr1, o_li1⟩ := u
    obtain ⟨hv, q_qsp, q_qht, q_ql, hO9⟩ := hu
    exact ⟨w9, ⟨o_r, hv, (⟨(upd (upd (upd (upd (upd (upd (upd (upd (upd (upd (upd (upd F 5 (nI cs)) 6 (nI rg)) 18 (nI o_ba1)) 19 (nI o_tp1)) 20 o_pc1) 21 o_nx1) 22 (nI o_on1)) 23 o_en1) 24 o_rs1) 26 (nI o_ht1)) 27 o_ot1) 28 (nI o_li1)), (updR (updR (updR (updR (updR R 0 (.ref pq)) 5 (.ref pq)) 6 (va_rf o_mo1)) 7 (.ref (a o_sp1))) 8 (.ref (a o_op1))), o_z1, (updA (updA (updA B 30 o_fr1) 32 o_ou1) 33 o_ta1), o_J1, ⟨hb.1, hb.2.1, hb.2.2.1, hb.2.2.2.1, ⟨o_sp1, o_op1, q_qsp, rfl, rfl, q_ql, hz9⟩, ⟨o_ht1, rfl, q_qht⟩⟩, Or.inr ⟨K, g, rk, it, pq, dr, ml, nd, nm, cp, s9, cs, rg, rfl, Or.inr (Or.inr rfl), hO9, hwp, hps, hrk, ⟨rfl, hcs2⟩, ⟨rfl, hrg2⟩, nz, hnz, hnm, y9, m9, k9, hpy, hmx⟩⟩ : InC G h0 a tl ni w9)⟩, rfl⟩
theorem C_read (l : Launch) (G : pT) (h0 : Nat) (a : Nat → Nat) (tl ni : Nat) (w : va_W) (h : InC G h0 a tl ni w) (hl0 : l.stackTraces = false) : PMW l G pX0 yX11_read cX11_read 3 (some .int) [(44, 64, 67, 86)] ({ frames := 1230, cells := 42 * tl + 101, slots := 380 * tl + 6000, locals := 47700 }) [.ref h0] w (fun (v : Option Value) (u : va_W) => ∃ r : Int32, v = some (.int r) ∧ InC G h0 a 0 ni u) (fun u => u) := by
  obtain ⟨F, R, Z, B, J, hb, ⟨h1, h5, hO⟩ | ⟨K, g, rk, it, pq, dr, ml, nd, nm, cp, s9, cs, rg, h1, h5, hO, hwp, hps, hrk, ⟨hcs, hcs2⟩, ⟨hrg, hrg2⟩, nz, hnz, hnm, y9, m9, k9, hpy, hmx⟩⟩ := h
  · refine pw_up (J_read l G h0 a F R Z B J (fun _ => 0) (fun _ _ => True) w tl ni hb (by rw [upd_at hb.1.1]; exact hO) hl0) ⟨Nat.le_refl _, Nat.le_refl _, Nat.le_refl _, Nat.le_refl _⟩ ⟨rfl, rfl⟩ (fun v u hu => ?_)
    exact ⟨u.1, ⟨u.2, hu⟩, rfl⟩
  · refine pw_up (J_read l G h0 a F R Z B J K.1 (fun q99 x99 => x99 = rep G a K q99) w tl ni hb (by rw [upd_at hb.1.1]; exact hO) hl0) ⟨Nat.le_refl _, Nat.le_refl _, Nat.le_refl _, Nat.le_refl _⟩ ⟨rfl, rfl⟩ (fun v u hu => ?_)
    exact ⟨u.1, ⟨u.2, hu⟩, rfl⟩
