theorem CmK.out {x : Int32} (h : CmK x) (h1 : ¬ x = 44) (h2 : ¬ x = 45) (h3 : ¬ x = 46) (h4 : ¬ x = 49) (h5 : ¬ x = 50) (h6 : ¬ x = 51) (h7 : ¬ x = 62) (h8 : ¬ x = 63) (h9 : ¬ x = 64) : False := by
  rcases h with h | h | h | h | h | h | h | h | h
  · exact h1 h
  · exact h2 h
  · exact h3 h
  · exact h4 h
  · exact h5 h
  · exact h6 h
  · exact h7 h
  · exact h8 h
  · exact h9 h
def CmQ (x x1 x2 r : Int32) : Prop := (x = 49 → r = x1 &&& x2) ∧ (x = 50 → r = x1 ||| x2) ∧ (x = 51 → r = x1 ^^^ x2)
section YS
variable {y : TY} {S : Nat → Nat} {st : Nat → Int64} {j ba tp t1 t2 u : Nat} {a : AS} {os : List Nat} {x x1 x2 r : Int32} {v1 v2 v z : Int64}
theorem OuQ.num (h : FFy y S j st (wos os a) ba tp) (hv : VT (yfi y) S u v) (hz : z = z) : OuQ y S j st (vp_updL st tp v) ba (tp + 1) z z (wos (u :: os) a) := ⟨fun i hi => vpL_ne (by have := FFy.lo h; omega), Or.inl ⟨rfl, FFy.put h hv⟩⟩
theorem OuQ.ra {z1 : Int64} {tp1 : Nat} {a1 : AS} (hz : RaO S z1) : OuQ y S j st st ba tp1 z z1 a1 := ⟨fun _ _ => rfl, Or.inr hz⟩
theorem SgT.cm (h : SgT x t1 t2 u) (h4 : ¬ x = 54) (h5 : ¬ x = 55) (h6 : ¬ x = 56) (h7 : ¬ x = 57) (h8 : ¬ x = 58) (h9 : ¬ x = 59) (k1 : ¬ x = 47) (k2 : ¬ x = 48) : CmK x := by
  unfold CmK
  rcases h with ⟨h, _⟩ | ⟨h, _⟩ | ⟨h, _⟩
  · rcases h with h | h | h | h | h | h
    · exact absurd h h4
    · exact absurd h h5
    · exact absurd h h6
    · exact absurd h h7
    · exact absurd h h8
    · exact absurd h h9
  · rcases h with h | h | h | h | h | h | h | h | h | h | h
    · exact Or.inl h
    · exact Or.inr (Or.inl h)
    · exact Or.inr (Or.inr (Or.inl h))
    · exact absurd h k1
    · exact absurd h k2
    · exact Or.inr (Or.inr (Or.inr (Or.inl h)))
    · exact Or.inr (Or.inr (Or.inr (Or.inr (Or.inl h))))
    · exact Or.inr (Or.inr (Or.inr (Or.inr (Or.inr (Or.inl h)))))
    · exact Or.inr (Or.inr (Or.inr (Or.inr (Or.inr (Or.inr (Or.inl h))))))
    · exact Or.inr (Or.inr (Or.inr (Or.inr (Or.inr (Or.inr (Or.inr (Or.inl h)))))))
    · exact Or.inr (Or.inr (Or.inr (Or.inr (Or.inr (Or.inr (Or.inr (Or.inr h)))))))
  · rcases h with h | h | h
    · exact Or.inr (Or.inr (Or.inr (Or.inl h)))
    · exact Or.inr (Or.inr (Or.inr (Or.inr (Or.inl h))))
    · exact Or.inr (Or.inr (Or.inr (Or.inr (Or.inr (Or.inl h)))))
/-- a comparison gives a truth -/
theorem SgT.tr (h : SgT x t1 t2 u) (hx : x = 54 ∨ x = 55 ∨ x = 56 ∨ x = 57 ∨ x = 58 ∨ x = 59) : u = 61 := by
  rcases h with ⟨_, h⟩ | ⟨h, _⟩ | ⟨h, _⟩
  · exact h
  · rcases hx with e | e | e | e | e | e <;> rw [e] at h <;> exact absurd h (by decide)
  · rcases hx with e | e | e | e | e | e <;> rw [e] at h <;> exact absurd h (by decide)
theorem SgT.nm (h : SgT x t1 t2 u) (hx : ¬ (x = 54 ∨ x = 55 ∨ x = 56 ∨ x = 57 ∨ x = 58 ∨ x = 59)) : u = 60 ∨ ((x = 49 ∨ x = 50 ∨ x = 51) ∧ BoT t1 ∧ BoT t2 ∧ u = 61) := by
  rcases h with ⟨h, _⟩ | ⟨_, h⟩ | h
  · exact absurd h hx
  · exact Or.inl h
  · exact Or.inr h
theorem SgT.val (h : SgT x t1 t2 u) (hx : ¬ (x = 54 ∨ x = 55 ∨ x = 56 ∨ x = 57 ∨ x = 58 ∨ x = 59)) (q : CmQ x v1.toInt32 v2.toInt32 r) (h1 : VT (yfi y) S t1 v1) (h2 : VT (yfi y) S t2 v2) : VT (yfi y) S u (nmV r) := by
  rcases h.nm hx with e | ⟨e, b1, b2, eu⟩
  · subst e; exact VT.num
  · subst eu
    refine VT.truth ?_
    obtain ⟨q1, q2, q3⟩ := q
    obtain ⟨w1, w2, w3⟩ := and01 (b1.val h1) (b2.val h2)
    rcases e with e | e | e
    · rw [q1 e]; exact w1
    · rw [q2 e]; exact w2
    · rw [q3 e]; exact w3
end YS
theorem OuQ.dv {y : TY} {S : Nat → Nat} {st st1 : Nat → Int64} {j ba tp tp1 : Nat} {a : AS} {os : List Nat} {z z1 : Int64} (h : FFy y S j st (wos os a) ba tp) (he : ExS y S) (q : (z1 = z ∧ tp1 = tp + 1 ∧ ∃ r : Int32, st1 = vp_updL st tp (nmV r)) ∨ (z1 = rfV 3 ∧ tp1 = tp ∧ st1 = st)) : OuQ y S j st st1 ba tp1 z z1 (wos (60 :: os) a) := by
  rcases q with ⟨q1, q2, r, q3⟩ | ⟨q1, q2, q3⟩
  · subst q1; subst q2; subst q3
    exact OuQ.num h VT.num rfl
  · subst q3; subst q1
    exact OuQ.ra (RaO.own he (by omega) (by omega))
theorem SgT.no {x : Int32} {t1 t2 u : Nat} (h : SgT x t1 t2 u) (hx : x = 52 ∨ x = 53) : False := by
  rcases h with ⟨h, _⟩ | ⟨h, _⟩ | ⟨h, _⟩ <;> rcases hx with e | e <;> rw [e] at h <;> exact absurd h (by decide)
theorem SgT.div {x : Int32} {t1 t2 u : Nat} (h : SgT x t1 t2 u) (hx : x = 47 ∨ x = 48) : u = 60 := by
  rcases h.nm (by rcases hx with e | e <;> rw [e] <;> decide) with e | ⟨e, _⟩
  · exact e
  · rcases hx with q | q <;> rw [q] at e <;> exact absurd e (by decide)
theorem OuQ.pf {y : TY} {S : Nat → Nat} {st : Nat → Int64} {j ba tp t u : Nat} {a : AS} {os : List Nat} {v z : Int64} {x r : Int32} (h : FFy y S j st (wos os a) ba tp) (hp : PfT x t u) (hv : VT (yfi y) S t v) (q : ¬ (x = 45 ∨ x = 52) → r = v.toInt32 ^^^ 1) : OuQ y S j st (vp_updL st tp (nmV r)) ba (tp + 1) z z (wos (u :: os) a) := by
  refine OuQ.num h ?_ rfl
  rcases hp with ⟨_, e⟩ | ⟨e1, e2, e3⟩
  · subst e; exact VT.num
  · subst e3
    rw [q (by rw [e1]; decide)]
    exact hv.flip e2
set_option maxHeartbeats 8000000 in
set_option maxRecDepth 100000 in
theorem Y_st0 (l : Launch) (G : pT) (h0 : Nat) (a : Nat → Nat) (F : Nat → Int32) (R : Nat → Value) (Z : Int64) (B : Nat → Nat → Int32) (J : Nat → Nat → Int64) (T : Nat → Nat) (Pi : Nat → va_E → Prop) (w : va_W) (y : TY) (Sh : Nat → Nat) (nn : Nat → Nat) (on : Nat) (j9 : Nat) (ba : Nat) (pc : Nat) (tp : Nat) (sp : Nat) (op : Nat) (ht : Nat) (fl : Nat) (hsp : (sp = 34 ∧ op = 35) ∨ (sp = 35 ∧ op = 34)) (hmi : MIy y (B 19) Sh nn (J sp) ht (B 30) (J 29) on j9 ba pc tp) (hmo : MOy y (B 16) (B 17) (B 18) (B 19) j9) (hZ : Z = 0) (hfl : B 33 5 = nI fl) (hflb : fl ≤ 20000) (hop : B 16 pc = nI 0) (hru : IRy y (B 16) (B 17) (B 18) pc j9 0) (hO : OKW G h0 a (upd (upd (upd (upd (upd (upd F 18 (nI ba)) 19 (nI tp)) 20 (nI pc)) 21 (nI (pc + 1))) 23 5) 26 (nI ht)) (updR (updR R 7 (.ref (a sp))) 8 (.ref (a op))) Z B J T Pi w) : PM l G pX0 yX5_step cX5_step 3 none ({ frames := 16, cells := 0, slots := 0, locals := 1600 }) [.ref (a 5), .int 0, .int (B 17 pc)] w (fun (v : Option Value) (u : va_W × (Nat × Int32 × Int32 × Int64 × (Nat → Nat → Int64) × (Nat → Int32) × (Nat → Int32) × Nat)) => v = none ∧ (StQ y (B 19) Sh nn (J sp) ht (B 30) (B 16) on j9 ba pc fl u.2.1 u.2.2.1 u.2.2.2.1 u.2.2.2.2.1 (u.2.2.2.2.2.1 29) u.2.2.2.2.2.2.2.2) ∧ (u.2.2.2.2.2.1 34 = J 34 ∧ u.2.2.2.2.2.1 35 = J 35) ∧ (u.2.2.2.2.2.2.1 5 = nI u.2.2.2.2.2.2.2.2) ∧ (u.2.2.2.2.2.2.2.2 ≤ fl ∧ u.2.1 ≤ 32000) ∧ (OKW G h0 a (upd (upd (upd (upd (upd (upd F 18 (nI ba)) 19 (nI u.2.1)) 20 (nI pc)) 21 u.2.2.2.1) 23 u.2.2.1) 26 (nI ht)) (updR (updR R 7 (.ref (a sp))) 8 (.ref (a op))) u.2.2.2.2.1 (updA (updA B 32 u.2.2.2.2.2.2.2.1) 33 u.2.2.2.2.2.2.1) u.2.2.2.2.2.1 T Pi u.1)) (fun u => u.1) := by
  intro sz
  refine Met.ofW (cc := cX5_step) (maxL := 3) (ret := none) (by decide) rfl ?_
  intro p e s m args below meth c s₁ B9 hml hv
  obtain ⟨rfl, hsz, hP, hD0, hE, hX⟩ := hv
  have hx := B9.exec
  have hb := B9.bytes
  have hr := B9.returns
  have hts := atoms_spec (ws := Cond.code yX5_step cX5_step 3 none :: pw) B9.pre
  have hq : ∀ w ∈ pw, w.before _ s = true := fun w h => hts w (List.mem_cons_of_mem _ h)
  have hown : s.vm.findClass RX5 = some m.cls := findClass_of_methodNamed B9.named
  have hlocks := B9.notSynchronized
  subst hsz
  have hD := hD0.self (sz := s.heap.size)
  have hA : ∀ q : Nat, s.heap.size ≤ q → va_A w s.heap.size q := fun q h => Or.inr h
  generalize va_A w s.heap.size = A at hD hE hA ⊢
  have hS : va_S A s.heap s.heap [] := va_S.rf
  have hl := lv_entry ([.ref (a 5), .int 0, .int (B 17 pc)]) (n := 3) (Nat.le_of_ble_eq_true rfl)
  rw [lg_entry_eq]
  generalize (lg_sl ([.ref (a 5), .int 0, .int (B 17 pc)]) ++ List.replicate (3 - (lg_sl ([.ref (a 5), .int 0, .int (B 17 pc)])).length) Slot.unset).toArray = ls at hl ⊢
  have hl : lv_has ls 3 [(0, .ref (a 5)), (1, .int 0), (2, .int (B 17 pc))] := hl
  obtain ⟨hn1, hn2, hn3, hn4, hn5, hn6, hn7, hn8, hn9, hn10, hn11, hn12⟩ := MIy.nums hmi hmo
  have hlo := FFy.lo hmi.ff
  refine lv_iload_n hx hb dX5_step_0 rfl (lv_at hl 1 rfl) ?_
  refine lv_tableIn (tgt := 72) (off := 71) hx hb dX5_step_1 (by decide) (by decide) (by decide) (by decide) ?_
  refine lv_aload_n hx hb dX5_step_72 rfl (lv_at hl 0 rfl) ?_
  have hO : OKW G h0 a (upd (upd (upd (upd (upd (upd (upd F 18 (nI ba)) 19 (nI tp)) 20 (nI pc)) 21 (nI (pc + 1))) 23 5) 26 (nI ht)) 23 5) (updR (updR R 7 (.ref (a sp))) 8 (.ref (a op))) Z B J T Pi w := hO.to rfl
  obtain ⟨_, qr4, hqr5⟩ := hO.2.1 28 _ (sg_28 G h0 a _ _ _ _ _)
  refine pc_V0 (G := G) (As := []) (rest := []) hx hb hml hown hq hE hX pX0_al hP hD hS hA hl.1 (Y_burn l G h0 a (upd (upd (upd (upd (upd (upd F 18 (nI ba)) 19 (nI tp)) 20 (nI pc)) 21 (nI (pc + 1))) 23 5) 26 (nI ht)) (updR (updR R 7 (.ref (a sp))) 8 (.ref (a op))) Z B J T Pi w fl hfl (by omega) hO) (gV pw_567 pw_568 pw_569 pw_539 pw_560) hV_X5_burn qr4 4 hqr5 rfl rfl rfl (Nat.le_of_ble_eq_true rfl) dX5_step_73 ⟨Nat.le_of_ble_eq_true rfl, Nat.le_of_ble_eq_true rfl⟩ ⟨Nat.le_of_ble_eq_true rfl, Nat.le_of_ble_eq_true rfl⟩ (fun v3 u1 H locs hw2 hP hD hS => ?_)
  obtain ⟨w, r6, fl7, en8, ta9⟩ := u1
  obtain ⟨hw2, h10, h11, h12, h13, hO⟩ := hw2
  have h10 : r6 ≤ 1 := h10
  have h11 : BuQ fl r6 en8 fl7 := h11
  have h12 : ta9 5 = nI fl7 := h12
  have h13 : fl7 ≤ fl := h13
  obtain rfl : v3 = some (.int (nI r6)) := hw2
  have hO : OKW G h0 a (upd (upd (upd (upd (upd (upd F 18 (nI ba)) 19 (nI tp)) 20 (nI pc)) 21 (nI (pc + 1))) 23 en8) 26 (nI ht)) (updR (updR R 7 (.ref (a sp))) 8 (.ref (a op))) Z (updA B 33 ta9) J T Pi w := hO.to rfl
  refine W.widen (k := 0) (n := 0) (Nat.le_of_ble_eq_true rfl) (Nat.le_of_ble_eq_true rfl) ?_
  refine W.eq (g2 := F0 m 76 ls [.int (nI r6)]) rfl ?_
  refine lv_pop hx hb dX5_step_76 rfl ?_
  refine lv_goto (tgt := 229) hx hb dX5_step_77 (by decide) ?_
  have hz14 : StQ y (B 19) Sh nn (J sp) ht (B 30) (B 16) on j9 ba pc fl tp en8 (nI (pc + 1)) Z (J 29) fl7 := (StQ.fuel hmi hmo (by rw [hop]; rfl) hru h11 hZ)
  have hz15 : J 34 = J 34 ∧ J 35 = J 35 := ⟨rfl, rfl⟩
  have hz16 : ta9 5 = nI fl7 := h12
  have hz17 : fl7 ≤ fl ∧ tp ≤ 32000 := (by omega)
  have hO : OKW G h0 a (upd (upd (upd (upd (upd (upd F 18 (nI ba)) 19 (nI tp)) 20 (nI pc)) 21 (nI (pc + 1))) 23 en8) 26 (nI ht)) (updR (updR R 7 (.ref (a sp))) 8 (.ref (a op))) Z (updA (updA B 32 (B 32)) 33 ta9) J T Pi w := hO.to rfl
  exact W.vret hx hb hr (fun t99 ht99 hW99 => ⟨⟨_, (w, (tp, en8, (nI (pc + 1)), Z, J, ta9, (B 32), fl7)), rfl, ⟨rfl, hz14, hz15, hz16, hz17, hO⟩, by rw [ht99]; exact hP, hD⟩, hS.F ht99⟩) hS.2.2 dX5_step_229
set_option maxHeartbeats 8000000 in
set_option maxRecDepth 100000 in
theorem Y_st1 (l : Launch) (G : pT) (h0 : Nat) (a : Nat → Nat) (F : Nat → Int32) (R : Nat → Value) (Z : Int64) (B : Nat → Nat → Int32) (J : Nat → Nat → Int64) (T : Nat → Nat) (Pi : Nat → va_E → Prop) (w : va_W) (y : TY) (Sh : Nat → Nat) (nn : Nat → Nat) (on : Nat) (j9 : Nat) (ba : Nat) (pc : Nat) (tp : Nat) (sp : Nat) (op : Nat) (ht : Nat) (fl : Nat) (hsp : (sp = 34 ∧ op = 35) ∨ (sp = 35 ∧ op = 34)) (hmi : MIy y (B 19) Sh nn (J sp) ht (B 30) (J 29) on j9 ba pc tp) (hmo : MOy y (B 16) (B 17) (B 18) (B 19) j9) (hZ : Z = 0) (hfl : B 33 5 = nI fl) (hflb : fl ≤ 20000) (hop : B 16 pc = nI 1) (hru : IRy y (B 16) (B 17) (B 18) pc j9 1) (hO : OKW G h0 a (upd (upd (upd (upd (upd (upd F 18 (nI ba)) 19 (nI tp)) 20 (nI pc)) 21 (nI (pc + 1))) 23 5) 26 (nI ht)) (updR (updR R 7 (.ref (a sp))) 8 (.ref (a op))) Z B J T Pi w) : PM l G pX0 yX5_step cX5_step 3 none ({ frames := 16, cells := 0, slots := 0, locals := 1600 }) [.ref (a 5), .int 1, .int (B 17 pc)] w (fun (v : Option Value) (u : va_W × (Nat × Int32 × Int32 × Int64 × (Nat → Nat → Int64) × (Nat → Int32) × (Nat → Int32) × Nat)) => v = none ∧ (StQ y (B 19) Sh nn (J sp) ht (B 30) (B 16) on j9 ba pc fl u.2.1 u.2.2.1 u.2.2.2.1 u.2.2.2.2.1 (u.2.2.2.2.2.1 29) u.2.2.2.2.2.2.2.2) ∧ (u.2.2.2.2.2.1 34 = J 34 ∧ u.2.2.2.2.2.1 35 = J 35) ∧ (u.2.2.2.2.2.2.1 5 = nI u.2.2.2.2.2.2.2.2) ∧ (u.2.2.2.2.2.2.2.2 ≤ fl ∧ u.2.1 ≤ 32000) ∧ (OKW G h0 a (upd (upd (upd (upd (upd (upd F 18 (nI ba)) 19 (nI u.2.1)) 20 (nI pc)) 21 u.2.2.2.1) 23 u.2.2.1) 26 (nI ht)) (updR (updR R 7 (.ref (a sp))) 8 (.ref (a op))) u.2.2.2.2.1 (updA (updA B 32 u.2.2.2.2.2.2.2.1) 33 u.2.2.2.2.2.2.1) u.2.2.2.2.2.1 T Pi u.1)) (fun u => u.1) := by
  intro sz
  refine Met.ofW (cc := cX5_step) (maxL := 3) (ret := none) (by decide) rfl ?_
  intro p e s m args below meth c s₁ B9 hml hv
  obtain ⟨rfl, hsz, hP, hD0, hE, hX⟩ := hv
  have hx := B9.exec
  have hb := B9.bytes
  have hr := B9.returns
  have hts := atoms_spec (ws := Cond.code yX5_step cX5_step 3 none :: pw) B9.pre
  have hq : ∀ w ∈ pw, w.before _ s = true := fun w h => hts w (List.mem_cons_of_mem _ h)
  have hown : s.vm.findClass RX5 = some m.cls := findClass_of_methodNamed B9.named
  have hlocks := B9.notSynchronized
  subst hsz
  have hD := hD0.self (sz := s.heap.size)
  have hA : ∀ q : Nat, s.heap.size ≤ q → va_A w s.heap.size q := fun q h => Or.inr h
  generalize va_A w s.heap.size = A at hD hE hA ⊢
  have hS : va_S A s.heap s.heap [] := va_S.rf
  have hl := lv_entry ([.ref (a 5), .int 1, .int (B 17 pc)]) (n := 3) (Nat.le_of_ble_eq_true rfl)
  rw [lg_entry_eq]
  generalize (lg_sl ([.ref (a 5), .int 1, .int (B 17 pc)]) ++ List.replicate (3 - (lg_sl ([.ref (a 5), .int 1, .int (B 17 pc)])).length) Slot.unset).toArray = ls at hl ⊢
  have hl : lv_has ls 3 [(0, .ref (a 5)), (1, .int 1), (2, .int (B 17 pc))] := hl
  obtain ⟨hn1, hn2, hn3, hn4, hn5, hn6, hn7, hn8, hn9, hn10, hn11, hn12⟩ := MIy.nums hmi hmo
  have hlo := FFy.lo hmi.ff
  obtain ⟨t9, r1, r2⟩ := hru
  refine lv_iload_n hx hb dX5_step_0 rfl (lv_at hl 1 rfl) ?_
  refine lv_tableIn (tgt := 80) (off := 79) hx hb dX5_step_1 (by decide) (by decide) (by decide) (by decide) ?_
  refine lv_aload_n hx hb dX5_step_80 rfl (lv_at hl 0 rfl) ?_
  refine lv_iload_n hx hb dX5_step_81 rfl (lv_at hl 2 rfl) ?_
  refine lv_i2l hx hb dX5_step_82 rfl ?_
  refine lv_topl (fun x1 e2 => ?_)
  refine lv_ldc2 (v := 4294967295) hx hb hown (hq _ pw_603) dX5_step_83 ?_
  refine lv_land hx hb dX5_step_86 ?_
  refine lv_topl (fun x3 e4 => ?_)
  rw [show x3 = nmV (B 17 pc) from e4.trans (by rw [e2]; rfl)]
  have hO : OKW G h0 a (upd (upd (upd (upd (upd (upd (upd F 18 (nI ba)) 19 (nI tp)) 20 (nI pc)) 21 (nI (pc + 1))) 23 5) 26 (nI ht)) 19 (nI tp)) (updR (updR R 7 (.ref (a sp))) 8 (.ref (a op))) Z B J T Pi w := hO.to rfl
  obtain ⟨_, qr8, hqr9⟩ := hO.2.1 28 _ (sg_28 G h0 a _ _ _ _ _)
  refine pc_V0 (G := G) (As := [.long (nmV (B 17 pc))]) (rest := []) hx hb hml hown hq hE hX pX0_al hP hD hS hA hl.1 (Y_push l G h0 a (upd (upd (upd (upd (upd (upd F 18 (nI ba)) 19 (nI tp)) 20 (nI pc)) 21 (nI (pc + 1))) 23 5) 26 (nI ht)) (updR (updR R 7 (.ref (a sp))) 8 (.ref (a op))) Z B J T Pi w (nmV (B 17 pc)) tp (by omega) hO) (gV pw_549 pw_550 pw_551 pw_539 pw_535) hV_X5_push qr8 4 hqr9 rfl rfl rfl (Nat.le_of_ble_eq_true rfl) dX5_step_87 ⟨Nat.le_of_ble_eq_true rfl, Nat.le_of_ble_eq_true rfl⟩ ⟨Nat.le_of_ble_eq_true rfl, Nat.le_of_ble_eq_true rfl⟩ (fun v7 u5 H locs hw6 hP hD hS => ?_)
  obtain ⟨w, _⟩ := u5
  obtain ⟨hw6, hO⟩ := hw6
  obtain rfl : v7 = none := hw6
  have hO : OKW G h0 a (upd (upd (upd (upd (upd (upd F 18 (nI ba)) 19 (nI (tp + 1))) 20 (nI pc)) 21 (nI (pc + 1))) 23 5) 26 (nI ht)) (updR (updR R 7 (.ref (a sp))) 8 (.ref (a op))) Z B (updJ J 29 (vp_updL ((J 29)) tp (nmV (B 17 pc)))) T Pi w := hO.to rfl
  refine W.widen (k := 0) (n := 0) (Nat.le_of_ble_eq_true rfl) (Nat.le_of_ble_eq_true rfl) ?_
  refine W.eq (g2 := F0 m 90 ls []) rfl ?_
  refine lv_goto (tgt := 229) hx hb dX5_step_90 (by decide) ?_
  have hz10 : StQ y (B 19) Sh nn (J sp) ht (B 30) (B 16) on j9 ba pc fl (tp + 1) (5 : Int32) (nI (pc + 1)) Z ((updJ J 29 (vp_updL ((J 29)) tp (nmV (B 17 pc)))) 29) fl := (StQ.on1 hmi hmo (by rw [hop]; decide) (FFy.push hmi.ff (r1 Sh)) r2 (fun i hi => vpL_ne (by omega)) (Nat.le_refl _) hZ)
  have hz11 : (updJ J 29 (vp_updL ((J 29)) tp (nmV (B 17 pc)))) 34 = J 34 ∧ (updJ J 29 (vp_updL ((J 29)) tp (nmV (B 17 pc)))) 35 = J 35 := ⟨rfl, rfl⟩
  have hz12 : (B 33) 5 = nI fl := hfl
  have hz13 : fl ≤ fl ∧ (tp + 1) ≤ 32000 := (by omega)
  have hO : OKW G h0 a (upd (upd (upd (upd (upd (upd F 18 (nI ba)) 19 (nI (tp + 1))) 20 (nI pc)) 21 (nI (pc + 1))) 23 (5 : Int32)) 26 (nI ht)) (updR (updR R 7 (.ref (a sp))) 8 (.ref (a op))) Z (updA (updA B 32 (B 32)) 33 (B 33)) (updJ J 29 (vp_updL ((J 29)) tp (nmV (B 17 pc)))) T Pi w := hO.to rfl
  exact W.vret hx hb hr (fun t99 ht99 hW99 => ⟨⟨_, (w, ((tp + 1), (5 : Int32), (nI (pc + 1)), Z, (updJ J 29 (vp_updL ((J 29)) tp (nmV (B 17 pc)))), (B 33), (B 32), fl)), rfl, ⟨rfl, hz10, hz11, hz12, hz13, hO⟩, by rw [ht99]; exact hP, hD⟩, hS.F ht99⟩) hS.2.2 dX5_step_229
set_option maxHeartbeats 8000000 in
set_option maxRecDepth 100000 in
theorem Y_st2 (l : Launch) (G : pT) (h0 : Nat) (a : Nat → Nat) (F : Nat → Int32) (R : Nat → Value) (Z : Int64) (B : Nat → Nat → Int32) (J : Nat → Nat → Int64) (T : Nat → Nat) (Pi : Nat → va_E → Prop) (w : va_W) (y : TY) (Sh : Nat → Nat) (nn : Nat → Nat) (on : Nat) (j9 : Nat) (ba : Nat) (pc : Nat) (tp : Nat) (sp : Nat) (op : Nat) (ht : Nat) (fl : Nat) (hsp : (sp = 34 ∧ op = 35) ∨ (sp = 35 ∧ op = 34)) (hmi : MIy y (B 19) Sh nn (J sp) ht (B 30) (J 29) on j9 ba pc tp) (hmo : MOy y (B 16) (B 17) (B 18) (B 19) j9) (hZ : Z = 0) (hfl : B 33 5 = nI fl) (hflb : fl ≤ 20000) (hop : B 16 pc = nI 2) (hru : IRy y (B 16) (B 17) (B 18) pc j9 2) (hO : OKW G h0 a (upd (upd (upd (upd (upd (upd F 18 (nI ba)) 19 (nI tp)) 20 (nI pc)) 21 (nI (pc + 1))) 23 5) 26 (nI ht)) (updR (updR R 7 (.ref (a sp))) 8 (.ref (a op))) Z B J T Pi w) : PM l G pX0 yX5_step cX5_step 3 none ({ frames := 16, cells := 0, slots := 0, locals := 1600 }) [.ref (a 5), .int 2, .int (B 17 pc)] w (fun (v : Option Value) (u : va_W × (Nat × Int32 × Int32 × Int64 × (Nat → Nat → Int64) × (Nat → Int32) × (Nat → Int32) × Nat)) => v = none ∧ (StQ y (B 19) Sh nn (J sp) ht (B 30) (B 16) on j9 ba pc fl u.2.1 u.2.2.1 u.2.2.2.1 u.2.2.2.2.1 (u.2.2.2.2.2.1 29) u.2.2.2.2.2.2.2.2) ∧ (u.2.2.2.2.2.1 34 = J 34 ∧ u.2.2.2.2.2.1 35 = J 35) ∧ (u.2.2.2.2.2.2.1 5 = nI u.2.2.2.2.2.2.2.2) ∧ (u.2.2.2.2.2.2.2.2 ≤ fl ∧ u.2.1 ≤ 32000) ∧ (OKW G h0 a (upd (upd (upd (upd (upd (upd F 18 (nI ba)) 19 (nI u.2.1)) 20 (nI pc)) 21 u.2.2.2.1) 23 u.2.2.1) 26 (nI ht)) (updR (updR R 7 (.ref (a sp))) 8 (.ref (a op))) u.2.2.2.2.1 (updA (updA B 32 u.2.2.2.2.2.2.2.1) 33 u.2.2.2.2.2.2.1) u.2.2.2.2.2.1 T Pi u.1)) (fun u => u.1) := by
  intro sz
  refine Met.ofW (cc := cX5_step) (maxL := 3) (ret := none) (by decide) rfl ?_
  intro p e s m args below meth c s₁ B9 hml hv
  obtain ⟨rfl, hsz, hP, hD0, hE, hX⟩ := hv
  have hx := B9.exec
  have hb := B9.bytes
  have hr := B9.returns
  have hts := atoms_spec (ws := Cond.code yX5_step cX5_step 3 none :: pw) B9.pre
  have hq : ∀ w ∈ pw, w.before _ s = true := fun w h => hts w (List.mem_cons_of_mem _ h)
  have hown : s.vm.findClass RX5 = some m.cls := findClass_of_methodNamed B9.named
  have hlocks := B9.notSynchronized
  subst hsz
  have hD := hD0.self (sz := s.heap.size)
  have hA : ∀ q : Nat, s.heap.size ≤ q → va_A w s.heap.size q := fun q h => Or.inr h
  generalize va_A w s.heap.size = A at hD hE hA ⊢
  have hS : va_S A s.heap s.heap [] := va_S.rf
  have hl := lv_entry ([.ref (a 5), .int 2, .int (B 17 pc)]) (n := 3) (Nat.le_of_ble_eq_true rfl)
  rw [lg_entry_eq]
  generalize (lg_sl ([.ref (a 5), .int 2, .int (B 17 pc)]) ++ List.replicate (3 - (lg_sl ([.ref (a 5), .int 2, .int (B 17 pc)])).length) Slot.unset).toArray = ls at hl ⊢
  have hl : lv_has ls 3 [(0, .ref (a 5)), (1, .int 2), (2, .int (B 17 pc))] := hl
  obtain ⟨hn1, hn2, hn3, hn4, hn5, hn6, hn7, hn8, hn9, hn10, hn11, hn12⟩ := MIy.nums hmi hmo
  have hlo := FFy.lo hmi.ff
  obtain ⟨s9, r1, r2, r3, r4⟩ := hru
  rw [r1] at hl
  refine lv_iload_n hx hb dX5_step_0 rfl (lv_at hl 1 rfl) ?_
  refine lv_tableIn (tgt := 93) (off := 92) hx hb dX5_step_1 (by decide) (by decide) (by decide) (by decide) ?_
  refine lv_aload_n hx hb dX5_step_93 rfl (lv_at hl 0 rfl) ?_
  refine lv_aload_n hx hb dX5_step_94 rfl (lv_at hl 0 rfl) ?_
  refine lv_iload_n hx hb dX5_step_95 rfl (lv_at hl 2 rfl) ?_
  have hO : OKW G h0 a (upd (upd (upd (upd (upd (upd (upd F 18 (nI ba)) 19 (nI tp)) 20 (nI pc)) 21 (nI (pc + 1))) 23 5) 26 (nI ht)) 18 (nI ba)) (updR (updR R 7 (.ref (a sp))) 8 (.ref (a op))) Z B J T Pi w := hO.to rfl
  obtain ⟨_, qr4, hqr5⟩ := hO.2.1 28 _ (sg_28 G h0 a _ _ _ _ _)
  refine pc_V0 (G := G) (As := [.int (nI s9)]) (rest := [.ref (a 5)]) hx hb hml hown hq hE hX pX0_al hP hD hS hA hl.1 (Y_slotAt l G h0 a (upd (upd (upd (upd (upd (upd F 18 (nI ba)) 19 (nI tp)) 20 (nI pc)) 21 (nI (pc + 1))) 23 5) 26 (nI ht)) (updR (updR R 7 (.ref (a sp))) 8 (.ref (a op))) Z B J T Pi w ba s9 (by omega) hO) (gV pw_622 pw_623 pw_624 pw_539 pw_594) hV_X5_slotAt qr4 4 hqr5 rfl rfl rfl (Nat.le_of_ble_eq_true rfl) dX5_step_96 ⟨Nat.le_of_ble_eq_true rfl, Nat.le_of_ble_eq_true rfl⟩ ⟨Nat.le_of_ble_eq_true rfl, Nat.le_of_ble_eq_true rfl⟩ (fun v3 u1 H locs hw2 hP hD hS => ?_)
  obtain ⟨w, _⟩ := u1
  obtain ⟨hw2, hO⟩ := hw2
  obtain rfl : v3 = some (.long ((J 29) (ba + s9))) := hw2
  have hO : OKW G h0 a (upd (upd (upd (upd (upd (upd F 18 (nI ba)) 19 (nI tp)) 20 (nI pc)) 21 (nI (pc + 1))) 23 5) 26 (nI ht)) (updR (updR R 7 (.ref (a sp))) 8 (.ref (a op))) Z B J T Pi w := hO.to rfl
  refine W.widen (k := 0) (n := 0) (Nat.le_of_ble_eq_true rfl) (Nat.le_of_ble_eq_true rfl) ?_
  refine W.eq (g2 := F0 m 99 ls [.long ((J 29) (ba + s9)), .ref (a 5)]) rfl ?_
  have hO : OKW G h0 a (upd (upd (upd (upd (upd (upd (upd F 18 (nI ba)) 19 (nI tp)) 20 (nI pc)) 21 (nI (pc + 1))) 23 5) 26 (nI ht)) 19 (nI tp)) (updR (updR R 7 (.ref (a sp))) 8 (.ref (a op))) Z B J T Pi w := hO.to rfl
  obtain ⟨_, qr9, hqr10⟩ := hO.2.1 28 _ (sg_28 G h0 a _ _ _ _ _)
  refine pc_V0 (G := G) (As := [.long ((J 29) (ba + s9))]) (rest := []) hx hb hml hown hq hE hX pX0_al hP hD hS hA hl.1 (Y_push l G h0 a (upd (upd (upd (upd (upd (upd F 18 (nI ba)) 19 (nI tp)) 20 (nI pc)) 21 (nI (pc + 1))) 23 5) 26 (nI ht)) (updR (updR R 7 (.ref (a sp))) 8 (.ref (a op))) Z B J T Pi w ((J 29) (ba + s9)) tp (by omega) hO) (gV pw_549 pw_550 pw_551 pw_539 pw_535) hV_X5_push qr9 4 hqr10 rfl rfl rfl (Nat.le_of_ble_eq_true rfl) dX5_step_99 ⟨Nat.le_of_ble_eq_true rfl, Nat.le_of_ble_eq_true rfl⟩ ⟨Nat.le_of_ble_eq_true rfl, Nat.le_of_ble_eq_true rfl⟩ (fun v8 u6 H locs hw7 hP hD hS => ?_)
  obtain ⟨w, _⟩ := u6
  obtain ⟨hw7, hO⟩ := hw7
  obtain rfl : v8 = none := hw7
  have hO : OKW G h0 a (upd (upd (upd (upd (upd (upd F 18 (nI ba)) 19 (nI (tp + 1))) 20 (nI pc)) 21 (nI (pc + 1))) 23 5) 26 (nI ht)) (updR (updR R 7 (.ref (a sp))) 8 (.ref (a op))) Z B (updJ J 29 (vp_updL ((J 29)) tp ((J 29) (ba + s9)))) T Pi w := hO.to rfl
  refine W.widen (k := 0) (n := 0) (Nat.le_of_ble_eq_true rfl) (Nat.le_of_ble_eq_true rfl) ?_
  refine W.eq (g2 := F0 m 102 ls []) rfl ?_
  refine lv_goto (tgt := 229) hx hb dX5_step_102 (by decide) ?_
  have hz11 : StQ y (B 19) Sh nn (J sp) ht (B 30) (B 16) on j9 ba pc fl (tp + 1) (5 : Int32) (nI (pc + 1)) Z ((updJ J 29 (vp_updL ((J 29)) tp ((J 29) (ba + s9)))) 29) fl := (StQ.on1 hmi hmo (by rw [hop]; decide) (FFy.push hmi.ff (hmi.ff.1.2.2.2.1 s9 r2 r3)) r4 (fun i hi => vpL_ne (by omega)) (Nat.le_refl _) hZ)
  have hz12 : (updJ J 29 (vp_updL ((J 29)) tp ((J 29) (ba + s9)))) 34 = J 34 ∧ (updJ J 29 (vp_updL ((J 29)) tp ((J 29) (ba + s9)))) 35 = J 35 := ⟨rfl, rfl⟩
  have hz13 : (B 33) 5 = nI fl := hfl
  have hz14 : fl ≤ fl ∧ (tp + 1) ≤ 32000 := (by omega)
  have hO : OKW G h0 a (upd (upd (upd (upd (upd (upd F 18 (nI ba)) 19 (nI (tp + 1))) 20 (nI pc)) 21 (nI (pc + 1))) 23 (5 : Int32)) 26 (nI ht)) (updR (updR R 7 (.ref (a sp))) 8 (.ref (a op))) Z (updA (updA B 32 (B 32)) 33 (B 33)) (updJ J 29 (vp_updL ((J 29)) tp ((J 29) (ba + s9)))) T Pi w := hO.to rfl
  exact W.vret hx hb hr (fun t99 ht99 hW99 => ⟨⟨_, (w, ((tp + 1), (5 : Int32), (nI (pc + 1)), Z, (updJ J 29 (vp_updL ((J 29)) tp ((J 29) (ba + s9)))), (B 33), (B 32), fl)), rfl, ⟨rfl, hz11, hz12, hz13, hz14, hO⟩, by rw [ht99]; exact hP, hD⟩, hS.F ht99⟩) hS.2.2 dX5_step_229
set_option maxHeartbeats 8000000 in
set_option maxRecDepth 100000 in
theorem Y_st3 (l : Launch) (G : pT) (h0 : Nat) (a : Nat → Nat) (F : Nat → Int32) (R : Nat → Value) (Z : Int64) (B : Nat → Nat → Int32) (J : Nat → Nat → Int64) (T : Nat → Nat) (Pi : Nat → va_E → Prop) (w : va_W) (y : TY) (Sh : Nat → Nat) (nn : Nat → Nat) (on : Nat) (j9 : Nat) (ba : Nat) (pc : Nat) (tp : Nat) (sp : Nat) (op : Nat) (ht : Nat) (fl : Nat) (hsp : (sp = 34 ∧ op = 35) ∨ (sp = 35 ∧ op = 34)) (hmi : MIy y (B 19) Sh nn (J sp) ht (B 30) (J 29) on j9 ba pc tp) (hmo : MOy y (B 16) (B 17) (B 18) (B 19) j9) (hZ : Z = 0) (hfl : B 33 5 = nI fl) (hflb : fl ≤ 20000) (hop : B 16 pc = nI 3) (hru : IRy y (B 16) (B 17) (B 18) pc j9 3) (hO : OKW G h0 a (upd (upd (upd (upd (upd (upd F 18 (nI ba)) 19 (nI tp)) 20 (nI pc)) 21 (nI (pc + 1))) 23 5) 26 (nI ht)) (updR (updR R 7 (.ref (a sp))) 8 (.ref (a op))) Z B J T Pi w) : PM l G pX0 yX5_step cX5_step 3 none ({ frames := 16, cells := 0, slots := 0, locals := 1600 }) [.ref (a 5), .int 3, .int (B 17 pc)] w (fun (v : Option Value) (u : va_W × (Nat × Int32 × Int32 × Int64 × (Nat → Nat → Int64) × (Nat → Int32) × (Nat → Int32) × Nat)) => v = none ∧ (StQ y (B 19) Sh nn (J sp) ht (B 30) (B 16) on j9 ba pc fl u.2.1 u.2.2.1 u.2.2.2.1 u.2.2.2.2.1 (u.2.2.2.2.2.1 29) u.2.2.2.2.2.2.2.2) ∧ (u.2.2.2.2.2.1 34 = J 34 ∧ u.2.2.2.2.2.1 35 = J 35) ∧ (u.2.2.2.2.2.2.1 5 = nI u.2.2.2.2.2.2.2.2) ∧ (u.2.2.2.2.2.2.2.2 ≤ fl ∧ u.2.1 ≤ 32000) ∧ (OKW G h0 a (upd (upd (upd (upd (upd (upd F 18 (nI ba)) 19 (nI u.2.1)) 20 (nI pc)) 21 u.2.2.2.1) 23 u.2.2.1) 26 (nI ht)) (updR (updR R 7 (.ref (a sp))) 8 (.ref (a op))) u.2.2.2.2.1 (updA (updA B 32 u.2.2.2.2.2.2.2.1) 33 u.2.2.2.2.2.2.1) u.2.2.2.2.2.1 T Pi u.1)) (fun u => u.1) := by
  intro sz
  refine Met.ofW (cc := cX5_step) (maxL := 3) (ret := none) (by decide) rfl ?_
  intro p e s m args below meth c s₁ B9 hml hv
  obtain ⟨rfl, hsz, hP, hD0, hE, hX⟩ := hv
  have hx := B9.exec
  have hb := B9.bytes
  have hr := B9.returns
  have hts := atoms_spec (ws := Cond.code yX5_step cX5_step 3 none :: pw) B9.pre
  have hq : ∀ w ∈ pw, w.before _ s = true := fun w h => hts w (List.mem_cons_of_mem _ h)
  have hown : s.vm.findClass RX5 = some m.cls := findClass_of_methodNamed B9.named
  have hlocks := B9.notSynchronized
  subst hsz
  have hD := hD0.self (sz := s.heap.size)
  have hA : ∀ q : Nat, s.heap.size ≤ q → va_A w s.heap.size q := fun q h => Or.inr h
  generalize va_A w s.heap.size = A at hD hE hA ⊢
  have hS : va_S A s.heap s.heap [] := va_S.rf
  have hl := lv_entry ([.ref (a 5), .int 3, .int (B 17 pc)]) (n := 3) (Nat.le_of_ble_eq_true rfl)
  rw [lg_entry_eq]
  generalize (lg_sl ([.ref (a 5), .int 3, .int (B 17 pc)]) ++ List.replicate (3 - (lg_sl ([.ref (a 5), .int 3, .int (B 17 pc)])).length) Slot.unset).toArray = ls at hl ⊢
  have hl : lv_has ls 3 [(0, .ref (a 5)), (1, .int 3), (2, .int (B 17 pc))] := hl
  obtain ⟨hn1, hn2, hn3, hn4, hn5, hn6, hn7, hn8, hn9, hn10, hn11, hn12⟩ := MIy.nums hmi hmo
  have hlo := FFy.lo hmi.ff
  obtain ⟨s9, t9, os, r1, r2, r3, r4, r5, r6⟩ := hru
  rw [r1] at hl
  obtain ⟨hv1, hv2, hv3, hv4⟩ := FFy.pop hmi.ff r4
  refine lv_iload_n hx hb dX5_step_0 rfl (lv_at hl 1 rfl) ?_
  refine lv_tableIn (tgt := 105) (off := 104) hx hb dX5_step_1 (by decide) (by decide) (by decide) (by decide) ?_
  refine lv_aload_n hx hb dX5_step_105 rfl (lv_at hl 0 rfl) ?_
  refine lv_iload_n hx hb dX5_step_106 rfl (lv_at hl 2 rfl) ?_
  refine lv_aload_n hx hb dX5_step_107 rfl (lv_at hl 0 rfl) ?_
  have hO : OKW G h0 a (upd (upd (upd (upd (upd (upd (upd F 18 (nI ba)) 19 (nI tp)) 20 (nI pc)) 21 (nI (pc + 1))) 23 5) 26 (nI ht)) 19 (nI tp)) (updR (updR R 7 (.ref (a sp))) 8 (.ref (a op))) Z B J T Pi w := hO.to rfl
  obtain ⟨_, qr4, hqr5⟩ := hO.2.1 28 _ (sg_28 G h0 a _ _ _ _ _)
  refine pc_V0 (G := G) (As := []) (rest := [.int (nI s9), .ref (a 5)]) hx hb hml hown hq hE hX pX0_al hP hD hS hA hl.1 (Y_pop l G h0 a (upd (upd (upd (upd (upd (upd F 18 (nI ba)) 19 (nI tp)) 20 (nI pc)) 21 (nI (pc + 1))) 23 5) 26 (nI ht)) (updR (updR R 7 (.ref (a sp))) 8 (.ref (a op))) Z B J T Pi w tp (by omega) hO) (gV pw_598 pw_599 pw_600 pw_539 pw_595) hV_X5_pop qr4 4 hqr5 rfl rfl rfl (Nat.le_of_ble_eq_true rfl) dX5_step_108 ⟨Nat.le_of_ble_eq_true rfl, Nat.le_of_ble_eq_true rfl⟩ ⟨Nat.le_of_ble_eq_true rfl, Nat.le_of_ble_eq_true rfl⟩ (fun v3 u1 H locs hw2 hP hD hS => ?_)
  obtain ⟨w, _⟩ := u1
  obtain ⟨hw2, hO⟩ := hw2
  obtain rfl : v3 = some (.long ((J 29) (tp - 1))) := hw2
  have hO : OKW G h0 a (upd (upd (upd (upd (upd (upd F 18 (nI ba)) 19 (nI (tp - 1))) 20 (nI pc)) 21 (nI (pc + 1))) 23 5) 26 (nI ht)) (updR (updR R 7 (.ref (a sp))) 8 (.ref (a op))) Z B J T Pi w := hO.to rfl
  refine W.widen (k := 0) (n := 0) (Nat.le_of_ble_eq_true rfl) (Nat.le_of_ble_eq_true rfl) ?_
  refine W.eq (g2 := F0 m 111 ls [.long ((J 29) (tp - 1)), .int (nI s9), .ref (a 5)]) rfl ?_
  have hO : OKW G h0 a (upd (upd (upd (upd (upd (upd (upd F 18 (nI ba)) 19 (nI (tp - 1))) 20 (nI pc)) 21 (nI (pc + 1))) 23 5) 26 (nI ht)) 18 (nI ba)) (updR (updR R 7 (.ref (a sp))) 8 (.ref (a op))) Z B J T Pi w := hO.to rfl
  obtain ⟨_, qr9, hqr10⟩ := hO.2.1 28 _ (sg_28 G h0 a _ _ _ _ _)
  refine pc_V0 (G := G) (As := [.int (nI s9), .long ((J 29) (tp - 1))]) (rest := []) hx hb hml hown hq hE hX pX0_al hP hD hS hA hl.1 (Y_setSlot l G h0 a (upd (upd (upd (upd (upd (upd F 18 (nI ba)) 19 (nI (tp - 1))) 20 (nI pc)) 21 (nI (pc + 1))) 23 5) 26 (nI ht)) (updR (updR R 7 (.ref (a sp))) 8 (.ref (a op))) Z B J T Pi w ba s9 ((J 29) (tp - 1)) (by omega) hO) (gV pw_625 pw_626 pw_627 pw_539 pw_596) hV_X5_setSlot qr9 4 hqr10 rfl rfl rfl (Nat.le_of_ble_eq_true rfl) dX5_step_111 ⟨Nat.le_of_ble_eq_true rfl, Nat.le_of_ble_eq_true rfl⟩ ⟨Nat.le_of_ble_eq_true rfl, Nat.le_of_ble_eq_true rfl⟩ (fun v8 u6 H locs hw7 hP hD hS => ?_)
  obtain ⟨w, _⟩ := u6
  obtain ⟨hw7, hO⟩ := hw7
  obtain rfl : v8 = none := hw7
  have hO : OKW G h0 a (upd (upd (upd (upd (upd (upd F 18 (nI ba)) 19 (nI (tp - 1))) 20 (nI pc)) 21 (nI (pc + 1))) 23 5) 26 (nI ht)) (updR (updR R 7 (.ref (a sp))) 8 (.ref (a op))) Z B (updJ J 29 (vp_updL ((J 29)) (ba + s9) ((J 29) (tp - 1)))) T Pi w := hO.to rfl
  refine W.widen (k := 0) (n := 0) (Nat.le_of_ble_eq_true rfl) (Nat.le_of_ble_eq_true rfl) ?_
  refine W.eq (g2 := F0 m 114 ls []) rfl ?_
  refine lv_goto (tgt := 229) hx hb dX5_step_114 (by decide) ?_
  have hz11 : StQ y (B 19) Sh nn (J sp) ht (B 30) (B 16) on j9 ba pc fl (tp - 1) (5 : Int32) (nI (pc + 1)) Z ((updJ J 29 (vp_updL ((J 29)) (ba + s9) ((J 29) (tp - 1)))) 29) fl := (StQ.on1 hmi hmo (by rw [hop]; decide) (FFy.slot hv4 (hmi.wf hmo) r2 r3 (r5 _ _ hv3)) r6 (fun i hi => vpL_ne (by omega)) (Nat.le_refl _) hZ)
  have hz12 : (updJ J 29 (vp_updL ((J 29)) (ba + s9) ((J 29) (tp - 1)))) 34 = J 34 ∧ (updJ J 29 (vp_updL ((J 29)) (ba + s9) ((J 29) (tp - 1)))) 35 = J 35 := ⟨rfl, rfl⟩
  have hz13 : (B 33) 5 = nI fl := hfl
  have hz14 : fl ≤ fl ∧ (tp - 1) ≤ 32000 := (by omega)
  have hO : OKW G h0 a (upd (upd (upd (upd (upd (upd F 18 (nI ba)) 19 (nI (tp - 1))) 20 (nI pc)) 21 (nI (pc + 1))) 23 (5 : Int32)) 26 (nI ht)) (updR (updR R 7 (.ref (a sp))) 8 (.ref (a op))) Z (updA (updA B 32 (B 32)) 33 (B 33)) (updJ J 29 (vp_updL ((J 29)) (ba + s9) ((J 29) (tp - 1)))) T Pi w := hO.to rfl
  exact W.vret hx hb hr (fun t99 ht99 hW99 => ⟨⟨_, (w, ((tp - 1), (5 : Int32), (nI (pc + 1)), Z, (updJ J 29 (vp_updL ((J 29)) (ba + s9) ((J 29) (tp - 1)))), (B 33), (B 32), fl)), rfl, ⟨rfl, hz11, hz12, hz13, hz14, hO⟩, by rw [ht99]; exact hP, hD⟩, hS.F ht99⟩) hS.2.2 dX5_step_229
set_option maxHeartbeats 8000000 in
set_option maxRecDepth 100000 in
theorem Y_st4 (l : Launch) (G : pT) (h0 : Nat) (a : Nat → Nat) (F : Nat → Int32) (R : Nat → Value) (Z : Int64) (B : Nat → Nat → Int32) (J : Nat → Nat → Int64) (T : Nat → Nat) (Pi : Nat → va_E → Prop) (w : va_W) (y : TY) (Sh : Nat → Nat) (nn : Nat → Nat) (on : Nat) (j9 : Nat) (ba : Nat) (pc : Nat) (tp : Nat) (sp : Nat) (op : Nat) (ht : Nat) (fl : Nat) (hsp : (sp = 34 ∧ op = 35) ∨ (sp = 35 ∧ op = 34)) (hmi : MIy y (B 19) Sh nn (J sp) ht (B 30) (J 29) on j9 ba pc tp) (hmo : MOy y (B 16) (B 17) (B 18) (B 19) j9) (hZ : Z = 0) (hfl : B 33 5 = nI fl) (hflb : fl ≤ 20000) (hop : B 16 pc = nI 4) (hru : IRy y (B 16) (B 17) (B 18) pc j9 4) (hO : OKW G h0 a (upd (upd (upd (upd (upd (upd F 18 (nI ba)) 19 (nI tp)) 20 (nI pc)) 21 (nI (pc + 1))) 23 5) 26 (nI ht)) (updR (updR R 7 (.ref (a sp))) 8 (.ref (a op))) Z B J T Pi w) : PM l G pX0 yX5_step cX5_step 3 none ({ frames := 16, cells := 0, slots := 0, locals := 1600 }) [.ref (a 5), .int 4, .int (B 17 pc)] w (fun (v : Option Value) (u : va_W × (Nat × Int32 × Int32 × Int64 × (Nat → Nat → Int64) × (Nat → Int32) × (Nat → Int32) × Nat)) => v = none ∧ (StQ y (B 19) Sh nn (J sp) ht (B 30) (B 16) on j9 ba pc fl u.2.1 u.2.2.1 u.2.2.2.1 u.2.2.2.2.1 (u.2.2.2.2.2.1 29) u.2.2.2.2.2.2.2.2) ∧ (u.2.2.2.2.2.1 34 = J 34 ∧ u.2.2.2.2.2.1 35 = J 35) ∧ (u.2.2.2.2.2.2.1 5 = nI u.2.2.2.2.2.2.2.2) ∧ (u.2.2.2.2.2.2.2.2 ≤ fl ∧ u.2.1 ≤ 32000) ∧ (OKW G h0 a (upd (upd (upd (upd (upd (upd F 18 (nI ba)) 19 (nI u.2.1)) 20 (nI pc)) 21 u.2.2.2.1) 23 u.2.2.1) 26 (nI ht)) (updR (updR R 7 (.ref (a sp))) 8 (.ref (a op))) u.2.2.2.2.1 (updA (updA B 32 u.2.2.2.2.2.2.2.1) 33 u.2.2.2.2.2.2.1) u.2.2.2.2.2.1 T Pi u.1)) (fun u => u.1) := by
  intro sz
  refine Met.ofW (cc := cX5_step) (maxL := 3) (ret := none) (by decide) rfl ?_
  intro p e s m args below meth c s₁ B9 hml hv
  obtain ⟨rfl, hsz, hP, hD0, hE, hX⟩ := hv
  have hx := B9.exec
  have hb := B9.bytes
  have hr := B9.returns
  have hts := atoms_spec (ws := Cond.code yX5_step cX5_step 3 none :: pw) B9.pre
  have hq : ∀ w ∈ pw, w.before _ s = true := fun w h => hts w (List.mem_cons_of_mem _ h)
  have hown : s.vm.findClass RX5 = some m.cls := findClass_of_methodNamed B9.named
  have hlocks := B9.notSynchronized
  subst hsz
  have hD := hD0.self (sz := s.heap.size)
  have hA : ∀ q : Nat, s.heap.size ≤ q → va_A w s.heap.size q := fun q h => Or.inr h
  generalize va_A w s.heap.size = A at hD hE hA ⊢
  have hS : va_S A s.heap s.heap [] := va_S.rf
  have hl := lv_entry ([.ref (a 5), .int 4, .int (B 17 pc)]) (n := 3) (Nat.le_of_ble_eq_true rfl)
  rw [lg_entry_eq]
  generalize (lg_sl ([.ref (a 5), .int 4, .int (B 17 pc)]) ++ List.replicate (3 - (lg_sl ([.ref (a 5), .int 4, .int (B 17 pc)])).length) Slot.unset).toArray = ls at hl ⊢
  have hl : lv_has ls 3 [(0, .ref (a 5)), (1, .int 4), (2, .int (B 17 pc))] := hl
  obtain ⟨hn1, hn2, hn3, hn4, hn5, hn6, hn7, hn8, hn9, hn10, hn11, hn12⟩ := MIy.nums hmi hmo
  have hlo := FFy.lo hmi.ff
  obtain ⟨s9, t9, r1, r2, r3, r4, r5⟩ := hru
  rw [r1] at hl
  refine lv_iload_n hx hb dX5_step_0 rfl (lv_at hl 1 rfl) ?_
  refine lv_tableIn (tgt := 117) (off := 116) hx hb dX5_step_1 (by decide) (by decide) (by decide) (by decide) ?_
  refine lv_aload_n hx hb dX5_step_117 rfl (lv_at hl 0 rfl) ?_
  refine lv_iload_n hx hb dX5_step_118 rfl (lv_at hl 2 rfl) ?_
  refine lv_lconst (v := 0) hx hb dX5_step_119 (by decide) ?_
  have hO : OKW G h0 a (upd (upd (upd (upd (upd (upd (upd F 18 (nI ba)) 19 (nI tp)) 20 (nI pc)) 21 (nI (pc + 1))) 23 5) 26 (nI ht)) 18 (nI ba)) (updR (updR R 7 (.ref (a sp))) 8 (.ref (a op))) Z B J T Pi w := hO.to rfl
  obtain ⟨_, qr4, hqr5⟩ := hO.2.1 28 _ (sg_28 G h0 a _ _ _ _ _)
  refine pc_V0 (G := G) (As := [.int (nI s9), .long 0]) (rest := []) hx hb hml hown hq hE hX pX0_al hP hD hS hA hl.1 (Y_setSlot l G h0 a (upd (upd (upd (upd (upd (upd F 18 (nI ba)) 19 (nI tp)) 20 (nI pc)) 21 (nI (pc + 1))) 23 5) 26 (nI ht)) (updR (updR R 7 (.ref (a sp))) 8 (.ref (a op))) Z B J T Pi w ba s9 0 (by omega) hO) (gV pw_625 pw_626 pw_627 pw_539 pw_596) hV_X5_setSlot qr4 4 hqr5 rfl rfl rfl (Nat.le_of_ble_eq_true rfl) dX5_step_120 ⟨Nat.le_of_ble_eq_true rfl, Nat.le_of_ble_eq_true rfl⟩ ⟨Nat.le_of_ble_eq_true rfl, Nat.le_of_ble_eq_true rfl⟩ (fun v3 u1 H locs hw2 hP hD hS => ?_)
  obtain ⟨w, _⟩ := u1
  obtain ⟨hw2, hO⟩ := hw2
  obtain rfl : v3 = none := hw2
  have hO : OKW G h0 a (upd (upd (upd (upd (upd (upd F 18 (nI ba)) 19 (nI tp)) 20 (nI pc)) 21 (nI (pc + 1))) 23 5) 26 (nI ht)) (updR (updR R 7 (.ref (a sp))) 8 (.ref (a op))) Z B (updJ J 29 (vp_updL ((J 29)) (ba + s9) 0)) T Pi w := hO.to rfl
  refine W.widen (k := 0) (n := 0) (Nat.le_of_ble_eq_true rfl) (Nat.le_of_ble_eq_true rfl) ?_
  refine W.eq (g2 := F0 m 123 ls []) rfl ?_
  refine lv_goto (tgt := 229) hx hb dX5_step_123 (by decide) ?_
  have hz6 : StQ y (B 19) Sh nn (J sp) ht (B 30) (B 16) on j9 ba pc fl tp (5 : Int32) (nI (pc + 1)) Z ((updJ J 29 (vp_updL ((J 29)) (ba + s9) 0)) 29) fl := (StQ.on1 hmi hmo (by rw [hop]; decide) (FFy.clear hmi.ff (hmi.wf hmo) r2 r3 r4) r5 (fun i hi => vpL_ne (by omega)) (Nat.le_refl _) hZ)
  have hz7 : (updJ J 29 (vp_updL ((J 29)) (ba + s9) 0)) 34 = J 34 ∧ (updJ J 29 (vp_updL ((J 29)) (ba + s9) 0)) 35 = J 35 := ⟨rfl, rfl⟩
  have hz8 : (B 33) 5 = nI fl := hfl
  have hz9 : fl ≤ fl ∧ tp ≤ 32000 := (by omega)
  have hO : OKW G h0 a (upd (upd (upd (upd (upd (upd F 18 (nI ba)) 19 (nI tp)) 20 (nI pc)) 21 (nI (pc + 1))) 23 (5 : Int32)) 26 (nI ht)) (updR (updR R 7 (.ref (a sp))) 8 (.ref (a op))) Z (updA (updA B 32 (B 32)) 33 (B 33)) (updJ J 29 (vp_updL ((J 29)) (ba + s9) 0)) T Pi w := hO.to rfl
  exact W.vret hx hb hr (fun t99 ht99 hW99 => ⟨⟨_, (w, (tp, (5 : Int32), (nI (pc + 1)), Z, (updJ J 29 (vp_updL ((J 29)) (ba + s9) 0)), (B 33), (B 32), fl)), rfl, ⟨rfl, hz6, hz7, hz8, hz9, hO⟩, by rw [ht99]; exact hP, hD⟩, hS.F ht99⟩) hS.2.2 dX5_step_229
set_option maxHeartbeats 8000000 in
set_option maxRecDepth 100000 in
theorem Y_st5 (l : Launch) (G : pT) (h0 : Nat) (a : Nat → Nat) (F : Nat → Int32) (R : Nat → Value) (Z : Int64) (B : Nat → Nat → Int32) (J : Nat → Nat → Int64) (T : Nat → Nat) (Pi : Nat → va_E → Prop) (w : va_W) (y : TY) (Sh : Nat → Nat) (nn : Nat → Nat) (on : Nat) (j9 : Nat) (ba : Nat) (pc : Nat) (tp : Nat) (sp : Nat) (op : Nat) (ht : Nat) (fl : Nat) (hsp : (sp = 34 ∧ op = 35) ∨ (sp = 35 ∧ op = 34)) (hmi : MIy y (B 19) Sh nn (J sp) ht (B 30) (J 29) on j9 ba pc tp) (hmo : MOy y (B 16) (B 17) (B 18) (B 19) j9) (hZ : Z = 0) (hfl : B 33 5 = nI fl) (hflb : fl ≤ 20000) (hop : B 16 pc = nI 5) (hru : IRy y (B 16) (B 17) (B 18) pc j9 5) (hO : OKW G h0 a (upd (upd (upd (upd (upd (upd F 18 (nI ba)) 19 (nI tp)) 20 (nI pc)) 21 (nI (pc + 1))) 23 5) 26 (nI ht)) (updR (updR R 7 (.ref (a sp))) 8 (.ref (a op))) Z B J T Pi w) : PM l G pX0 yX5_step cX5_step 3 none ({ frames := 16, cells := 0, slots := 0, locals := 1600 }) [.ref (a 5), .int 5, .int (B 17 pc)] w (fun (v : Option Value) (u : va_W × (Nat × Int32 × Int32 × Int64 × (Nat → Nat → Int64) × (Nat → Int32) × (Nat → Int32) × Nat)) => v = none ∧ (StQ y (B 19) Sh nn (J sp) ht (B 30) (B 16) on j9 ba pc fl u.2.1 u.2.2.1 u.2.2.2.1 u.2.2.2.2.1 (u.2.2.2.2.2.1 29) u.2.2.2.2.2.2.2.2) ∧ (u.2.2.2.2.2.1 34 = J 34 ∧ u.2.2.2.2.2.1 35 = J 35) ∧ (u.2.2.2.2.2.2.1 5 = nI u.2.2.2.2.2.2.2.2) ∧ (u.2.2.2.2.2.2.2.2 ≤ fl ∧ u.2.1 ≤ 32000) ∧ (OKW G h0 a (upd (upd (upd (upd (upd (upd F 18 (nI ba)) 19 (nI u.2.1)) 20 (nI pc)) 21 u.2.2.2.1) 23 u.2.2.1) 26 (nI ht)) (updR (updR R 7 (.ref (a sp))) 8 (.ref (a op))) u.2.2.2.2.1 (updA (updA B 32 u.2.2.2.2.2.2.2.1) 33 u.2.2.2.2.2.2.1) u.2.2.2.2.2.1 T Pi u.1)) (fun u => u.1) := by
  intro sz
  refine Met.ofW (cc := cX5_step) (maxL := 3) (ret := none) (by decide) rfl ?_
  intro p e s m args below meth c s₁ B9 hml hv
  obtain ⟨rfl, hsz, hP, hD0, hE, hX⟩ := hv
  have hx := B9.exec
  have hb := B9.bytes
  have hr := B9.returns
  have hts := atoms_spec (ws := Cond.code yX5_step cX5_step 3 none :: pw) B9.pre
  have hq : ∀ w ∈ pw, w.before _ s = true := fun w h => hts w (List.mem_cons_of_mem _ h)
  have hown : s.vm.findClass RX5 = some m.cls := findClass_of_methodNamed B9.named
  have hlocks := B9.notSynchronized
  subst hsz
  have hD := hD0.self (sz := s.heap.size)
  have hA : ∀ q : Nat, s.heap.size ≤ q → va_A w s.heap.size q := fun q h => Or.inr h
  generalize va_A w s.heap.size = A at hD hE hA ⊢
  have hS : va_S A s.heap s.heap [] := va_S.rf
  have hl := lv_entry ([.ref (a 5), .int 5, .int (B 17 pc)]) (n := 3) (Nat.le_of_ble_eq_true rfl)
  rw [lg_entry_eq]
  generalize (lg_sl ([.ref (a 5), .int 5, .int (B 17 pc)]) ++ List.replicate (3 - (lg_sl ([.ref (a 5), .int 5, .int (B 17 pc)])).length) Slot.unset).toArray = ls at hl ⊢
  have hl : lv_has ls 3 [(0, .ref (a 5)), (1, .int 5), (2, .int (B 17 pc))] := hl
  obtain ⟨hn1, hn2, hn3, hn4, hn5, hn6, hn7, hn8, hn9, hn10, hn11, hn12⟩ := MIy.nums hmi hmo
  have hlo := FFy.lo hmi.ff
  obtain ⟨t9, os, r1, r2⟩ := hru
  obtain ⟨hv1, hv2, hv3, hv4⟩ := FFy.pop hmi.ff r1
  refine lv_iload_n hx hb dX5_step_0 rfl (lv_at hl 1 rfl) ?_
  refine lv_tableIn (tgt := 126) (off := 125) hx hb dX5_step_1 (by decide) (by decide) (by decide) (by decide) ?_
  refine lv_aload_n hx hb dX5_step_126 rfl (lv_at hl 0 rfl) ?_
  have hO : OKW G h0 a (upd (upd (upd (upd (upd (upd (upd F 18 (nI ba)) 19 (nI tp)) 20 (nI pc)) 21 (nI (pc + 1))) 23 5) 26 (nI ht)) 19 (nI tp)) (updR (updR R 7 (.ref (a sp))) 8 (.ref (a op))) Z B J T Pi w := hO.to rfl
  obtain ⟨_, qr4, hqr5⟩ := hO.2.1 28 _ (sg_28 G h0 a _ _ _ _ _)
  refine pc_V0 (G := G) (As := []) (rest := []) hx hb hml hown hq hE hX pX0_al hP hD hS hA hl.1 (Y_pop l G h0 a (upd (upd (upd (upd (upd (upd F 18 (nI ba)) 19 (nI tp)) 20 (nI pc)) 21 (nI (pc + 1))) 23 5) 26 (nI ht)) (updR (updR R 7 (.ref (a sp))) 8 (.ref (a op))) Z B J T Pi w tp (by omega) hO) (gV pw_598 pw_599 pw_600 pw_539 pw_595) hV_X5_pop qr4 4 hqr5 rfl rfl rfl (Nat.le_of_ble_eq_true rfl) dX5_step_127 ⟨Nat.le_of_ble_eq_true rfl, Nat.le_of_ble_eq_true rfl⟩ ⟨Nat.le_of_ble_eq_true rfl, Nat.le_of_ble_eq_true rfl⟩ (fun v3 u1 H locs hw2 hP hD hS => ?_)
  obtain ⟨w, _⟩ := u1
  obtain ⟨hw2, hO⟩ := hw2
  obtain rfl : v3 = some (.long ((J 29) (tp - 1))) := hw2
  have hO : OKW G h0 a (upd (upd (upd (upd (upd (upd F 18 (nI ba)) 19 (nI (tp - 1))) 20 (nI pc)) 21 (nI (pc + 1))) 23 5) 26 (nI ht)) (updR (updR R 7 (.ref (a sp))) 8 (.ref (a op))) Z B J T Pi w := hO.to rfl
  refine W.widen (k := 0) (n := 0) (Nat.le_of_ble_eq_true rfl) (Nat.le_of_ble_eq_true rfl) ?_
  refine W.eq (g2 := F0 m 130 ls [.long ((J 29) (tp - 1))]) rfl ?_
  refine lv_pop2_2 hx hb dX5_step_130 rfl ?_
  refine lv_goto (tgt := 229) hx hb dX5_step_131 (by decide) ?_
  have hz6 : StQ y (B 19) Sh nn (J sp) ht (B 30) (B 16) on j9 ba pc fl (tp - 1) (5 : Int32) (nI (pc + 1)) Z (J 29) fl := (StQ.on1 hmi hmo (by rw [hop]; decide) hv4 r2 (fun _ _ => rfl) (Nat.le_refl _) hZ)
  have hz7 : J 34 = J 34 ∧ J 35 = J 35 := ⟨rfl, rfl⟩
  have hz8 : (B 33) 5 = nI fl := hfl
  have hz9 : fl ≤ fl ∧ (tp - 1) ≤ 32000 := (by omega)
  have hO : OKW G h0 a (upd (upd (upd (upd (upd (upd F 18 (nI ba)) 19 (nI (tp - 1))) 20 (nI pc)) 21 (nI (pc + 1))) 23 (5 : Int32)) 26 (nI ht)) (updR (updR R 7 (.ref (a sp))) 8 (.ref (a op))) Z (updA (updA B 32 (B 32)) 33 (B 33)) J T Pi w := hO.to rfl
  exact W.vret hx hb hr (fun t99 ht99 hW99 => ⟨⟨_, (w, ((tp - 1), (5 : Int32), (nI (pc + 1)), Z, J, (B 33), (B 32), fl)), rfl, ⟨rfl, hz6, hz7, hz8, hz9, hO⟩, by rw [ht99]; exact hP, hD⟩, hS.F ht99⟩) hS.2.2 dX5_step_229
set_option maxHeartbeats 8000000 in
set_option maxRecDepth 100000 in
theorem Y_st6 (l : Launch) (G : pT) (h0 : Nat) (a : Nat → Nat) (F : Nat → Int32) (R : Nat → Value) (Z : Int64) (B : Nat → Nat → Int32) (J : Nat → Nat → Int64) (T : Nat → Nat) (Pi : Nat → va_E → Prop) (w : va_W) (y : TY) (Sh : Nat → Nat) (nn : Nat → Nat) (on : Nat) (j9 : Nat) (ba : Nat) (pc : Nat) (tp : Nat) (sp : Nat) (op : Nat) (ht : Nat) (fl : Nat) (hsp : (sp = 34 ∧ op = 35) ∨ (sp = 35 ∧ op = 34)) (hmi : MIy y (B 19) Sh nn (J sp) ht (B 30) (J 29) on j9 ba pc tp) (hmo : MOy y (B 16) (B 17) (B 18) (B 19) j9) (hZ : Z = 0) (hfl : B 33 5 = nI fl) (hflb : fl ≤ 20000) (hop : B 16 pc = nI 6) (hru : IRy y (B 16) (B 17) (B 18) pc j9 6) (hO : OKW G h0 a (upd (upd (upd (upd (upd (upd F 18 (nI ba)) 19 (nI tp)) 20 (nI pc)) 21 (nI (pc + 1))) 23 5) 26 (nI ht)) (updR (updR R 7 (.ref (a sp))) 8 (.ref (a op))) Z B J T Pi w) : PM l G pX0 yX5_step cX5_step 3 none ({ frames := 16, cells := 0, slots := 0, locals := 1600 }) [.ref (a 5), .int 6, .int (B 17 pc)] w (fun (v : Option Value) (u : va_W × (Nat × Int32 × Int32 × Int64 × (Nat → Nat → Int64) × (Nat → Int32) × (Nat → Int32) × Nat)) => v = none ∧ (StQ y (B 19) Sh nn (J sp) ht (B 30) (B 16) on j9 ba pc fl u.2.1 u.2.2.1 u.2.2.2.1 u.2.2.2.2.1 (u.2.2.2.2.2.1 29) u.2.2.2.2.2.2.2.2) ∧ (u.2.2.2.2.2.1 34 = J 34 ∧ u.2.2.2.2.2.1 35 = J 35) ∧ (u.2.2.2.2.2.2.1 5 = nI u.2.2.2.2.2.2.2.2) ∧ (u.2.2.2.2.2.2.2.2 ≤ fl ∧ u.2.1 ≤ 32000) ∧ (OKW G h0 a (upd (upd (upd (upd (upd (upd F 18 (nI ba)) 19 (nI u.2.1)) 20 (nI pc)) 21 u.2.2.2.1) 23 u.2.2.1) 26 (nI ht)) (updR (updR R 7 (.ref (a sp))) 8 (.ref (a op))) u.2.2.2.2.1 (updA (updA B 32 u.2.2.2.2.2.2.2.1) 33 u.2.2.2.2.2.2.1) u.2.2.2.2.2.1 T Pi u.1)) (fun u => u.1) := by
  intro sz
  refine Met.ofW (cc := cX5_step) (maxL := 3) (ret := none) (by decide) rfl ?_
  intro p e s m args below meth c s₁ B9 hml hv
  obtain ⟨rfl, hsz, hP, hD0, hE, hX⟩ := hv
  have hx := B9.exec
  have hb := B9.bytes
  have hr := B9.returns
  have hts := atoms_spec (ws := Cond.code yX5_step cX5_step 3 none :: pw) B9.pre
  have hq : ∀ w ∈ pw, w.before _ s = true := fun w h => hts w (List.mem_cons_of_mem _ h)
  have hown : s.vm.findClass RX5 = some m.cls := findClass_of_methodNamed B9.named
  have hlocks := B9.notSynchronized
  subst hsz
  have hD := hD0.self (sz := s.heap.size)
  have hA : ∀ q : Nat, s.heap.size ≤ q → va_A w s.heap.size q := fun q h => Or.inr h
  generalize va_A w s.heap.size = A at hD hE hA ⊢
  have hS : va_S A s.heap s.heap [] := va_S.rf
  have hl := lv_entry ([.ref (a 5), .int 6, .int (B 17 pc)]) (n := 3) (Nat.le_of_ble_eq_true rfl)
  rw [lg_entry_eq]
  generalize (lg_sl ([.ref (a 5), .int 6, .int (B 17 pc)]) ++ List.replicate (3 - (lg_sl ([.ref (a 5), .int 6, .int (B 17 pc)])).length) Slot.unset).toArray = ls at hl ⊢
  have hl : lv_has ls 3 [(0, .ref (a 5)), (1, .int 6), (2, .int (B 17 pc))] := hl
  obtain ⟨hn1, hn2, hn3, hn4, hn5, hn6, hn7, hn8, hn9, hn10, hn11, hn12⟩ := MIy.nums hmi hmo
  have hlo := FFy.lo hmi.ff
  obtain ⟨x9, r1, r2, r3, r4⟩ := hru
  rw [r1] at hl
  refine lv_iload_n hx hb dX5_step_0 rfl (lv_at hl 1 rfl) ?_
  refine lv_tableIn (tgt := 134) (off := 133) hx hb dX5_step_1 (by decide) (by decide) (by decide) (by decide) ?_
  refine lv_aload_n hx hb dX5_step_134 rfl (lv_at hl 0 rfl) ?_
  refine lv_iload_n hx hb dX5_step_135 rfl (lv_at hl 2 rfl) ?_
  refine c_put (v := .int (nI x9)) (ty := .int) (C := RX5) (Tc := TX5) (N := 19) (ci := 4) hx hb hq pin_wsX50 tyX5 tyX5_ok nmX5 hown hE hP hD hS hO 28 (sg_28 G h0 a _ _ _ _ _) rfl 13 (by decide) (hq _ pw_566) (fun _ h9 => h9) rfl (by decide +kernel) rfl rfl (Nat.le_of_ble_eq_true rfl) (sf_21 G h0 a _ _ _ _ _ (nI x9)) dX5_step_136 (fun H locs w hP hD hS hO => ?_)
  refine lv_goto (tgt := 229) hx hb dX5_step_139 (by decide) ?_
  have hz1 : StQ y (B 19) Sh nn (J sp) ht (B 30) (B 16) on j9 ba pc fl tp (5 : Int32) (nI x9) Z (J 29) fl := (StQ.on2 hmi hmo (by rw [hop]; decide) hmi.ff r3 r2 r4 (fun _ _ => rfl) (Nat.le_refl _) hZ)
  have hz2 : J 34 = J 34 ∧ J 35 = J 35 := ⟨rfl, rfl⟩
  have hz3 : (B 33) 5 = nI fl := hfl
  have hz4 : fl ≤ fl ∧ tp ≤ 32000 := (by omega)
  have hO : OKW G h0 a (upd (upd (upd (upd (upd (upd F 18 (nI ba)) 19 (nI tp)) 20 (nI pc)) 21 (nI x9)) 23 (5 : Int32)) 26 (nI ht)) (updR (updR R 7 (.ref (a sp))) 8 (.ref (a op))) Z (updA (updA B 32 (B 32)) 33 (B 33)) J T Pi w := hO.to rfl
  exact W.vret hx hb hr (fun t99 ht99 hW99 => ⟨⟨_, (w, (tp, (5 : Int32), (nI x9), Z, J, (B 33), (B 32), fl)), rfl, ⟨rfl, hz1, hz2, hz3, hz4, hO⟩, by rw [ht99]; exact hP, hD⟩, hS.F ht99⟩) hS.2.2 dX5_step_229
set_option maxHeartbeats 8000000 in
set_option maxRecDepth 100000 in
theorem Y_st7 (l : Launch) (G : pT) (h0 : Nat) (a : Nat → Nat) (F : Nat → Int32) (R : Nat → Value) (Z : Int64) (B : Nat → Nat → Int32) (J : Nat → Nat → Int64) (T : Nat → Nat) (Pi : Nat → va_E → Prop) (w : va_W) (y : TY) (Sh : Nat → Nat) (nn : Nat → Nat) (on : Nat) (j9 : Nat) (ba : Nat) (pc : Nat) (tp : Nat) (sp : Nat) (op : Nat) (ht : Nat) (fl : Nat) (hsp : (sp = 34 ∧ op = 35) ∨ (sp = 35 ∧ op = 34)) (hmi : MIy y (B 19) Sh nn (J sp) ht (B 30) (J 29) on j9 ba pc tp) (hmo : MOy y (B 16) (B 17) (B 18) (B 19) j9) (hZ : Z = 0) (hfl : B 33 5 = nI fl) (hflb : fl ≤ 20000) (hop : B 16 pc = nI 7) (hru : IRy y (B 16) (B 17) (B 18) pc j9 7) (hO : OKW G h0 a (upd (upd (upd (upd (upd (upd F 18 (nI ba)) 19 (nI tp)) 20 (nI pc)) 21 (nI (pc + 1))) 23 5) 26 (nI ht)) (updR (updR R 7 (.ref (a sp))) 8 (.ref (a op))) Z B J T Pi w) : PM l G pX0 yX5_step cX5_step 3 none ({ frames := 16, cells := 0, slots := 0, locals := 1600 }) [.ref (a 5), .int 7, .int (B 17 pc)] w (fun (v : Option Value) (u : va_W × (Nat × Int32 × Int32 × Int64 × (Nat → Nat → Int64) × (Nat → Int32) × (Nat → Int32) × Nat)) => v = none ∧ (StQ y (B 19) Sh nn (J sp) ht (B 30) (B 16) on j9 ba pc fl u.2.1 u.2.2.1 u.2.2.2.1 u.2.2.2.2.1 (u.2.2.2.2.2.1 29) u.2.2.2.2.2.2.2.2) ∧ (u.2.2.2.2.2.1 34 = J 34 ∧ u.2.2.2.2.2.1 35 = J 35) ∧ (u.2.2.2.2.2.2.1 5 = nI u.2.2.2.2.2.2.2.2) ∧ (u.2.2.2.2.2.2.2.2 ≤ fl ∧ u.2.1 ≤ 32000) ∧ (OKW G h0 a (upd (upd (upd (upd (upd (upd F 18 (nI ba)) 19 (nI u.2.1)) 20 (nI pc)) 21 u.2.2.2.1) 23 u.2.2.1) 26 (nI ht)) (updR (updR R 7 (.ref (a sp))) 8 (.ref (a op))) u.2.2.2.2.1 (updA (updA B 32 u.2.2.2.2.2.2.2.1) 33 u.2.2.2.2.2.2.1) u.2.2.2.2.2.1 T Pi u.1)) (fun u => u.1) := by
  intro sz
  refine Met.ofW (cc := cX5_step) (maxL := 3) (ret := none) (by decide) rfl ?_
  intro p e s m args below meth c s₁ B9 hml hv
  obtain ⟨rfl, hsz, hP, hD0, hE, hX⟩ := hv
  have hx := B9.exec
  have hb := B9.bytes
  have hr := B9.returns
  have hts := atoms_spec (ws := Cond.code yX5_step cX5_step 3 none :: pw) B9.pre
  have hq : ∀ w ∈ pw, w.before _ s = true := fun w h => hts w (List.mem_cons_of_mem _ h)
  have hown : s.vm.findClass RX5 = some m.cls := findClass_of_methodNamed B9.named
  have hlocks := B9.notSynchronized
  subst hsz
  have hD := hD0.self (sz := s.heap.size)
  have hA : ∀ q : Nat, s.heap.size ≤ q → va_A w s.heap.size q := fun q h => Or.inr h
  generalize va_A w s.heap.size = A at hD hE hA ⊢
  have hS : va_S A s.heap s.heap [] := va_S.rf
  have hl := lv_entry ([.ref (a 5), .int 7, .int (B 17 pc)]) (n := 3) (Nat.le_of_ble_eq_true rfl)
  rw [lg_entry_eq]
  generalize (lg_sl ([.ref (a 5), .int 7, .int (B 17 pc)]) ++ List.replicate (3 - (lg_sl ([.ref (a 5), .int 7, .int (B 17 pc)])).length) Slot.unset).toArray = ls at hl ⊢
  have hl : lv_has ls 3 [(0, .ref (a 5)), (1, .int 7), (2, .int (B 17 pc))] := hl
  obtain ⟨hn1, hn2, hn3, hn4, hn5, hn6, hn7, hn8, hn9, hn10, hn11, hn12⟩ := MIy.nums hmi hmo
  have hlo := FFy.lo hmi.ff
  obtain ⟨x9, t9, os, r1, r2, r3, r4, r5, r6, r7⟩ := hru
  rw [r1] at hl
  obtain ⟨hv1, hv2, hv3, hv4⟩ := FFy.pop hmi.ff r4
  refine lv_iload_n hx hb dX5_step_0 rfl (lv_at hl 1 rfl) ?_
  refine lv_tableIn (tgt := 142) (off := 141) hx hb dX5_step_1 (by decide) (by decide) (by decide) (by decide) ?_
  refine lv_aload_n hx hb dX5_step_142 rfl (lv_at hl 0 rfl) ?_
  refine lv_aload_n hx hb dX5_step_143 rfl (lv_at hl 0 rfl) ?_
  have hO : OKW G h0 a (upd (upd (upd (upd (upd (upd (upd F 18 (nI ba)) 19 (nI tp)) 20 (nI pc)) 21 (nI (pc + 1))) 23 5) 26 (nI ht)) 19 (nI tp)) (updR (updR R 7 (.ref (a sp))) 8 (.ref (a op))) Z B J T Pi w := hO.to rfl
  obtain ⟨_, qr4, hqr5⟩ := hO.2.1 28 _ (sg_28 G h0 a _ _ _ _ _)
  refine pc_V0 (G := G) (As := []) (rest := [.ref (a 5)]) hx hb hml hown hq hE hX pX0_al hP hD hS hA hl.1 (Y_pop l G h0 a (upd (upd (upd (upd (upd (upd F 18 (nI ba)) 19 (nI tp)) 20 (nI pc)) 21 (nI (pc + 1))) 23 5) 26 (nI ht)) (updR (updR R 7 (.ref (a sp))) 8 (.ref (a op))) Z B J T Pi w tp (by omega) hO) (gV pw_598 pw_599 pw_600 pw_539 pw_595) hV_X5_pop qr4 4 hqr5 rfl rfl rfl (Nat.le_of_ble_eq_true rfl) dX5_step_144 ⟨Nat.le_of_ble_eq_true rfl, Nat.le_of_ble_eq_true rfl⟩ ⟨Nat.le_of_ble_eq_true rfl, Nat.le_of_ble_eq_true rfl⟩ (fun v3 u1 H locs hw2 hP hD hS => ?_)
  obtain ⟨w, _⟩ := u1
  obtain ⟨hw2, hO⟩ := hw2
  obtain rfl : v3 = some (.long ((J 29) (tp - 1))) := hw2
  have hO : OKW G h0 a (upd (upd (upd (upd (upd (upd F 18 (nI ba)) 19 (nI (tp - 1))) 20 (nI pc)) 21 (nI (pc + 1))) 23 5) 26 (nI ht)) (updR (updR R 7 (.ref (a sp))) 8 (.ref (a op))) Z B J T Pi w := hO.to rfl
  refine W.widen (k := 0) (n := 0) (Nat.le_of_ble_eq_true rfl) (Nat.le_of_ble_eq_true rfl) ?_
  refine W.eq (g2 := F0 m 147 ls [.long ((J 29) (tp - 1)), .ref (a 5)]) rfl ?_
  refine lv_lconst (v := 0) hx hb dX5_step_147 (by decide) ?_
  refine W.lcmp hx hb dX5_step_148 ?_
  refine lv_topi (fun x6 e7 => ?_)
  refine lv_if_ne (tgt := 156) hx hb dX5_step_149 (by decide) (fun c8 => ?_) (fun c8 => ?_)
  · refine lv_aload_n hx hb dX5_step_156 rfl (lv_at hl 0 rfl) ?_
    refine c_get (v := .int (nI (pc + 1))) (C := RX5) (Tc := TX5) (N := 19) (ci := 4) hx hb hq pin_wsX50 hown hE hP hO 28 (sg_28 G h0 a _ _ _ _ _) rfl 13 (by decide) (hq _ pw_566) (fun _ h9 => h9) rfl dX5_step_157 ?_
    refine c_put (v := .int (nI (pc + 1))) (ty := .int) (C := RX5) (Tc := TX5) (N := 19) (ci := 4) hx hb hq pin_wsX50 tyX5 tyX5_ok nmX5 hown hE hP hD hS hO 28 (sg_28 G h0 a _ _ _ _ _) rfl 13 (by decide) (hq _ pw_566) (fun _ h9 => h9) rfl (by decide +kernel) rfl rfl (Nat.le_of_ble_eq_true rfl) (sf_21 G h0 a _ _ _ _ _ (nI (pc + 1))) dX5_step_160 (fun H locs w hP hD hS hO => ?_)
    refine lv_goto (tgt := 229) hx hb dX5_step_163 (by decide) ?_
    have hz9 : StQ y (B 19) Sh nn (J sp) ht (B 30) (B 16) on j9 ba pc fl (tp - 1) (5 : Int32) (nI (pc + 1)) Z (J 29) fl := (StQ.on1 hmi hmo (by rw [hop]; decide) hv4 (r6 (VT.isT r5 hv3 (fun z => c8 (e7.trans ((lg_cmp_eq _ _).mpr z))))) (fun _ _ => rfl) (Nat.le_refl _) hZ)
    have hz10 : J 34 = J 34 ∧ J 35 = J 35 := ⟨rfl, rfl⟩
    have hz11 : (B 33) 5 = nI fl := hfl
    have hz12 : fl ≤ fl ∧ (tp - 1) ≤ 32000 := (by omega)
    have hO : OKW G h0 a (upd (upd (upd (upd (upd (upd F 18 (nI ba)) 19 (nI (tp - 1))) 20 (nI pc)) 21 (nI (pc + 1))) 23 (5 : Int32)) 26 (nI ht)) (updR (updR R 7 (.ref (a sp))) 8 (.ref (a op))) Z (updA (updA B 32 (B 32)) 33 (B 33)) J T Pi w := hO.to rfl
    exact W.vret hx hb hr (fun t99 ht99 hW99 => ⟨⟨_, (w, ((tp - 1), (5 : Int32), (nI (pc + 1)), Z, J, (B 33), (B 32), fl)), rfl, ⟨rfl, hz9, hz10, hz11, hz12, hO⟩, by rw [ht99]; exact hP, hD⟩, hS.F ht99⟩) hS.2.2 dX5_step_229
  · refine lv_iload_n hx hb dX5_step_152 rfl (lv_at hl 2 rfl) ?_
    refine lv_goto (tgt := 160) hx hb dX5_step_153 (by decide) ?_
    refine c_put (v := .int (nI x9)) (ty := .int) (C := RX5) (Tc := TX5) (N := 19) (ci := 4) hx hb hq pin_wsX50 tyX5 tyX5_ok nmX5 hown hE hP hD hS hO 28 (sg_28 G h0 a _ _ _ _ _) rfl 13 (by decide) (hq _ pw_566) (fun _ h9 => h9) rfl (by decide +kernel) rfl rfl (Nat.le_of_ble_eq_true rfl) (sf_21 G h0 a _ _ _ _ _ (nI x9)) dX5_step_160 (fun H locs w hP hD hS hO => ?_)
    refine lv_goto (tgt := 229) hx hb dX5_step_163 (by decide) ?_
    have hz13 : StQ y (B 19) Sh nn (J sp) ht (B 30) (B 16) on j9 ba pc fl (tp - 1) (5 : Int32) (nI x9) Z (J 29) fl := (StQ.on2 hmi hmo (by rw [hop]; decide) hv4 (r7 (VT.isF r5 hv3 ((lg_cmp_eq _ _).mp (e7.symm.trans c8)))) r2 (Or.inl r3) (fun _ _ => rfl) (Nat.le_refl _) hZ)
    have hz14 : J 34 = J 34 ∧ J 35 = J 35 := ⟨rfl, rfl⟩
    have hz15 : (B 33) 5 = nI fl := hfl
    have hz16 : fl ≤ fl ∧ (tp - 1) ≤ 32000 := (by omega)
    have hO : OKW G h0 a (upd (upd (upd (upd (upd (upd F 18 (nI ba)) 19 (nI (tp - 1))) 20 (nI pc)) 21 (nI x9)) 23 (5 : Int32)) 26 (nI ht)) (updR (updR R 7 (.ref (a sp))) 8 (.ref (a op))) Z (updA (updA B 32 (B 32)) 33 (B 33)) J T Pi w := hO.to rfl
    exact W.vret hx hb hr (fun t99 ht99 hW99 => ⟨⟨_, (w, ((tp - 1), (5 : Int32), (nI x9), Z, J, (B 33), (B 32), fl)), rfl, ⟨rfl, hz13, hz14, hz15, hz16, hO⟩, by rw [ht99]; exact hP, hD⟩, hS.F ht99⟩) hS.2.2 dX5_step_229
set_option maxHeartbeats 8000000 in
set_option maxRecDepth 100000 in
theorem Y_skip8 (l : Launch) (G : pT) (h0 : Nat) (a : Nat → Nat) (F : Nat → Int32) (R : Nat → Value) (Z : Int64) (B : Nat → Nat → Int32) (J : Nat → Nat → Int64) (T : Nat → Nat) (Pi : Nat → va_E → Prop) (w : va_W) (y : TY) (Sh : Nat → Nat) (nn : Nat → Nat) (on : Nat) (j9 : Nat) (ba : Nat) (pc : Nat) (tp : Nat) (sp : Nat) (op : Nat) (ht : Nat) (fl : Nat) (hsp : (sp = 34 ∧ op = 35) ∨ (sp = 35 ∧ op = 34)) (hmi : MIy y (B 19) Sh nn (J sp) ht (B 30) (J 29) on j9 ba pc tp) (hmo : MOy y (B 16) (B 17) (B 18) (B 19) j9) (hZ : Z = 0) (hfl : B 33 5 = nI fl) (hflb : fl ≤ 20000) (hop : B 16 pc = nI 8) (hru : IRy y (B 16) (B 17) (B 18) pc j9 8) (hO : OKW G h0 a (upd (upd (upd (upd (upd (upd F 18 (nI ba)) 19 (nI tp)) 20 (nI pc)) 21 (nI (pc + 1))) 23 5) 26 (nI ht)) (updR (updR R 7 (.ref (a sp))) 8 (.ref (a op))) Z B J T Pi w) : PM l G pX0 yX5_skip cX5_skip 5 none ({ frames := 3, cells := 0, slots := 0, locals := 82 }) [.ref (a 5), .int 0, .int (B 17 pc)] w (fun (v : Option Value) (u : va_W × (Nat × Int32 × Int32 × Int64 × (Nat → Nat → Int64) × (Nat → Int32) × (Nat → Int32) × Nat)) => v = none ∧ (StQ y (B 19) Sh nn (J sp) ht (B 30) (B 16) on j9 ba pc fl u.2.1 u.2.2.1 u.2.2.2.1 u.2.2.2.2.1 (u.2.2.2.2.2.1 29) u.2.2.2.2.2.2.2.2) ∧ (u.2.2.2.2.2.1 34 = J 34 ∧ u.2.2.2.2.2.1 35 = J 35) ∧ (u.2.2.2.2.2.2.1 5 = nI u.2.2.2.2.2.2.2.2) ∧ (u.2.2.2.2.2.2.2.2 ≤ fl ∧ u.2.1 ≤ 32000) ∧ (OKW G h0 a (upd (upd (upd (upd (upd (upd F 18 (nI ba)) 19 (nI u.2.1)) 20 (nI pc)) 21 u.2.2.2.1) 23 u.2.2.1) 26 (nI ht)) (updR (updR R 7 (.ref (a sp))) 8 (.ref (a op))) u.2.2.2.2.1 (updA (updA B 32 u.2.2.2.2.2.2.2.1) 33 u.2.2.2.2.2.2.1) u.2.2.2.2.2.1 T Pi u.1)) (fun u => u.1) := by
  intro sz
  refine Met.ofW (cc := cX5_skip) (maxL := 5) (ret := none) (by decide) rfl ?_
  intro p e s m args below meth c s₁ B9 hml hv
  obtain ⟨rfl, hsz, hP, hD0, hE, hX⟩ := hv
  have hx := B9.exec
  have hb := B9.bytes
  have hr := B9.returns
  have hts := atoms_spec (ws := Cond.code yX5_skip cX5_skip 5 none :: pw) B9.pre
  have hq : ∀ w ∈ pw, w.before _ s = true := fun w h => hts w (List.mem_cons_of_mem _ h)
  have hown : s.vm.findClass RX5 = some m.cls := findClass_of_methodNamed B9.named
  have hlocks := B9.notSynchronized
  subst hsz
  have hD := hD0.self (sz := s.heap.size)
  have hA : ∀ q : Nat, s.heap.size ≤ q → va_A w s.heap.size q := fun q h => Or.inr h
  generalize va_A w s.heap.size = A at hD hE hA ⊢
  have hS : va_S A s.heap s.heap [] := va_S.rf
  have hl := lv_entry ([.ref (a 5), .int 0, .int (B 17 pc)]) (n := 5) (Nat.le_of_ble_eq_true rfl)
  rw [lg_entry_eq]
  generalize (lg_sl ([.ref (a 5), .int 0, .int (B 17 pc)]) ++ List.replicate (5 - (lg_sl ([.ref (a 5), .int 0, .int (B 17 pc)])).length) Slot.unset).toArray = ls at hl ⊢
  have hl : lv_has ls 5 [(0, .ref (a 5)), (1, .int 0), (2, .int (B 17 pc))] := hl
  obtain ⟨hn1, hn2, hn3, hn4, hn5, hn6, hn7, hn8, hn9, hn10, hn11, hn12⟩ := MIy.nums hmi hmo
  have hlo := FFy.lo hmi.ff
  obtain ⟨x9, t9, os, r1, r2, r3, r4, r5, r6, r7⟩ := hru
  rw [r1] at hl
  obtain ⟨hv1, hv2, hv3, hv4⟩ := FFy.pop hmi.ff r4
  refine lv_aload_n hx hb dX5_skip_0 rfl (lv_at hl 0 rfl) ?_
  have hO : OKW G h0 a (upd (upd (upd (upd (upd (upd (upd F 18 (nI ba)) 19 (nI tp)) 20 (nI pc)) 21 (nI (pc + 1))) 23 5) 26 (nI ht)) 19 (nI tp)) (updR (updR R 7 (.ref (a sp))) 8 (.ref (a op))) Z B J T Pi w := hO.to rfl
  obtain ⟨_, qr4, hqr5⟩ := hO.2.1 28 _ (sg_28 G h0 a _ _ _ _ _)
  refine pc_V0 (G := G) (As := []) (rest := []) hx hb hml hown hq hE hX pX0_al hP hD hS hA hl.1 (Y_pop l G h0 a (upd (upd (upd (upd (upd (upd F 18 (nI ba)) 19 (nI tp)) 20 (nI pc)) 21 (nI (pc + 1))) 23 5) 26 (nI ht)) (updR (updR R 7 (.ref (a sp))) 8 (.ref (a op))) Z B J T Pi w tp (by omega) hO) (gV pw_598 pw_599 pw_600 pw_539 pw_595) hV_X5_pop qr4 4 hqr5 rfl rfl rfl (Nat.le_of_ble_eq_true rfl) dX5_skip_1 ⟨Nat.le_of_ble_eq_true rfl, Nat.le_of_ble_eq_true rfl⟩ ⟨Nat.le_of_ble_eq_true rfl, Nat.le_of_ble_eq_true rfl⟩ (fun v3 u1 H locs hw2 hP hD hS => ?_)
  obtain ⟨w, _⟩ := u1
  obtain ⟨hw2, hO⟩ := hw2
  obtain rfl : v3 = some (.long ((J 29) (tp - 1))) := hw2
  have hO : OKW G h0 a (upd (upd (upd (upd (upd (upd F 18 (nI ba)) 19 (nI (tp - 1))) 20 (nI pc)) 21 (nI (pc + 1))) 23 5) 26 (nI ht)) (updR (updR R 7 (.ref (a sp))) 8 (.ref (a op))) Z B J T Pi w := hO.to rfl
  refine W.widen (k := 0) (n := 0) (Nat.le_of_ble_eq_true rfl) (Nat.le_of_ble_eq_true rfl) ?_
  refine W.eq (g2 := F0 m 4 ls [.long ((J 29) (tp - 1))]) rfl ?_
  refine lv_lstore_n (lv' := [(3, .long ((J 29) (tp - 1))), (0, .ref (a 5)), (1, .int 0), (2, .int (nI x9))]) hx hb dX5_skip_4 rfl hl (by decide) rfl (fun ls hl => ?_)
  refine lv_lload_n hx hb dX5_skip_5 rfl (lv_at hl 0 rfl) ?_
  refine lv_lconst (v := 0) hx hb dX5_skip_6 (by decide) ?_
  refine W.lcmp hx hb dX5_skip_7 ?_
  refine lv_topi (fun x6 e7 => ?_)
  refine lv_if_eq (tgt := 15) hx hb dX5_skip_8 (by decide) (fun c8 => ?_) (fun c8 => ?_)
  · refine lv_iconst (v := 0) hx hb dX5_skip_15 (by decide) ?_
    refine lv_iload_n hx hb dX5_skip_16 rfl (lv_at hl 2 rfl) ?_
    refine lv_icmp_ne (tgt := 30) hx hb dX5_skip_17 (by decide) (fun c9 => absurd c9 (by decide)) (fun c9 => ?_)
    refine lv_aload_n hx hb dX5_skip_20 rfl (lv_at hl 1 rfl) ?_
    refine lv_lload_n hx hb dX5_skip_21 rfl (lv_at hl 0 rfl) ?_
    have hO : OKW G h0 a (upd (upd (upd (upd (upd (upd (upd F 18 (nI ba)) 19 (nI (tp - 1))) 20 (nI pc)) 21 (nI (pc + 1))) 23 5) 26 (nI ht)) 19 (nI (tp - 1))) (updR (updR R 7 (.ref (a sp))) 8 (.ref (a op))) Z B J T Pi w := hO.to rfl
    obtain ⟨_, qr13, hqr14⟩ := hO.2.1 28 _ (sg_28 G h0 a _ _ _ _ _)
    refine pc_V0 (G := G) (As := [.long ((J 29) (tp - 1))]) (rest := []) hx hb hml hown hq hE hX pX0_al hP hD hS hA hl.1 (Y_push l G h0 a (upd (upd (upd (upd (upd (upd F 18 (nI ba)) 19 (nI (tp - 1))) 20 (nI pc)) 21 (nI (pc + 1))) 23 5) 26 (nI ht)) (updR (updR R 7 (.ref (a sp))) 8 (.ref (a op))) Z B J T Pi w ((J 29) (tp - 1)) (tp - 1) (by omega) hO) (gV pw_549 pw_550 pw_551 pw_539 pw_535) hV_X5_push qr13 4 hqr14 rfl rfl rfl (Nat.le_of_ble_eq_true rfl) dX5_skip_22 ⟨Nat.le_of_ble_eq_true rfl, Nat.le_of_ble_eq_true rfl⟩ ⟨Nat.le_of_ble_eq_true rfl, Nat.le_of_ble_eq_true rfl⟩ (fun v12 u10 H locs hw11 hP hD hS => ?_)
    obtain ⟨w, _⟩ := u10
    obtain ⟨hw11, hO⟩ := hw11
    obtain rfl : v12 = none := hw11
    have hO : OKW G h0 a (upd (upd (upd (upd (upd (upd F 18 (nI ba)) 19 (nI ((tp - 1) + 1))) 20 (nI pc)) 21 (nI (pc + 1))) 23 5) 26 (nI ht)) (updR (updR R 7 (.ref (a sp))) 8 (.ref (a op))) Z B (updJ J 29 (vp_updL ((J 29)) (tp - 1) ((J 29) (tp - 1)))) T Pi w := hO.to rfl
    refine W.widen (k := 0) (n := 0) (Nat.le_of_ble_eq_true rfl) (Nat.le_of_ble_eq_true rfl) ?_
    refine W.eq (g2 := F0 m 25 ls []) rfl ?_
    refine lv_aload_n hx hb dX5_skip_25 rfl (lv_at hl 1 rfl) ?_
    refine lv_iload_n hx hb dX5_skip_26 rfl (lv_at hl 3 rfl) ?_
    refine c_put (v := .int (nI x9)) (ty := .int) (C := RX5) (Tc := TX5) (N := 19) (ci := 4) hx hb hq pin_wsX50 tyX5 tyX5_ok nmX5 hown hE hP hD hS hO 28 (sg_28 G h0 a _ _ _ _ _) rfl 13 (by decide) (hq _ pw_566) (fun _ h9 => h9) rfl (by decide +kernel) rfl rfl (Nat.le_of_ble_eq_true rfl) (sf_21 G h0 a _ _ _ _ _ (nI x9)) dX5_skip_27 (fun H locs w hP hD hS hO => ?_)
    have hz15 : StQ y (B 19) Sh nn (J sp) ht (B 30) (B 16) on j9 ba pc fl ((tp - 1) + 1) (5 : Int32) (nI x9) Z ((updJ J 29 (vp_updL ((J 29)) (tp - 1) ((J 29) (tp - 1)))) 29) fl := (StQ.on2 hmi hmo (by rw [hop]; decide) (FFy.put hv4 (Or.inr (Or.inr (Or.inr (Or.inl ⟨rfl, ((lg_cmp_eq _ _).mp (e7.symm.trans c8))⟩))))) (r7 (VT.isF r5 hv3 ((lg_cmp_eq _ _).mp (e7.symm.trans c8)))) r2 (Or.inl r3) (fun i hi => vpL_ne (by omega)) (Nat.le_refl _) hZ)
    have hz16 : (updJ J 29 (vp_updL ((J 29)) (tp - 1) ((J 29) (tp - 1)))) 34 = J 34 ∧ (updJ J 29 (vp_updL ((J 29)) (tp - 1) ((J 29) (tp - 1)))) 35 = J 35 := ⟨rfl, rfl⟩
    have hz17 : (B 33) 5 = nI fl := hfl
    have hz18 : fl ≤ fl ∧ ((tp - 1) + 1) ≤ 32000 := (by omega)
    have hO : OKW G h0 a (upd (upd (upd (upd (upd (upd F 18 (nI ba)) 19 (nI ((tp - 1) + 1))) 20 (nI pc)) 21 (nI x9)) 23 (5 : Int32)) 26 (nI ht)) (updR (updR R 7 (.ref (a sp))) 8 (.ref (a op))) Z (updA (updA B 32 (B 32)) 33 (B 33)) (updJ J 29 (vp_updL ((J 29)) (tp - 1) ((J 29) (tp - 1)))) T Pi w := hO.to rfl
    exact W.vret hx hb hr (fun t99 ht99 hW99 => ⟨⟨_, (w, (((tp - 1) + 1), (5 : Int32), (nI x9), Z, (updJ J 29 (vp_updL ((J 29)) (tp - 1) ((J 29) (tp - 1)))), (B 33), (B 32), fl)), rfl, ⟨rfl, hz15, hz16, hz17, hz18, hO⟩, by rw [ht99]; exact hP, hD⟩, hS.F ht99⟩) hS.2.2 dX5_skip_30
  · refine lv_iconst (v := 1) hx hb dX5_skip_11 (by decide) ?_
    refine lv_goto (tgt := 16) hx hb dX5_skip_12 (by decide) ?_
    refine lv_iload_n hx hb dX5_skip_16 rfl (lv_at hl 2 rfl) ?_
    refine lv_icmp_ne (tgt := 30) hx hb dX5_skip_17 (by decide) (fun c19 => ?_) (fun c19 => absurd c19 (by decide))
    have hz20 : StQ y (B 19) Sh nn (J sp) ht (B 30) (B 16) on j9 ba pc fl (tp - 1) (5 : Int32) (nI (pc + 1)) Z (J 29) fl := (StQ.on1 hmi hmo (by rw [hop]; decide) hv4 (r6 (VT.isT r5 hv3 (fun z => c8 (e7.trans ((lg_cmp_eq _ _).mpr z))))) (fun _ _ => rfl) (Nat.le_refl _) hZ)
    have hz21 : J 34 = J 34 ∧ J 35 = J 35 := ⟨rfl, rfl⟩
    have hz22 : (B 33) 5 = nI fl := hfl
    have hz23 : fl ≤ fl ∧ (tp - 1) ≤ 32000 := (by omega)
    have hO : OKW G h0 a (upd (upd (upd (upd (upd (upd F 18 (nI ba)) 19 (nI (tp - 1))) 20 (nI pc)) 21 (nI (pc + 1))) 23 (5 : Int32)) 26 (nI ht)) (updR (updR R 7 (.ref (a sp))) 8 (.ref (a op))) Z (updA (updA B 32 (B 32)) 33 (B 33)) J T Pi w := hO.to rfl
    exact W.vret hx hb hr (fun t99 ht99 hW99 => ⟨⟨_, (w, ((tp - 1), (5 : Int32), (nI (pc + 1)), Z, J, (B 33), (B 32), fl)), rfl, ⟨rfl, hz20, hz21, hz22, hz23, hO⟩, by rw [ht99]; exact hP, hD⟩, hS.F ht99⟩) hS.2.2 dX5_skip_30
set_option maxHeartbeats 8000000 in
set_option maxRecDepth 100000 in
theorem Y_skip9 (l : Launch) (G : pT) (h0 : Nat) (a : Nat → Nat) (F : Nat → Int32) (R : Nat → Value) (Z : Int64) (B : Nat → Nat → Int32) (J : Nat → Nat → Int64) (T : Nat → Nat) (Pi : Nat → va_E → Prop) (w : va_W) (y : TY) (Sh : Nat → Nat) (nn : Nat → Nat) (on : Nat) (j9 : Nat) (ba : Nat) (pc : Nat) (tp : Nat) (sp : Nat) (op : Nat) (ht : Nat) (fl : Nat) (hsp : (sp = 34 ∧ op = 35) ∨ (sp = 35 ∧ op = 34)) (hmi : MIy y (B 19) Sh nn (J sp) ht (B 30) (J 29) on j9 ba pc tp) (hmo : MOy y (B 16) (B 17) (B 18) (B 19) j9) (hZ : Z = 0) (hfl : B 33 5 = nI fl) (hflb : fl ≤ 20000) (hop : B 16 pc = nI 9) (hru : IRy y (B 16) (B 17) (B 18) pc j9 9) (hO : OKW G h0 a (upd (upd (upd (upd (upd (upd F 18 (nI ba)) 19 (nI tp)) 20 (nI pc)) 21 (nI (pc + 1))) 23 5) 26 (nI ht)) (updR (updR R 7 (.ref (a sp))) 8 (.ref (a op))) Z B J T Pi w) : PM l G pX0 yX5_skip cX5_skip 5 none ({ frames := 3, cells := 0, slots := 0, locals := 82 }) [.ref (a 5), .int 1, .int (B 17 pc)] w (fun (v : Option Value) (u : va_W × (Nat × Int32 × Int32 × Int64 × (Nat → Nat → Int64) × (Nat → Int32) × (Nat → Int32) × Nat)) => v = none ∧ (StQ y (B 19) Sh nn (J sp) ht (B 30) (B 16) on j9 ba pc fl u.2.1 u.2.2.1 u.2.2.2.1 u.2.2.2.2.1 (u.2.2.2.2.2.1 29) u.2.2.2.2.2.2.2.2) ∧ (u.2.2.2.2.2.1 34 = J 34 ∧ u.2.2.2.2.2.1 35 = J 35) ∧ (u.2.2.2.2.2.2.1 5 = nI u.2.2.2.2.2.2.2.2) ∧ (u.2.2.2.2.2.2.2.2 ≤ fl ∧ u.2.1 ≤ 32000) ∧ (OKW G h0 a (upd (upd (upd (upd (upd (upd F 18 (nI ba)) 19 (nI u.2.1)) 20 (nI pc)) 21 u.2.2.2.1) 23 u.2.2.1) 26 (nI ht)) (updR (updR R 7 (.ref (a sp))) 8 (.ref (a op))) u.2.2.2.2.1 (updA (updA B 32 u.2.2.2.2.2.2.2.1) 33 u.2.2.2.2.2.2.1) u.2.2.2.2.2.1 T Pi u.1)) (fun u => u.1) := by
  intro sz
  refine Met.ofW (cc := cX5_skip) (maxL := 5) (ret := none) (by decide) rfl ?_
  intro p e s m args below meth c s₁ B9 hml hv
  obtain ⟨rfl, hsz, hP, hD0, hE, hX⟩ := hv
  have hx := B9.exec
  have hb := B9.bytes
  have hr := B9.returns
  have hts := atoms_spec (ws := Cond.code yX5_skip cX5_skip 5 none :: pw) B9.pre
  have hq : ∀ w ∈ pw, w.before _ s = true := fun w h => hts w (List.mem_cons_of_mem _ h)
  have hown : s.vm.findClass RX5 = some m.cls := findClass_of_methodNamed B9.named
  have hlocks := B9.notSynchronized
  subst hsz
  have hD := hD0.self (sz := s.heap.size)
  have hA : ∀ q : Nat, s.heap.size ≤ q → va_A w s.heap.size q := fun q h => Or.inr h
  generalize va_A w s.heap.size = A at hD hE hA ⊢
  have hS : va_S A s.heap s.heap [] := va_S.rf
  have hl := lv_entry ([.ref (a 5), .int 1, .int (B 17 pc)]) (n := 5) (Nat.le_of_ble_eq_true rfl)
  rw [lg_entry_eq]
  generalize (lg_sl ([.ref (a 5), .int 1, .int (B 17 pc)]) ++ List.replicate (5 - (lg_sl ([.ref (a 5), .int 1, .int (B 17 pc)])).length) Slot.unset).toArray = ls at hl ⊢
  have hl : lv_has ls 5 [(0, .ref (a 5)), (1, .int 1), (2, .int (B 17 pc))] := hl
  obtain ⟨hn1, hn2, hn3, hn4, hn5, hn6, hn7, hn8, hn9, hn10, hn11, hn12⟩ := MIy.nums hmi hmo
  have hlo := FFy.lo hmi.ff
  obtain ⟨x9, t9, os, r1, r2, r3, r4, r5, r6, r7⟩ := hru
  rw [r1] at hl
  obtain ⟨hv1, hv2, hv3, hv4⟩ := FFy.pop hmi.ff r4
  refine lv_aload_n hx hb dX5_skip_0 rfl (lv_at hl 0 rfl) ?_
  have hO : OKW G h0 a (upd (upd (upd (upd (upd (upd (upd F 18 (nI ba)) 19 (nI tp)) 20 (nI pc)) 21 (nI (pc + 1))) 23 5) 26 (nI ht)) 19 (nI tp)) (updR (updR R 7 (.ref (a sp))) 8 (.ref (a op))) Z B J T Pi w := hO.to rfl
  obtain ⟨_, qr4, hqr5⟩ := hO.2.1 28 _ (sg_28 G h0 a _ _ _ _ _)
  refine pc_V0 (G := G) (As := []) (rest := []) hx hb hml hown hq hE hX pX0_al hP hD hS hA hl.1 (Y_pop l G h0 a (upd (upd (upd (upd (upd (upd F 18 (nI ba)) 19 (nI tp)) 20 (nI pc)) 21 (nI (pc + 1))) 23 5) 26 (nI ht)) (updR (updR R 7 (.ref (a sp))) 8 (.ref (a op))) Z B J T Pi w tp (by omega) hO) (gV pw_598 pw_599 pw_600 pw_539 pw_595) hV_X5_pop qr4 4 hqr5 rfl rfl rfl (Nat.le_of_ble_eq_true rfl) dX5_skip_1 ⟨Nat.le_of_ble_eq_true rfl, Nat.le_of_ble_eq_true rfl⟩ ⟨Nat.le_of_ble_eq_true rfl, Nat.le_of_ble_eq_true rfl⟩ (fun v3 u1 H locs hw2 hP hD hS => ?_)
  obtain ⟨w, _⟩ := u1
  obtain ⟨hw2, hO⟩ := hw2
  obtain rfl : v3 = some (.long ((J 29) (tp - 1))) := hw2
  have hO : OKW G h0 a (upd (upd (upd (upd (upd (upd F 18 (nI ba)) 19 (nI (tp - 1))) 20 (nI pc)) 21 (nI (pc + 1))) 23 5) 26 (nI ht)) (updR (updR R 7 (.ref (a sp))) 8 (.ref (a op))) Z B J T Pi w := hO.to rfl
  refine W.widen (k := 0) (n := 0) (Nat.le_of_ble_eq_true rfl) (Nat.le_of_ble_eq_true rfl) ?_
  refine W.eq (g2 := F0 m 4 ls [.long ((J 29) (tp - 1))]) rfl ?_
  refine lv_lstore_n (lv' := [(3, .long ((J 29) (tp - 1))), (0, .ref (a 5)), (1, .int 1), (2, .int (nI x9))]) hx hb dX5_skip_4 rfl hl (by decide) rfl (fun ls hl => ?_)
  refine lv_lload_n hx hb dX5_skip_5 rfl (lv_at hl 0 rfl) ?_
  refine lv_lconst (v := 0) hx hb dX5_skip_6 (by decide) ?_
  refine W.lcmp hx hb dX5_skip_7 ?_
  refine lv_topi (fun x6 e7 => ?_)
  refine lv_if_eq (tgt := 15) hx hb dX5_skip_8 (by decide) (fun c8 => ?_) (fun c8 => ?_)
  · refine lv_iconst (v := 0) hx hb dX5_skip_15 (by decide) ?_
    refine lv_iload_n hx hb dX5_skip_16 rfl (lv_at hl 2 rfl) ?_
    refine lv_icmp_ne (tgt := 30) hx hb dX5_skip_17 (by decide) (fun c9 => ?_) (fun c9 => absurd c9 (by decide))
    have hz10 : StQ y (B 19) Sh nn (J sp) ht (B 30) (B 16) on j9 ba pc fl (tp - 1) (5 : Int32) (nI (pc + 1)) Z (J 29) fl := (StQ.on1 hmi hmo (by rw [hop]; decide) hv4 (r6 (VT.isF r5 hv3 ((lg_cmp_eq _ _).mp (e7.symm.trans c8)))) (fun _ _ => rfl) (Nat.le_refl _) hZ)
    have hz11 : J 34 = J 34 ∧ J 35 = J 35 := ⟨rfl, rfl⟩
    have hz12 : (B 33) 5 = nI fl := hfl
    have hz13 : fl ≤ fl ∧ (tp - 1) ≤ 32000 := (by omega)
    have hO : OKW G h0 a (upd (upd (upd (upd (upd (upd F 18 (nI ba)) 19 (nI (tp - 1))) 20 (nI pc)) 21 (nI (pc + 1))) 23 (5 : Int32)) 26 (nI ht)) (updR (updR R 7 (.ref (a sp))) 8 (.ref (a op))) Z (updA (updA B 32 (B 32)) 33 (B 33)) J T Pi w := hO.to rfl
    exact W.vret hx hb hr (fun t99 ht99 hW99 => ⟨⟨_, (w, ((tp - 1), (5 : Int32), (nI (pc + 1)), Z, J, (B 33), (B 32), fl)), rfl, ⟨rfl, hz10, hz11, hz12, hz13, hO⟩, by rw [ht99]; exact hP, hD⟩, hS.F ht99⟩) hS.2.2 dX5_skip_30
  · refine lv_iconst (v := 1) hx hb dX5_skip_11 (by decide) ?_
    refine lv_goto (tgt := 16) hx hb dX5_skip_12 (by decide) ?_
    refine lv_iload_n hx hb dX5_skip_16 rfl (lv_at hl 2 rfl) ?_
    refine lv_icmp_ne (tgt := 30) hx hb dX5_skip_17 (by decide) (fun c14 => absurd c14 (by decide)) (fun c14 => ?_)
    refine lv_aload_n hx hb dX5_skip_20 rfl (lv_at hl 1 rfl) ?_
    refine lv_lload_n hx hb dX5_skip_21 rfl (lv_at hl 0 rfl) ?_
    have hO : OKW G h0 a (upd (upd (upd (upd (upd (upd (upd F 18 (nI ba)) 19 (nI (tp - 1))) 20 (nI pc)) 21 (nI (pc + 1))) 23 5) 26 (nI ht)) 19 (nI (tp - 1))) (updR (updR R 7 (.ref (a sp))) 8 (.ref (a op))) Z B J T Pi w := hO.to rfl
    obtain ⟨_, qr18, hqr19⟩ := hO.2.1 28 _ (sg_28 G h0 a _ _ _ _ _)
    refine pc_V0 (G := G) (As := [.long ((J 29) (tp - 1))]) (rest := []) hx hb hml hown hq hE hX pX0_al hP hD hS hA hl.1 (Y_push l G h0 a (upd (upd (upd (upd (upd (upd F 18 (nI ba)) 19 (nI (tp - 1))) 20 (nI pc)) 21 (nI (pc + 1))) 23 5) 26 (nI ht)) (updR (updR R 7 (.ref (a sp))) 8 (.ref (a op))) Z B J T Pi w ((J 29) (tp - 1)) (tp - 1) (by omega) hO) (gV pw_549 pw_550 pw_551 pw_539 pw_535) hV_X5_push qr18 4 hqr19 rfl rfl rfl (Nat.le_of_ble_eq_true rfl) dX5_skip_22 ⟨Nat.le_of_ble_eq_true rfl, Nat.le_of_ble_eq_true rfl⟩ ⟨Nat.le_of_ble_eq_true rfl, Nat.le_of_ble_eq_true rfl⟩ (fun v17 u15 H locs hw16 hP hD hS => ?_)
    obtain ⟨w, _⟩ := u15
    obtain ⟨hw16, hO⟩ := hw16
    obtain rfl : v17 = none := hw16
    have hO : OKW G h0 a (upd (upd (upd (upd (upd (upd F 18 (nI ba)) 19 (nI ((tp - 1) + 1))) 20 (nI pc)) 21 (nI (pc + 1))) 23 5) 26 (nI ht)) (updR (updR R 7 (.ref (a sp))) 8 (.ref (a op))) Z B (updJ J 29 (vp_updL ((J 29)) (tp - 1) ((J 29) (tp - 1)))) T Pi w := hO.to rfl
    refine W.widen (k := 0) (n := 0) (Nat.le_of_ble_eq_true rfl) (Nat.le_of_ble_eq_true rfl) ?_
    refine W.eq (g2 := F0 m 25 ls []) rfl ?_
    refine lv_aload_n hx hb dX5_skip_25 rfl (lv_at hl 1 rfl) ?_
    refine lv_iload_n hx hb dX5_skip_26 rfl (lv_at hl 3 rfl) ?_
    refine c_put (v := .int (nI x9)) (ty := .int) (C := RX5) (Tc := TX5) (N := 19) (ci := 4) hx hb hq pin_wsX50 tyX5 tyX5_ok nmX5 hown hE hP hD hS hO 28 (sg_28 G h0 a _ _ _ _ _) rfl 13 (by decide) (hq _ pw_566) (fun _ h9 => h9) rfl (by decide +kernel) rfl rfl (Nat.le_of_ble_eq_true rfl) (sf_21 G h0 a _ _ _ _ _ (nI x9)) dX5_skip_27 (fun H locs w hP hD hS hO => ?_)
    have hz20 : StQ y (B 19) Sh nn (J sp) ht (B 30) (B 16) on j9 ba pc fl ((tp - 1) + 1) (5 : Int32) (nI x9) Z ((updJ J 29 (vp_updL ((J 29)) (tp - 1) ((J 29) (tp - 1)))) 29) fl := (StQ.on2 hmi hmo (by rw [hop]; decide) (FFy.put hv4 (Or.inr (Or.inr (Or.inl ⟨rfl, ((BoT.val r5 hv3).resolve_left (fun z => c8 (e7.trans ((lg_cmp_eq _ _).mpr z))))⟩)))) (r7 (VT.isT r5 hv3 (fun z => c8 (e7.trans ((lg_cmp_eq _ _).mpr z))))) r2 (Or.inl r3) (fun i hi => vpL_ne (by omega)) (Nat.le_refl _) hZ)
    have hz21 : (updJ J 29 (vp_updL ((J 29)) (tp - 1) ((J 29) (tp - 1)))) 34 = J 34 ∧ (updJ J 29 (vp_updL ((J 29)) (tp - 1) ((J 29) (tp - 1)))) 35 = J 35 := ⟨rfl, rfl⟩
    have hz22 : (B 33) 5 = nI fl := hfl
    have hz23 : fl ≤ fl ∧ ((tp - 1) + 1) ≤ 32000 := (by omega)
    have hO : OKW G h0 a (upd (upd (upd (upd (upd (upd F 18 (nI ba)) 19 (nI ((tp - 1) + 1))) 20 (nI pc)) 21 (nI x9)) 23 (5 : Int32)) 26 (nI ht)) (updR (updR R 7 (.ref (a sp))) 8 (.ref (a op))) Z (updA (updA B 32 (B 32)) 33 (B 33)) (updJ J 29 (vp_updL ((J 29)) (tp - 1) ((J 29) (tp - 1)))) T Pi w := hO.to rfl
    exact W.vret hx hb hr (fun t99 ht99 hW99 => ⟨⟨_, (w, (((tp - 1) + 1), (5 : Int32), (nI x9), Z, (updJ J 29 (vp_updL ((J 29)) (tp - 1) ((J 29) (tp - 1)))), (B 33), (B 32), fl)), rfl, ⟨rfl, hz20, hz21, hz22, hz23, hO⟩, by rw [ht99]; exact hP, hD⟩, hS.F ht99⟩) hS.2.2 dX5_skip_30
set_option maxHeartbeats 8000000 in
set_option maxRecDepth 100000 in
theorem Y_st8 (l : Launch) (G : pT) (h0 : Nat) (a : Nat → Nat) (F : Nat → Int32) (R : Nat → Value) (Z : Int64) (B : Nat → Nat → Int32) (J : Nat → Nat → Int64) (T : Nat → Nat) (Pi : Nat → va_E → Prop) (w : va_W) (y : TY) (Sh : Nat → Nat) (nn : Nat → Nat) (on : Nat) (j9 : Nat) (ba : Nat) (pc : Nat) (tp : Nat) (sp : Nat) (op : Nat) (ht : Nat) (fl : Nat) (hsp : (sp = 34 ∧ op = 35) ∨ (sp = 35 ∧ op = 34)) (hmi : MIy y (B 19) Sh nn (J sp) ht (B 30) (J 29) on j9 ba pc tp) (hmo : MOy y (B 16) (B 17) (B 18) (B 19) j9) (hZ : Z = 0) (hfl : B 33 5 = nI fl) (hflb : fl ≤ 20000) (hop : B 16 pc = nI 8) (hru : IRy y (B 16) (B 17) (B 18) pc j9 8) (hO : OKW G h0 a (upd (upd (upd (upd (upd (upd F 18 (nI ba)) 19 (nI tp)) 20 (nI pc)) 21 (nI (pc + 1))) 23 5) 26 (nI ht)) (updR (updR R 7 (.ref (a sp))) 8 (.ref (a op))) Z B J T Pi w) : PM l G pX0 yX5_step cX5_step 3 none ({ frames := 16, cells := 0, slots := 0, locals := 1600 }) [.ref (a 5), .int 8, .int (B 17 pc)] w (fun (v : Option Value) (u : va_W × (Nat × Int32 × Int32 × Int64 × (Nat → Nat → Int64) × (Nat → Int32) × (Nat → Int32) × Nat)) => v = none ∧ (StQ y (B 19) Sh nn (J sp) ht (B 30) (B 16) on j9 ba pc fl u.2.1 u.2.2.1 u.2.2.2.1 u.2.2.2.2.1 (u.2.2.2.2.2.1 29) u.2.2.2.2.2.2.2.2) ∧ (u.2.2.2.2.2.1 34 = J 34 ∧ u.2.2.2.2.2.1 35 = J 35) ∧ (u.2.2.2.2.2.2.1 5 = nI u.2.2.2.2.2.2.2.2) ∧ (u.2.2.2.2.2.2.2.2 ≤ fl ∧ u.2.1 ≤ 32000) ∧ (OKW G h0 a (upd (upd (upd (upd (upd (upd F 18 (nI ba)) 19 (nI u.2.1)) 20 (nI pc)) 21 u.2.2.2.1) 23 u.2.2.1) 26 (nI ht)) (updR (updR R 7 (.ref (a sp))) 8 (.ref (a op))) u.2.2.2.2.1 (updA (updA B 32 u.2.2.2.2.2.2.2.1) 33 u.2.2.2.2.2.2.1) u.2.2.2.2.2.1 T Pi u.1)) (fun u => u.1) := by
  intro sz
  refine Met.ofW (cc := cX5_step) (maxL := 3) (ret := none) (by decide) rfl ?_
  intro p e s m args below meth c s₁ B9 hml hv
  obtain ⟨rfl, hsz, hP, hD0, hE, hX⟩ := hv
  have hx := B9.exec
  have hb := B9.bytes
  have hr := B9.returns
  have hts := atoms_spec (ws := Cond.code yX5_step cX5_step 3 none :: pw) B9.pre
  have hq : ∀ w ∈ pw, w.before _ s = true := fun w h => hts w (List.mem_cons_of_mem _ h)
  have hown : s.vm.findClass RX5 = some m.cls := findClass_of_methodNamed B9.named
  have hlocks := B9.notSynchronized
  subst hsz
  have hD := hD0.self (sz := s.heap.size)
  have hA : ∀ q : Nat, s.heap.size ≤ q → va_A w s.heap.size q := fun q h => Or.inr h
  generalize va_A w s.heap.size = A at hD hE hA ⊢
  have hS : va_S A s.heap s.heap [] := va_S.rf
  have hl := lv_entry ([.ref (a 5), .int 8, .int (B 17 pc)]) (n := 3) (Nat.le_of_ble_eq_true rfl)
  rw [lg_entry_eq]
  generalize (lg_sl ([.ref (a 5), .int 8, .int (B 17 pc)]) ++ List.replicate (3 - (lg_sl ([.ref (a 5), .int 8, .int (B 17 pc)])).length) Slot.unset).toArray = ls at hl ⊢
  have hl : lv_has ls 3 [(0, .ref (a 5)), (1, .int 8), (2, .int (B 17 pc))] := hl
  obtain ⟨hn1, hn2, hn3, hn4, hn5, hn6, hn7, hn8, hn9, hn10, hn11, hn12⟩ := MIy.nums hmi hmo
  have hlo := FFy.lo hmi.ff
  refine lv_iload_n hx hb dX5_step_0 rfl (lv_at hl 1 rfl) ?_
  refine lv_tableIn (tgt := 166) (off := 165) hx hb dX5_step_1 (by decide) (by decide) (by decide) (by decide) ?_
  refine lv_aload_n hx hb dX5_step_166 rfl (lv_at hl 0 rfl) ?_
  refine lv_iload_n hx hb dX5_step_167 rfl (lv_at hl 1 rfl) ?_
  refine lv_bipush (v := 9) hx hb dX5_step_168 (by decide) ?_
  refine lv_icmp_ne (tgt := 177) hx hb dX5_step_170 (by decide) (fun c1 => ?_) (fun c1 => absurd c1 (by decide))
  refine lv_iconst (v := 0) hx hb dX5_step_177 (by decide) ?_
  refine lv_iload_n hx hb dX5_step_178 rfl (lv_at hl 2 rfl) ?_
  have hO : OKW G h0 a (upd (upd (upd (upd (upd (upd (upd (upd (upd (upd (upd (upd F 18 (nI ba)) 19 (nI tp)) 20 (nI pc)) 21 (nI (pc + 1))) 23 5) 26 (nI ht)) 18 (nI ba)) 19 (nI tp)) 20 (nI pc)) 21 (nI (pc + 1))) 23 5) 26 (nI ht)) (updR (updR (updR (updR R 7 (.ref (a sp))) 8 (.ref (a op))) 7 (.ref (a sp))) 8 (.ref (a op))) Z B J T Pi w := hO.to rfl
  obtain ⟨_, qr5, hqr6⟩ := hO.2.1 28 _ (sg_28 G h0 a _ _ _ _ _)
  refine pc_V0 (G := G) (As := [.int 0, .int (B 17 pc)]) (rest := []) hx hb hml hown hq hE hX pX0_al hP hD hS hA hl.1 (Y_skip8 l G h0 a (upd (upd (upd (upd (upd (upd F 18 (nI ba)) 19 (nI tp)) 20 (nI pc)) 21 (nI (pc + 1))) 23 5) 26 (nI ht)) (updR (updR R 7 (.ref (a sp))) 8 (.ref (a op))) Z B J T Pi w y Sh nn on j9 ba pc tp sp op ht fl hsp hmi hmo hZ hfl hflb hop hru hO) (gV pw_628 pw_629 pw_630 pw_539 pw_597) hV_X5_skip qr5 4 hqr6 rfl rfl rfl (Nat.le_of_ble_eq_true rfl) dX5_step_179 ⟨Nat.le_of_ble_eq_true rfl, Nat.le_of_ble_eq_true rfl⟩ ⟨Nat.le_of_ble_eq_true rfl, Nat.le_of_ble_eq_true rfl⟩ (fun v4 u2 H locs hw3 hP hD hS => ?_)
  obtain ⟨w, tp7, en8, nx9, z10, J11, ta12, ou13, fl14⟩ := u2
  obtain ⟨hw3, h15, h16, h17, h18, hO⟩ := hw3
  have h15 : StQ y ((B 19)) Sh nn (J sp) ht ((B 30)) ((B 16)) on j9 ba pc fl tp7 en8 nx9 z10 (J11 29) fl14 := h15
  have h16 : J11 34 = (J 34) ∧ J11 35 = (J 35) := h16
  have h17 : ta12 5 = nI fl14 := h17
  have h18 : fl14 ≤ fl ∧ tp7 ≤ 32000 := h18
  obtain rfl : v4 = none := hw3
  have hO : OKW G h0 a (upd (upd (upd (upd (upd (upd F 18 (nI ba)) 19 (nI tp7)) 20 (nI pc)) 21 nx9) 23 en8) 26 (nI ht)) (updR (updR R 7 (.ref (a sp))) 8 (.ref (a op))) z10 (updA (updA B 32 ou13) 33 ta12) J11 T Pi w := hO.to rfl
  refine W.widen (k := 0) (n := 0) (Nat.le_of_ble_eq_true rfl) (Nat.le_of_ble_eq_true rfl) ?_
  refine W.eq (g2 := F0 m 182 ls []) rfl ?_
  refine lv_goto (tgt := 229) hx hb dX5_step_182 (by decide) ?_
  have hz19 : StQ y (B 19) Sh nn (J sp) ht (B 30) (B 16) on j9 ba pc fl tp7 en8 nx9 z10 (J11 29) fl14 := h15
  have hz20 : J11 34 = J 34 ∧ J11 35 = J 35 := h16
  have hz21 : ta12 5 = nI fl14 := h17
  have hz22 : fl14 ≤ fl ∧ tp7 ≤ 32000 := h18
  have hO : OKW G h0 a (upd (upd (upd (upd (upd (upd F 18 (nI ba)) 19 (nI tp7)) 20 (nI pc)) 21 nx9) 23 en8) 26 (nI ht)) (updR (updR R 7 (.ref (a sp))) 8 (.ref (a op))) z10 (updA (updA B 32 ou13) 33 ta12) J11 T Pi w := hO.to rfl
  exact W.vret hx hb hr (fun t99 ht99 hW99 => ⟨⟨_, (w, (tp7, en8, nx9, z10, J11, ta12, ou13, fl14)), rfl, ⟨rfl, hz19, hz20, hz21, hz22, hO⟩, by rw [ht99]; exact hP, hD⟩, hS.F ht99⟩) hS.2.2 dX5_step_229
set_option maxHeartbeats 8000000 in
set_option maxRecDepth 100000 in
theorem Y_st9 (l : Launch) (G : pT) (h0 : Nat) (a : Nat → Nat) (F : Nat → Int32) (R : Nat → Value) (Z : Int64) (B : Nat → Nat → Int32) (J : Nat → Nat → Int64) (T : Nat → Nat) (Pi : Nat → va_E → Prop) (w : va_W) (y : TY) (Sh : Nat → Nat) (nn : Nat → Nat) (on : Nat) (j9 : Nat) (ba : Nat) (pc : Nat) (tp : Nat) (sp : Nat) (op : Nat) (ht : Nat) (fl : Nat) (hsp : (sp = 34 ∧ op = 35) ∨ (sp = 35 ∧ op = 34)) (hmi : MIy y (B 19) Sh nn (J sp) ht (B 30) (J 29) on j9 ba pc tp) (hmo : MOy y (B 16) (B 17) (B 18) (B 19) j9) (hZ : Z = 0) (hfl : B 33 5 = nI fl) (hflb : fl ≤ 20000) (hop : B 16 pc = nI 9) (hru : IRy y (B 16) (B 17) (B 18) pc j9 9) (hO : OKW G h0 a (upd (upd (upd (upd (upd (upd F 18 (nI ba)) 19 (nI tp)) 20 (nI pc)) 21 (nI (pc + 1))) 23 5) 26 (nI ht)) (updR (updR R 7 (.ref (a sp))) 8 (.ref (a op))) Z B J T Pi w) : PM l G pX0 yX5_step cX5_step 3 none ({ frames := 16, cells := 0, slots := 0, locals := 1600 }) [.ref (a 5), .int 9, .int (B 17 pc)] w (fun (v : Option Value) (u : va_W × (Nat × Int32 × Int32 × Int64 × (Nat → Nat → Int64) × (Nat → Int32) × (Nat → Int32) × Nat)) => v = none ∧ (StQ y (B 19) Sh nn (J sp) ht (B 30) (B 16) on j9 ba pc fl u.2.1 u.2.2.1 u.2.2.2.1 u.2.2.2.2.1 (u.2.2.2.2.2.1 29) u.2.2.2.2.2.2.2.2) ∧ (u.2.2.2.2.2.1 34 = J 34 ∧ u.2.2.2.2.2.1 35 = J 35) ∧ (u.2.2.2.2.2.2.1 5 = nI u.2.2.2.2.2.2.2.2) ∧ (u.2.2.2.2.2.2.2.2 ≤ fl ∧ u.2.1 ≤ 32000) ∧ (OKW G h0 a (upd (upd (upd (upd (upd (upd F 18 (nI ba)) 19 (nI u.2.1)) 20 (nI pc)) 21 u.2.2.2.1) 23 u.2.2.1) 26 (nI ht)) (updR (updR R 7 (.ref (a sp))) 8 (.ref (a op))) u.2.2.2.2.1 (updA (updA B 32 u.2.2.2.2.2.2.2.1) 33 u.2.2.2.2.2.2.1) u.2.2.2.2.2.1 T Pi u.1)) (fun u => u.1) := by
  intro sz
  refine Met.ofW (cc := cX5_step) (maxL := 3) (ret := none) (by decide) rfl ?_
  intro p e s m args below meth c s₁ B9 hml hv
  obtain ⟨rfl, hsz, hP, hD0, hE, hX⟩ := hv
  have hx := B9.exec
  have hb := B9.bytes
  have hr := B9.returns
  have hts := atoms_spec (ws := Cond.code yX5_step cX5_step 3 none :: pw) B9.pre
  have hq : ∀ w ∈ pw, w.before _ s = true := fun w h => hts w (List.mem_cons_of_mem _ h)
  have hown : s.vm.findClass RX5 = some m.cls := findClass_of_methodNamed B9.named
  have hlocks := B9.notSynchronized
  subst hsz
  have hD := hD0.self (sz := s.heap.size)
  have hA : ∀ q : Nat, s.heap.size ≤ q → va_A w s.heap.size q := fun q h => Or.inr h
  generalize va_A w s.heap.size = A at hD hE hA ⊢
  have hS : va_S A s.heap s.heap [] := va_S.rf
  have hl := lv_entry ([.ref (a 5), .int 9, .int (B 17 pc)]) (n := 3) (Nat.le_of_ble_eq_true rfl)
  rw [lg_entry_eq]
  generalize (lg_sl ([.ref (a 5), .int 9, .int (B 17 pc)]) ++ List.replicate (3 - (lg_sl ([.ref (a 5), .int 9, .int (B 17 pc)])).length) Slot.unset).toArray = ls at hl ⊢
  have hl : lv_has ls 3 [(0, .ref (a 5)), (1, .int 9), (2, .int (B 17 pc))] := hl
  obtain ⟨hn1, hn2, hn3, hn4, hn5, hn6, hn7, hn8, hn9, hn10, hn11, hn12⟩ := MIy.nums hmi hmo
  have hlo := FFy.lo hmi.ff
  refine lv_iload_n hx hb dX5_step_0 rfl (lv_at hl 1 rfl) ?_
  refine lv_tableIn (tgt := 166) (off := 165) hx hb dX5_step_1 (by decide) (by decide) (by decide) (by decide) ?_
  refine lv_aload_n hx hb dX5_step_166 rfl (lv_at hl 0 rfl) ?_
  refine lv_iload_n hx hb dX5_step_167 rfl (lv_at hl 1 rfl) ?_
  refine lv_bipush (v := 9) hx hb dX5_step_168 (by decide) ?_
  refine lv_icmp_ne (tgt := 177) hx hb dX5_step_170 (by decide) (fun c1 => absurd c1 (by decide)) (fun c1 => ?_)
  refine lv_iconst (v := 1) hx hb dX5_step_173 (by decide) ?_
  refine lv_goto (tgt := 178) hx hb dX5_step_174 (by decide) ?_
  refine lv_iload_n hx hb dX5_step_178 rfl (lv_at hl 2 rfl) ?_
  have hO : OKW G h0 a (upd (upd (upd (upd (upd (upd (upd (upd (upd (upd (upd (upd F 18 (nI ba)) 19 (nI tp)) 20 (nI pc)) 21 (nI (pc + 1))) 23 5) 26 (nI ht)) 18 (nI ba)) 19 (nI tp)) 20 (nI pc)) 21 (nI (pc + 1))) 23 5) 26 (nI ht)) (updR (updR (updR (updR R 7 (.ref (a sp))) 8 (.ref (a op))) 7 (.ref (a sp))) 8 (.ref (a op))) Z B J T Pi w := hO.to rfl
  obtain ⟨_, qr5, hqr6⟩ := hO.2.1 28 _ (sg_28 G h0 a _ _ _ _ _)
  refine pc_V0 (G := G) (As := [.int 1, .int (B 17 pc)]) (rest := []) hx hb hml hown hq hE hX pX0_al hP hD hS hA hl.1 (Y_skip9 l G h0 a (upd (upd (upd (upd (upd (upd F 18 (nI ba)) 19 (nI tp)) 20 (nI pc)) 21 (nI (pc + 1))) 23 5) 26 (nI ht)) (updR (updR R 7 (.ref (a sp))) 8 (.ref (a op))) Z B J T Pi w y Sh nn on j9 ba pc tp sp op ht fl hsp hmi hmo hZ hfl hflb hop hru hO) (gV pw_628 pw_629 pw_630 pw_539 pw_597) hV_X5_skip qr5 4 hqr6 rfl rfl rfl (Nat.le_of_ble_eq_true rfl) dX5_step_179 ⟨Nat.le_of_ble_eq_true rfl, Nat.le_of_ble_eq_true rfl⟩ ⟨Nat.le_of_ble_eq_true rfl, Nat.le_of_ble_eq_true rfl⟩ (fun v4 u2 H locs hw3 hP hD hS => ?_)
  obtain ⟨w, tp7, en8, nx9, z10, J11, ta12, ou13, fl14⟩ := u2
  obtain ⟨hw3, h15, h16, h17, h18, hO⟩ := hw3
  have h15 : StQ y ((B 19)) Sh nn (J sp) ht ((B 30)) ((B 16)) on j9 ba pc fl tp7 en8 nx9 z10 (J11 29) fl14 := h15
  have h16 : J11 34 = (J 34) ∧ J11 35 = (J 35) := h16
  have h17 : ta12 5 = nI fl14 := h17
  have h18 : fl14 ≤ fl ∧ tp7 ≤ 32000 := h18
  obtain rfl : v4 = none := hw3
  have hO : OKW G h0 a (upd (upd (upd (upd (upd (upd F 18 (nI ba)) 19 (nI tp7)) 20 (nI pc)) 21 nx9) 23 en8) 26 (nI ht)) (updR (updR R 7 (.ref (a sp))) 8 (.ref (a op))) z10 (updA (updA B 32 ou13) 33 ta12) J11 T Pi w := hO.to rfl
  refine W.widen (k := 0) (n := 0) (Nat.le_of_ble_eq_true rfl) (Nat.le_of_ble_eq_true rfl) ?_
  refine W.eq (g2 := F0 m 182 ls []) rfl ?_
  refine lv_goto (tgt := 229) hx hb dX5_step_182 (by decide) ?_
  have hz19 : StQ y (B 19) Sh nn (J sp) ht (B 30) (B 16) on j9 ba pc fl tp7 en8 nx9 z10 (J11 29) fl14 := h15
  have hz20 : J11 34 = J 34 ∧ J11 35 = J 35 := h16
  have hz21 : ta12 5 = nI fl14 := h17
  have hz22 : fl14 ≤ fl ∧ tp7 ≤ 32000 := h18
  have hO : OKW G h0 a (upd (upd (upd (upd (upd (upd F 18 (nI ba)) 19 (nI tp7)) 20 (nI pc)) 21 nx9) 23 en8) 26 (nI ht)) (updR (updR R 7 (.ref (a sp))) 8 (.ref (a op))) z10 (updA (updA B 32 ou13) 33 ta12) J11 T Pi w := hO.to rfl
  exact W.vret hx hb hr (fun t99 ht99 hW99 => ⟨⟨_, (w, (tp7, en8, nx9, z10, J11, ta12, ou13, fl14)), rfl, ⟨rfl, hz19, hz20, hz21, hz22, hO⟩, by rw [ht99]; exact hP, hD⟩, hS.F ht99⟩) hS.2.2 dX5_step_229
set_option maxHeartbeats 8000000 in
set_option maxRecDepth 100000 in
theorem Y_combined (l : Launch) (G : pT) (h0 : Nat) (a : Nat → Nat) (F : Nat → Int32) (R : Nat → Value) (Z : Int64) (B : Nat → Nat → Int32) (J : Nat → Nat → Int64) (T : Nat → Nat) (Pi : Nat → va_E → Prop) (w : va_W) (x : Int32) (x1 : Int32) (x2 : Int32) (hcm : CmK x) (hO : OKW G h0 a F R Z B J T Pi w) : PM l G pX0 yX5_combined cX5_combined 4 (some .int) ({ frames := 2, cells := 0, slots := 0, locals := 60 }) [.ref (a 5), .int x, .int x1, .int x2] w (fun (v : Option Value) (u : va_W × (Int32)) => v = some (.int u.2) ∧ (CmQ x x1 x2 u.2) ∧ (OKW G h0 a F R Z B J T Pi u.1)) (fun u => u.1) := by
  intro sz
  refine Met.ofW (cc := cX5_combined) (maxL := 4) (ret := (some .int)) (by decide) rfl ?_
  intro p e s m args below meth c s₁ B9 hml hv
  obtain ⟨rfl, hsz, hP, hD0, hE, hX⟩ := hv
  have hx := B9.exec
  have hb := B9.bytes
  have hr := B9.returns
  have hts := atoms_spec (ws := Cond.code yX5_combined cX5_combined 4 (some .int) :: pw) B9.pre
  have hq : ∀ w ∈ pw, w.before _ s = true := fun w h => hts w (List.mem_cons_of_mem _ h)
  have hown : s.vm.findClass RX5 = some m.cls := findClass_of_methodNamed B9.named
  have hlocks := B9.notSynchronized
  subst hsz
  have hD := hD0.self (sz := s.heap.size)
  have hA : ∀ q : Nat, s.heap.size ≤ q → va_A w s.heap.size q := fun q h => Or.inr h
  generalize va_A w s.heap.size = A at hD hE hA ⊢
  have hS : va_S A s.heap s.heap [] := va_S.rf
  have hl := lv_entry ([.ref (a 5), .int x, .int x1, .int x2]) (n := 4) (Nat.le_of_ble_eq_true rfl)
  rw [lg_entry_eq]
  generalize (lg_sl ([.ref (a 5), .int x, .int x1, .int x2]) ++ List.replicate (4 - (lg_sl ([.ref (a 5), .int x, .int x1, .int x2])).length) Slot.unset).toArray = ls at hl ⊢
  have hl : lv_has ls 4 [(0, .ref (a 5)), (1, .int x), (2, .int x1), (3, .int x2)] := hl
  refine lv_iload_n hx hb dX5_combined_0 rfl (lv_at hl 1 rfl) ?_
  by_cases h1 : x = 44
  · subst h1
    refine lv_tableIn (tgt := 100) (off := 99) hx hb dX5_combined_1 (by decide) (by decide) (by decide) (by decide) ?_
    refine lv_iload_n hx hb dX5_combined_100 rfl (lv_at hl 2 rfl) ?_
    refine lv_iload_n hx hb dX5_combined_101 rfl (lv_at hl 3 rfl) ?_
    refine lv_iadd hx hb dX5_combined_102 ?_
    refine lv_topi (fun x3 e4 => ?_)
    have hz5 : CmQ (44 : Int32) x1 x2 x3 := ⟨(fun z => absurd z (by decide)), (fun z => absurd z (by decide)), (fun z => absurd z (by decide))⟩
    have hO : OKW G h0 a F R Z B J T Pi w := hO.to rfl
    exact W.iret (v := x3) hx hb hr (fun t99 ht99 hW99 => ⟨⟨_, (w, x3), rfl, ⟨rfl, hz5, hO⟩, by rw [ht99]; exact hP, hD⟩, hS.F ht99⟩) hS.2.2 dX5_combined_103
  by_cases h6 : x = 45
  · subst h6
    refine lv_tableIn (tgt := 104) (off := 103) hx hb dX5_combined_1 (by decide) (by decide) (by decide) (by decide) ?_
    refine lv_iload_n hx hb dX5_combined_104 rfl (lv_at hl 2 rfl) ?_
    refine lv_iload_n hx hb dX5_combined_105 rfl (lv_at hl 3 rfl) ?_
    refine lv_isub hx hb dX5_combined_106 ?_
    refine lv_topi (fun x7 e8 => ?_)
    have hz9 : CmQ (45 : Int32) x1 x2 x7 := ⟨(fun z => absurd z (by decide)), (fun z => absurd z (by decide)), (fun z => absurd z (by decide))⟩
    have hO : OKW G h0 a F R Z B J T Pi w := hO.to rfl
    exact W.iret (v := x7) hx hb hr (fun t99 ht99 hW99 => ⟨⟨_, (w, x7), rfl, ⟨rfl, hz9, hO⟩, by rw [ht99]; exact hP, hD⟩, hS.F ht99⟩) hS.2.2 dX5_combined_107
  by_cases h10 : x = 46
  · subst h10
    refine lv_tableIn (tgt := 108) (off := 107) hx hb dX5_combined_1 (by decide) (by decide) (by decide) (by decide) ?_
    refine lv_iload_n hx hb dX5_combined_108 rfl (lv_at hl 2 rfl) ?_
    refine lv_iload_n hx hb dX5_combined_109 rfl (lv_at hl 3 rfl) ?_
    refine lv_imul hx hb dX5_combined_110 ?_
    refine lv_topi (fun x11 e12 => ?_)
    have hz13 : CmQ (46 : Int32) x1 x2 x11 := ⟨(fun z => absurd z (by decide)), (fun z => absurd z (by decide)), (fun z => absurd z (by decide))⟩
    have hO : OKW G h0 a F R Z B J T Pi w := hO.to rfl
    exact W.iret (v := x11) hx hb hr (fun t99 ht99 hW99 => ⟨⟨_, (w, x11), rfl, ⟨rfl, hz13, hO⟩, by rw [ht99]; exact hP, hD⟩, hS.F ht99⟩) hS.2.2 dX5_combined_111
  by_cases h14 : x = 47
  · subst h14
    refine lv_tableIn (tgt := 136) (off := 135) hx hb dX5_combined_1 (by decide) (by decide) (by decide) (by decide) ?_
    exact absurd hcm (by unfold CmK; decide)
  by_cases h15 : x = 48
  · subst h15
    refine lv_tableIn (tgt := 136) (off := 135) hx hb dX5_combined_1 (by decide) (by decide) (by decide) (by decide) ?_
    exact absurd hcm (by unfold CmK; decide)
  by_cases h16 : x = 49
  · subst h16
    refine lv_tableIn (tgt := 112) (off := 111) hx hb dX5_combined_1 (by decide) (by decide) (by decide) (by decide) ?_
    refine lv_iload_n hx hb dX5_combined_112 rfl (lv_at hl 2 rfl) ?_
    refine lv_iload_n hx hb dX5_combined_113 rfl (lv_at hl 3 rfl) ?_
    refine lv_iand hx hb dX5_combined_114 ?_
    refine lv_topi (fun x17 e18 => ?_)
    have hz19 : CmQ (49 : Int32) x1 x2 x17 := ⟨(fun _ => e18), (fun z => absurd z (by decide)), (fun z => absurd z (by decide))⟩
    have hO : OKW G h0 a F R Z B J T Pi w := hO.to rfl
    exact W.iret (v := x17) hx hb hr (fun t99 ht99 hW99 => ⟨⟨_, (w, x17), rfl, ⟨rfl, hz19, hO⟩, by rw [ht99]; exact hP, hD⟩, hS.F ht99⟩) hS.2.2 dX5_combined_115
  by_cases h20 : x = 50
  · subst h20
    refine lv_tableIn (tgt := 116) (off := 115) hx hb dX5_combined_1 (by decide) (by decide) (by decide) (by decide) ?_
    refine lv_iload_n hx hb dX5_combined_116 rfl (lv_at hl 2 rfl) ?_
    refine lv_iload_n hx hb dX5_combined_117 rfl (lv_at hl 3 rfl) ?_
    refine lv_ior hx hb dX5_combined_118 ?_
    refine lv_topi (fun x21 e22 => ?_)
    have hz23 : CmQ (50 : Int32) x1 x2 x21 := ⟨(fun z => absurd z (by decide)), (fun _ => e22), (fun z => absurd z (by decide))⟩
    have hO : OKW G h0 a F R Z B J T Pi w := hO.to rfl
    exact W.iret (v := x21) hx hb hr (fun t99 ht99 hW99 => ⟨⟨_, (w, x21), rfl, ⟨rfl, hz23, hO⟩, by rw [ht99]; exact hP, hD⟩, hS.F ht99⟩) hS.2.2 dX5_combined_119
  by_cases h24 : x = 51
  · subst h24
    refine lv_tableIn (tgt := 120) (off := 119) hx hb dX5_combined_1 (by decide) (by decide) (by decide) (by decide) ?_
    refine lv_iload_n hx hb dX5_combined_120 rfl (lv_at hl 2 rfl) ?_
    refine lv_iload_n hx hb dX5_combined_121 rfl (lv_at hl 3 rfl) ?_
    refine lv_ixor hx hb dX5_combined_122 ?_
    refine lv_topi (fun x25 e26 => ?_)
    have hz27 : CmQ (51 : Int32) x1 x2 x25 := ⟨(fun z => absurd z (by decide)), (fun z => absurd z (by decide)), (fun _ => e26)⟩
    have hO : OKW G h0 a F R Z B J T Pi w := hO.to rfl
    exact W.iret (v := x25) hx hb hr (fun t99 ht99 hW99 => ⟨⟨_, (w, x25), rfl, ⟨rfl, hz27, hO⟩, by rw [ht99]; exact hP, hD⟩, hS.F ht99⟩) hS.2.2 dX5_combined_123
  by_cases h28 : x = 52
  · subst h28
    refine lv_tableIn (tgt := 136) (off := 135) hx hb dX5_combined_1 (by decide) (by decide) (by decide) (by decide) ?_
    exact absurd hcm (by unfold CmK; decide)
  by_cases h29 : x = 53
  · subst h29
    refine lv_tableIn (tgt := 136) (off := 135) hx hb dX5_combined_1 (by decide) (by decide) (by decide) (by decide) ?_
    exact absurd hcm (by unfold CmK; decide)
  by_cases h30 : x = 54
  · subst h30
    refine lv_tableIn (tgt := 136) (off := 135) hx hb dX5_combined_1 (by decide) (by decide) (by decide) (by decide) ?_
    exact absurd hcm (by unfold CmK; decide)
  by_cases h31 : x = 55
  · subst h31
    refine lv_tableIn (tgt := 136) (off := 135) hx hb dX5_combined_1 (by decide) (by decide) (by decide) (by decide) ?_
    exact absurd hcm (by unfold CmK; decide)
  by_cases h32 : x = 56
  · subst h32
    refine lv_tableIn (tgt := 136) (off := 135) hx hb dX5_combined_1 (by decide) (by decide) (by decide) (by decide) ?_
    exact absurd hcm (by unfold CmK; decide)
  by_cases h33 : x = 57
  · subst h33
    refine lv_tableIn (tgt := 136) (off := 135) hx hb dX5_combined_1 (by decide) (by decide) (by decide) (by decide) ?_
    exact absurd hcm (by unfold CmK; decide)
  by_cases h34 : x = 58
  · subst h34
    refine lv_tableIn (tgt := 136) (off := 135) hx hb dX5_combined_1 (by decide) (by decide) (by decide) (by decide) ?_
    exact absurd hcm (by unfold CmK; decide)
  by_cases h35 : x = 59
  · subst h35
    refine lv_tableIn (tgt := 136) (off := 135) hx hb dX5_combined_1 (by decide) (by decide) (by decide) (by decide) ?_
    exact absurd hcm (by unfold CmK; decide)
  by_cases h36 : x = 60
  · subst h36
    refine lv_tableIn (tgt := 136) (off := 135) hx hb dX5_combined_1 (by decide) (by decide) (by decide) (by decide) ?_
    exact absurd hcm (by unfold CmK; decide)
  by_cases h37 : x = 61
  · subst h37
    refine lv_tableIn (tgt := 136) (off := 135) hx hb dX5_combined_1 (by decide) (by decide) (by decide) (by decide) ?_
    exact absurd hcm (by unfold CmK; decide)
  by_cases h38 : x = 62
  · subst h38
    refine lv_tableIn (tgt := 124) (off := 123) hx hb dX5_combined_1 (by decide) (by decide) (by decide) (by decide) ?_
    refine lv_iload_n hx hb dX5_combined_124 rfl (lv_at hl 2 rfl) ?_
    refine lv_iload_n hx hb dX5_combined_125 rfl (lv_at hl 3 rfl) ?_
    refine lv_ishl hx hb dX5_combined_126 ?_
    refine lv_topi (fun x39 e40 => ?_)
    have hz41 : CmQ (62 : Int32) x1 x2 x39 := ⟨(fun z => absurd z (by decide)), (fun z => absurd z (by decide)), (fun z => absurd z (by decide))⟩
    have hO : OKW G h0 a F R Z B J T Pi w := hO.to rfl
    exact W.iret (v := x39) hx hb hr (fun t99 ht99 hW99 => ⟨⟨_, (w, x39), rfl, ⟨rfl, hz41, hO⟩, by rw [ht99]; exact hP, hD⟩, hS.F ht99⟩) hS.2.2 dX5_combined_127
  by_cases h42 : x = 63
  · subst h42
    refine lv_tableIn (tgt := 128) (off := 127) hx hb dX5_combined_1 (by decide) (by decide) (by decide) (by decide) ?_
    refine lv_iload_n hx hb dX5_combined_128 rfl (lv_at hl 2 rfl) ?_
    refine lv_iload_n hx hb dX5_combined_129 rfl (lv_at hl 3 rfl) ?_
    refine lv_ishr hx hb dX5_combined_130 ?_
    refine lv_topi (fun x43 e44 => ?_)
    have hz45 : CmQ (63 : Int32) x1 x2 x43 := ⟨(fun z => absurd z (by decide)), (fun z => absurd z (by decide)), (fun z => absurd z (by decide))⟩
    have hO : OKW G h0 a F R Z B J T Pi w := hO.to rfl
    exact W.iret (v := x43) hx hb hr (fun t99 ht99 hW99 => ⟨⟨_, (w, x43), rfl, ⟨rfl, hz45, hO⟩, by rw [ht99]; exact hP, hD⟩, hS.F ht99⟩) hS.2.2 dX5_combined_131
  by_cases h46 : x = 64
  · subst h46
    refine lv_tableIn (tgt := 132) (off := 131) hx hb dX5_combined_1 (by decide) (by decide) (by decide) (by decide) ?_
    refine lv_iload_n hx hb dX5_combined_132 rfl (lv_at hl 2 rfl) ?_
    refine lv_iload_n hx hb dX5_combined_133 rfl (lv_at hl 3 rfl) ?_
    refine lv_iushr hx hb dX5_combined_134 rfl ?_
    refine lv_topi (fun x47 e48 => ?_)
    have hz49 : CmQ (64 : Int32) x1 x2 x47 := ⟨(fun z => absurd z (by decide)), (fun z => absurd z (by decide)), (fun z => absurd z (by decide))⟩
    have hO : OKW G h0 a F R Z B J T Pi w := hO.to rfl
    exact W.iret (v := x47) hx hb hr (fun t99 ht99 hW99 => ⟨⟨_, (w, x47), rfl, ⟨rfl, hz49, hO⟩, by rw [ht99]; exact hP, hD⟩, hS.F ht99⟩) hS.2.2 dX5_combined_135
  refine lv_tableOut (tgt := 136) hx hb dX5_combined_1 (sw_m44_64 h1 h6 h10 h14 h15 h16 h20 h24 h28 h29 h30 h31 h32 h33 h34 h35 h36 h37 h38 h42 h46) (by decide) ?_
  exact (CmK.out hcm h1 h6 h10 h16 h20 h24 h38 h42 h46).elim
set_option maxHeartbeats 2000000 in
set_option maxRecDepth 100000 in
theorem Y_divide (l : Launch) (G : pT) (h0 : Nat) (a : Nat → Nat) (F : Nat → Int32) (R : Nat → Value) (Z : Int64) (B : Nat → Nat → Int32) (J : Nat → Nat → Int64) (T : Nat → Nat) (Pi : Nat → va_E → Prop) (w : va_W) (b9 : Nat) (x1 : Int32) (x2 : Int32) (tp : Nat) (hb9 : b9 ≤ 1) (htp : tp < 32000) (hO : OKW G h0 a (upd F 19 (nI tp)) R Z B J T Pi w) : PM l G pX0 yX5_divide cX5_divide 4 none ({ frames := 4, cells := 0, slots := 0, locals := 103 }) [.ref (a 5), .int (nI b9), .int x1, .int x2] w (fun (v : Option Value) (u : va_W × (Nat × Int64 × (Nat → Nat → Int64))) => v = none ∧ ((u.2.2.1 = Z ∧ u.2.1 = tp + 1 ∧ ∃ r : Int32, u.2.2.2 29 = vp_updL (J 29) tp (nmV r)) ∨ (u.2.2.1 = rfV 3 ∧ u.2.1 = tp ∧ u.2.2.2 29 = J 29)) ∧ (u.2.2.2 34 = J 34 ∧ u.2.2.2 35 = J 35) ∧ (u.2.1 ≤ 32000) ∧ (OKW G h0 a (upd F 19 (nI u.2.1)) R u.2.2.1 B u.2.2.2 T Pi u.1)) (fun u => u.1) := by
  intro sz
  refine Met.ofW (cc := cX5_divide) (maxL := 4) (ret := none) (by decide) rfl ?_
  intro p e s m args below meth c s₁ B9 hml hv
  obtain ⟨rfl, hsz, hP, hD0, hE, hX⟩ := hv
  have hx := B9.exec
  have hb := B9.bytes
  have hr := B9.returns
  have hts := atoms_spec (ws := Cond.code yX5_divide cX5_divide 4 none :: pw) B9.pre
  have hq : ∀ w ∈ pw, w.before _ s = true := fun w h => hts w (List.mem_cons_of_mem _ h)
  have hown : s.vm.findClass RX5 = some m.cls := findClass_of_methodNamed B9.named
  have hlocks := B9.notSynchronized
  subst hsz
  have hD := hD0.self (sz := s.heap.size)
  have hA : ∀ q : Nat, s.heap.size ≤ q → va_A w s.heap.size q := fun q h => Or.inr h
  generalize va_A w s.heap.size = A at hD hE hA ⊢
  have hS : va_S A s.heap s.heap [] := va_S.rf
  have hl := lv_entry ([.ref (a 5), .int (nI b9), .int x1, .int x2]) (n := 4) (Nat.le_of_ble_eq_true rfl)
  rw [lg_entry_eq]
  generalize (lg_sl ([.ref (a 5), .int (nI b9), .int x1, .int x2]) ++ List.replicate (4 - (lg_sl ([.ref (a 5), .int (nI b9), .int x1, .int x2])).length) Slot.unset).toArray = ls at hl ⊢
  have hl : lv_has ls 4 [(0, .ref (a 5)), (1, .int (nI b9)), (2, .int x1), (3, .int x2)] := hl
  refine lv_iload_n hx hb dX5_divide_0 rfl (lv_at hl 3 rfl) ?_
  refine lv_if_ne (tgt := 12) hx hb dX5_divide_1 (by decide) (fun c1 => ?_) (fun c1 => ?_)
  · refine lv_aload_n hx hb dX5_divide_12 rfl (lv_at hl 0 rfl) ?_
    refine lv_iload_n hx hb dX5_divide_13 rfl (lv_at hl 1 rfl) ?_
    refine lv_if_eq (tgt := 23) hx hb dX5_divide_14 (by decide) (fun c2 => ?_) (fun c2 => ?_)
    · have n3 : b9 = 0 := (nI_eq (a := b9) (b := 0) (by omega) (by omega)).mp c2
      refine lv_iload_n hx hb dX5_divide_23 rfl (lv_at hl 2 rfl) ?_
      refine lv_iload_n hx hb dX5_divide_24 rfl (lv_at hl 3 rfl) ?_
      refine lv_irem hx hb dX5_divide_25 c1 ?_
      refine lv_topi (fun x4 e5 => ?_)
      have hO : OKW G h0 a (upd (upd F 19 (nI tp)) 19 (nI tp)) R Z B J T Pi w := hO.to rfl
      obtain ⟨_, qr9, hqr10⟩ := hO.2.1 28 _ (sg_28 G h0 a _ _ _ _ _)
      refine pc_V0 (G := G) (As := [.int x4]) (rest := []) hx hb hml hown hq hE hX pX0_al hP hD hS hA hl.1 (Y_pushNumber l G h0 a (upd F 19 (nI tp)) R Z B J T Pi w x4 tp (by omega) hO) (gV pw_605 pw_606 pw_607 pw_539 pw_602) hV_X5_pushNumber qr9 4 hqr10 rfl rfl rfl (Nat.le_of_ble_eq_true rfl) dX5_divide_26 ⟨Nat.le_of_ble_eq_true rfl, Nat.le_of_ble_eq_true rfl⟩ ⟨Nat.le_of_ble_eq_true rfl, Nat.le_of_ble_eq_true rfl⟩ (fun v8 u6 H locs hw7 hP hD hS => ?_)
      obtain ⟨w, _⟩ := u6
      obtain ⟨hw7, hO⟩ := hw7
      obtain rfl : v8 = none := hw7
      have hO : OKW G h0 a (upd F 19 (nI (tp + 1))) R Z B (updJ J 29 (vp_updL ((J 29)) tp (nmV x4))) T Pi w := hO.to rfl
      refine W.widen (k := 0) (n := 0) (Nat.le_of_ble_eq_true rfl) (Nat.le_of_ble_eq_true rfl) ?_
      refine W.eq (g2 := F0 m 29 ls []) rfl ?_
      have hz11 : (Z = Z ∧ (tp + 1) = tp + 1 ∧ ∃ r : Int32, (updJ J 29 (vp_updL ((J 29)) tp (nmV x4))) 29 = vp_updL (J 29) tp (nmV r)) ∨ (Z = rfV 3 ∧ (tp + 1) = tp ∧ (updJ J 29 (vp_updL ((J 29)) tp (nmV x4))) 29 = J 29) := (Or.inl ⟨rfl, rfl, _, rfl⟩)
      have hz12 : (updJ J 29 (vp_updL ((J 29)) tp (nmV x4))) 34 = J 34 ∧ (updJ J 29 (vp_updL ((J 29)) tp (nmV x4))) 35 = J 35 := ⟨rfl, rfl⟩
      have hz13 : (tp + 1) ≤ 32000 := (by omega)
      have hO : OKW G h0 a (upd F 19 (nI (tp + 1))) R Z B (updJ J 29 (vp_updL ((J 29)) tp (nmV x4))) T Pi w := hO.to rfl
      exact W.vret hx hb hr (fun t99 ht99 hW99 => ⟨⟨_, (w, ((tp + 1), Z, (updJ J 29 (vp_updL ((J 29)) tp (nmV x4))))), rfl, ⟨rfl, hz11, hz12, hz13, hO⟩, by rw [ht99]; exact hP, hD⟩, hS.F ht99⟩) hS.2.2 dX5_divide_29
    · have n14 : ¬ (b9 = 0) := fun h9 => c2 ((nI_eq (a := b9) (b := 0) (by omega) (by omega)).mpr h9)
      refine lv_iload_n hx hb dX5_divide_17 rfl (lv_at hl 2 rfl) ?_
      refine lv_iload_n hx hb dX5_divide_18 rfl (lv_at hl 3 rfl) ?_
      refine lv_idiv hx hb dX5_divide_19 c1 ?_
      refine lv_topi (fun x15 e16 => ?_)
      refine lv_goto (tgt := 26) hx hb dX5_divide_20 (by decide) ?_
      have hO : OKW G h0 a (upd (upd F 19 (nI tp)) 19 (nI tp)) R Z B J T Pi w := hO.to rfl
      obtain ⟨_, qr20, hqr21⟩ := hO.2.1 28 _ (sg_28 G h0 a _ _ _ _ _)
      refine pc_V0 (G := G) (As := [.int x15]) (rest := []) hx hb hml hown hq hE hX pX0_al hP hD hS hA hl.1 (Y_pushNumber l G h0 a (upd F 19 (nI tp)) R Z B J T Pi w x15 tp (by omega) hO) (gV pw_605 pw_606 pw_607 pw_539 pw_602) hV_X5_pushNumber qr20 4 hqr21 rfl rfl rfl (Nat.le_of_ble_eq_true rfl) dX5_divide_26 ⟨Nat.le_of_ble_eq_true rfl, Nat.le_of_ble_eq_true rfl⟩ ⟨Nat.le_of_ble_eq_true rfl, Nat.le_of_ble_eq_true rfl⟩ (fun v19 u17 H locs hw18 hP hD hS => ?_)
      obtain ⟨w, _⟩ := u17
      obtain ⟨hw18, hO⟩ := hw18
      obtain rfl : v19 = none := hw18
      have hO : OKW G h0 a (upd F 19 (nI (tp + 1))) R Z B (updJ J 29 (vp_updL ((J 29)) tp (nmV x15))) T Pi w := hO.to rfl
      refine W.widen (k := 0) (n := 0) (Nat.le_of_ble_eq_true rfl) (Nat.le_of_ble_eq_true rfl) ?_
      refine W.eq (g2 := F0 m 29 ls []) rfl ?_
      have hz22 : (Z = Z ∧ (tp + 1) = tp + 1 ∧ ∃ r : Int32, (updJ J 29 (vp_updL ((J 29)) tp (nmV x15))) 29 = vp_updL (J 29) tp (nmV r)) ∨ (Z = rfV 3 ∧ (tp + 1) = tp ∧ (updJ J 29 (vp_updL ((J 29)) tp (nmV x15))) 29 = J 29) := (Or.inl ⟨rfl, rfl, _, rfl⟩)
      have hz23 : (updJ J 29 (vp_updL ((J 29)) tp (nmV x15))) 34 = J 34 ∧ (updJ J 29 (vp_updL ((J 29)) tp (nmV x15))) 35 = J 35 := ⟨rfl, rfl⟩
      have hz24 : (tp + 1) ≤ 32000 := (by omega)
      have hO : OKW G h0 a (upd F 19 (nI (tp + 1))) R Z B (updJ J 29 (vp_updL ((J 29)) tp (nmV x15))) T Pi w := hO.to rfl
      exact W.vret hx hb hr (fun t99 ht99 hW99 => ⟨⟨_, (w, ((tp + 1), Z, (updJ J 29 (vp_updL ((J 29)) tp (nmV x15))))), rfl, ⟨rfl, hz22, hz23, hz24, hO⟩, by rw [ht99]; exact hP, hD⟩, hS.F ht99⟩) hS.2.2 dX5_divide_29
  · refine lv_aload_n hx hb dX5_divide_4 rfl (lv_at hl 0 rfl) ?_
    refine lv_iconst (v := 3) hx hb dX5_divide_5 (by decide) ?_
    have hO : OKW G h0 a (upd F 19 (nI tp)) R Z B J T Pi w := hO.to rfl
    obtain ⟨_, qr28, hqr29⟩ := hO.2.1 28 _ (sg_28 G h0 a _ _ _ _ _)
    refine pc_V0 (G := G) (As := [.int (nI 3)]) (rest := []) hx hb hml hown hq hE hX pX0_al hP hD hS hA hl.1 (Y_raise l G h0 a (upd F 19 (nI tp)) R Z B J T Pi w 3 (by omega) hO) (gV pw_570 pw_571 pw_572 pw_539 pw_561) hV_X5_raise qr28 4 hqr29 rfl rfl rfl (Nat.le_of_ble_eq_true rfl) dX5_divide_6 ⟨Nat.le_of_ble_eq_true rfl, Nat.le_of_ble_eq_true rfl⟩ ⟨Nat.le_of_ble_eq_true rfl, Nat.le_of_ble_eq_true rfl⟩ (fun v27 u25 H locs hw26 hP hD hS => ?_)
    obtain ⟨w, _⟩ := u25
    obtain ⟨hw26, hO⟩ := hw26
    obtain rfl : v27 = none := hw26
    have hO : OKW G h0 a (upd F 19 (nI tp)) R (rfV 3) B J T Pi w := hO.to rfl
    refine W.widen (k := 0) (n := 0) (Nat.le_of_ble_eq_true rfl) (Nat.le_of_ble_eq_true rfl) ?_
    refine W.eq (g2 := F0 m 9 ls []) rfl ?_
    refine lv_goto (tgt := 29) hx hb dX5_divide_9 (by decide) ?_
    have hz30 : ((rfV 3) = Z ∧ tp = tp + 1 ∧ ∃ r : Int32, J 29 = vp_updL (J 29) tp (nmV r)) ∨ ((rfV 3) = rfV 3 ∧ tp = tp ∧ J 29 = J 29) := (Or.inr ⟨rfl, rfl, rfl⟩)
    have hz31 : J 34 = J 34 ∧ J 35 = J 35 := ⟨rfl, rfl⟩
    have hz32 : tp ≤ 32000 := (by omega)
    have hO : OKW G h0 a (upd F 19 (nI tp)) R (rfV 3) B J T Pi w := hO.to rfl
    exact W.vret hx hb hr (fun t99 ht99 hW99 => ⟨⟨_, (w, (tp, (rfV 3), J)), rfl, ⟨rfl, hz30, hz31, hz32, hO⟩, by rw [ht99]; exact hP, hD⟩, hS.F ht99⟩) hS.2.2 dX5_divide_29
set_option maxHeartbeats 30000000 in
set_option maxRecDepth 100000 in
theorem Y_sign (l : Launch) (G : pT) (h0 : Nat) (a : Nat → Nat) (F : Nat → Int32) (R : Nat → Value) (Z : Int64) (B : Nat → Nat → Int32) (J : Nat → Nat → Int64) (T : Nat → Nat) (Pi : Nat → va_E → Prop) (w : va_W) (y : TY) (Sh : Nat → Nat) (nn : Nat → Nat) (on : Nat) (j9 : Nat) (ba : Nat) (pc : Nat) (tp : Nat) (sp : Nat) (op : Nat) (ht : Nat) (fl : Nat) (hsp : (sp = 34 ∧ op = 35) ∨ (sp = 35 ∧ op = 34)) (hmi : MIy y (B 19) Sh nn (J sp) ht (B 30) (J 29) on j9 ba pc tp) (hmo : MOy y (B 16) (B 17) (B 18) (B 19) j9) (hZ : Z = 0) (hfl : B 33 5 = nI fl) (hflb : fl ≤ 20000) (hop : B 16 pc = nI 10) (hru : IRy y (B 16) (B 17) (B 18) pc j9 10) (hO : OKW G h0 a (upd (upd (upd (upd (upd (upd F 18 (nI ba)) 19 (nI tp)) 20 (nI pc)) 21 (nI (pc + 1))) 23 5) 26 (nI ht)) (updR (updR R 7 (.ref (a sp))) 8 (.ref (a op))) Z B J T Pi w) : PM l G pX0 yX5_sign cX5_sign 8 none ({ frames := 5, cells := 0, slots := 0, locals := 126 }) [.ref (a 5), .int (B 17 pc)] w (fun (v : Option Value) (u : va_W × (Nat × Int32 × Int32 × Int64 × (Nat → Nat → Int64) × (Nat → Int32) × (Nat → Int32) × Nat)) => v = none ∧ (StQ y (B 19) Sh nn (J sp) ht (B 30) (B 16) on j9 ba pc fl u.2.1 u.2.2.1 u.2.2.2.1 u.2.2.2.2.1 (u.2.2.2.2.2.1 29) u.2.2.2.2.2.2.2.2) ∧ (u.2.2.2.2.2.1 34 = J 34 ∧ u.2.2.2.2.2.1 35 = J 35) ∧ (u.2.2.2.2.2.2.1 5 = nI u.2.2.2.2.2.2.2.2) ∧ (u.2.2.2.2.2.2.2.2 ≤ fl ∧ u.2.1 ≤ 32000) ∧ (OKW G h0 a (upd (upd (upd (upd (upd (upd F 18 (nI ba)) 19 (nI u.2.1)) 20 (nI pc)) 21 u.2.2.2.1) 23 u.2.2.1) 26 (nI ht)) (updR (updR R 7 (.ref (a sp))) 8 (.ref (a op))) u.2.2.2.2.1 (updA (updA B 32 u.2.2.2.2.2.2.2.1) 33 u.2.2.2.2.2.2.1) u.2.2.2.2.2.1 T Pi u.1)) (fun u => u.1) := by
  intro sz
  refine Met.ofW (cc := cX5_sign) (maxL := 8) (ret := none) (by decide) rfl ?_
  intro p e s m args below meth c s₁ B9 hml hv
  obtain ⟨rfl, hsz, hP, hD0, hE, hX⟩ := hv
  have hx := B9.exec
  have hb := B9.bytes
  have hr := B9.returns
  have hts := atoms_spec (ws := Cond.code yX5_sign cX5_sign 8 none :: pw) B9.pre
  have hq : ∀ w ∈ pw, w.before _ s = true := fun w h => hts w (List.mem_cons_of_mem _ h)
  have hown : s.vm.findClass RX5 = some m.cls := findClass_of_methodNamed B9.named
  have hlocks := B9.notSynchronized
  subst hsz
  have hD := hD0.self (sz := s.heap.size)
  have hA : ∀ q : Nat, s.heap.size ≤ q → va_A w s.heap.size q := fun q h => Or.inr h
  generalize va_A w s.heap.size = A at hD hE hA ⊢
  have hS : va_S A s.heap s.heap [] := va_S.rf
  have hl := lv_entry ([.ref (a 5), .int (B 17 pc)]) (n := 8) (Nat.le_of_ble_eq_true rfl)
  rw [lg_entry_eq]
  generalize (lg_sl ([.ref (a 5), .int (B 17 pc)]) ++ List.replicate (8 - (lg_sl ([.ref (a 5), .int (B 17 pc)])).length) Slot.unset).toArray = ls at hl ⊢
  have hl : lv_has ls 8 [(0, .ref (a 5)), (1, .int (B 17 pc))] := hl
  obtain ⟨hn1, hn2, hn3, hn4, hn5, hn6, hn7, hn8, hn9, hn10, hn11, hn12⟩ := MIy.nums hmi hmo
  have hlo := FFy.lo hmi.ff
  obtain ⟨t2, t1, u9, os, r1, r2, r3⟩ := hru
  obtain ⟨hv1, hv2, hv3, hv4⟩ := FFy.pop hmi.ff r1
  obtain ⟨hu1, hu2, hu3, hu4⟩ := FFy.pop hv4 (show (wos (t1 :: os) (yA y j9 pc)).2.2.2 = t1 :: os from rfl)
  obtain ⟨kd, hkd⟩ : ∃ z : Int32, z = B 17 pc := ⟨_, rfl⟩
  rw [← hkd] at hl r2
  refine lv_aload_n hx hb dX5_sign_0 rfl (lv_at hl 0 rfl) ?_
  have hO : OKW G h0 a (upd (upd (upd (upd (upd (upd (upd F 18 (nI ba)) 19 (nI tp)) 20 (nI pc)) 21 (nI (pc + 1))) 23 5) 26 (nI ht)) 19 (nI tp)) (updR (updR R 7 (.ref (a sp))) 8 (.ref (a op))) Z B J T Pi w := hO.to rfl
  obtain ⟨_, qr4, hqr5⟩ := hO.2.1 28 _ (sg_28 G h0 a _ _ _ _ _)
  refine pc_V0 (G := G) (As := []) (rest := []) hx hb hml hown hq hE hX pX0_al hP hD hS hA hl.1 (Y_pop l G h0 a (upd (upd (upd (upd (upd (upd F 18 (nI ba)) 19 (nI tp)) 20 (nI pc)) 21 (nI (pc + 1))) 23 5) 26 (nI ht)) (updR (updR R 7 (.ref (a sp))) 8 (.ref (a op))) Z B J T Pi w tp (by omega) hO) (gV pw_598 pw_599 pw_600 pw_539 pw_595) hV_X5_pop qr4 4 hqr5 rfl rfl rfl (Nat.le_of_ble_eq_true rfl) dX5_sign_1 ⟨Nat.le_of_ble_eq_true rfl, Nat.le_of_ble_eq_true rfl⟩ ⟨Nat.le_of_ble_eq_true rfl, Nat.le_of_ble_eq_true rfl⟩ (fun v3 u1 H locs hw2 hP hD hS => ?_)
  obtain ⟨w, _⟩ := u1
  obtain ⟨hw2, hO⟩ := hw2
  obtain rfl : v3 = some (.long ((J 29) (tp - 1))) := hw2
  have hO : OKW G h0 a (upd (upd (upd (upd (upd (upd F 18 (nI ba)) 19 (nI (tp - 1))) 20 (nI pc)) 21 (nI (pc + 1))) 23 5) 26 (nI ht)) (updR (updR R 7 (.ref (a sp))) 8 (.ref (a op))) Z B J T Pi w := hO.to rfl
  refine W.widen (k := 0) (n := 0) (Nat.le_of_ble_eq_true rfl) (Nat.le_of_ble_eq_true rfl) ?_
  refine W.eq (g2 := F0 m 4 ls [.long ((J 29) (tp - 1))]) rfl ?_
  refine lv_lstore_n (lv' := [(2, .long ((J 29) (tp - 1))), (0, .ref (a 5)), (1, .int kd)]) hx hb dX5_sign_4 rfl hl (by decide) rfl (fun ls hl => ?_)
  refine lv_aload_n hx hb dX5_sign_5 rfl (lv_at hl 1 rfl) ?_
  have hO : OKW G h0 a (upd (upd (upd (upd (upd (upd (upd F 18 (nI ba)) 19 (nI (tp - 1))) 20 (nI pc)) 21 (nI (pc + 1))) 23 5) 26 (nI ht)) 19 (nI (tp - 1))) (updR (updR R 7 (.ref (a sp))) 8 (.ref (a op))) Z B J T Pi w := hO.to rfl
  obtain ⟨_, qr9, hqr10⟩ := hO.2.1 28 _ (sg_28 G h0 a _ _ _ _ _)
  refine pc_V0 (G := G) (As := []) (rest := []) hx hb hml hown hq hE hX pX0_al hP hD hS hA hl.1 (Y_pop l G h0 a (upd (upd (upd (upd (upd (upd F 18 (nI ba)) 19 (nI (tp - 1))) 20 (nI pc)) 21 (nI (pc + 1))) 23 5) 26 (nI ht)) (updR (updR R 7 (.ref (a sp))) 8 (.ref (a op))) Z B J T Pi w (tp - 1) (by omega) hO) (gV pw_598 pw_599 pw_600 pw_539 pw_595) hV_X5_pop qr9 4 hqr10 rfl rfl rfl (Nat.le_of_ble_eq_true rfl) dX5_sign_6 ⟨Nat.le_of_ble_eq_true rfl, Nat.le_of_ble_eq_true rfl⟩ ⟨Nat.le_of_ble_eq_true rfl, Nat.le_of_ble_eq_true rfl⟩ (fun v8 u6 H locs hw7 hP hD hS => ?_)
  obtain ⟨w, _⟩ := u6
  obtain ⟨hw7, hO⟩ := hw7
  obtain rfl : v8 = some (.long ((J 29) ((tp - 1) - 1))) := hw7
  have hO : OKW G h0 a (upd (upd (upd (upd (upd (upd F 18 (nI ba)) 19 (nI ((tp - 1) - 1))) 20 (nI pc)) 21 (nI (pc + 1))) 23 5) 26 (nI ht)) (updR (updR R 7 (.ref (a sp))) 8 (.ref (a op))) Z B J T Pi w := hO.to rfl
  refine W.widen (k := 0) (n := 0) (Nat.le_of_ble_eq_true rfl) (Nat.le_of_ble_eq_true rfl) ?_
  refine W.eq (g2 := F0 m 9 ls [.long ((J 29) ((tp - 1) - 1))]) rfl ?_
  refine lv_lstore (lv' := [(4, .long ((J 29) ((tp - 1) - 1))), (2, .long ((J 29) (tp - 1))), (0, .ref (a 5)), (1, .int kd)]) hx hb dX5_sign_9 hl (by decide) rfl (fun ls hl => ?_)
  refine lv_lload_n hx hb dX5_sign_11 rfl (lv_at hl 1 rfl) ?_
  refine lv_l2i hx hb dX5_sign_12 rfl ?_
  refine lv_topi (fun x11 e12 => ?_)
  refine lv_istore (lv' := [(6, .int x11), (4, .long ((J 29) ((tp - 1) - 1))), (2, .long ((J 29) (tp - 1))), (0, .ref (a 5)), (1, .int kd)]) hx hb dX5_sign_13 hl (by decide) rfl (fun ls hl => ?_)
  refine lv_lload hx hb dX5_sign_15 (lv_at hl 1 rfl) ?_
  refine lv_l2i hx hb dX5_sign_17 rfl ?_
  refine lv_topi (fun x13 e14 => ?_)
  refine lv_istore (lv' := [(7, .int x13), (6, .int x11), (4, .long ((J 29) ((tp - 1) - 1))), (2, .long ((J 29) (tp - 1))), (0, .ref (a 5)), (1, .int kd)]) hx hb dX5_sign_18 hl (by decide) rfl (fun ls hl => ?_)
  refine lv_iload_n hx hb dX5_sign_20 rfl (lv_at hl 5 rfl) ?_
  by_cases h15 : kd = 47
  · subst h15
    refine lv_tableIn (tgt := 202) (off := 181) hx hb dX5_sign_21 (by decide) (by decide) (by decide) (by decide) ?_
    refine lv_aload_n hx hb dX5_sign_202 rfl (lv_at hl 4 rfl) ?_
    refine lv_iload_n hx hb dX5_sign_203 rfl (lv_at hl 5 rfl) ?_
    refine lv_bipush (v := 47) hx hb dX5_sign_204 (by decide) ?_
    refine lv_icmp_ne (tgt := 213) hx hb dX5_sign_206 (by decide) (fun c16 => absurd c16 (by decide)) (fun c16 => ?_)
    refine lv_iconst (v := 1) hx hb dX5_sign_209 (by decide) ?_
    refine lv_goto (tgt := 214) hx hb dX5_sign_210 (by decide) ?_
    refine lv_iload hx hb dX5_sign_214 (lv_at hl 0 rfl) ?_
    refine lv_iload hx hb dX5_sign_216 (lv_at hl 1 rfl) ?_
    have hO : OKW G h0 a (upd (upd (upd (upd (upd (upd (upd F 18 (nI ba)) 19 (nI ((tp - 1) - 1))) 20 (nI pc)) 21 (nI (pc + 1))) 23 5) 26 (nI ht)) 19 (nI ((tp - 1) - 1))) (updR (updR R 7 (.ref (a sp))) 8 (.ref (a op))) Z B J T Pi w := hO.to rfl
    obtain ⟨_, qr20, hqr21⟩ := hO.2.1 28 _ (sg_28 G h0 a _ _ _ _ _)
    refine pc_V0 (G := G) (As := [.int (nI 1), .int x13, .int x11]) (rest := []) hx hb hml hown hq hE hX pX0_al hP hD hS hA hl.1 (Y_divide l G h0 a (upd (upd (upd (upd (upd (upd F 18 (nI ba)) 19 (nI ((tp - 1) - 1))) 20 (nI pc)) 21 (nI (pc + 1))) 23 5) 26 (nI ht)) (updR (updR R 7 (.ref (a sp))) 8 (.ref (a op))) Z B J T Pi w 1 x13 x11 ((tp - 1) - 1) (by omega) (by omega) hO) (gV pw_612 pw_613 pw_614 pw_539 pw_604) hV_X5_divide qr20 4 hqr21 rfl rfl rfl (Nat.le_of_ble_eq_true rfl) dX5_sign_218 ⟨Nat.le_of_ble_eq_true rfl, Nat.le_of_ble_eq_true rfl⟩ ⟨Nat.le_of_ble_eq_true rfl, Nat.le_of_ble_eq_true rfl⟩ (fun v19 u17 H locs hw18 hP hD hS => ?_)
    obtain ⟨w, tp22, z23, J24⟩ := u17
    obtain ⟨hw18, h25, h26, h27, hO⟩ := hw18
    have h25 : (z23 = Z ∧ tp22 = ((tp - 1) - 1) + 1 ∧ ∃ r : Int32, J24 29 = vp_updL ((J 29)) ((tp - 1) - 1) (nmV r)) ∨ (z23 = rfV 3 ∧ tp22 = ((tp - 1) - 1) ∧ J24 29 = (J 29)) := h25
    have h26 : J24 34 = (J 34) ∧ J24 35 = (J 35) := h26
    have h27 : tp22 ≤ 32000 := h27
    obtain rfl : v19 = none := hw18
    have hO : OKW G h0 a (upd (upd (upd (upd (upd (upd F 18 (nI ba)) 19 (nI tp22)) 20 (nI pc)) 21 (nI (pc + 1))) 23 5) 26 (nI ht)) (updR (updR R 7 (.ref (a sp))) 8 (.ref (a op))) z23 B J24 T Pi w := hO.to rfl
    refine W.widen (k := 0) (n := 0) (Nat.le_of_ble_eq_true rfl) (Nat.le_of_ble_eq_true rfl) ?_
    refine W.eq (g2 := F0 m 221 ls []) rfl ?_
    refine lv_goto (tgt := 237) hx hb dX5_sign_221 (by decide) ?_
    obtain rfl : u9 = 60 := SgT.div r2 (by decide)
    have hou := OuQ.dv (st := J 29) hu4 hmi.2.1 h25
    have hz28 : StQ y (B 19) Sh nn (J sp) ht (B 30) (B 16) on j9 ba pc fl tp22 (5 : Int32) (nI (pc + 1)) z23 (J24 29) fl := (StQ.ou hmi hmo (by rw [hop]; decide) hou r3 (Nat.le_refl _) hZ)
    have hz29 : J24 34 = J 34 ∧ J24 35 = J 35 := h26
    have hz30 : (B 33) 5 = nI fl := hfl
    have hz31 : fl ≤ fl ∧ tp22 ≤ 32000 := (by omega)
    have hO : OKW G h0 a (upd (upd (upd (upd (upd (upd F 18 (nI ba)) 19 (nI tp22)) 20 (nI pc)) 21 (nI (pc + 1))) 23 (5 : Int32)) 26 (nI ht)) (updR (updR R 7 (.ref (a sp))) 8 (.ref (a op))) z23 (updA (updA B 32 (B 32)) 33 (B 33)) J24 T Pi w := hO.to rfl
    exact W.vret hx hb hr (fun t99 ht99 hW99 => ⟨⟨_, (w, (tp22, (5 : Int32), (nI (pc + 1)), z23, J24, (B 33), (B 32), fl)), rfl, ⟨rfl, hz28, hz29, hz30, hz31, hO⟩, by rw [ht99]; exact hP, hD⟩, hS.F ht99⟩) hS.2.2 dX5_sign_237
  by_cases h32 : kd = 48
  · subst h32
    refine lv_tableIn (tgt := 202) (off := 181) hx hb dX5_sign_21 (by decide) (by decide) (by decide) (by decide) ?_
    refine lv_aload_n hx hb dX5_sign_202 rfl (lv_at hl 4 rfl) ?_
    refine lv_iload_n hx hb dX5_sign_203 rfl (lv_at hl 5 rfl) ?_
    refine lv_bipush (v := 47) hx hb dX5_sign_204 (by decide) ?_
    refine lv_icmp_ne (tgt := 213) hx hb dX5_sign_206 (by decide) (fun c33 => ?_) (fun c33 => absurd c33 (by decide))
    refine lv_iconst (v := 0) hx hb dX5_sign_213 (by decide) ?_
    refine lv_iload hx hb dX5_sign_214 (lv_at hl 0 rfl) ?_
    refine lv_iload hx hb dX5_sign_216 (lv_at hl 1 rfl) ?_
    have hO : OKW G h0 a (upd (upd (upd (upd (upd (upd (upd F 18 (nI ba)) 19 (nI ((tp - 1) - 1))) 20 (nI pc)) 21 (nI (pc + 1))) 23 5) 26 (nI ht)) 19 (nI ((tp - 1) - 1))) (updR (updR R 7 (.ref (a sp))) 8 (.ref (a op))) Z B J T Pi w := hO.to rfl
    obtain ⟨_, qr37, hqr38⟩ := hO.2.1 28 _ (sg_28 G h0 a _ _ _ _ _)
    refine pc_V0 (G := G) (As := [.int (nI 0), .int x13, .int x11]) (rest := []) hx hb hml hown hq hE hX pX0_al hP hD hS hA hl.1 (Y_divide l G h0 a (upd (upd (upd (upd (upd (upd F 18 (nI ba)) 19 (nI ((tp - 1) - 1))) 20 (nI pc)) 21 (nI (pc + 1))) 23 5) 26 (nI ht)) (updR (updR R 7 (.ref (a sp))) 8 (.ref (a op))) Z B J T Pi w 0 x13 x11 ((tp - 1) - 1) (by omega) (by omega) hO) (gV pw_612 pw_613 pw_614 pw_539 pw_604) hV_X5_divide qr37 4 hqr38 rfl rfl rfl (Nat.le_of_ble_eq_true rfl) dX5_sign_218 ⟨Nat.le_of_ble_eq_true rfl, Nat.le_of_ble_eq_true rfl⟩ ⟨Nat.le_of_ble_eq_true rfl, Nat.le_of_ble_eq_true rfl⟩ (fun v36 u34 H locs hw35 hP hD hS => ?_)
    obtain ⟨w, tp39, z40, J41⟩ := u34
    obtain ⟨hw35, h42, h43, h44, hO⟩ := hw35
    have h42 : (z40 = Z ∧ tp39 = ((tp - 1) - 1) + 1 ∧ ∃ r : Int32, J41 29 = vp_updL ((J 29)) ((tp - 1) - 1) (nmV r)) ∨ (z40 = rfV 3 ∧ tp39 = ((tp - 1) - 1) ∧ J41 29 = (J 29)) := h42
    have h43 : J41 34 = (J 34) ∧ J41 35 = (J 35) := h43
    have h44 : tp39 ≤ 32000 := h44
    obtain rfl : v36 = none := hw35
    have hO : OKW G h0 a (upd (upd (upd (upd (upd (upd F 18 (nI ba)) 19 (nI tp39)) 20 (nI pc)) 21 (nI (pc + 1))) 23 5) 26 (nI ht)) (updR (updR R 7 (.ref (a sp))) 8 (.ref (a op))) z40 B J41 T Pi w := hO.to rfl
    refine W.widen (k := 0) (n := 0) (Nat.le_of_ble_eq_true rfl) (Nat.le_of_ble_eq_true rfl) ?_
    refine W.eq (g2 := F0 m 221 ls []) rfl ?_
    refine lv_goto (tgt := 237) hx hb dX5_sign_221 (by decide) ?_
    obtain rfl : u9 = 60 := SgT.div r2 (by decide)
    have hou := OuQ.dv (st := J 29) hu4 hmi.2.1 h42
    have hz45 : StQ y (B 19) Sh nn (J sp) ht (B 30) (B 16) on j9 ba pc fl tp39 (5 : Int32) (nI (pc + 1)) z40 (J41 29) fl := (StQ.ou hmi hmo (by rw [hop]; decide) hou r3 (Nat.le_refl _) hZ)
    have hz46 : J41 34 = J 34 ∧ J41 35 = J 35 := h43
    have hz47 : (B 33) 5 = nI fl := hfl
    have hz48 : fl ≤ fl ∧ tp39 ≤ 32000 := (by omega)
    have hO : OKW G h0 a (upd (upd (upd (upd (upd (upd F 18 (nI ba)) 19 (nI tp39)) 20 (nI pc)) 21 (nI (pc + 1))) 23 (5 : Int32)) 26 (nI ht)) (updR (updR R 7 (.ref (a sp))) 8 (.ref (a op))) z40 (updA (updA B 32 (B 32)) 33 (B 33)) J41 T Pi w := hO.to rfl
    exact W.vret hx hb hr (fun t99 ht99 hW99 => ⟨⟨_, (w, (tp39, (5 : Int32), (nI (pc + 1)), z40, J41, (B 33), (B 32), fl)), rfl, ⟨rfl, hz45, hz46, hz47, hz48, hO⟩, by rw [ht99]; exact hP, hD⟩, hS.F ht99⟩) hS.2.2 dX5_sign_237
  by_cases h49 : kd = 49
  · subst h49
    refine lv_tableIn (tgt := 224) (off := 203) hx hb dX5_sign_21 (by decide) (by decide) (by decide) (by decide) ?_
    refine lv_aload_n hx hb dX5_sign_224 rfl (lv_at hl 4 rfl) ?_
    refine lv_aload_n hx hb dX5_sign_225 rfl (lv_at hl 4 rfl) ?_
    refine lv_iload_n hx hb dX5_sign_226 rfl (lv_at hl 5 rfl) ?_
    refine lv_iload hx hb dX5_sign_227 (lv_at hl 0 rfl) ?_
    refine lv_iload hx hb dX5_sign_229 (lv_at hl 1 rfl) ?_
    have hO : OKW G h0 a (upd (upd (upd (upd (upd (upd F 18 (nI ba)) 19 (nI ((tp - 1) - 1))) 20 (nI pc)) 21 (nI (pc + 1))) 23 5) 26 (nI ht)) (updR (updR R 7 (.ref (a sp))) 8 (.ref (a op))) Z B J T Pi w := hO.to rfl
    obtain ⟨_, qr53, hqr54⟩ := hO.2.1 28 _ (sg_28 G h0 a _ _ _ _ _)
    refine pc_V0 (G := G) (As := [.int 49, .int x13, .int x11]) (rest := [.ref (a 5)]) hx hb hml hown hq hE hX pX0_al hP hD hS hA hl.1 (Y_combined l G h0 a (upd (upd (upd (upd (upd (upd F 18 (nI ba)) 19 (nI ((tp - 1) - 1))) 20 (nI pc)) 21 (nI (pc + 1))) 23 5) 26 (nI ht)) (updR (updR R 7 (.ref (a sp))) 8 (.ref (a op))) Z B J T Pi w 49 x13 x11 (by unfold CmK; decide) hO) (gV pw_615 pw_616 pw_617 pw_539 pw_608) hV_X5_combined qr53 4 hqr54 rfl rfl rfl (Nat.le_of_ble_eq_true rfl) dX5_sign_231 ⟨Nat.le_of_ble_eq_true rfl, Nat.le_of_ble_eq_true rfl⟩ ⟨Nat.le_of_ble_eq_true rfl, Nat.le_of_ble_eq_true rfl⟩ (fun v52 u50 H locs hw51 hP hD hS => ?_)
    obtain ⟨w, r55⟩ := u50
    obtain ⟨hw51, h56, hO⟩ := hw51
    have h56 : CmQ 49 x13 x11 r55 := h56
    obtain rfl : v52 = some (.int r55) := hw51
    have hO : OKW G h0 a (upd (upd (upd (upd (upd (upd F 18 (nI ba)) 19 (nI ((tp - 1) - 1))) 20 (nI pc)) 21 (nI (pc + 1))) 23 5) 26 (nI ht)) (updR (updR R 7 (.ref (a sp))) 8 (.ref (a op))) Z B J T Pi w := hO.to rfl
    refine W.widen (k := 0) (n := 0) (Nat.le_of_ble_eq_true rfl) (Nat.le_of_ble_eq_true rfl) ?_
    refine W.eq (g2 := F0 m 234 ls [.int r55, .ref (a 5)]) rfl ?_
    have hO : OKW G h0 a (upd (upd (upd (upd (upd (upd (upd F 18 (nI ba)) 19 (nI ((tp - 1) - 1))) 20 (nI pc)) 21 (nI (pc + 1))) 23 5) 26 (nI ht)) 19 (nI ((tp - 1) - 1))) (updR (updR R 7 (.ref (a sp))) 8 (.ref (a op))) Z B J T Pi w := hO.to rfl
    obtain ⟨_, qr60, hqr61⟩ := hO.2.1 28 _ (sg_28 G h0 a _ _ _ _ _)
    refine pc_V0 (G := G) (As := [.int r55]) (rest := []) hx hb hml hown hq hE hX pX0_al hP hD hS hA hl.1 (Y_pushNumber l G h0 a (upd (upd (upd (upd (upd (upd F 18 (nI ba)) 19 (nI ((tp - 1) - 1))) 20 (nI pc)) 21 (nI (pc + 1))) 23 5) 26 (nI ht)) (updR (updR R 7 (.ref (a sp))) 8 (.ref (a op))) Z B J T Pi w r55 ((tp - 1) - 1) (by omega) hO) (gV pw_605 pw_606 pw_607 pw_539 pw_602) hV_X5_pushNumber qr60 4 hqr61 rfl rfl rfl (Nat.le_of_ble_eq_true rfl) dX5_sign_234 ⟨Nat.le_of_ble_eq_true rfl, Nat.le_of_ble_eq_true rfl⟩ ⟨Nat.le_of_ble_eq_true rfl, Nat.le_of_ble_eq_true rfl⟩ (fun v59 u57 H locs hw58 hP hD hS => ?_)
    obtain ⟨w, _⟩ := u57
    obtain ⟨hw58, hO⟩ := hw58
    obtain rfl : v59 = none := hw58
    have hO : OKW G h0 a (upd (upd (upd (upd (upd (upd F 18 (nI ba)) 19 (nI (((tp - 1) - 1) + 1))) 20 (nI pc)) 21 (nI (pc + 1))) 23 5) 26 (nI ht)) (updR (updR R 7 (.ref (a sp))) 8 (.ref (a op))) Z B (updJ J 29 (vp_updL ((J 29)) ((tp - 1) - 1) (nmV r55))) T Pi w := hO.to rfl
    refine W.widen (k := 0) (n := 0) (Nat.le_of_ble_eq_true rfl) (Nat.le_of_ble_eq_true rfl) ?_
    refine W.eq (g2 := F0 m 237 ls []) rfl ?_
    have hou := OuQ.num (z := Z) hu4 (SgT.val r2 (by decide) (by rw [← e14, ← e12]; exact h56) hu3 hv3) rfl
    have hz62 : StQ y (B 19) Sh nn (J sp) ht (B 30) (B 16) on j9 ba pc fl (((tp - 1) - 1) + 1) (5 : Int32) (nI (pc + 1)) Z ((updJ J 29 (vp_updL ((J 29)) ((tp - 1) - 1) (nmV r55))) 29) fl := (StQ.ou hmi hmo (by rw [hop]; decide) hou r3 (Nat.le_refl _) hZ)
    have hz63 : (updJ J 29 (vp_updL ((J 29)) ((tp - 1) - 1) (nmV r55))) 34 = J 34 ∧ (updJ J 29 (vp_updL ((J 29)) ((tp - 1) - 1) (nmV r55))) 35 = J 35 := ⟨rfl, rfl⟩
    have hz64 : (B 33) 5 = nI fl := hfl
    have hz65 : fl ≤ fl ∧ (((tp - 1) - 1) + 1) ≤ 32000 := (by omega)
    have hO : OKW G h0 a (upd (upd (upd (upd (upd (upd F 18 (nI ba)) 19 (nI (((tp - 1) - 1) + 1))) 20 (nI pc)) 21 (nI (pc + 1))) 23 (5 : Int32)) 26 (nI ht)) (updR (updR R 7 (.ref (a sp))) 8 (.ref (a op))) Z (updA (updA B 32 (B 32)) 33 (B 33)) (updJ J 29 (vp_updL ((J 29)) ((tp - 1) - 1) (nmV r55))) T Pi w := hO.to rfl
    exact W.vret hx hb hr (fun t99 ht99 hW99 => ⟨⟨_, (w, ((((tp - 1) - 1) + 1), (5 : Int32), (nI (pc + 1)), Z, (updJ J 29 (vp_updL ((J 29)) ((tp - 1) - 1) (nmV r55))), (B 33), (B 32), fl)), rfl, ⟨rfl, hz62, hz63, hz64, hz65, hO⟩, by rw [ht99]; exact hP, hD⟩, hS.F ht99⟩) hS.2.2 dX5_sign_237
  by_cases h66 : kd = 50
  · subst h66
    refine lv_tableIn (tgt := 224) (off := 203) hx hb dX5_sign_21 (by decide) (by decide) (by decide) (by decide) ?_
    refine lv_aload_n hx hb dX5_sign_224 rfl (lv_at hl 4 rfl) ?_
    refine lv_aload_n hx hb dX5_sign_225 rfl (lv_at hl 4 rfl) ?_
    refine lv_iload_n hx hb dX5_sign_226 rfl (lv_at hl 5 rfl) ?_
    refine lv_iload hx hb dX5_sign_227 (lv_at hl 0 rfl) ?_
    refine lv_iload hx hb dX5_sign_229 (lv_at hl 1 rfl) ?_
    have hO : OKW G h0 a (upd (upd (upd (upd (upd (upd F 18 (nI ba)) 19 (nI ((tp - 1) - 1))) 20 (nI pc)) 21 (nI (pc + 1))) 23 5) 26 (nI ht)) (updR (updR R 7 (.ref (a sp))) 8 (.ref (a op))) Z B J T Pi w := hO.to rfl
    obtain ⟨_, qr70, hqr71⟩ := hO.2.1 28 _ (sg_28 G h0 a _ _ _ _ _)
    refine pc_V0 (G := G) (As := [.int 50, .int x13, .int x11]) (rest := [.ref (a 5)]) hx hb hml hown hq hE hX pX0_al hP hD hS hA hl.1 (Y_combined l G h0 a (upd (upd (upd (upd (upd (upd F 18 (nI ba)) 19 (nI ((tp - 1) - 1))) 20 (nI pc)) 21 (nI (pc + 1))) 23 5) 26 (nI ht)) (updR (updR R 7 (.ref (a sp))) 8 (.ref (a op))) Z B J T Pi w 50 x13 x11 (by unfold CmK; decide) hO) (gV pw_615 pw_616 pw_617 pw_539 pw_608) hV_X5_combined qr70 4 hqr71 rfl rfl rfl (Nat.le_of_ble_eq_true rfl) dX5_sign_231 ⟨Nat.le_of_ble_eq_true rfl, Nat.le_of_ble_eq_true rfl⟩ ⟨Nat.le_of_ble_eq_true rfl, Nat.le_of_ble_eq_true rfl⟩ (fun v69 u67 H locs hw68 hP hD hS => ?_)
    obtain ⟨w, r72⟩ := u67
    obtain ⟨hw68, h73, hO⟩ := hw68
    have h73 : CmQ 50 x13 x11 r72 := h73
    obtain rfl : v69 = some (.int r72) := hw68
    have hO : OKW G h0 a (upd (upd (upd (upd (upd (upd F 18 (nI ba)) 19 (nI ((tp - 1) - 1))) 20 (nI pc)) 21 (nI (pc + 1))) 23 5) 26 (nI ht)) (updR (updR R 7 (.ref (a sp))) 8 (.ref (a op))) Z B J T Pi w := hO.to rfl
    refine W.widen (k := 0) (n := 0) (Nat.le_of_ble_eq_true rfl) (Nat.le_of_ble_eq_true rfl) ?_
    refine W.eq (g2 := F0 m 234 ls [.int r72, .ref (a 5)]) rfl ?_
    have hO : OKW G h0 a (upd (upd (upd (upd (upd (upd (upd F 18 (nI ba)) 19 (nI ((tp - 1) - 1))) 20 (nI pc)) 21 (nI (pc + 1))) 23 5) 26 (nI ht)) 19 (nI ((tp - 1) - 1))) (updR (updR R 7 (.ref (a sp))) 8 (.ref (a op))) Z B J T Pi w := hO.to rfl
    obtain ⟨_, qr77, hqr78⟩ := hO.2.1 28 _ (sg_28 G h0 a _ _ _ _ _)
    refine pc_V0 (G := G) (As := [.int r72]) (rest := []) hx hb hml hown hq hE hX pX0_al hP hD hS hA hl.1 (Y_pushNumber l G h0 a (upd (upd (upd (upd (upd (upd F 18 (nI ba)) 19 (nI ((tp - 1) - 1))) 20 (nI pc)) 21 (nI (pc + 1))) 23 5) 26 (nI ht)) (updR (updR R 7 (.ref (a sp))) 8 (.ref (a op))) Z B J T Pi w r72 ((tp - 1) - 1) (by omega) hO) (gV pw_605 pw_606 pw_607 pw_539 pw_602) hV_X5_pushNumber qr77 4 hqr78 rfl rfl rfl (Nat.le_of_ble_eq_true rfl) dX5_sign_234 ⟨Nat.le_of_ble_eq_true rfl, Nat.le_of_ble_eq_true rfl⟩ ⟨Nat.le_of_ble_eq_true rfl, Nat.le_of_ble_eq_true rfl⟩ (fun v76 u74 H locs hw75 hP hD hS => ?_)
    obtain ⟨w, _⟩ := u74
    obtain ⟨hw75, hO⟩ := hw75
    obtain rfl : v76 = none := hw75
    have hO : OKW G h0 a (upd (upd (upd (upd (upd (upd F 18 (nI ba)) 19 (nI (((tp - 1) - 1) + 1))) 20 (nI pc)) 21 (nI (pc + 1))) 23 5) 26 (nI ht)) (updR (updR R 7 (.ref (a sp))) 8 (.ref (a op))) Z B (updJ J 29 (vp_updL ((J 29)) ((tp - 1) - 1) (nmV r72))) T Pi w := hO.to rfl
    refine W.widen (k := 0) (n := 0) (Nat.le_of_ble_eq_true rfl) (Nat.le_of_ble_eq_true rfl) ?_
    refine W.eq (g2 := F0 m 237 ls []) rfl ?_
    have hou := OuQ.num (z := Z) hu4 (SgT.val r2 (by decide) (by rw [← e14, ← e12]; exact h73) hu3 hv3) rfl
    have hz79 : StQ y (B 19) Sh nn (J sp) ht (B 30) (B 16) on j9 ba pc fl (((tp - 1) - 1) + 1) (5 : Int32) (nI (pc + 1)) Z ((updJ J 29 (vp_updL ((J 29)) ((tp - 1) - 1) (nmV r72))) 29) fl := (StQ.ou hmi hmo (by rw [hop]; decide) hou r3 (Nat.le_refl _) hZ)
    have hz80 : (updJ J 29 (vp_updL ((J 29)) ((tp - 1) - 1) (nmV r72))) 34 = J 34 ∧ (updJ J 29 (vp_updL ((J 29)) ((tp - 1) - 1) (nmV r72))) 35 = J 35 := ⟨rfl, rfl⟩
    have hz81 : (B 33) 5 = nI fl := hfl
    have hz82 : fl ≤ fl ∧ (((tp - 1) - 1) + 1) ≤ 32000 := (by omega)
    have hO : OKW G h0 a (upd (upd (upd (upd (upd (upd F 18 (nI ba)) 19 (nI (((tp - 1) - 1) + 1))) 20 (nI pc)) 21 (nI (pc + 1))) 23 (5 : Int32)) 26 (nI ht)) (updR (updR R 7 (.ref (a sp))) 8 (.ref (a op))) Z (updA (updA B 32 (B 32)) 33 (B 33)) (updJ J 29 (vp_updL ((J 29)) ((tp - 1) - 1) (nmV r72))) T Pi w := hO.to rfl
    exact W.vret hx hb hr (fun t99 ht99 hW99 => ⟨⟨_, (w, ((((tp - 1) - 1) + 1), (5 : Int32), (nI (pc + 1)), Z, (updJ J 29 (vp_updL ((J 29)) ((tp - 1) - 1) (nmV r72))), (B 33), (B 32), fl)), rfl, ⟨rfl, hz79, hz80, hz81, hz82, hO⟩, by rw [ht99]; exact hP, hD⟩, hS.F ht99⟩) hS.2.2 dX5_sign_237
  by_cases h83 : kd = 51
  · subst h83
    refine lv_tableIn (tgt := 224) (off := 203) hx hb dX5_sign_21 (by decide) (by decide) (by decide) (by decide) ?_
    refine lv_aload_n hx hb dX5_sign_224 rfl (lv_at hl 4 rfl) ?_
    refine lv_aload_n hx hb dX5_sign_225 rfl (lv_at hl 4 rfl) ?_
    refine lv_iload_n hx hb dX5_sign_226 rfl (lv_at hl 5 rfl) ?_
    refine lv_iload hx hb dX5_sign_227 (lv_at hl 0 rfl) ?_
    refine lv_iload hx hb dX5_sign_229 (lv_at hl 1 rfl) ?_
    have hO : OKW G h0 a (upd (upd (upd (upd (upd (upd F 18 (nI ba)) 19 (nI ((tp - 1) - 1))) 20 (nI pc)) 21 (nI (pc + 1))) 23 5) 26 (nI ht)) (updR (updR R 7 (.ref (a sp))) 8 (.ref (a op))) Z B J T Pi w := hO.to rfl
    obtain ⟨_, qr87, hqr88⟩ := hO.2.1 28 _ (sg_28 G h0 a _ _ _ _ _)
    refine pc_V0 (G := G) (As := [.int 51, .int x13, .int x11]) (rest := [.ref (a 5)]) hx hb hml hown hq hE hX pX0_al hP hD hS hA hl.1 (Y_combined l G h0 a (upd (upd (upd (upd (upd (upd F 18 (nI ba)) 19 (nI ((tp - 1) - 1))) 20 (nI pc)) 21 (nI (pc + 1))) 23 5) 26 (nI ht)) (updR (updR R 7 (.ref (a sp))) 8 (.ref (a op))) Z B J T Pi w 51 x13 x11 (by unfold CmK; decide) hO) (gV pw_615 pw_616 pw_617 pw_539 pw_608) hV_X5_combined qr87 4 hqr88 rfl rfl rfl (Nat.le_of_ble_eq_true rfl) dX5_sign_231 ⟨Nat.le_of_ble_eq_true rfl, Nat.le_of_ble_eq_true rfl⟩ ⟨Nat.le_of_ble_eq_true rfl, Nat.le_of_ble_eq_true rfl⟩ (fun v86 u84 H locs hw85 hP hD hS => ?_)
    obtain ⟨w, r89⟩ := u84
    obtain ⟨hw85, h90, hO⟩ := hw85
    have h90 : CmQ 51 x13 x11 r89 := h90
    obtain rfl : v86 = some (.int r89) := hw85
    have hO : OKW G h0 a (upd (upd (upd (upd (upd (upd F 18 (nI ba)) 19 (nI ((tp - 1) - 1))) 20 (nI pc)) 21 (nI (pc + 1))) 23 5) 26 (nI ht)) (updR (updR R 7 (.ref (a sp))) 8 (.ref (a op))) Z B J T Pi w := hO.to rfl
    refine W.widen (k := 0) (n := 0) (Nat.le_of_ble_eq_true rfl) (Nat.le_of_ble_eq_true rfl) ?_
    refine W.eq (g2 := F0 m 234 ls [.int r89, .ref (a 5)]) rfl ?_
    have hO : OKW G h0 a (upd (upd (upd (upd (upd (upd (upd F 18 (nI ba)) 19 (nI ((tp - 1) - 1))) 20 (nI pc)) 21 (nI (pc + 1))) 23 5) 26 (nI ht)) 19 (nI ((tp - 1) - 1))) (updR (updR R 7 (.ref (a sp))) 8 (.ref (a op))) Z B J T Pi w := hO.to rfl
    obtain ⟨_, qr94, hqr95⟩ := hO.2.1 28 _ (sg_28 G h0 a _ _ _ _ _)
    refine pc_V0 (G := G) (As := [.int r89]) (rest := []) hx hb hml hown hq hE hX pX0_al hP hD hS hA hl.1 (Y_pushNumber l G h0 a (upd (upd (upd (upd (upd (upd F 18 (nI ba)) 19 (nI ((tp - 1) - 1))) 20 (nI pc)) 21 (nI (pc + 1))) 23 5) 26 (nI ht)) (updR (updR R 7 (.ref (a sp))) 8 (.ref (a op))) Z B J T Pi w r89 ((tp - 1) - 1) (by omega) hO) (gV pw_605 pw_606 pw_607 pw_539 pw_602) hV_X5_pushNumber qr94 4 hqr95 rfl rfl rfl (Nat.le_of_ble_eq_true rfl) dX5_sign_234 ⟨Nat.le_of_ble_eq_true rfl, Nat.le_of_ble_eq_true rfl⟩ ⟨Nat.le_of_ble_eq_true rfl, Nat.le_of_ble_eq_true rfl⟩ (fun v93 u91 H locs hw92 hP hD hS => ?_)
    obtain ⟨w, _⟩ := u91
    obtain ⟨hw92, hO⟩ := hw92
    obtain rfl : v93 = none := hw92
    have hO : OKW G h0 a (upd (upd (upd (upd (upd (upd F 18 (nI ba)) 19 (nI (((tp - 1) - 1) + 1))) 20 (nI pc)) 21 (nI (pc + 1))) 23 5) 26 (nI ht)) (updR (updR R 7 (.ref (a sp))) 8 (.ref (a op))) Z B (updJ J 29 (vp_updL ((J 29)) ((tp - 1) - 1) (nmV r89))) T Pi w := hO.to rfl
    refine W.widen (k := 0) (n := 0) (Nat.le_of_ble_eq_true rfl) (Nat.le_of_ble_eq_true rfl) ?_
    refine W.eq (g2 := F0 m 237 ls []) rfl ?_
    have hou := OuQ.num (z := Z) hu4 (SgT.val r2 (by decide) (by rw [← e14, ← e12]; exact h90) hu3 hv3) rfl
    have hz96 : StQ y (B 19) Sh nn (J sp) ht (B 30) (B 16) on j9 ba pc fl (((tp - 1) - 1) + 1) (5 : Int32) (nI (pc + 1)) Z ((updJ J 29 (vp_updL ((J 29)) ((tp - 1) - 1) (nmV r89))) 29) fl := (StQ.ou hmi hmo (by rw [hop]; decide) hou r3 (Nat.le_refl _) hZ)
    have hz97 : (updJ J 29 (vp_updL ((J 29)) ((tp - 1) - 1) (nmV r89))) 34 = J 34 ∧ (updJ J 29 (vp_updL ((J 29)) ((tp - 1) - 1) (nmV r89))) 35 = J 35 := ⟨rfl, rfl⟩
    have hz98 : (B 33) 5 = nI fl := hfl
    have hz99 : fl ≤ fl ∧ (((tp - 1) - 1) + 1) ≤ 32000 := (by omega)
    have hO : OKW G h0 a (upd (upd (upd (upd (upd (upd F 18 (nI ba)) 19 (nI (((tp - 1) - 1) + 1))) 20 (nI pc)) 21 (nI (pc + 1))) 23 (5 : Int32)) 26 (nI ht)) (updR (updR R 7 (.ref (a sp))) 8 (.ref (a op))) Z (updA (updA B 32 (B 32)) 33 (B 33)) (updJ J 29 (vp_updL ((J 29)) ((tp - 1) - 1) (nmV r89))) T Pi w := hO.to rfl
    exact W.vret hx hb hr (fun t99 ht99 hW99 => ⟨⟨_, (w, ((((tp - 1) - 1) + 1), (5 : Int32), (nI (pc + 1)), Z, (updJ J 29 (vp_updL ((J 29)) ((tp - 1) - 1) (nmV r89))), (B 33), (B 32), fl)), rfl, ⟨rfl, hz96, hz97, hz98, hz99, hO⟩, by rw [ht99]; exact hP, hD⟩, hS.F ht99⟩) hS.2.2 dX5_sign_237
  by_cases h100 : kd = 52
  · subst h100
    refine lv_tableIn (tgt := 224) (off := 203) hx hb dX5_sign_21 (by decide) (by decide) (by decide) (by decide) ?_
    exact (SgT.no r2 (by decide)).elim
  by_cases h101 : kd = 53
  · subst h101
    refine lv_tableIn (tgt := 224) (off := 203) hx hb dX5_sign_21 (by decide) (by decide) (by decide) (by decide) ?_
    exact (SgT.no r2 (by decide)).elim
  by_cases h102 : kd = 54
  · subst h102
    refine lv_tableIn (tgt := 126) (off := 105) hx hb dX5_sign_21 (by decide) (by decide) (by decide) (by decide) ?_
    refine lv_aload_n hx hb dX5_sign_126 rfl (lv_at hl 4 rfl) ?_
    refine lv_iload hx hb dX5_sign_127 (lv_at hl 0 rfl) ?_
    refine lv_iload hx hb dX5_sign_129 (lv_at hl 1 rfl) ?_
    refine lv_icmp_ge (tgt := 138) hx hb dX5_sign_131 (by decide) (fun c103 => ?_) (fun c103 => ?_)
    · refine lv_iconst (v := 0) hx hb dX5_sign_138 (by decide) ?_
      have hO : OKW G h0 a (upd (upd (upd (upd (upd (upd (upd F 18 (nI ba)) 19 (nI ((tp - 1) - 1))) 20 (nI pc)) 21 (nI (pc + 1))) 23 5) 26 (nI ht)) 19 (nI ((tp - 1) - 1))) (updR (updR R 7 (.ref (a sp))) 8 (.ref (a op))) Z B J T Pi w := hO.to rfl
      obtain ⟨_, qr107, hqr108⟩ := hO.2.1 28 _ (sg_28 G h0 a _ _ _ _ _)
      refine pc_V0 (G := G) (As := [.int (nI 0)]) (rest := []) hx hb hml hown hq hE hX pX0_al hP hD hS hA hl.1 (Y_pushTruth l G h0 a (upd (upd (upd (upd (upd (upd F 18 (nI ba)) 19 (nI ((tp - 1) - 1))) 20 (nI pc)) 21 (nI (pc + 1))) 23 5) 26 (nI ht)) (updR (updR R 7 (.ref (a sp))) 8 (.ref (a op))) Z B J T Pi w 0 ((tp - 1) - 1) (by omega) (by omega) hO) (gV pw_609 pw_610 pw_611 pw_539 pw_601) hV_X5_pushTruth qr107 4 hqr108 rfl rfl rfl (Nat.le_of_ble_eq_true rfl) dX5_sign_139 ⟨Nat.le_of_ble_eq_true rfl, Nat.le_of_ble_eq_true rfl⟩ ⟨Nat.le_of_ble_eq_true rfl, Nat.le_of_ble_eq_true rfl⟩ (fun v106 u104 H locs hw105 hP hD hS => ?_)
      obtain ⟨w, r109⟩ := u104
      obtain ⟨hw105, h110, hO⟩ := hw105
      have h110 : r109 = if 0 = 0 then 0 else 1 := h110
      obtain rfl : v106 = none := hw105
      have hO : OKW G h0 a (upd (upd (upd (upd (upd (upd F 18 (nI ba)) 19 (nI (((tp - 1) - 1) + 1))) 20 (nI pc)) 21 (nI (pc + 1))) 23 5) 26 (nI ht)) (updR (updR R 7 (.ref (a sp))) 8 (.ref (a op))) Z B (updJ J 29 (vp_updL ((J 29)) ((tp - 1) - 1) r109)) T Pi w := hO.to rfl
      refine W.widen (k := 0) (n := 0) (Nat.le_of_ble_eq_true rfl) (Nat.le_of_ble_eq_true rfl) ?_
      refine W.eq (g2 := F0 m 142 ls []) rfl ?_
      refine lv_goto (tgt := 237) hx hb dX5_sign_142 (by decide) ?_
      obtain rfl : u9 = 61 := SgT.tr r2 (by decide)
      have hou := OuQ.num (z := Z) hu4 (VT.tr (by omega) h110) rfl
      have hz111 : StQ y (B 19) Sh nn (J sp) ht (B 30) (B 16) on j9 ba pc fl (((tp - 1) - 1) + 1) (5 : Int32) (nI (pc + 1)) Z ((updJ J 29 (vp_updL ((J 29)) ((tp - 1) - 1) r109)) 29) fl := (StQ.ou hmi hmo (by rw [hop]; decide) hou r3 (Nat.le_refl _) hZ)
      have hz112 : (updJ J 29 (vp_updL ((J 29)) ((tp - 1) - 1) r109)) 34 = J 34 ∧ (updJ J 29 (vp_updL ((J 29)) ((tp - 1) - 1) r109)) 35 = J 35 := ⟨rfl, rfl⟩
      have hz113 : (B 33) 5 = nI fl := hfl
      have hz114 : fl ≤ fl ∧ (((tp - 1) - 1) + 1) ≤ 32000 := (by omega)
      have hO : OKW G h0 a (upd (upd (upd (upd (upd (upd F 18 (nI ba)) 19 (nI (((tp - 1) - 1) + 1))) 20 (nI pc)) 21 (nI (pc + 1))) 23 (5 : Int32)) 26 (nI ht)) (updR (updR R 7 (.ref (a sp))) 8 (.ref (a op))) Z (updA (updA B 32 (B 32)) 33 (B 33)) (updJ J 29 (vp_updL ((J 29)) ((tp - 1) - 1) r109)) T Pi w := hO.to rfl
      exact W.vret hx hb hr (fun t99 ht99 hW99 => ⟨⟨_, (w, ((((tp - 1) - 1) + 1), (5 : Int32), (nI (pc + 1)), Z, (updJ J 29 (vp_updL ((J 29)) ((tp - 1) - 1) r109)), (B 33), (B 32), fl)), rfl, ⟨rfl, hz111, hz112, hz113, hz114, hO⟩, by rw [ht99]; exact hP, hD⟩, hS.F ht99⟩) hS.2.2 dX5_sign_237
    · refine lv_iconst (v := 1) hx hb dX5_sign_134 (by decide) ?_
      refine lv_goto (tgt := 139) hx hb dX5_sign_135 (by decide) ?_
      have hO : OKW G h0 a (upd (upd (upd (upd (upd (upd (upd F 18 (nI ba)) 19 (nI ((tp - 1) - 1))) 20 (nI pc)) 21 (nI (pc + 1))) 23 5) 26 (nI ht)) 19 (nI ((tp - 1) - 1))) (updR (updR R 7 (.ref (a sp))) 8 (.ref (a op))) Z B J T Pi w := hO.to rfl
      obtain ⟨_, qr118, hqr119⟩ := hO.2.1 28 _ (sg_28 G h0 a _ _ _ _ _)
      refine pc_V0 (G := G) (As := [.int (nI 1)]) (rest := []) hx hb hml hown hq hE hX pX0_al hP hD hS hA hl.1 (Y_pushTruth l G h0 a (upd (upd (upd (upd (upd (upd F 18 (nI ba)) 19 (nI ((tp - 1) - 1))) 20 (nI pc)) 21 (nI (pc + 1))) 23 5) 26 (nI ht)) (updR (updR R 7 (.ref (a sp))) 8 (.ref (a op))) Z B J T Pi w 1 ((tp - 1) - 1) (by omega) (by omega) hO) (gV pw_609 pw_610 pw_611 pw_539 pw_601) hV_X5_pushTruth qr118 4 hqr119 rfl rfl rfl (Nat.le_of_ble_eq_true rfl) dX5_sign_139 ⟨Nat.le_of_ble_eq_true rfl, Nat.le_of_ble_eq_true rfl⟩ ⟨Nat.le_of_ble_eq_true rfl, Nat.le_of_ble_eq_true rfl⟩ (fun v117 u115 H locs hw116 hP hD hS => ?_)
      obtain ⟨w, r120⟩ := u115
      obtain ⟨hw116, h121, hO⟩ := hw116
      have h121 : r120 = if 1 = 0 then 0 else 1 := h121
      obtain rfl : v117 = none := hw116
      have hO : OKW G h0 a (upd (upd (upd (upd (upd (upd F 18 (nI ba)) 19 (nI (((tp - 1) - 1) + 1))) 20 (nI pc)) 21 (nI (pc + 1))) 23 5) 26 (nI ht)) (updR (updR R 7 (.ref (a sp))) 8 (.ref (a op))) Z B (updJ J 29 (vp_updL ((J 29)) ((tp - 1) - 1) r120)) T Pi w := hO.to rfl
      refine W.widen (k := 0) (n := 0) (Nat.le_of_ble_eq_true rfl) (Nat.le_of_ble_eq_true rfl) ?_
      refine W.eq (g2 := F0 m 142 ls []) rfl ?_
      refine lv_goto (tgt := 237) hx hb dX5_sign_142 (by decide) ?_
      obtain rfl : u9 = 61 := SgT.tr r2 (by decide)
      have hou := OuQ.num (z := Z) hu4 (VT.tr (by omega) h121) rfl
      have hz122 : StQ y (B 19) Sh nn (J sp) ht (B 30) (B 16) on j9 ba pc fl (((tp - 1) - 1) + 1) (5 : Int32) (nI (pc + 1)) Z ((updJ J 29 (vp_updL ((J 29)) ((tp - 1) - 1) r120)) 29) fl := (StQ.ou hmi hmo (by rw [hop]; decide) hou r3 (Nat.le_refl _) hZ)
      have hz123 : (updJ J 29 (vp_updL ((J 29)) ((tp - 1) - 1) r120)) 34 = J 34 ∧ (updJ J 29 (vp_updL ((J 29)) ((tp - 1) - 1) r120)) 35 = J 35 := ⟨rfl, rfl⟩
      have hz124 : (B 33) 5 = nI fl := hfl
      have hz125 : fl ≤ fl ∧ (((tp - 1) - 1) + 1) ≤ 32000 := (by omega)
      have hO : OKW G h0 a (upd (upd (upd (upd (upd (upd F 18 (nI ba)) 19 (nI (((tp - 1) - 1) + 1))) 20 (nI pc)) 21 (nI (pc + 1))) 23 (5 : Int32)) 26 (nI ht)) (updR (updR R 7 (.ref (a sp))) 8 (.ref (a op))) Z (updA (updA B 32 (B 32)) 33 (B 33)) (updJ J 29 (vp_updL ((J 29)) ((tp - 1) - 1) r120)) T Pi w := hO.to rfl
      exact W.vret hx hb hr (fun t99 ht99 hW99 => ⟨⟨_, (w, ((((tp - 1) - 1) + 1), (5 : Int32), (nI (pc + 1)), Z, (updJ J 29 (vp_updL ((J 29)) ((tp - 1) - 1) r120)), (B 33), (B 32), fl)), rfl, ⟨rfl, hz122, hz123, hz124, hz125, hO⟩, by rw [ht99]; exact hP, hD⟩, hS.F ht99⟩) hS.2.2 dX5_sign_237
  by_cases h126 : kd = 55
  · subst h126
    refine lv_tableIn (tgt := 164) (off := 143) hx hb dX5_sign_21 (by decide) (by decide) (by decide) (by decide) ?_
    refine lv_aload_n hx hb dX5_sign_164 rfl (lv_at hl 4 rfl) ?_
    refine lv_iload hx hb dX5_sign_165 (lv_at hl 0 rfl) ?_
    refine lv_iload hx hb dX5_sign_167 (lv_at hl 1 rfl) ?_
    refine lv_icmp_le (tgt := 176) hx hb dX5_sign_169 (by decide) (fun c127 => ?_) (fun c127 => ?_)
    · refine lv_iconst (v := 0) hx hb dX5_sign_176 (by decide) ?_
      have hO : OKW G h0 a (upd (upd (upd (upd (upd (upd (upd F 18 (nI ba)) 19 (nI ((tp - 1) - 1))) 20 (nI pc)) 21 (nI (pc + 1))) 23 5) 26 (nI ht)) 19 (nI ((tp - 1) - 1))) (updR (updR R 7 (.ref (a sp))) 8 (.ref (a op))) Z B J T Pi w := hO.to rfl
      obtain ⟨_, qr131, hqr132⟩ := hO.2.1 28 _ (sg_28 G h0 a _ _ _ _ _)
      refine pc_V0 (G := G) (As := [.int (nI 0)]) (rest := []) hx hb hml hown hq hE hX pX0_al hP hD hS hA hl.1 (Y_pushTruth l G h0 a (upd (upd (upd (upd (upd (upd F 18 (nI ba)) 19 (nI ((tp - 1) - 1))) 20 (nI pc)) 21 (nI (pc + 1))) 23 5) 26 (nI ht)) (updR (updR R 7 (.ref (a sp))) 8 (.ref (a op))) Z B J T Pi w 0 ((tp - 1) - 1) (by omega) (by omega) hO) (gV pw_609 pw_610 pw_611 pw_539 pw_601) hV_X5_pushTruth qr131 4 hqr132 rfl rfl rfl (Nat.le_of_ble_eq_true rfl) dX5_sign_177 ⟨Nat.le_of_ble_eq_true rfl, Nat.le_of_ble_eq_true rfl⟩ ⟨Nat.le_of_ble_eq_true rfl, Nat.le_of_ble_eq_true rfl⟩ (fun v130 u128 H locs hw129 hP hD hS => ?_)
      obtain ⟨w, r133⟩ := u128
      obtain ⟨hw129, h134, hO⟩ := hw129
      have h134 : r133 = if 0 = 0 then 0 else 1 := h134
      obtain rfl : v130 = none := hw129
      have hO : OKW G h0 a (upd (upd (upd (upd (upd (upd F 18 (nI ba)) 19 (nI (((tp - 1) - 1) + 1))) 20 (nI pc)) 21 (nI (pc + 1))) 23 5) 26 (nI ht)) (updR (updR R 7 (.ref (a sp))) 8 (.ref (a op))) Z B (updJ J 29 (vp_updL ((J 29)) ((tp - 1) - 1) r133)) T Pi w := hO.to rfl
      refine W.widen (k := 0) (n := 0) (Nat.le_of_ble_eq_true rfl) (Nat.le_of_ble_eq_true rfl) ?_
      refine W.eq (g2 := F0 m 180 ls []) rfl ?_
      refine lv_goto (tgt := 237) hx hb dX5_sign_180 (by decide) ?_
      obtain rfl : u9 = 61 := SgT.tr r2 (by decide)
      have hou := OuQ.num (z := Z) hu4 (VT.tr (by omega) h134) rfl
      have hz135 : StQ y (B 19) Sh nn (J sp) ht (B 30) (B 16) on j9 ba pc fl (((tp - 1) - 1) + 1) (5 : Int32) (nI (pc + 1)) Z ((updJ J 29 (vp_updL ((J 29)) ((tp - 1) - 1) r133)) 29) fl := (StQ.ou hmi hmo (by rw [hop]; decide) hou r3 (Nat.le_refl _) hZ)
      have hz136 : (updJ J 29 (vp_updL ((J 29)) ((tp - 1) - 1) r133)) 34 = J 34 ∧ (updJ J 29 (vp_updL ((J 29)) ((tp - 1) - 1) r133)) 35 = J 35 := ⟨rfl, rfl⟩
      have hz137 : (B 33) 5 = nI fl := hfl
      have hz138 : fl ≤ fl ∧ (((tp - 1) - 1) + 1) ≤ 32000 := (by omega)
      have hO : OKW G h0 a (upd (upd (upd (upd (upd (upd F 18 (nI ba)) 19 (nI (((tp - 1) - 1) + 1))) 20 (nI pc)) 21 (nI (pc + 1))) 23 (5 : Int32)) 26 (nI ht)) (updR (updR R 7 (.ref (a sp))) 8 (.ref (a op))) Z (updA (updA B 32 (B 32)) 33 (B 33)) (updJ J 29 (vp_updL ((J 29)) ((tp - 1) - 1) r133)) T Pi w := hO.to rfl
      exact W.vret hx hb hr (fun t99 ht99 hW99 => ⟨⟨_, (w, ((((tp - 1) - 1) + 1), (5 : Int32), (nI (pc + 1)), Z, (updJ J 29 (vp_updL ((J 29)) ((tp - 1) - 1) r133)), (B 33), (B 32), fl)), rfl, ⟨rfl, hz135, hz136, hz137, hz138, hO⟩, by rw [ht99]; exact hP, hD⟩, hS.F ht99⟩) hS.2.2 dX5_sign_237
    · refine lv_iconst (v := 1) hx hb dX5_sign_172 (by decide) ?_
      refine lv_goto (tgt := 177) hx hb dX5_sign_173 (by decide) ?_
      have hO : OKW G h0 a (upd (upd (upd (upd (upd (upd (upd F 18 (nI ba)) 19 (nI ((tp - 1) - 1))) 20 (nI pc)) 21 (nI (pc + 1))) 23 5) 26 (nI ht)) 19 (nI ((tp - 1) - 1))) (updR (updR R 7 (.ref (a sp))) 8 (.ref (a op))) Z B J T Pi w := hO.to rfl
      obtain ⟨_, qr142, hqr143⟩ := hO.2.1 28 _ (sg_28 G h0 a _ _ _ _ _)
      refine pc_V0 (G := G) (As := [.int (nI 1)]) (rest := []) hx hb hml hown hq hE hX pX0_al hP hD hS hA hl.1 (Y_pushTruth l G h0 a (upd (upd (upd (upd (upd (upd F 18 (nI ba)) 19 (nI ((tp - 1) - 1))) 20 (nI pc)) 21 (nI (pc + 1))) 23 5) 26 (nI ht)) (updR (updR R 7 (.ref (a sp))) 8 (.ref (a op))) Z B J T Pi w 1 ((tp - 1) - 1) (by omega) (by omega) hO) (gV pw_609 pw_610 pw_611 pw_539 pw_601) hV_X5_pushTruth qr142 4 hqr143 rfl rfl rfl (Nat.le_of_ble_eq_true rfl) dX5_sign_177 ⟨Nat.le_of_ble_eq_true rfl, Nat.le_of_ble_eq_true rfl⟩ ⟨Nat.le_of_ble_eq_true rfl, Nat.le_of_ble_eq_true rfl⟩ (fun v141 u139 H locs hw140 hP hD hS => ?_)
      obtain ⟨w, r144⟩ := u139
      obtain ⟨hw140, h145, hO⟩ := hw140
      have h145 : r144 = if 1 = 0 then 0 else 1 := h145
      obtain rfl : v141 = none := hw140
      have hO : OKW G h0 a (upd (upd (upd (upd (upd (upd F 18 (nI ba)) 19 (nI (((tp - 1) - 1) + 1))) 20 (nI pc)) 21 (nI (pc + 1))) 23 5) 26 (nI ht)) (updR (updR R 7 (.ref (a sp))) 8 (.ref (a op))) Z B (updJ J 29 (vp_updL ((J 29)) ((tp - 1) - 1) r144)) T Pi w := hO.to rfl
      refine W.widen (k := 0) (n := 0) (Nat.le_of_ble_eq_true rfl) (Nat.le_of_ble_eq_true rfl) ?_
      refine W.eq (g2 := F0 m 180 ls []) rfl ?_
      refine lv_goto (tgt := 237) hx hb dX5_sign_180 (by decide) ?_
      obtain rfl : u9 = 61 := SgT.tr r2 (by decide)
      have hou := OuQ.num (z := Z) hu4 (VT.tr (by omega) h145) rfl
      have hz146 : StQ y (B 19) Sh nn (J sp) ht (B 30) (B 16) on j9 ba pc fl (((tp - 1) - 1) + 1) (5 : Int32) (nI (pc + 1)) Z ((updJ J 29 (vp_updL ((J 29)) ((tp - 1) - 1) r144)) 29) fl := (StQ.ou hmi hmo (by rw [hop]; decide) hou r3 (Nat.le_refl _) hZ)
      have hz147 : (updJ J 29 (vp_updL ((J 29)) ((tp - 1) - 1) r144)) 34 = J 34 ∧ (updJ J 29 (vp_updL ((J 29)) ((tp - 1) - 1) r144)) 35 = J 35 := ⟨rfl, rfl⟩
      have hz148 : (B 33) 5 = nI fl := hfl
      have hz149 : fl ≤ fl ∧ (((tp - 1) - 1) + 1) ≤ 32000 := (by omega)
      have hO : OKW G h0 a (upd (upd (upd (upd (upd (upd F 18 (nI ba)) 19 (nI (((tp - 1) - 1) + 1))) 20 (nI pc)) 21 (nI (pc + 1))) 23 (5 : Int32)) 26 (nI ht)) (updR (updR R 7 (.ref (a sp))) 8 (.ref (a op))) Z (updA (updA B 32 (B 32)) 33 (B 33)) (updJ J 29 (vp_updL ((J 29)) ((tp - 1) - 1) r144)) T Pi w := hO.to rfl
      exact W.vret hx hb hr (fun t99 ht99 hW99 => ⟨⟨_, (w, ((((tp - 1) - 1) + 1), (5 : Int32), (nI (pc + 1)), Z, (updJ J 29 (vp_updL ((J 29)) ((tp - 1) - 1) r144)), (B 33), (B 32), fl)), rfl, ⟨rfl, hz146, hz147, hz148, hz149, hO⟩, by rw [ht99]; exact hP, hD⟩, hS.F ht99⟩) hS.2.2 dX5_sign_237
  by_cases h150 : kd = 56
  · subst h150
    refine lv_tableIn (tgt := 145) (off := 124) hx hb dX5_sign_21 (by decide) (by decide) (by decide) (by decide) ?_
    refine lv_aload_n hx hb dX5_sign_145 rfl (lv_at hl 4 rfl) ?_
    refine lv_iload hx hb dX5_sign_146 (lv_at hl 0 rfl) ?_
    refine lv_iload hx hb dX5_sign_148 (lv_at hl 1 rfl) ?_
    refine lv_icmp_gt (tgt := 157) hx hb dX5_sign_150 (by decide) (fun c151 => ?_) (fun c151 => ?_)
    · refine lv_iconst (v := 0) hx hb dX5_sign_157 (by decide) ?_
      have hO : OKW G h0 a (upd (upd (upd (upd (upd (upd (upd F 18 (nI ba)) 19 (nI ((tp - 1) - 1))) 20 (nI pc)) 21 (nI (pc + 1))) 23 5) 26 (nI ht)) 19 (nI ((tp - 1) - 1))) (updR (updR R 7 (.ref (a sp))) 8 (.ref (a op))) Z B J T Pi w := hO.to rfl
      obtain ⟨_, qr155, hqr156⟩ := hO.2.1 28 _ (sg_28 G h0 a _ _ _ _ _)
      refine pc_V0 (G := G) (As := [.int (nI 0)]) (rest := []) hx hb hml hown hq hE hX pX0_al hP hD hS hA hl.1 (Y_pushTruth l G h0 a (upd (upd (upd (upd (upd (upd F 18 (nI ba)) 19 (nI ((tp - 1) - 1))) 20 (nI pc)) 21 (nI (pc + 1))) 23 5) 26 (nI ht)) (updR (updR R 7 (.ref (a sp))) 8 (.ref (a op))) Z B J T Pi w 0 ((tp - 1) - 1) (by omega) (by omega) hO) (gV pw_609 pw_610 pw_611 pw_539 pw_601) hV_X5_pushTruth qr155 4 hqr156 rfl rfl rfl (Nat.le_of_ble_eq_true rfl) dX5_sign_158 ⟨Nat.le_of_ble_eq_true rfl, Nat.le_of_ble_eq_true rfl⟩ ⟨Nat.le_of_ble_eq_true rfl, Nat.le_of_ble_eq_true rfl⟩ (fun v154 u152 H locs hw153 hP hD hS => ?_)
      obtain ⟨w, r157⟩ := u152
      obtain ⟨hw153, h158, hO⟩ := hw153
      have h158 : r157 = if 0 = 0 then 0 else 1 := h158
      obtain rfl : v154 = none := hw153
      have hO : OKW G h0 a (upd (upd (upd (upd (upd (upd F 18 (nI ba)) 19 (nI (((tp - 1) - 1) + 1))) 20 (nI pc)) 21 (nI (pc + 1))) 23 5) 26 (nI ht)) (updR (updR R 7 (.ref (a sp))) 8 (.ref (a op))) Z B (updJ J 29 (vp_updL ((J 29)) ((tp - 1) - 1) r157)) T Pi w := hO.to rfl
      refine W.widen (k := 0) (n := 0) (Nat.le_of_ble_eq_true rfl) (Nat.le_of_ble_eq_true rfl) ?_
      refine W.eq (g2 := F0 m 161 ls []) rfl ?_
      refine lv_goto (tgt := 237) hx hb dX5_sign_161 (by decide) ?_
      obtain rfl : u9 = 61 := SgT.tr r2 (by decide)
      have hou := OuQ.num (z := Z) hu4 (VT.tr (by omega) h158) rfl
      have hz159 : StQ y (B 19) Sh nn (J sp) ht (B 30) (B 16) on j9 ba pc fl (((tp - 1) - 1) + 1) (5 : Int32) (nI (pc + 1)) Z ((updJ J 29 (vp_updL ((J 29)) ((tp - 1) - 1) r157)) 29) fl := (StQ.ou hmi hmo (by rw [hop]; decide) hou r3 (Nat.le_refl _) hZ)
      have hz160 : (updJ J 29 (vp_updL ((J 29)) ((tp - 1) - 1) r157)) 34 = J 34 ∧ (updJ J 29 (vp_updL ((J 29)) ((tp - 1) - 1) r157)) 35 = J 35 := ⟨rfl, rfl⟩
      have hz161 : (B 33) 5 = nI fl := hfl
      have hz162 : fl ≤ fl ∧ (((tp - 1) - 1) + 1) ≤ 32000 := (by omega)
      have hO : OKW G h0 a (upd (upd (upd (upd (upd (upd F 18 (nI ba)) 19 (nI (((tp - 1) - 1) + 1))) 20 (nI pc)) 21 (nI (pc + 1))) 23 (5 : Int32)) 26 (nI ht)) (updR (updR R 7 (.ref (a sp))) 8 (.ref (a op))) Z (updA (updA B 32 (B 32)) 33 (B 33)) (updJ J 29 (vp_updL ((J 29)) ((tp - 1) - 1) r157)) T Pi w := hO.to rfl
      exact W.vret hx hb hr (fun t99 ht99 hW99 => ⟨⟨_, (w, ((((tp - 1) - 1) + 1), (5 : Int32), (nI (pc + 1)), Z, (updJ J 29 (vp_updL ((J 29)) ((tp - 1) - 1) r157)), (B 33), (B 32), fl)), rfl, ⟨rfl, hz159, hz160, hz161, hz162, hO⟩, by rw [ht99]; exact hP, hD⟩, hS.F ht99⟩) hS.2.2 dX5_sign_237
    · refine lv_iconst (v := 1) hx hb dX5_sign_153 (by decide) ?_
      refine lv_goto (tgt := 158) hx hb dX5_sign_154 (by decide) ?_
      have hO : OKW G h0 a (upd (upd (upd (upd (upd (upd (upd F 18 (nI ba)) 19 (nI ((tp - 1) - 1))) 20 (nI pc)) 21 (nI (pc + 1))) 23 5) 26 (nI ht)) 19 (nI ((tp - 1) - 1))) (updR (updR R 7 (.ref (a sp))) 8 (.ref (a op))) Z B J T Pi w := hO.to rfl
      obtain ⟨_, qr166, hqr167⟩ := hO.2.1 28 _ (sg_28 G h0 a _ _ _ _ _)
      refine pc_V0 (G := G) (As := [.int (nI 1)]) (rest := []) hx hb hml hown hq hE hX pX0_al hP hD hS hA hl.1 (Y_pushTruth l G h0 a (upd (upd (upd (upd (upd (upd F 18 (nI ba)) 19 (nI ((tp - 1) - 1))) 20 (nI pc)) 21 (nI (pc + 1))) 23 5) 26 (nI ht)) (updR (updR R 7 (.ref (a sp))) 8 (.ref (a op))) Z B J T Pi w 1 ((tp - 1) - 1) (by omega) (by omega) hO) (gV pw_609 pw_610 pw_611 pw_539 pw_601) hV_X5_pushTruth qr166 4 hqr167 rfl rfl rfl (Nat.le_of_ble_eq_true rfl) dX5_sign_158 ⟨Nat.le_of_ble_eq_true rfl, Nat.le_of_ble_eq_true rfl⟩ ⟨Nat.le_of_ble_eq_true rfl, Nat.le_of_ble_eq_true rfl⟩ (fun v165 u163 H locs hw164 hP hD hS => ?_)
      obtain ⟨w, r168⟩ := u163
      obtain ⟨hw164, h169, hO⟩ := hw164
      have h169 : r168 = if 1 = 0 then 0 else 1 := h169
      obtain rfl : v165 = none := hw164
      have hO : OKW G h0 a (upd (upd (upd (upd (upd (upd F 18 (nI ba)) 19 (nI (((tp - 1) - 1) + 1))) 20 (nI pc)) 21 (nI (pc + 1))) 23 5) 26 (nI ht)) (updR (updR R 7 (.ref (a sp))) 8 (.ref (a op))) Z B (updJ J 29 (vp_updL ((J 29)) ((tp - 1) - 1) r168)) T Pi w := hO.to rfl
      refine W.widen (k := 0) (n := 0) (Nat.le_of_ble_eq_true rfl) (Nat.le_of_ble_eq_true rfl) ?_
      refine W.eq (g2 := F0 m 161 ls []) rfl ?_
      refine lv_goto (tgt := 237) hx hb dX5_sign_161 (by decide) ?_
      obtain rfl : u9 = 61 := SgT.tr r2 (by decide)
      have hou := OuQ.num (z := Z) hu4 (VT.tr (by omega) h169) rfl
      have hz170 : StQ y (B 19) Sh nn (J sp) ht (B 30) (B 16) on j9 ba pc fl (((tp - 1) - 1) + 1) (5 : Int32) (nI (pc + 1)) Z ((updJ J 29 (vp_updL ((J 29)) ((tp - 1) - 1) r168)) 29) fl := (StQ.ou hmi hmo (by rw [hop]; decide) hou r3 (Nat.le_refl _) hZ)
      have hz171 : (updJ J 29 (vp_updL ((J 29)) ((tp - 1) - 1) r168)) 34 = J 34 ∧ (updJ J 29 (vp_updL ((J 29)) ((tp - 1) - 1) r168)) 35 = J 35 := ⟨rfl, rfl⟩
      have hz172 : (B 33) 5 = nI fl := hfl
      have hz173 : fl ≤ fl ∧ (((tp - 1) - 1) + 1) ≤ 32000 := (by omega)
      have hO : OKW G h0 a (upd (upd (upd (upd (upd (upd F 18 (nI ba)) 19 (nI (((tp - 1) - 1) + 1))) 20 (nI pc)) 21 (nI (pc + 1))) 23 (5 : Int32)) 26 (nI ht)) (updR (updR R 7 (.ref (a sp))) 8 (.ref (a op))) Z (updA (updA B 32 (B 32)) 33 (B 33)) (updJ J 29 (vp_updL ((J 29)) ((tp - 1) - 1) r168)) T Pi w := hO.to rfl
      exact W.vret hx hb hr (fun t99 ht99 hW99 => ⟨⟨_, (w, ((((tp - 1) - 1) + 1), (5 : Int32), (nI (pc + 1)), Z, (updJ J 29 (vp_updL ((J 29)) ((tp - 1) - 1) r168)), (B 33), (B 32), fl)), rfl, ⟨rfl, hz170, hz171, hz172, hz173, hO⟩, by rw [ht99]; exact hP, hD⟩, hS.F ht99⟩) hS.2.2 dX5_sign_237
  by_cases h174 : kd = 57
  · subst h174
    refine lv_tableIn (tgt := 183) (off := 162) hx hb dX5_sign_21 (by decide) (by decide) (by decide) (by decide) ?_
    refine lv_aload_n hx hb dX5_sign_183 rfl (lv_at hl 4 rfl) ?_
    refine lv_iload hx hb dX5_sign_184 (lv_at hl 0 rfl) ?_
    refine lv_iload hx hb dX5_sign_186 (lv_at hl 1 rfl) ?_
    refine lv_icmp_lt (tgt := 195) hx hb dX5_sign_188 (by decide) (fun c175 => ?_) (fun c175 => ?_)
    · refine lv_iconst (v := 0) hx hb dX5_sign_195 (by decide) ?_
      have hO : OKW G h0 a (upd (upd (upd (upd (upd (upd (upd F 18 (nI ba)) 19 (nI ((tp - 1) - 1))) 20 (nI pc)) 21 (nI (pc + 1))) 23 5) 26 (nI ht)) 19 (nI ((tp - 1) - 1))) (updR (updR R 7 (.ref (a sp))) 8 (.ref (a op))) Z B J T Pi w := hO.to rfl
      obtain ⟨_, qr179, hqr180⟩ := hO.2.1 28 _ (sg_28 G h0 a _ _ _ _ _)
      refine pc_V0 (G := G) (As := [.int (nI 0)]) (rest := []) hx hb hml hown hq hE hX pX0_al hP hD hS hA hl.1 (Y_pushTruth l G h0 a (upd (upd (upd (upd (upd (upd F 18 (nI ba)) 19 (nI ((tp - 1) - 1))) 20 (nI pc)) 21 (nI (pc + 1))) 23 5) 26 (nI ht)) (updR (updR R 7 (.ref (a sp))) 8 (.ref (a op))) Z B J T Pi w 0 ((tp - 1) - 1) (by omega) (by omega) hO) (gV pw_609 pw_610 pw_611 pw_539 pw_601) hV_X5_pushTruth qr179 4 hqr180 rfl rfl rfl (Nat.le_of_ble_eq_true rfl) dX5_sign_196 ⟨Nat.le_of_ble_eq_true rfl, Nat.le_of_ble_eq_true rfl⟩ ⟨Nat.le_of_ble_eq_true rfl, Nat.le_of_ble_eq_true rfl⟩ (fun v178 u176 H locs hw177 hP hD hS => ?_)
      obtain ⟨w, r181⟩ := u176
      obtain ⟨hw177, h182, hO⟩ := hw177
      have h182 : r181 = if 0 = 0 then 0 else 1 := h182
      obtain rfl : v178 = none := hw177
      have hO : OKW G h0 a (upd (upd (upd (upd (upd (upd F 18 (nI ba)) 19 (nI (((tp - 1) - 1) + 1))) 20 (nI pc)) 21 (nI (pc + 1))) 23 5) 26 (nI ht)) (updR (updR R 7 (.ref (a sp))) 8 (.ref (a op))) Z B (updJ J 29 (vp_updL ((J 29)) ((tp - 1) - 1) r181)) T Pi w := hO.to rfl
      refine W.widen (k := 0) (n := 0) (Nat.le_of_ble_eq_true rfl) (Nat.le_of_ble_eq_true rfl) ?_
      refine W.eq (g2 := F0 m 199 ls []) rfl ?_
      refine lv_goto (tgt := 237) hx hb dX5_sign_199 (by decide) ?_
      obtain rfl : u9 = 61 := SgT.tr r2 (by decide)
      have hou := OuQ.num (z := Z) hu4 (VT.tr (by omega) h182) rfl
      have hz183 : StQ y (B 19) Sh nn (J sp) ht (B 30) (B 16) on j9 ba pc fl (((tp - 1) - 1) + 1) (5 : Int32) (nI (pc + 1)) Z ((updJ J 29 (vp_updL ((J 29)) ((tp - 1) - 1) r181)) 29) fl := (StQ.ou hmi hmo (by rw [hop]; decide) hou r3 (Nat.le_refl _) hZ)
      have hz184 : (updJ J 29 (vp_updL ((J 29)) ((tp - 1) - 1) r181)) 34 = J 34 ∧ (updJ J 29 (vp_updL ((J 29)) ((tp - 1) - 1) r181)) 35 = J 35 := ⟨rfl, rfl⟩
      have hz185 : (B 33) 5 = nI fl := hfl
      have hz186 : fl ≤ fl ∧ (((tp - 1) - 1) + 1) ≤ 32000 := (by omega)
      have hO : OKW G h0 a (upd (upd (upd (upd (upd (upd F 18 (nI ba)) 19 (nI (((tp - 1) - 1) + 1))) 20 (nI pc)) 21 (nI (pc + 1))) 23 (5 : Int32)) 26 (nI ht)) (updR (updR R 7 (.ref (a sp))) 8 (.ref (a op))) Z (updA (updA B 32 (B 32)) 33 (B 33)) (updJ J 29 (vp_updL ((J 29)) ((tp - 1) - 1) r181)) T Pi w := hO.to rfl
      exact W.vret hx hb hr (fun t99 ht99 hW99 => ⟨⟨_, (w, ((((tp - 1) - 1) + 1), (5 : Int32), (nI (pc + 1)), Z, (updJ J 29 (vp_updL ((J 29)) ((tp - 1) - 1) r181)), (B 33), (B 32), fl)), rfl, ⟨rfl, hz183, hz184, hz185, hz186, hO⟩, by rw [ht99]; exact hP, hD⟩, hS.F ht99⟩) hS.2.2 dX5_sign_237
    · refine lv_iconst (v := 1) hx hb dX5_sign_191 (by decide) ?_
      refine lv_goto (tgt := 196) hx hb dX5_sign_192 (by decide) ?_
      have hO : OKW G h0 a (upd (upd (upd (upd (upd (upd (upd F 18 (nI ba)) 19 (nI ((tp - 1) - 1))) 20 (nI pc)) 21 (nI (pc + 1))) 23 5) 26 (nI ht)) 19 (nI ((tp - 1) - 1))) (updR (updR R 7 (.ref (a sp))) 8 (.ref (a op))) Z B J T Pi w := hO.to rfl
      obtain ⟨_, qr190, hqr191⟩ := hO.2.1 28 _ (sg_28 G h0 a _ _ _ _ _)
      refine pc_V0 (G := G) (As := [.int (nI 1)]) (rest := []) hx hb hml hown hq hE hX pX0_al hP hD hS hA hl.1 (Y_pushTruth l G h0 a (upd (upd (upd (upd (upd (upd F 18 (nI ba)) 19 (nI ((tp - 1) - 1))) 20 (nI pc)) 21 (nI (pc + 1))) 23 5) 26 (nI ht)) (updR (updR R 7 (.ref (a sp))) 8 (.ref (a op))) Z B J T Pi w 1 ((tp - 1) - 1) (by omega) (by omega) hO) (gV pw_609 pw_610 pw_611 pw_539 pw_601) hV_X5_pushTruth qr190 4 hqr191 rfl rfl rfl (Nat.le_of_ble_eq_true rfl) dX5_sign_196 ⟨Nat.le_of_ble_eq_true rfl, Nat.le_of_ble_eq_true rfl⟩ ⟨Nat.le_of_ble_eq_true rfl, Nat.le_of_ble_eq_true rfl⟩ (fun v189 u187 H locs hw188 hP hD hS => ?_)
      obtain ⟨w, r192⟩ := u187
      obtain ⟨hw188, h193, hO⟩ := hw188
      have h193 : r192 = if 1 = 0 then 0 else 1 := h193
      obtain rfl : v189 = none := hw188
      have hO : OKW G h0 a (upd (upd (upd (upd (upd (upd F 18 (nI ba)) 19 (nI (((tp - 1) - 1) + 1))) 20 (nI pc)) 21 (nI (pc + 1))) 23 5) 26 (nI ht)) (updR (updR R 7 (.ref (a sp))) 8 (.ref (a op))) Z B (updJ J 29 (vp_updL ((J 29)) ((tp - 1) - 1) r192)) T Pi w := hO.to rfl
      refine W.widen (k := 0) (n := 0) (Nat.le_of_ble_eq_true rfl) (Nat.le_of_ble_eq_true rfl) ?_
      refine W.eq (g2 := F0 m 199 ls []) rfl ?_
      refine lv_goto (tgt := 237) hx hb dX5_sign_199 (by decide) ?_
      obtain rfl : u9 = 61 := SgT.tr r2 (by decide)
      have hou := OuQ.num (z := Z) hu4 (VT.tr (by omega) h193) rfl
      have hz194 : StQ y (B 19) Sh nn (J sp) ht (B 30) (B 16) on j9 ba pc fl (((tp - 1) - 1) + 1) (5 : Int32) (nI (pc + 1)) Z ((updJ J 29 (vp_updL ((J 29)) ((tp - 1) - 1) r192)) 29) fl := (StQ.ou hmi hmo (by rw [hop]; decide) hou r3 (Nat.le_refl _) hZ)
      have hz195 : (updJ J 29 (vp_updL ((J 29)) ((tp - 1) - 1) r192)) 34 = J 34 ∧ (updJ J 29 (vp_updL ((J 29)) ((tp - 1) - 1) r192)) 35 = J 35 := ⟨rfl, rfl⟩
      have hz196 : (B 33) 5 = nI fl := hfl
      have hz197 : fl ≤ fl ∧ (((tp - 1) - 1) + 1) ≤ 32000 := (by omega)
      have hO : OKW G h0 a (upd (upd (upd (upd (upd (upd F 18 (nI ba)) 19 (nI (((tp - 1) - 1) + 1))) 20 (nI pc)) 21 (nI (pc + 1))) 23 (5 : Int32)) 26 (nI ht)) (updR (updR R 7 (.ref (a sp))) 8 (.ref (a op))) Z (updA (updA B 32 (B 32)) 33 (B 33)) (updJ J 29 (vp_updL ((J 29)) ((tp - 1) - 1) r192)) T Pi w := hO.to rfl
      exact W.vret hx hb hr (fun t99 ht99 hW99 => ⟨⟨_, (w, ((((tp - 1) - 1) + 1), (5 : Int32), (nI (pc + 1)), Z, (updJ J 29 (vp_updL ((J 29)) ((tp - 1) - 1) r192)), (B 33), (B 32), fl)), rfl, ⟨rfl, hz194, hz195, hz196, hz197, hO⟩, by rw [ht99]; exact hP, hD⟩, hS.F ht99⟩) hS.2.2 dX5_sign_237
  by_cases h198 : kd = 58
  · subst h198
    refine lv_tableIn (tgt := 88) (off := 67) hx hb dX5_sign_21 (by decide) (by decide) (by decide) (by decide) ?_
    refine lv_aload_n hx hb dX5_sign_88 rfl (lv_at hl 4 rfl) ?_
    refine lv_lload hx hb dX5_sign_89 (lv_at hl 2 rfl) ?_
    refine lv_lload_n hx hb dX5_sign_91 rfl (lv_at hl 3 rfl) ?_
    refine W.lcmp hx hb dX5_sign_92 ?_
    refine lv_topi (fun x199 e200 => ?_)
    refine lv_if_ne (tgt := 100) hx hb dX5_sign_93 (by decide) (fun c201 => ?_) (fun c201 => ?_)
    · refine lv_iconst (v := 0) hx hb dX5_sign_100 (by decide) ?_
      have hO : OKW G h0 a (upd (upd (upd (upd (upd (upd (upd F 18 (nI ba)) 19 (nI ((tp - 1) - 1))) 20 (nI pc)) 21 (nI (pc + 1))) 23 5) 26 (nI ht)) 19 (nI ((tp - 1) - 1))) (updR (updR R 7 (.ref (a sp))) 8 (.ref (a op))) Z B J T Pi w := hO.to rfl
      obtain ⟨_, qr205, hqr206⟩ := hO.2.1 28 _ (sg_28 G h0 a _ _ _ _ _)
      refine pc_V0 (G := G) (As := [.int (nI 0)]) (rest := []) hx hb hml hown hq hE hX pX0_al hP hD hS hA hl.1 (Y_pushTruth l G h0 a (upd (upd (upd (upd (upd (upd F 18 (nI ba)) 19 (nI ((tp - 1) - 1))) 20 (nI pc)) 21 (nI (pc + 1))) 23 5) 26 (nI ht)) (updR (updR R 7 (.ref (a sp))) 8 (.ref (a op))) Z B J T Pi w 0 ((tp - 1) - 1) (by omega) (by omega) hO) (gV pw_609 pw_610 pw_611 pw_539 pw_601) hV_X5_pushTruth qr205 4 hqr206 rfl rfl rfl (Nat.le_of_ble_eq_true rfl) dX5_sign_101 ⟨Nat.le_of_ble_eq_true rfl, Nat.le_of_ble_eq_true rfl⟩ ⟨Nat.le_of_ble_eq_true rfl, Nat.le_of_ble_eq_true rfl⟩ (fun v204 u202 H locs hw203 hP hD hS => ?_)
      obtain ⟨w, r207⟩ := u202
      obtain ⟨hw203, h208, hO⟩ := hw203
      have h208 : r207 = if 0 = 0 then 0 else 1 := h208
      obtain rfl : v204 = none := hw203
      have hO : OKW G h0 a (upd (upd (upd (upd (upd (upd F 18 (nI ba)) 19 (nI (((tp - 1) - 1) + 1))) 20 (nI pc)) 21 (nI (pc + 1))) 23 5) 26 (nI ht)) (updR (updR R 7 (.ref (a sp))) 8 (.ref (a op))) Z B (updJ J 29 (vp_updL ((J 29)) ((tp - 1) - 1) r207)) T Pi w := hO.to rfl
      refine W.widen (k := 0) (n := 0) (Nat.le_of_ble_eq_true rfl) (Nat.le_of_ble_eq_true rfl) ?_
      refine W.eq (g2 := F0 m 104 ls []) rfl ?_
      refine lv_goto (tgt := 237) hx hb dX5_sign_104 (by decide) ?_
      obtain rfl : u9 = 61 := SgT.tr r2 (by decide)
      have hou := OuQ.num (z := Z) hu4 (VT.tr (by omega) h208) rfl
      have hz209 : StQ y (B 19) Sh nn (J sp) ht (B 30) (B 16) on j9 ba pc fl (((tp - 1) - 1) + 1) (5 : Int32) (nI (pc + 1)) Z ((updJ J 29 (vp_updL ((J 29)) ((tp - 1) - 1) r207)) 29) fl := (StQ.ou hmi hmo (by rw [hop]; decide) hou r3 (Nat.le_refl _) hZ)
      have hz210 : (updJ J 29 (vp_updL ((J 29)) ((tp - 1) - 1) r207)) 34 = J 34 ∧ (updJ J 29 (vp_updL ((J 29)) ((tp - 1) - 1) r207)) 35 = J 35 := ⟨rfl, rfl⟩
      have hz211 : (B 33) 5 = nI fl := hfl
      have hz212 : fl ≤ fl ∧ (((tp - 1) - 1) + 1) ≤ 32000 := (by omega)
      have hO : OKW G h0 a (upd (upd (upd (upd (upd (upd F 18 (nI ba)) 19 (nI (((tp - 1) - 1) + 1))) 20 (nI pc)) 21 (nI (pc + 1))) 23 (5 : Int32)) 26 (nI ht)) (updR (updR R 7 (.ref (a sp))) 8 (.ref (a op))) Z (updA (updA B 32 (B 32)) 33 (B 33)) (updJ J 29 (vp_updL ((J 29)) ((tp - 1) - 1) r207)) T Pi w := hO.to rfl
      exact W.vret hx hb hr (fun t99 ht99 hW99 => ⟨⟨_, (w, ((((tp - 1) - 1) + 1), (5 : Int32), (nI (pc + 1)), Z, (updJ J 29 (vp_updL ((J 29)) ((tp - 1) - 1) r207)), (B 33), (B 32), fl)), rfl, ⟨rfl, hz209, hz210, hz211, hz212, hO⟩, by rw [ht99]; exact hP, hD⟩, hS.F ht99⟩) hS.2.2 dX5_sign_237
    · refine lv_iconst (v := 1) hx hb dX5_sign_96 (by decide) ?_
      refine lv_goto (tgt := 101) hx hb dX5_sign_97 (by decide) ?_
      have hO : OKW G h0 a (upd (upd (upd (upd (upd (upd (upd F 18 (nI ba)) 19 (nI ((tp - 1) - 1))) 20 (nI pc)) 21 (nI (pc + 1))) 23 5) 26 (nI ht)) 19 (nI ((tp - 1) - 1))) (updR (updR R 7 (.ref (a sp))) 8 (.ref (a op))) Z B J T Pi w := hO.to rfl
      obtain ⟨_, qr216, hqr217⟩ := hO.2.1 28 _ (sg_28 G h0 a _ _ _ _ _)
      refine pc_V0 (G := G) (As := [.int (nI 1)]) (rest := []) hx hb hml hown hq hE hX pX0_al hP hD hS hA hl.1 (Y_pushTruth l G h0 a (upd (upd (upd (upd (upd (upd F 18 (nI ba)) 19 (nI ((tp - 1) - 1))) 20 (nI pc)) 21 (nI (pc + 1))) 23 5) 26 (nI ht)) (updR (updR R 7 (.ref (a sp))) 8 (.ref (a op))) Z B J T Pi w 1 ((tp - 1) - 1) (by omega) (by omega) hO) (gV pw_609 pw_610 pw_611 pw_539 pw_601) hV_X5_pushTruth qr216 4 hqr217 rfl rfl rfl (Nat.le_of_ble_eq_true rfl) dX5_sign_101 ⟨Nat.le_of_ble_eq_true rfl, Nat.le_of_ble_eq_true rfl⟩ ⟨Nat.le_of_ble_eq_true rfl, Nat.le_of_ble_eq_true rfl⟩ (fun v215 u213 H locs hw214 hP hD hS => ?_)
      obtain ⟨w, r218⟩ := u213
      obtain ⟨hw214, h219, hO⟩ := hw214
      have h219 : r218 = if 1 = 0 then 0 else 1 := h219
      obtain rfl : v215 = none := hw214
      have hO : OKW G h0 a (upd (upd (upd (upd (upd (upd F 18 (nI ba)) 19 (nI (((tp - 1) - 1) + 1))) 20 (nI pc)) 21 (nI (pc + 1))) 23 5) 26 (nI ht)) (updR (updR R 7 (.ref (a sp))) 8 (.ref (a op))) Z B (updJ J 29 (vp_updL ((J 29)) ((tp - 1) - 1) r218)) T Pi w := hO.to rfl
      refine W.widen (k := 0) (n := 0) (Nat.le_of_ble_eq_true rfl) (Nat.le_of_ble_eq_true rfl) ?_
      refine W.eq (g2 := F0 m 104 ls []) rfl ?_
      refine lv_goto (tgt := 237) hx hb dX5_sign_104 (by decide) ?_
      obtain rfl : u9 = 61 := SgT.tr r2 (by decide)
      have hou := OuQ.num (z := Z) hu4 (VT.tr (by omega) h219) rfl
      have hz220 : StQ y (B 19) Sh nn (J sp) ht (B 30) (B 16) on j9 ba pc fl (((tp - 1) - 1) + 1) (5 : Int32) (nI (pc + 1)) Z ((updJ J 29 (vp_updL ((J 29)) ((tp - 1) - 1) r218)) 29) fl := (StQ.ou hmi hmo (by rw [hop]; decide) hou r3 (Nat.le_refl _) hZ)
      have hz221 : (updJ J 29 (vp_updL ((J 29)) ((tp - 1) - 1) r218)) 34 = J 34 ∧ (updJ J 29 (vp_updL ((J 29)) ((tp - 1) - 1) r218)) 35 = J 35 := ⟨rfl, rfl⟩
      have hz222 : (B 33) 5 = nI fl := hfl
      have hz223 : fl ≤ fl ∧ (((tp - 1) - 1) + 1) ≤ 32000 := (by omega)
      have hO : OKW G h0 a (upd (upd (upd (upd (upd (upd F 18 (nI ba)) 19 (nI (((tp - 1) - 1) + 1))) 20 (nI pc)) 21 (nI (pc + 1))) 23 (5 : Int32)) 26 (nI ht)) (updR (updR R 7 (.ref (a sp))) 8 (.ref (a op))) Z (updA (updA B 32 (B 32)) 33 (B 33)) (updJ J 29 (vp_updL ((J 29)) ((tp - 1) - 1) r218)) T Pi w := hO.to rfl
      exact W.vret hx hb hr (fun t99 ht99 hW99 => ⟨⟨_, (w, ((((tp - 1) - 1) + 1), (5 : Int32), (nI (pc + 1)), Z, (updJ J 29 (vp_updL ((J 29)) ((tp - 1) - 1) r218)), (B 33), (B 32), fl)), rfl, ⟨rfl, hz220, hz221, hz222, hz223, hO⟩, by rw [ht99]; exact hP, hD⟩, hS.F ht99⟩) hS.2.2 dX5_sign_237
  by_cases h224 : kd = 59
  · subst h224
    refine lv_tableIn (tgt := 107) (off := 86) hx hb dX5_sign_21 (by decide) (by decide) (by decide) (by decide) ?_
    refine lv_aload_n hx hb dX5_sign_107 rfl (lv_at hl 4 rfl) ?_
    refine lv_lload hx hb dX5_sign_108 (lv_at hl 2 rfl) ?_
    refine lv_lload_n hx hb dX5_sign_110 rfl (lv_at hl 3 rfl) ?_
    refine W.lcmp hx hb dX5_sign_111 ?_
    refine lv_topi (fun x225 e226 => ?_)
    refine lv_if_eq (tgt := 119) hx hb dX5_sign_112 (by decide) (fun c227 => ?_) (fun c227 => ?_)
    · refine lv_iconst (v := 0) hx hb dX5_sign_119 (by decide) ?_
      have hO : OKW G h0 a (upd (upd (upd (upd (upd (upd (upd F 18 (nI ba)) 19 (nI ((tp - 1) - 1))) 20 (nI pc)) 21 (nI (pc + 1))) 23 5) 26 (nI ht)) 19 (nI ((tp - 1) - 1))) (updR (updR R 7 (.ref (a sp))) 8 (.ref (a op))) Z B J T Pi w := hO.to rfl
      obtain ⟨_, qr231, hqr232⟩ := hO.2.1 28 _ (sg_28 G h0 a _ _ _ _ _)
      refine pc_V0 (G := G) (As := [.int (nI 0)]) (rest := []) hx hb hml hown hq hE hX pX0_al hP hD hS hA hl.1 (Y_pushTruth l G h0 a (upd (upd (upd (upd (upd (upd F 18 (nI ba)) 19 (nI ((tp - 1) - 1))) 20 (nI pc)) 21 (nI (pc + 1))) 23 5) 26 (nI ht)) (updR (updR R 7 (.ref (a sp))) 8 (.ref (a op))) Z B J T Pi w 0 ((tp - 1) - 1) (by omega) (by omega) hO) (gV pw_609 pw_610 pw_611 pw_539 pw_601) hV_X5_pushTruth qr231 4 hqr232 rfl rfl rfl (Nat.le_of_ble_eq_true rfl) dX5_sign_120 ⟨Nat.le_of_ble_eq_true rfl, Nat.le_of_ble_eq_true rfl⟩ ⟨Nat.le_of_ble_eq_true rfl, Nat.le_of_ble_eq_true rfl⟩ (fun v230 u228 H locs hw229 hP hD hS => ?_)
      obtain ⟨w, r233⟩ := u228
      obtain ⟨hw229, h234, hO⟩ := hw229
      have h234 : r233 = if 0 = 0 then 0 else 1 := h234
      obtain rfl : v230 = none := hw229
      have hO : OKW G h0 a (upd (upd (upd (upd (upd (upd F 18 (nI ba)) 19 (nI (((tp - 1) - 1) + 1))) 20 (nI pc)) 21 (nI (pc + 1))) 23 5) 26 (nI ht)) (updR (updR R 7 (.ref (a sp))) 8 (.ref (a op))) Z B (updJ J 29 (vp_updL ((J 29)) ((tp - 1) - 1) r233)) T Pi w := hO.to rfl
      refine W.widen (k := 0) (n := 0) (Nat.le_of_ble_eq_true rfl) (Nat.le_of_ble_eq_true rfl) ?_
      refine W.eq (g2 := F0 m 123 ls []) rfl ?_
      refine lv_goto (tgt := 237) hx hb dX5_sign_123 (by decide) ?_
      obtain rfl : u9 = 61 := SgT.tr r2 (by decide)
      have hou := OuQ.num (z := Z) hu4 (VT.tr (by omega) h234) rfl
      have hz235 : StQ y (B 19) Sh nn (J sp) ht (B 30) (B 16) on j9 ba pc fl (((tp - 1) - 1) + 1) (5 : Int32) (nI (pc + 1)) Z ((updJ J 29 (vp_updL ((J 29)) ((tp - 1) - 1) r233)) 29) fl := (StQ.ou hmi hmo (by rw [hop]; decide) hou r3 (Nat.le_refl _) hZ)
      have hz236 : (updJ J 29 (vp_updL ((J 29)) ((tp - 1) - 1) r233)) 34 = J 34 ∧ (updJ J 29 (vp_updL ((J 29)) ((tp - 1) - 1) r233)) 35 = J 35 := ⟨rfl, rfl⟩
      have hz237 : (B 33) 5 = nI fl := hfl
      have hz238 : fl ≤ fl ∧ (((tp - 1) - 1) + 1) ≤ 32000 := (by omega)
      have hO : OKW G h0 a (upd (upd (upd (upd (upd (upd F 18 (nI ba)) 19 (nI (((tp - 1) - 1) + 1))) 20 (nI pc)) 21 (nI (pc + 1))) 23 (5 : Int32)) 26 (nI ht)) (updR (updR R 7 (.ref (a sp))) 8 (.ref (a op))) Z (updA (updA B 32 (B 32)) 33 (B 33)) (updJ J 29 (vp_updL ((J 29)) ((tp - 1) - 1) r233)) T Pi w := hO.to rfl
      exact W.vret hx hb hr (fun t99 ht99 hW99 => ⟨⟨_, (w, ((((tp - 1) - 1) + 1), (5 : Int32), (nI (pc + 1)), Z, (updJ J 29 (vp_updL ((J 29)) ((tp - 1) - 1) r233)), (B 33), (B 32), fl)), rfl, ⟨rfl, hz235, hz236, hz237, hz238, hO⟩, by rw [ht99]; exact hP, hD⟩, hS.F ht99⟩) hS.2.2 dX5_sign_237
    · refine lv_iconst (v := 1) hx hb dX5_sign_115 (by decide) ?_
      refine lv_goto (tgt := 120) hx hb dX5_sign_116 (by decide) ?_
      have hO : OKW G h0 a (upd (upd (upd (upd (upd (upd (upd F 18 (nI ba)) 19 (nI ((tp - 1) - 1))) 20 (nI pc)) 21 (nI (pc + 1))) 23 5) 26 (nI ht)) 19 (nI ((tp - 1) - 1))) (updR (updR R 7 (.ref (a sp))) 8 (.ref (a op))) Z B J T Pi w := hO.to rfl
      obtain ⟨_, qr242, hqr243⟩ := hO.2.1 28 _ (sg_28 G h0 a _ _ _ _ _)
      refine pc_V0 (G := G) (As := [.int (nI 1)]) (rest := []) hx hb hml hown hq hE hX pX0_al hP hD hS hA hl.1 (Y_pushTruth l G h0 a (upd (upd (upd (upd (upd (upd F 18 (nI ba)) 19 (nI ((tp - 1) - 1))) 20 (nI pc)) 21 (nI (pc + 1))) 23 5) 26 (nI ht)) (updR (updR R 7 (.ref (a sp))) 8 (.ref (a op))) Z B J T Pi w 1 ((tp - 1) - 1) (by omega) (by omega) hO) (gV pw_609 pw_610 pw_611 pw_539 pw_601) hV_X5_pushTruth qr242 4 hqr243 rfl rfl rfl (Nat.le_of_ble_eq_true rfl) dX5_sign_120 ⟨Nat.le_of_ble_eq_true rfl, Nat.le_of_ble_eq_true rfl⟩ ⟨Nat.le_of_ble_eq_true rfl, Nat.le_of_ble_eq_true rfl⟩ (fun v241 u239 H locs hw240 hP hD hS => ?_)
      obtain ⟨w, r244⟩ := u239
      obtain ⟨hw240, h245, hO⟩ := hw240
      have h245 : r244 = if 1 = 0 then 0 else 1 := h245
      obtain rfl : v241 = none := hw240
      have hO : OKW G h0 a (upd (upd (upd (upd (upd (upd F 18 (nI ba)) 19 (nI (((tp - 1) - 1) + 1))) 20 (nI pc)) 21 (nI (pc + 1))) 23 5) 26 (nI ht)) (updR (updR R 7 (.ref (a sp))) 8 (.ref (a op))) Z B (updJ J 29 (vp_updL ((J 29)) ((tp - 1) - 1) r244)) T Pi w := hO.to rfl
      refine W.widen (k := 0) (n := 0) (Nat.le_of_ble_eq_true rfl) (Nat.le_of_ble_eq_true rfl) ?_
      refine W.eq (g2 := F0 m 123 ls []) rfl ?_
      refine lv_goto (tgt := 237) hx hb dX5_sign_123 (by decide) ?_
      obtain rfl : u9 = 61 := SgT.tr r2 (by decide)
      have hou := OuQ.num (z := Z) hu4 (VT.tr (by omega) h245) rfl
      have hz246 : StQ y (B 19) Sh nn (J sp) ht (B 30) (B 16) on j9 ba pc fl (((tp - 1) - 1) + 1) (5 : Int32) (nI (pc + 1)) Z ((updJ J 29 (vp_updL ((J 29)) ((tp - 1) - 1) r244)) 29) fl := (StQ.ou hmi hmo (by rw [hop]; decide) hou r3 (Nat.le_refl _) hZ)
      have hz247 : (updJ J 29 (vp_updL ((J 29)) ((tp - 1) - 1) r244)) 34 = J 34 ∧ (updJ J 29 (vp_updL ((J 29)) ((tp - 1) - 1) r244)) 35 = J 35 := ⟨rfl, rfl⟩
      have hz248 : (B 33) 5 = nI fl := hfl
      have hz249 : fl ≤ fl ∧ (((tp - 1) - 1) + 1) ≤ 32000 := (by omega)
      have hO : OKW G h0 a (upd (upd (upd (upd (upd (upd F 18 (nI ba)) 19 (nI (((tp - 1) - 1) + 1))) 20 (nI pc)) 21 (nI (pc + 1))) 23 (5 : Int32)) 26 (nI ht)) (updR (updR R 7 (.ref (a sp))) 8 (.ref (a op))) Z (updA (updA B 32 (B 32)) 33 (B 33)) (updJ J 29 (vp_updL ((J 29)) ((tp - 1) - 1) r244)) T Pi w := hO.to rfl
      exact W.vret hx hb hr (fun t99 ht99 hW99 => ⟨⟨_, (w, ((((tp - 1) - 1) + 1), (5 : Int32), (nI (pc + 1)), Z, (updJ J 29 (vp_updL ((J 29)) ((tp - 1) - 1) r244)), (B 33), (B 32), fl)), rfl, ⟨rfl, hz246, hz247, hz248, hz249, hO⟩, by rw [ht99]; exact hP, hD⟩, hS.F ht99⟩) hS.2.2 dX5_sign_237
  refine lv_tableOut (tgt := 224) hx hb dX5_sign_21 (sw_m47_59 h15 h32 h49 h66 h83 h100 h101 h102 h126 h150 h174 h198 h224) (by decide) ?_
  refine lv_aload_n hx hb dX5_sign_224 rfl (lv_at hl 4 rfl) ?_
  refine lv_aload_n hx hb dX5_sign_225 rfl (lv_at hl 4 rfl) ?_
  refine lv_iload_n hx hb dX5_sign_226 rfl (lv_at hl 5 rfl) ?_
  refine lv_iload hx hb dX5_sign_227 (lv_at hl 0 rfl) ?_
  refine lv_iload hx hb dX5_sign_229 (lv_at hl 1 rfl) ?_
  have hO : OKW G h0 a (upd (upd (upd (upd (upd (upd F 18 (nI ba)) 19 (nI ((tp - 1) - 1))) 20 (nI pc)) 21 (nI (pc + 1))) 23 5) 26 (nI ht)) (updR (updR R 7 (.ref (a sp))) 8 (.ref (a op))) Z B J T Pi w := hO.to rfl
  obtain ⟨_, qr253, hqr254⟩ := hO.2.1 28 _ (sg_28 G h0 a _ _ _ _ _)
  refine pc_V0 (G := G) (As := [.int kd, .int x13, .int x11]) (rest := [.ref (a 5)]) hx hb hml hown hq hE hX pX0_al hP hD hS hA hl.1 (Y_combined l G h0 a (upd (upd (upd (upd (upd (upd F 18 (nI ba)) 19 (nI ((tp - 1) - 1))) 20 (nI pc)) 21 (nI (pc + 1))) 23 5) 26 (nI ht)) (updR (updR R 7 (.ref (a sp))) 8 (.ref (a op))) Z B J T Pi w kd x13 x11 (SgT.cm r2 h102 h126 h150 h174 h198 h224 h15 h32) hO) (gV pw_615 pw_616 pw_617 pw_539 pw_608) hV_X5_combined qr253 4 hqr254 rfl rfl rfl (Nat.le_of_ble_eq_true rfl) dX5_sign_231 ⟨Nat.le_of_ble_eq_true rfl, Nat.le_of_ble_eq_true rfl⟩ ⟨Nat.le_of_ble_eq_true rfl, Nat.le_of_ble_eq_true rfl⟩ (fun v252 u250 H locs hw251 hP hD hS => ?_)
  obtain ⟨w, r255⟩ := u250
  obtain ⟨hw251, h256, hO⟩ := hw251
  have h256 : CmQ kd x13 x11 r255 := h256
  obtain rfl : v252 = some (.int r255) := hw251
  have hO : OKW G h0 a (upd (upd (upd (upd (upd (upd F 18 (nI ba)) 19 (nI ((tp - 1) - 1))) 20 (nI pc)) 21 (nI (pc + 1))) 23 5) 26 (nI ht)) (updR (updR R 7 (.ref (a sp))) 8 (.ref (a op))) Z B J T Pi w := hO.to rfl
  refine W.widen (k := 0) (n := 0) (Nat.le_of_ble_eq_true rfl) (Nat.le_of_ble_eq_true rfl) ?_
  refine W.eq (g2 := F0 m 234 ls [.int r255, .ref (a 5)]) rfl ?_
  have hO : OKW G h0 a (upd (upd (upd (upd (upd (upd (upd F 18 (nI ba)) 19 (nI ((tp - 1) - 1))) 20 (nI pc)) 21 (nI (pc + 1))) 23 5) 26 (nI ht)) 19 (nI ((tp - 1) - 1))) (updR (updR R 7 (.ref (a sp))) 8 (.ref (a op))) Z B J T Pi w := hO.to rfl
  obtain ⟨_, qr260, hqr261⟩ := hO.2.1 28 _ (sg_28 G h0 a _ _ _ _ _)
  refine pc_V0 (G := G) (As := [.int r255]) (rest := []) hx hb hml hown hq hE hX pX0_al hP hD hS hA hl.1 (Y_pushNumber l G h0 a (upd (upd (upd (upd (upd (upd F 18 (nI ba)) 19 (nI ((tp - 1) - 1))) 20 (nI pc)) 21 (nI (pc + 1))) 23 5) 26 (nI ht)) (updR (updR R 7 (.ref (a sp))) 8 (.ref (a op))) Z B J T Pi w r255 ((tp - 1) - 1) (by omega) hO) (gV pw_605 pw_606 pw_607 pw_539 pw_602) hV_X5_pushNumber qr260 4 hqr261 rfl rfl rfl (Nat.le_of_ble_eq_true rfl) dX5_sign_234 ⟨Nat.le_of_ble_eq_true rfl, Nat.le_of_ble_eq_true rfl⟩ ⟨Nat.le_of_ble_eq_true rfl, Nat.le_of_ble_eq_true rfl⟩ (fun v259 u257 H locs hw258 hP hD hS => ?_)
  obtain ⟨w, _⟩ := u257
  obtain ⟨hw258, hO⟩ := hw258
  obtain rfl : v259 = none := hw258
  have hO : OKW G h0 a (upd (upd (upd (upd (upd (upd F 18 (nI ba)) 19 (nI (((tp - 1) - 1) + 1))) 20 (nI pc)) 21 (nI (pc + 1))) 23 5) 26 (nI ht)) (updR (updR R 7 (.ref (a sp))) 8 (.ref (a op))) Z B (updJ J 29 (vp_updL ((J 29)) ((tp - 1) - 1) (nmV r255))) T Pi w := hO.to rfl
  refine W.widen (k := 0) (n := 0) (Nat.le_of_ble_eq_true rfl) (Nat.le_of_ble_eq_true rfl) ?_
  refine W.eq (g2 := F0 m 237 ls []) rfl ?_
  have hou := OuQ.num (z := Z) hu4 (SgT.val r2 (fun z => by rcases z with z | z | z | z | z | z; exact h102 z; exact h126 z; exact h150 z; exact h174 z; exact h198 z; exact h224 z) (by rw [← e14, ← e12]; exact h256) hu3 hv3) rfl
  have hz262 : StQ y (B 19) Sh nn (J sp) ht (B 30) (B 16) on j9 ba pc fl (((tp - 1) - 1) + 1) (5 : Int32) (nI (pc + 1)) Z ((updJ J 29 (vp_updL ((J 29)) ((tp - 1) - 1) (nmV r255))) 29) fl := (StQ.ou hmi hmo (by rw [hop]; decide) hou r3 (Nat.le_refl _) hZ)
  have hz263 : (updJ J 29 (vp_updL ((J 29)) ((tp - 1) - 1) (nmV r255))) 34 = J 34 ∧ (updJ J 29 (vp_updL ((J 29)) ((tp - 1) - 1) (nmV r255))) 35 = J 35 := ⟨rfl, rfl⟩
  have hz264 : (B 33) 5 = nI fl := hfl
  have hz265 : fl ≤ fl ∧ (((tp - 1) - 1) + 1) ≤ 32000 := (by omega)
  have hO : OKW G h0 a (upd (upd (upd (upd (upd (upd F 18 (nI ba)) 19 (nI (((tp - 1) - 1) + 1))) 20 (nI pc)) 21 (nI (pc + 1))) 23 (5 : Int32)) 26 (nI ht)) (updR (updR R 7 (.ref (a sp))) 8 (.ref (a op))) Z (updA (updA B 32 (B 32)) 33 (B 33)) (updJ J 29 (vp_updL ((J 29)) ((tp - 1) - 1) (nmV r255))) T Pi w := hO.to rfl
  exact W.vret hx hb hr (fun t99 ht99 hW99 => ⟨⟨_, (w, ((((tp - 1) - 1) + 1), (5 : Int32), (nI (pc + 1)), Z, (updJ J 29 (vp_updL ((J 29)) ((tp - 1) - 1) (nmV r255))), (B 33), (B 32), fl)), rfl, ⟨rfl, hz262, hz263, hz264, hz265, hO⟩, by rw [ht99]; exact hP, hD⟩, hS.F ht99⟩) hS.2.2 dX5_sign_237
set_option maxHeartbeats 8000000 in
set_option maxRecDepth 100000 in
theorem Y_st10 (l : Launch) (G : pT) (h0 : Nat) (a : Nat → Nat) (F : Nat → Int32) (R : Nat → Value) (Z : Int64) (B : Nat → Nat → Int32) (J : Nat → Nat → Int64) (T : Nat → Nat) (Pi : Nat → va_E → Prop) (w : va_W) (y : TY) (Sh : Nat → Nat) (nn : Nat → Nat) (on : Nat) (j9 : Nat) (ba : Nat) (pc : Nat) (tp : Nat) (sp : Nat) (op : Nat) (ht : Nat) (fl : Nat) (hsp : (sp = 34 ∧ op = 35) ∨ (sp = 35 ∧ op = 34)) (hmi : MIy y (B 19) Sh nn (J sp) ht (B 30) (J 29) on j9 ba pc tp) (hmo : MOy y (B 16) (B 17) (B 18) (B 19) j9) (hZ : Z = 0) (hfl : B 33 5 = nI fl) (hflb : fl ≤ 20000) (hop : B 16 pc = nI 10) (hru : IRy y (B 16) (B 17) (B 18) pc j9 10) (hO : OKW G h0 a (upd (upd (upd (upd (upd (upd F 18 (nI ba)) 19 (nI tp)) 20 (nI pc)) 21 (nI (pc + 1))) 23 5) 26 (nI ht)) (updR (updR R 7 (.ref (a sp))) 8 (.ref (a op))) Z B J T Pi w) : PM l G pX0 yX5_step cX5_step 3 none ({ frames := 16, cells := 0, slots := 0, locals := 1600 }) [.ref (a 5), .int 10, .int (B 17 pc)] w (fun (v : Option Value) (u : va_W × (Nat × Int32 × Int32 × Int64 × (Nat → Nat → Int64) × (Nat → Int32) × (Nat → Int32) × Nat)) => v = none ∧ (StQ y (B 19) Sh nn (J sp) ht (B 30) (B 16) on j9 ba pc fl u.2.1 u.2.2.1 u.2.2.2.1 u.2.2.2.2.1 (u.2.2.2.2.2.1 29) u.2.2.2.2.2.2.2.2) ∧ (u.2.2.2.2.2.1 34 = J 34 ∧ u.2.2.2.2.2.1 35 = J 35) ∧ (u.2.2.2.2.2.2.1 5 = nI u.2.2.2.2.2.2.2.2) ∧ (u.2.2.2.2.2.2.2.2 ≤ fl ∧ u.2.1 ≤ 32000) ∧ (OKW G h0 a (upd (upd (upd (upd (upd (upd F 18 (nI ba)) 19 (nI u.2.1)) 20 (nI pc)) 21 u.2.2.2.1) 23 u.2.2.1) 26 (nI ht)) (updR (updR R 7 (.ref (a sp))) 8 (.ref (a op))) u.2.2.2.2.1 (updA (updA B 32 u.2.2.2.2.2.2.2.1) 33 u.2.2.2.2.2.2.1) u.2.2.2.2.2.1 T Pi u.1)) (fun u => u.1) := by
  intro sz
  refine Met.ofW (cc := cX5_step) (maxL := 3) (ret := none) (by decide) rfl ?_
  intro p e s m args below meth c s₁ B9 hml hv
  obtain ⟨rfl, hsz, hP, hD0, hE, hX⟩ := hv
  have hx := B9.exec
  have hb := B9.bytes
  have hr := B9.returns
  have hts := atoms_spec (ws := Cond.code yX5_step cX5_step 3 none :: pw) B9.pre
  have hq : ∀ w ∈ pw, w.before _ s = true := fun w h => hts w (List.mem_cons_of_mem _ h)
  have hown : s.vm.findClass RX5 = some m.cls := findClass_of_methodNamed B9.named
  have hlocks := B9.notSynchronized
  subst hsz
  have hD := hD0.self (sz := s.heap.size)
  have hA : ∀ q : Nat, s.heap.size ≤ q → va_A w s.heap.size q := fun q h => Or.inr h
  generalize va_A w s.heap.size = A at hD hE hA ⊢
  have hS : va_S A s.heap s.heap [] := va_S.rf
  have hl := lv_entry ([.ref (a 5), .int 10, .int (B 17 pc)]) (n := 3) (Nat.le_of_ble_eq_true rfl)
  rw [lg_entry_eq]
  generalize (lg_sl ([.ref (a 5), .int 10, .int (B 17 pc)]) ++ List.replicate (3 - (lg_sl ([.ref (a 5), .int 10, .int (B 17 pc)])).length) Slot.unset).toArray = ls at hl ⊢
  have hl : lv_has ls 3 [(0, .ref (a 5)), (1, .int 10), (2, .int (B 17 pc))] := hl
  obtain ⟨hn1, hn2, hn3, hn4, hn5, hn6, hn7, hn8, hn9, hn10, hn11, hn12⟩ := MIy.nums hmi hmo
  have hlo := FFy.lo hmi.ff
  refine lv_iload_n hx hb dX5_step_0 rfl (lv_at hl 1 rfl) ?_
  refine lv_tableIn (tgt := 185) (off := 184) hx hb dX5_step_1 (by decide) (by decide) (by decide) (by decide) ?_
  refine lv_aload_n hx hb dX5_step_185 rfl (lv_at hl 0 rfl) ?_
  refine lv_iload_n hx hb dX5_step_186 rfl (lv_at hl 2 rfl) ?_
  have hO : OKW G h0 a (upd (upd (upd (upd (upd (upd (upd (upd (upd (upd (upd (upd F 18 (nI ba)) 19 (nI tp)) 20 (nI pc)) 21 (nI (pc + 1))) 23 5) 26 (nI ht)) 18 (nI ba)) 19 (nI tp)) 20 (nI pc)) 21 (nI (pc + 1))) 23 5) 26 (nI ht)) (updR (updR (updR (updR R 7 (.ref (a sp))) 8 (.ref (a op))) 7 (.ref (a sp))) 8 (.ref (a op))) Z B J T Pi w := hO.to rfl
  obtain ⟨_, qr4, hqr5⟩ := hO.2.1 28 _ (sg_28 G h0 a _ _ _ _ _)
  refine pc_V0 (G := G) (As := [.int (B 17 pc)]) (rest := []) hx hb hml hown hq hE hX pX0_al hP hD hS hA hl.1 (Y_sign l G h0 a (upd (upd (upd (upd (upd (upd F 18 (nI ba)) 19 (nI tp)) 20 (nI pc)) 21 (nI (pc + 1))) 23 5) 26 (nI ht)) (updR (updR R 7 (.ref (a sp))) 8 (.ref (a op))) Z B J T Pi w y Sh nn on j9 ba pc tp sp op ht fl hsp hmi hmo hZ hfl hflb hop hru hO) (gV pw_631 pw_632 pw_633 pw_539 pw_618) hV_X5_sign qr4 4 hqr5 rfl rfl rfl (Nat.le_of_ble_eq_true rfl) dX5_step_187 ⟨Nat.le_of_ble_eq_true rfl, Nat.le_of_ble_eq_true rfl⟩ ⟨Nat.le_of_ble_eq_true rfl, Nat.le_of_ble_eq_true rfl⟩ (fun v3 u1 H locs hw2 hP hD hS => ?_)
  obtain ⟨w, tp6, en7, nx8, z9, J10, ta11, ou12, fl13⟩ := u1
  obtain ⟨hw2, h14, h15, h16, h17, hO⟩ := hw2
  have h14 : StQ y ((B 19)) Sh nn (J sp) ht ((B 30)) ((B 16)) on j9 ba pc fl tp6 en7 nx8 z9 (J10 29) fl13 := h14
  have h15 : J10 34 = (J 34) ∧ J10 35 = (J 35) := h15
  have h16 : ta11 5 = nI fl13 := h16
  have h17 : fl13 ≤ fl ∧ tp6 ≤ 32000 := h17
  obtain rfl : v3 = none := hw2
  have hO : OKW G h0 a (upd (upd (upd (upd (upd (upd F 18 (nI ba)) 19 (nI tp6)) 20 (nI pc)) 21 nx8) 23 en7) 26 (nI ht)) (updR (updR R 7 (.ref (a sp))) 8 (.ref (a op))) z9 (updA (updA B 32 ou12) 33 ta11) J10 T Pi w := hO.to rfl
  refine W.widen (k := 0) (n := 0) (Nat.le_of_ble_eq_true rfl) (Nat.le_of_ble_eq_true rfl) ?_
  refine W.eq (g2 := F0 m 190 ls []) rfl ?_
  refine lv_goto (tgt := 229) hx hb dX5_step_190 (by decide) ?_
  have hz18 : StQ y (B 19) Sh nn (J sp) ht (B 30) (B 16) on j9 ba pc fl tp6 en7 nx8 z9 (J10 29) fl13 := h14
  have hz19 : J10 34 = J 34 ∧ J10 35 = J 35 := h15
  have hz20 : ta11 5 = nI fl13 := h16
  have hz21 : fl13 ≤ fl ∧ tp6 ≤ 32000 := h17
  have hO : OKW G h0 a (upd (upd (upd (upd (upd (upd F 18 (nI ba)) 19 (nI tp6)) 20 (nI pc)) 21 nx8) 23 en7) 26 (nI ht)) (updR (updR R 7 (.ref (a sp))) 8 (.ref (a op))) z9 (updA (updA B 32 ou12) 33 ta11) J10 T Pi w := hO.to rfl
  exact W.vret hx hb hr (fun t99 ht99 hW99 => ⟨⟨_, (w, (tp6, en7, nx8, z9, J10, ta11, ou12, fl13)), rfl, ⟨rfl, hz18, hz19, hz20, hz21, hO⟩, by rw [ht99]; exact hP, hD⟩, hS.F ht99⟩) hS.2.2 dX5_step_229
set_option maxHeartbeats 2000000 in
set_option maxRecDepth 100000 in
theorem Y_prefix (l : Launch) (G : pT) (h0 : Nat) (a : Nat → Nat) (F : Nat → Int32) (R : Nat → Value) (Z : Int64) (B : Nat → Nat → Int32) (J : Nat → Nat → Int64) (T : Nat → Nat) (Pi : Nat → va_E → Prop) (w : va_W) (x : Int32) (y9 : Int32) (tp : Nat) (htp : tp < 32000) (hO : OKW G h0 a (upd F 19 (nI tp)) R Z B J T Pi w) : PM l G pX0 yX5_prefix cX5_prefix 3 none ({ frames := 4, cells := 0, slots := 0, locals := 103 }) [.ref (a 5), .int x, .int y9] w (fun (v : Option Value) (u : va_W × (Int32)) => v = none ∧ (¬ (x = 45 ∨ x = 52) → u.2 = y9 ^^^ 1) ∧ (OKW G h0 a (upd F 19 (nI (tp + 1))) R Z B (updJ J 29 (vp_updL (J 29) tp (nmV u.2))) T Pi u.1)) (fun u => u.1) := by
  intro sz
  refine Met.ofW (cc := cX5_prefix) (maxL := 3) (ret := none) (by decide) rfl ?_
  intro p e s m args below meth c s₁ B9 hml hv
  obtain ⟨rfl, hsz, hP, hD0, hE, hX⟩ := hv
  have hx := B9.exec
  have hb := B9.bytes
  have hr := B9.returns
  have hts := atoms_spec (ws := Cond.code yX5_prefix cX5_prefix 3 none :: pw) B9.pre
  have hq : ∀ w ∈ pw, w.before _ s = true := fun w h => hts w (List.mem_cons_of_mem _ h)
  have hown : s.vm.findClass RX5 = some m.cls := findClass_of_methodNamed B9.named
  have hlocks := B9.notSynchronized
  subst hsz
  have hD := hD0.self (sz := s.heap.size)
  have hA : ∀ q : Nat, s.heap.size ≤ q → va_A w s.heap.size q := fun q h => Or.inr h
  generalize va_A w s.heap.size = A at hD hE hA ⊢
  have hS : va_S A s.heap s.heap [] := va_S.rf
  have hl := lv_entry ([.ref (a 5), .int x, .int y9]) (n := 3) (Nat.le_of_ble_eq_true rfl)
  rw [lg_entry_eq]
  generalize (lg_sl ([.ref (a 5), .int x, .int y9]) ++ List.replicate (3 - (lg_sl ([.ref (a 5), .int x, .int y9])).length) Slot.unset).toArray = ls at hl ⊢
  have hl : lv_has ls 3 [(0, .ref (a 5)), (1, .int x), (2, .int y9)] := hl
  refine lv_iload_n hx hb dX5_prefix_0 rfl (lv_at hl 1 rfl) ?_
  by_cases h1 : x = 45
  · refine lv_lookup (tgt := 28) (off := 27) hx hb dX5_prefix_1 (by decide) (by rw [h1]; decide) (by decide) ?_
    refine lv_aload_n hx hb dX5_prefix_28 rfl (lv_at hl 0 rfl) ?_
    refine lv_iload_n hx hb dX5_prefix_29 rfl (lv_at hl 2 rfl) ?_
    refine lv_ineg hx hb dX5_prefix_30 ?_
    refine lv_topi (fun x2 e3 => ?_)
    have hO : OKW G h0 a (upd (upd F 19 (nI tp)) 19 (nI tp)) R Z B J T Pi w := hO.to rfl
    obtain ⟨_, qr7, hqr8⟩ := hO.2.1 28 _ (sg_28 G h0 a _ _ _ _ _)
    refine pc_V0 (G := G) (As := [.int x2]) (rest := []) hx hb hml hown hq hE hX pX0_al hP hD hS hA hl.1 (Y_pushNumber l G h0 a (upd F 19 (nI tp)) R Z B J T Pi w x2 tp (by omega) hO) (gV pw_605 pw_606 pw_607 pw_539 pw_602) hV_X5_pushNumber qr7 4 hqr8 rfl rfl rfl (Nat.le_of_ble_eq_true rfl) dX5_prefix_31 ⟨Nat.le_of_ble_eq_true rfl, Nat.le_of_ble_eq_true rfl⟩ ⟨Nat.le_of_ble_eq_true rfl, Nat.le_of_ble_eq_true rfl⟩ (fun v6 u4 H locs hw5 hP hD hS => ?_)
    obtain ⟨w, _⟩ := u4
    obtain ⟨hw5, hO⟩ := hw5
    obtain rfl : v6 = none := hw5
    have hO : OKW G h0 a (upd F 19 (nI (tp + 1))) R Z B (updJ J 29 (vp_updL ((J 29)) tp (nmV x2))) T Pi w := hO.to rfl
    refine W.widen (k := 0) (n := 0) (Nat.le_of_ble_eq_true rfl) (Nat.le_of_ble_eq_true rfl) ?_
    refine W.eq (g2 := F0 m 34 ls []) rfl ?_
    refine lv_goto (tgt := 54) hx hb dX5_prefix_34 (by decide) ?_
    have hz9 : ¬ (x = 45 ∨ x = 52) → x2 = y9 ^^^ 1 := (fun z => absurd (Or.inl h1) z)
    have hO : OKW G h0 a (upd F 19 (nI (tp + 1))) R Z B (updJ J 29 (vp_updL (J 29) tp (nmV x2))) T Pi w := hO.to rfl
    exact W.vret hx hb hr (fun t99 ht99 hW99 => ⟨⟨_, (w, x2), rfl, ⟨rfl, hz9, hO⟩, by rw [ht99]; exact hP, hD⟩, hS.F ht99⟩) hS.2.2 dX5_prefix_54
  by_cases h10 : x = 52
  · refine lv_lookup (tgt := 37) (off := 36) hx hb dX5_prefix_1 (by decide) (by rw [h10]; decide) (by decide) ?_
    refine lv_aload_n hx hb dX5_prefix_37 rfl (lv_at hl 0 rfl) ?_
    refine lv_iload_n hx hb dX5_prefix_38 rfl (lv_at hl 2 rfl) ?_
    refine lv_iconst (v := (-1)) hx hb dX5_prefix_39 (by decide) ?_
    refine lv_ixor hx hb dX5_prefix_40 ?_
    refine lv_topi (fun x11 e12 => ?_)
    have hO : OKW G h0 a (upd (upd F 19 (nI tp)) 19 (nI tp)) R Z B J T Pi w := hO.to rfl
    obtain ⟨_, qr16, hqr17⟩ := hO.2.1 28 _ (sg_28 G h0 a _ _ _ _ _)
    refine pc_V0 (G := G) (As := [.int x11]) (rest := []) hx hb hml hown hq hE hX pX0_al hP hD hS hA hl.1 (Y_pushNumber l G h0 a (upd F 19 (nI tp)) R Z B J T Pi w x11 tp (by omega) hO) (gV pw_605 pw_606 pw_607 pw_539 pw_602) hV_X5_pushNumber qr16 4 hqr17 rfl rfl rfl (Nat.le_of_ble_eq_true rfl) dX5_prefix_41 ⟨Nat.le_of_ble_eq_true rfl, Nat.le_of_ble_eq_true rfl⟩ ⟨Nat.le_of_ble_eq_true rfl, Nat.le_of_ble_eq_true rfl⟩ (fun v15 u13 H locs hw14 hP hD hS => ?_)
    obtain ⟨w, _⟩ := u13
    obtain ⟨hw14, hO⟩ := hw14
    obtain rfl : v15 = none := hw14
    have hO : OKW G h0 a (upd F 19 (nI (tp + 1))) R Z B (updJ J 29 (vp_updL ((J 29)) tp (nmV x11))) T Pi w := hO.to rfl
    refine W.widen (k := 0) (n := 0) (Nat.le_of_ble_eq_true rfl) (Nat.le_of_ble_eq_true rfl) ?_
    refine W.eq (g2 := F0 m 44 ls []) rfl ?_
    refine lv_goto (tgt := 54) hx hb dX5_prefix_44 (by decide) ?_
    have hz18 : ¬ (x = 45 ∨ x = 52) → x11 = y9 ^^^ 1 := (fun z => absurd (Or.inr h10) z)
    have hO : OKW G h0 a (upd F 19 (nI (tp + 1))) R Z B (updJ J 29 (vp_updL (J 29) tp (nmV x11))) T Pi w := hO.to rfl
    exact W.vret hx hb hr (fun t99 ht99 hW99 => ⟨⟨_, (w, x11), rfl, ⟨rfl, hz18, hO⟩, by rw [ht99]; exact hP, hD⟩, hS.F ht99⟩) hS.2.2 dX5_prefix_54
  refine lv_lookup (tgt := 47) (off := 46) hx hb dX5_prefix_1 (by decide) ((lv_osw h1 (by decide)).trans ((lv_osw h10 (by decide)).trans rfl)) (by decide) ?_
  refine lv_aload_n hx hb dX5_prefix_47 rfl (lv_at hl 0 rfl) ?_
  refine lv_iload_n hx hb dX5_prefix_48 rfl (lv_at hl 2 rfl) ?_
  refine lv_iconst (v := 1) hx hb dX5_prefix_49 (by decide) ?_
  refine lv_ixor hx hb dX5_prefix_50 ?_
  refine lv_topi (fun x19 e20 => ?_)
  have hO : OKW G h0 a (upd (upd F 19 (nI tp)) 19 (nI tp)) R Z B J T Pi w := hO.to rfl
  obtain ⟨_, qr24, hqr25⟩ := hO.2.1 28 _ (sg_28 G h0 a _ _ _ _ _)
  refine pc_V0 (G := G) (As := [.int x19]) (rest := []) hx hb hml hown hq hE hX pX0_al hP hD hS hA hl.1 (Y_pushNumber l G h0 a (upd F 19 (nI tp)) R Z B J T Pi w x19 tp (by omega) hO) (gV pw_605 pw_606 pw_607 pw_539 pw_602) hV_X5_pushNumber qr24 4 hqr25 rfl rfl rfl (Nat.le_of_ble_eq_true rfl) dX5_prefix_51 ⟨Nat.le_of_ble_eq_true rfl, Nat.le_of_ble_eq_true rfl⟩ ⟨Nat.le_of_ble_eq_true rfl, Nat.le_of_ble_eq_true rfl⟩ (fun v23 u21 H locs hw22 hP hD hS => ?_)
  obtain ⟨w, _⟩ := u21
  obtain ⟨hw22, hO⟩ := hw22
  obtain rfl : v23 = none := hw22
  have hO : OKW G h0 a (upd F 19 (nI (tp + 1))) R Z B (updJ J 29 (vp_updL ((J 29)) tp (nmV x19))) T Pi w := hO.to rfl
  refine W.widen (k := 0) (n := 0) (Nat.le_of_ble_eq_true rfl) (Nat.le_of_ble_eq_true rfl) ?_
  refine W.eq (g2 := F0 m 54 ls []) rfl ?_
  have hz26 : ¬ (x = 45 ∨ x = 52) → x19 = y9 ^^^ 1 := (fun _ => e20)
  have hO : OKW G h0 a (upd F 19 (nI (tp + 1))) R Z B (updJ J 29 (vp_updL (J 29) tp (nmV x19))) T Pi w := hO.to rfl
  exact W.vret hx hb hr (fun t99 ht99 hW99 => ⟨⟨_, (w, x19), rfl, ⟨rfl, hz26, hO⟩, by rw [ht99]; exact hP, hD⟩, hS.F ht99⟩) hS.2.2 dX5_prefix_54
set_option maxHeartbeats 8000000 in
set_option maxRecDepth 100000 in
theorem Y_st11 (l : Launch) (G : pT) (h0 : Nat) (a : Nat → Nat) (F : Nat → Int32) (R : Nat → Value) (Z : Int64) (B : Nat → Nat → Int32) (J : Nat → Nat → Int64) (T : Nat → Nat) (Pi : Nat → va_E → Prop) (w : va_W) (y : TY) (Sh : Nat → Nat) (nn : Nat → Nat) (on : Nat) (j9 : Nat) (ba : Nat) (pc : Nat) (tp : Nat) (sp : Nat) (op : Nat) (ht : Nat) (fl : Nat) (hsp : (sp = 34 ∧ op = 35) ∨ (sp = 35 ∧ op = 34)) (hmi : MIy y (B 19) Sh nn (J sp) ht (B 30) (J 29) on j9 ba pc tp) (hmo : MOy y (B 16) (B 17) (B 18) (B 19) j9) (hZ : Z = 0) (hfl : B 33 5 = nI fl) (hflb : fl ≤ 20000) (hop : B 16 pc = nI 11) (hru : IRy y (B 16) (B 17) (B 18) pc j9 11) (hO : OKW G h0 a (upd (upd (upd (upd (upd (upd F 18 (nI ba)) 19 (nI tp)) 20 (nI pc)) 21 (nI (pc + 1))) 23 5) 26 (nI ht)) (updR (updR R 7 (.ref (a sp))) 8 (.ref (a op))) Z B J T Pi w) : PM l G pX0 yX5_step cX5_step 3 none ({ frames := 16, cells := 0, slots := 0, locals := 1600 }) [.ref (a 5), .int 11, .int (B 17 pc)] w (fun (v : Option Value) (u : va_W × (Nat × Int32 × Int32 × Int64 × (Nat → Nat → Int64) × (Nat → Int32) × (Nat → Int32) × Nat)) => v = none ∧ (StQ y (B 19) Sh nn (J sp) ht (B 30) (B 16) on j9 ba pc fl u.2.1 u.2.2.1 u.2.2.2.1 u.2.2.2.2.1 (u.2.2.2.2.2.1 29) u.2.2.2.2.2.2.2.2) ∧ (u.2.2.2.2.2.1 34 = J 34 ∧ u.2.2.2.2.2.1 35 = J 35) ∧ (u.2.2.2.2.2.2.1 5 = nI u.2.2.2.2.2.2.2.2) ∧ (u.2.2.2.2.2.2.2.2 ≤ fl ∧ u.2.1 ≤ 32000) ∧ (OKW G h0 a (upd (upd (upd (upd (upd (upd F 18 (nI ba)) 19 (nI u.2.1)) 20 (nI pc)) 21 u.2.2.2.1) 23 u.2.2.1) 26 (nI ht)) (updR (updR R 7 (.ref (a sp))) 8 (.ref (a op))) u.2.2.2.2.1 (updA (updA B 32 u.2.2.2.2.2.2.2.1) 33 u.2.2.2.2.2.2.1) u.2.2.2.2.2.1 T Pi u.1)) (fun u => u.1) := by
  intro sz
  refine Met.ofW (cc := cX5_step) (maxL := 3) (ret := none) (by decide) rfl ?_
  intro p e s m args below meth c s₁ B9 hml hv
  obtain ⟨rfl, hsz, hP, hD0, hE, hX⟩ := hv
  have hx := B9.exec
  have hb := B9.bytes
  have hr := B9.returns
  have hts := atoms_spec (ws := Cond.code yX5_step cX5_step 3 none :: pw) B9.pre
  have hq : ∀ w ∈ pw, w.before _ s = true := fun w h => hts w (List.mem_cons_of_mem _ h)
  have hown : s.vm.findClass RX5 = some m.cls := findClass_of_methodNamed B9.named
  have hlocks := B9.notSynchronized
  subst hsz
  have hD := hD0.self (sz := s.heap.size)
  have hA : ∀ q : Nat, s.heap.size ≤ q → va_A w s.heap.size q := fun q h => Or.inr h
  generalize va_A w s.heap.size = A at hD hE hA ⊢
  have hS : va_S A s.heap s.heap [] := va_S.rf
  have hl := lv_entry ([.ref (a 5), .int 11, .int (B 17 pc)]) (n := 3) (Nat.le_of_ble_eq_true rfl)
  rw [lg_entry_eq]
  generalize (lg_sl ([.ref (a 5), .int 11, .int (B 17 pc)]) ++ List.replicate (3 - (lg_sl ([.ref (a 5), .int 11, .int (B 17 pc)])).length) Slot.unset).toArray = ls at hl ⊢
  have hl : lv_has ls 3 [(0, .ref (a 5)), (1, .int 11), (2, .int (B 17 pc))] := hl
  obtain ⟨hn1, hn2, hn3, hn4, hn5, hn6, hn7, hn8, hn9, hn10, hn11, hn12⟩ := MIy.nums hmi hmo
  have hlo := FFy.lo hmi.ff
  obtain ⟨t9, u9, os, r1, r2, r3⟩ := hru
  obtain ⟨hv1, hv2, hv3, hv4⟩ := FFy.pop hmi.ff r1
  refine lv_iload_n hx hb dX5_step_0 rfl (lv_at hl 1 rfl) ?_
  refine lv_tableIn (tgt := 193) (off := 192) hx hb dX5_step_1 (by decide) (by decide) (by decide) (by decide) ?_
  refine lv_aload_n hx hb dX5_step_193 rfl (lv_at hl 0 rfl) ?_
  refine lv_iload_n hx hb dX5_step_194 rfl (lv_at hl 2 rfl) ?_
  refine lv_aload_n hx hb dX5_step_195 rfl (lv_at hl 0 rfl) ?_
  have hO : OKW G h0 a (upd (upd (upd (upd (upd (upd (upd F 18 (nI ba)) 19 (nI tp)) 20 (nI pc)) 21 (nI (pc + 1))) 23 5) 26 (nI ht)) 19 (nI tp)) (updR (updR R 7 (.ref (a sp))) 8 (.ref (a op))) Z B J T Pi w := hO.to rfl
  obtain ⟨_, qr4, hqr5⟩ := hO.2.1 28 _ (sg_28 G h0 a _ _ _ _ _)
  refine pc_V0 (G := G) (As := []) (rest := [.int (B 17 pc), .ref (a 5)]) hx hb hml hown hq hE hX pX0_al hP hD hS hA hl.1 (Y_pop l G h0 a (upd (upd (upd (upd (upd (upd F 18 (nI ba)) 19 (nI tp)) 20 (nI pc)) 21 (nI (pc + 1))) 23 5) 26 (nI ht)) (updR (updR R 7 (.ref (a sp))) 8 (.ref (a op))) Z B J T Pi w tp (by omega) hO) (gV pw_598 pw_599 pw_600 pw_539 pw_595) hV_X5_pop qr4 4 hqr5 rfl rfl rfl (Nat.le_of_ble_eq_true rfl) dX5_step_196 ⟨Nat.le_of_ble_eq_true rfl, Nat.le_of_ble_eq_true rfl⟩ ⟨Nat.le_of_ble_eq_true rfl, Nat.le_of_ble_eq_true rfl⟩ (fun v3 u1 H locs hw2 hP hD hS => ?_)
  obtain ⟨w, _⟩ := u1
  obtain ⟨hw2, hO⟩ := hw2
  obtain rfl : v3 = some (.long ((J 29) (tp - 1))) := hw2
  have hO : OKW G h0 a (upd (upd (upd (upd (upd (upd F 18 (nI ba)) 19 (nI (tp - 1))) 20 (nI pc)) 21 (nI (pc + 1))) 23 5) 26 (nI ht)) (updR (updR R 7 (.ref (a sp))) 8 (.ref (a op))) Z B J T Pi w := hO.to rfl
  refine W.widen (k := 0) (n := 0) (Nat.le_of_ble_eq_true rfl) (Nat.le_of_ble_eq_true rfl) ?_
  refine W.eq (g2 := F0 m 199 ls [.long ((J 29) (tp - 1)), .int (B 17 pc), .ref (a 5)]) rfl ?_
  refine lv_l2i hx hb dX5_step_199 rfl ?_
  refine lv_topi (fun x6 e7 => ?_)
  have hO : OKW G h0 a (upd (upd (upd (upd (upd (upd (upd F 18 (nI ba)) 19 (nI (tp - 1))) 20 (nI pc)) 21 (nI (pc + 1))) 23 5) 26 (nI ht)) 19 (nI (tp - 1))) (updR (updR R 7 (.ref (a sp))) 8 (.ref (a op))) Z B J T Pi w := hO.to rfl
  obtain ⟨_, qr11, hqr12⟩ := hO.2.1 28 _ (sg_28 G h0 a _ _ _ _ _)
  refine pc_V0 (G := G) (As := [.int (B 17 pc), .int x6]) (rest := []) hx hb hml hown hq hE hX pX0_al hP hD hS hA hl.1 (Y_prefix l G h0 a (upd (upd (upd (upd (upd (upd F 18 (nI ba)) 19 (nI (tp - 1))) 20 (nI pc)) 21 (nI (pc + 1))) 23 5) 26 (nI ht)) (updR (updR R 7 (.ref (a sp))) 8 (.ref (a op))) Z B J T Pi w (B 17 pc) x6 (tp - 1) (by omega) hO) (gV pw_634 pw_635 pw_636 pw_539 pw_619) hV_X5_prefix qr11 4 hqr12 rfl rfl rfl (Nat.le_of_ble_eq_true rfl) dX5_step_200 ⟨Nat.le_of_ble_eq_true rfl, Nat.le_of_ble_eq_true rfl⟩ ⟨Nat.le_of_ble_eq_true rfl, Nat.le_of_ble_eq_true rfl⟩ (fun v10 u8 H locs hw9 hP hD hS => ?_)
  obtain ⟨w, r13⟩ := u8
  obtain ⟨hw9, h14, hO⟩ := hw9
  have h14 : ¬ ((B 17 pc) = 45 ∨ (B 17 pc) = 52) → r13 = x6 ^^^ 1 := h14
  obtain rfl : v10 = none := hw9
  have hO : OKW G h0 a (upd (upd (upd (upd (upd (upd F 18 (nI ba)) 19 (nI ((tp - 1) + 1))) 20 (nI pc)) 21 (nI (pc + 1))) 23 5) 26 (nI ht)) (updR (updR R 7 (.ref (a sp))) 8 (.ref (a op))) Z B (updJ J 29 (vp_updL ((J 29)) (tp - 1) (nmV r13))) T Pi w := hO.to rfl
  refine W.widen (k := 0) (n := 0) (Nat.le_of_ble_eq_true rfl) (Nat.le_of_ble_eq_true rfl) ?_
  refine W.eq (g2 := F0 m 203 ls []) rfl ?_
  refine lv_goto (tgt := 229) hx hb dX5_step_203 (by decide) ?_
  have hz15 : StQ y (B 19) Sh nn (J sp) ht (B 30) (B 16) on j9 ba pc fl ((tp - 1) + 1) (5 : Int32) (nI (pc + 1)) Z ((updJ J 29 (vp_updL ((J 29)) (tp - 1) (nmV r13))) 29) fl := (StQ.ou hmi hmo (by rw [hop]; decide) (OuQ.pf (z := Z) hv4 r2 hv3 (by rw [← e7]; exact h14)) r3 (Nat.le_refl _) hZ)
  have hz16 : (updJ J 29 (vp_updL ((J 29)) (tp - 1) (nmV r13))) 34 = J 34 ∧ (updJ J 29 (vp_updL ((J 29)) (tp - 1) (nmV r13))) 35 = J 35 := ⟨rfl, rfl⟩
  have hz17 : (B 33) 5 = nI fl := hfl
  have hz18 : fl ≤ fl ∧ ((tp - 1) + 1) ≤ 32000 := (by omega)
  have hO : OKW G h0 a (upd (upd (upd (upd (upd (upd F 18 (nI ba)) 19 (nI ((tp - 1) + 1))) 20 (nI pc)) 21 (nI (pc + 1))) 23 (5 : Int32)) 26 (nI ht)) (updR (updR R 7 (.ref (a sp))) 8 (.ref (a op))) Z (updA (updA B 32 (B 32)) 33 (B 33)) (updJ J 29 (vp_updL ((J 29)) (tp - 1) (nmV r13))) T Pi w := hO.to rfl
  exact W.vret hx hb hr (fun t99 ht99 hW99 => ⟨⟨_, (w, (((tp - 1) + 1), (5 : Int32), (nI (pc + 1)), Z, (updJ J 29 (vp_updL ((J 29)) (tp - 1) (nmV r13))), (B 33), (B 32), fl)), rfl, ⟨rfl, hz15, hz16, hz17, hz18, hO⟩, by rw [ht99]; exact hP, hD⟩, hS.F ht99⟩) hS.2.2 dX5_step_229
set_option maxHeartbeats 2000000 in
set_option maxRecDepth 100000 in
theorem Y_readNumber (l : Launch) (G : pT) (h0 : Nat) (a : Nat → Nat) (F : Nat → Int32) (R : Nat → Value) (Z : Int64) (B : Nat → Nat → Int32) (J : Nat → Nat → Int64) (T : Nat → Nat) (Pi : Nat → va_E → Prop) (w : va_W) (tp : Nat) (fl : Nat) (htp : tp < 32000) (hfl : B 33 5 = nI fl) (hO : OKW G h0 a (upd F 19 (nI tp)) R Z B J T Pi w) : PM l G pX0 yX5_readNumber cX5_readNumber 2 none ({ frames := 4, cells := 0, slots := 0, locals := 103 }) [.ref (a 5)] w (fun (v : Option Value) (u : va_W × (Int32 × (Nat → Int32))) => v = none ∧ (u.2.2 5 = nI fl) ∧ (OKW G h0 a (upd F 19 (nI (tp + 1))) R Z (updA B 33 u.2.2) (updJ J 29 (vp_updL (J 29) tp (nmV u.2.1))) T Pi u.1)) (fun u => u.1) := by
  intro sz
  refine Met.ofW (cc := cX5_readNumber) (maxL := 2) (ret := none) (by decide) rfl ?_
  intro p e s m args below meth c s₁ B9 hml hv
  obtain ⟨rfl, hsz, hP, hD0, hE, hX⟩ := hv
  have hx := B9.exec
  have hb := B9.bytes
  have hr := B9.returns
  have hts := atoms_spec (ws := Cond.code yX5_readNumber cX5_readNumber 2 none :: pw) B9.pre
  have hq : ∀ w ∈ pw, w.before _ s = true := fun w h => hts w (List.mem_cons_of_mem _ h)
  have hown : s.vm.findClass RX5 = some m.cls := findClass_of_methodNamed B9.named
  have hlocks := B9.notSynchronized
  subst hsz
  have hD := hD0.self (sz := s.heap.size)
  have hA : ∀ q : Nat, s.heap.size ≤ q → va_A w s.heap.size q := fun q h => Or.inr h
  generalize va_A w s.heap.size = A at hD hE hA ⊢
  have hS : va_S A s.heap s.heap [] := va_S.rf
  have hl := lv_entry ([.ref (a 5)]) (n := 2) (Nat.le_of_ble_eq_true rfl)
  rw [lg_entry_eq]
  generalize (lg_sl ([.ref (a 5)]) ++ List.replicate (2 - (lg_sl ([.ref (a 5)])).length) Slot.unset).toArray = ls at hl ⊢
  have hl : lv_has ls 2 [(0, .ref (a 5))] := hl
  refine lv_aload_n hx hb dX5_readNumber_0 rfl (lv_at hl 0 rfl) ?_
  refine c_get (v := .ref (a 33)) (C := RX5) (Tc := TX5) (N := 19) (ci := 4) hx hb hq pin_wsX50 hown hE hP hO 28 (sg_28 G h0 a _ _ _ _ _) rfl 7 (by decide) (hq _ pw_478) (fun _ h9 => h9) rfl dX5_readNumber_1 ?_
  refine lv_bipush (v := 7) hx hb dX5_readNumber_4 (by decide) ?_
  refine c_ldi (f := (B 33)) (n := 12) (t0 := 0) hx hb hE hP hO 36 (sg_36 G h0 a _ _ _ _ _) rfl (by unfold vp_in; decide) dX5_readNumber_6 ?_
  refine W.eq (g2 := F0 m 7 ls [.int ((B 33) 7)]) rfl ?_
  refine lv_topi (fun x1 e2 => ?_)
  refine lv_istore_n (lv' := [(1, .int x1), (0, .ref (a 5))]) hx hb dX5_readNumber_7 rfl hl (by decide) rfl (fun ls hl => ?_)
  refine lv_aload_n hx hb dX5_readNumber_8 rfl (lv_at hl 1 rfl) ?_
  refine lv_iload_n hx hb dX5_readNumber_9 rfl (lv_at hl 0 rfl) ?_
  refine lv_if_lt (tgt := 37) hx hb dX5_readNumber_10 (by decide) (fun c3 => ?_) (fun c3 => ?_)
  · refine lv_iconst (v := 0) hx hb dX5_readNumber_37 (by decide) ?_
    have hO : OKW G h0 a (upd (upd F 19 (nI tp)) 19 (nI tp)) R Z B J T Pi w := hO.to rfl
    obtain ⟨_, qr7, hqr8⟩ := hO.2.1 28 _ (sg_28 G h0 a _ _ _ _ _)
    refine pc_V0 (G := G) (As := [.int 0]) (rest := []) hx hb hml hown hq hE hX pX0_al hP hD hS hA hl.1 (Y_pushNumber l G h0 a (upd F 19 (nI tp)) R Z B J T Pi w 0 tp (by omega) hO) (gV pw_605 pw_606 pw_607 pw_539 pw_602) hV_X5_pushNumber qr7 4 hqr8 rfl rfl rfl (Nat.le_of_ble_eq_true rfl) dX5_readNumber_38 ⟨Nat.le_of_ble_eq_true rfl, Nat.le_of_ble_eq_true rfl⟩ ⟨Nat.le_of_ble_eq_true rfl, Nat.le_of_ble_eq_true rfl⟩ (fun v6 u4 H locs hw5 hP hD hS => ?_)
    obtain ⟨w, _⟩ := u4
    obtain ⟨hw5, hO⟩ := hw5
    obtain rfl : v6 = none := hw5
    have hO : OKW G h0 a (upd F 19 (nI (tp + 1))) R Z B (updJ J 29 (vp_updL ((J 29)) tp (nmV 0))) T Pi w := hO.to rfl
    refine W.widen (k := 0) (n := 0) (Nat.le_of_ble_eq_true rfl) (Nat.le_of_ble_eq_true rfl) ?_
    refine W.eq (g2 := F0 m 41 ls []) rfl ?_
    refine lv_aload_n hx hb dX5_readNumber_41 rfl (lv_at hl 1 rfl) ?_
    refine c_get (v := .ref (a 33)) (C := RX5) (Tc := TX5) (N := 19) (ci := 4) hx hb hq pin_wsX50 hown hE hP hO 28 (sg_28 G h0 a _ _ _ _ _) rfl 7 (by decide) (hq _ pw_478) (fun _ h9 => h9) rfl dX5_readNumber_42 ?_
    refine lv_bipush (v := 7) hx hb dX5_readNumber_45 (by decide) ?_
    refine lv_dup2_11 hx hb dX5_readNumber_47 rfl rfl ?_
    refine c_ldi (f := (B 33)) (n := 12) (t0 := 0) hx hb hE hP hO 36 (sg_36 G h0 a _ _ _ _ _) rfl (by unfold vp_in; decide) dX5_readNumber_48 ?_
    refine W.eq (g2 := F0 m 49 ls [.int ((B 33) 7), .int 7, .ref (a 33)]) rfl ?_
    refine lv_topi (fun x9 e10 => ?_)
    refine lv_iconst (v := 1) hx hb dX5_readNumber_49 (by decide) ?_
    refine lv_iadd hx hb dX5_readNumber_50 ?_
    refine lv_topi (fun x11 e12 => ?_)
    refine c_sti (f := (B 33)) (n := 12) (t0 := 0) hx hb hE hP hD hS hO 36 (sg_36 G h0 a _ _ _ _ _) rfl (by unfold vp_in; decide) (sb_33 G h0 a _ _ _ _ _ _) dX5_readNumber_51 (fun H locs w hP hD hS hO => ?_)
    have hz13 : (upd (B 33) 7 x11) 5 = nI fl := ((if_neg (by decide)).trans hfl)
    have hO : OKW G h0 a (upd F 19 (nI (tp + 1))) R Z (updA B 33 (upd (B 33) 7 x11)) (updJ J 29 (vp_updL (J 29) tp (nmV (0 : Int32)))) T Pi w := hO.to rfl
    exact W.vret hx hb hr (fun t99 ht99 hW99 => ⟨⟨_, (w, ((0 : Int32), (upd (B 33) 7 x11))), rfl, ⟨rfl, hz13, hO⟩, by rw [ht99]; exact hP, hD⟩, hS.F ht99⟩) hS.2.2 dX5_readNumber_52
  · obtain ⟨a9, ht_a9, hb_a9⟩ := nI_nn2 ( c3)
    have cc14 := c3
    rw [ht_a9] at cc14
    have n15 : ¬ (a9 < 0) := fun h9 => cc14 ((nI_ltI (a := a9) (b := 0) (by omega) (by omega)).mpr h9)
    rw [ht_a9] at hl
    refine lv_iload_n hx hb dX5_readNumber_13 rfl (lv_at hl 0 rfl) ?_
    refine lv_aload_n hx hb dX5_readNumber_14 rfl (lv_at hl 1 rfl) ?_
    refine c_get (v := .int (F 17)) (C := RX5) (Tc := TX5) (N := 19) (ci := 4) hx hb hq pin_wsX50 hown hE hP hO 28 (sg_28 G h0 a _ _ _ _ _) rfl 5 (by decide) (hq _ pw_482) (fun _ h9 => h9) rfl dX5_readNumber_15 ?_
    refine lv_icmp_ge (tgt := 37) hx hb dX5_readNumber_18 (by decide) (fun c16 => ?_) (fun c16 => ?_)
    · refine lv_iconst (v := 0) hx hb dX5_readNumber_37 (by decide) ?_
      have hO : OKW G h0 a (upd (upd F 19 (nI tp)) 19 (nI tp)) R Z B J T Pi w := hO.to rfl
      obtain ⟨_, qr20, hqr21⟩ := hO.2.1 28 _ (sg_28 G h0 a _ _ _ _ _)
      refine pc_V0 (G := G) (As := [.int 0]) (rest := []) hx hb hml hown hq hE hX pX0_al hP hD hS hA hl.1 (Y_pushNumber l G h0 a (upd F 19 (nI tp)) R Z B J T Pi w 0 tp (by omega) hO) (gV pw_605 pw_606 pw_607 pw_539 pw_602) hV_X5_pushNumber qr20 4 hqr21 rfl rfl rfl (Nat.le_of_ble_eq_true rfl) dX5_readNumber_38 ⟨Nat.le_of_ble_eq_true rfl, Nat.le_of_ble_eq_true rfl⟩ ⟨Nat.le_of_ble_eq_true rfl, Nat.le_of_ble_eq_true rfl⟩ (fun v19 u17 H locs hw18 hP hD hS => ?_)
      obtain ⟨w, _⟩ := u17
      obtain ⟨hw18, hO⟩ := hw18
      obtain rfl : v19 = none := hw18
      have hO : OKW G h0 a (upd F 19 (nI (tp + 1))) R Z B (updJ J 29 (vp_updL ((J 29)) tp (nmV 0))) T Pi w := hO.to rfl
      refine W.widen (k := 0) (n := 0) (Nat.le_of_ble_eq_true rfl) (Nat.le_of_ble_eq_true rfl) ?_
      refine W.eq (g2 := F0 m 41 ls []) rfl ?_
      refine lv_aload_n hx hb dX5_readNumber_41 rfl (lv_at hl 1 rfl) ?_
      refine c_get (v := .ref (a 33)) (C := RX5) (Tc := TX5) (N := 19) (ci := 4) hx hb hq pin_wsX50 hown hE hP hO 28 (sg_28 G h0 a _ _ _ _ _) rfl 7 (by decide) (hq _ pw_478) (fun _ h9 => h9) rfl dX5_readNumber_42 ?_
      refine lv_bipush (v := 7) hx hb dX5_readNumber_45 (by decide) ?_
      refine lv_dup2_11 hx hb dX5_readNumber_47 rfl rfl ?_
      refine c_ldi (f := (B 33)) (n := 12) (t0 := 0) hx hb hE hP hO 36 (sg_36 G h0 a _ _ _ _ _) rfl (by unfold vp_in; decide) dX5_readNumber_48 ?_
      refine W.eq (g2 := F0 m 49 ls [.int ((B 33) 7), .int 7, .ref (a 33)]) rfl ?_
      refine lv_topi (fun x22 e23 => ?_)
      refine lv_iconst (v := 1) hx hb dX5_readNumber_49 (by decide) ?_
      refine lv_iadd hx hb dX5_readNumber_50 ?_
      refine lv_topi (fun x24 e25 => ?_)
      refine c_sti (f := (B 33)) (n := 12) (t0 := 0) hx hb hE hP hD hS hO 36 (sg_36 G h0 a _ _ _ _ _) rfl (by unfold vp_in; decide) (sb_33 G h0 a _ _ _ _ _ _) dX5_readNumber_51 (fun H locs w hP hD hS hO => ?_)
      have hz26 : (upd (B 33) 7 x24) 5 = nI fl := ((if_neg (by decide)).trans hfl)
      have hO : OKW G h0 a (upd F 19 (nI (tp + 1))) R Z (updA B 33 (upd (B 33) 7 x24)) (updJ J 29 (vp_updL (J 29) tp (nmV (0 : Int32)))) T Pi w := hO.to rfl
      exact W.vret hx hb hr (fun t99 ht99 hW99 => ⟨⟨_, (w, ((0 : Int32), (upd (B 33) 7 x24))), rfl, ⟨rfl, hz26, hO⟩, by rw [ht99]; exact hP, hD⟩, hS.F ht99⟩) hS.2.2 dX5_readNumber_52
    · refine lv_iload_n hx hb dX5_readNumber_21 rfl (lv_at hl 0 rfl) ?_
      refine lv_sipush (v := 200) hx hb dX5_readNumber_22 (by decide) ?_
      refine lv_icmp_ge (tgt := 37) hx hb dX5_readNumber_25 (by decide) (fun c27 => ?_) (fun c27 => ?_)
      · have n28 : 200 ≤ a9 := (nI_leI (a := 200) (b := a9) (by omega) (by omega)).mp c27
        refine lv_iconst (v := 0) hx hb dX5_readNumber_37 (by decide) ?_
        have hO : OKW G h0 a (upd (upd F 19 (nI tp)) 19 (nI tp)) R Z B J T Pi w := hO.to rfl
        obtain ⟨_, qr32, hqr33⟩ := hO.2.1 28 _ (sg_28 G h0 a _ _ _ _ _)
        refine pc_V0 (G := G) (As := [.int 0]) (rest := []) hx hb hml hown hq hE hX pX0_al hP hD hS hA hl.1 (Y_pushNumber l G h0 a (upd F 19 (nI tp)) R Z B J T Pi w 0 tp (by omega) hO) (gV pw_605 pw_606 pw_607 pw_539 pw_602) hV_X5_pushNumber qr32 4 hqr33 rfl rfl rfl (Nat.le_of_ble_eq_true rfl) dX5_readNumber_38 ⟨Nat.le_of_ble_eq_true rfl, Nat.le_of_ble_eq_true rfl⟩ ⟨Nat.le_of_ble_eq_true rfl, Nat.le_of_ble_eq_true rfl⟩ (fun v31 u29 H locs hw30 hP hD hS => ?_)
        obtain ⟨w, _⟩ := u29
        obtain ⟨hw30, hO⟩ := hw30
        obtain rfl : v31 = none := hw30
        have hO : OKW G h0 a (upd F 19 (nI (tp + 1))) R Z B (updJ J 29 (vp_updL ((J 29)) tp (nmV 0))) T Pi w := hO.to rfl
        refine W.widen (k := 0) (n := 0) (Nat.le_of_ble_eq_true rfl) (Nat.le_of_ble_eq_true rfl) ?_
        refine W.eq (g2 := F0 m 41 ls []) rfl ?_
        refine lv_aload_n hx hb dX5_readNumber_41 rfl (lv_at hl 1 rfl) ?_
        refine c_get (v := .ref (a 33)) (C := RX5) (Tc := TX5) (N := 19) (ci := 4) hx hb hq pin_wsX50 hown hE hP hO 28 (sg_28 G h0 a _ _ _ _ _) rfl 7 (by decide) (hq _ pw_478) (fun _ h9 => h9) rfl dX5_readNumber_42 ?_
        refine lv_bipush (v := 7) hx hb dX5_readNumber_45 (by decide) ?_
        refine lv_dup2_11 hx hb dX5_readNumber_47 rfl rfl ?_
        refine c_ldi (f := (B 33)) (n := 12) (t0 := 0) hx hb hE hP hO 36 (sg_36 G h0 a _ _ _ _ _) rfl (by unfold vp_in; decide) dX5_readNumber_48 ?_
        refine W.eq (g2 := F0 m 49 ls [.int ((B 33) 7), .int 7, .ref (a 33)]) rfl ?_
        refine lv_topi (fun x34 e35 => ?_)
        refine lv_iconst (v := 1) hx hb dX5_readNumber_49 (by decide) ?_
        refine lv_iadd hx hb dX5_readNumber_50 ?_
        refine lv_topi (fun x36 e37 => ?_)
        refine c_sti (f := (B 33)) (n := 12) (t0 := 0) hx hb hE hP hD hS hO 36 (sg_36 G h0 a _ _ _ _ _) rfl (by unfold vp_in; decide) (sb_33 G h0 a _ _ _ _ _ _) dX5_readNumber_51 (fun H locs w hP hD hS hO => ?_)
        have hz38 : (upd (B 33) 7 x36) 5 = nI fl := ((if_neg (by decide)).trans hfl)
        have hO : OKW G h0 a (upd F 19 (nI (tp + 1))) R Z (updA B 33 (upd (B 33) 7 x36)) (updJ J 29 (vp_updL (J 29) tp (nmV (0 : Int32)))) T Pi w := hO.to rfl
        exact W.vret hx hb hr (fun t99 ht99 hW99 => ⟨⟨_, (w, ((0 : Int32), (upd (B 33) 7 x36))), rfl, ⟨rfl, hz38, hO⟩, by rw [ht99]; exact hP, hD⟩, hS.F ht99⟩) hS.2.2 dX5_readNumber_52
      · have n39 : ¬ (200 ≤ a9) := fun h9 => c27 ((nI_leI (a := 200) (b := a9) (by omega) (by omega)).mpr h9)
        refine lv_aload_n hx hb dX5_readNumber_28 rfl (lv_at hl 1 rfl) ?_
        refine c_get (v := .ref (a 31)) (C := RX5) (Tc := TX5) (N := 19) (ci := 4) hx hb hq pin_wsX50 hown hE hP hO 28 (sg_28 G h0 a _ _ _ _ _) rfl 4 (by decide) (hq _ pw_476) (fun _ h9 => h9) rfl dX5_readNumber_29 ?_
        refine lv_iload_n hx hb dX5_readNumber_32 rfl (lv_at hl 0 rfl) ?_
        refine c_ldi (f := (B 31)) (n := 200) (t0 := 0) hx hb hE hP hO 34 (sg_34 G h0 a _ _ _ _ _) rfl (vp_in_nI (by omega) (by decide)) dX5_readNumber_33 ?_
        rw [(nI_clamp (show a9 < 2 ^ 31 by omega))]
        refine lv_topi (fun x40 e41 => ?_)
        refine lv_goto (tgt := 38) hx hb dX5_readNumber_34 (by decide) ?_
        have hO : OKW G h0 a (upd (upd F 19 (nI tp)) 19 (nI tp)) R Z B J T Pi w := hO.to rfl
        obtain ⟨_, qr45, hqr46⟩ := hO.2.1 28 _ (sg_28 G h0 a _ _ _ _ _)
        refine pc_V0 (G := G) (As := [.int x40]) (rest := []) hx hb hml hown hq hE hX pX0_al hP hD hS hA hl.1 (Y_pushNumber l G h0 a (upd F 19 (nI tp)) R Z B J T Pi w x40 tp (by omega) hO) (gV pw_605 pw_606 pw_607 pw_539 pw_602) hV_X5_pushNumber qr45 4 hqr46 rfl rfl rfl (Nat.le_of_ble_eq_true rfl) dX5_readNumber_38 ⟨Nat.le_of_ble_eq_true rfl, Nat.le_of_ble_eq_true rfl⟩ ⟨Nat.le_of_ble_eq_true rfl, Nat.le_of_ble_eq_true rfl⟩ (fun v44 u42 H locs hw43 hP hD hS => ?_)
        obtain ⟨w, _⟩ := u42
        obtain ⟨hw43, hO⟩ := hw43
        obtain rfl : v44 = none := hw43
        have hO : OKW G h0 a (upd F 19 (nI (tp + 1))) R Z B (updJ J 29 (vp_updL ((J 29)) tp (nmV x40))) T Pi w := hO.to rfl
        refine W.widen (k := 0) (n := 0) (Nat.le_of_ble_eq_true rfl) (Nat.le_of_ble_eq_true rfl) ?_
        refine W.eq (g2 := F0 m 41 ls []) rfl ?_
        refine lv_aload_n hx hb dX5_readNumber_41 rfl (lv_at hl 1 rfl) ?_
        refine c_get (v := .ref (a 33)) (C := RX5) (Tc := TX5) (N := 19) (ci := 4) hx hb hq pin_wsX50 hown hE hP hO 28 (sg_28 G h0 a _ _ _ _ _) rfl 7 (by decide) (hq _ pw_478) (fun _ h9 => h9) rfl dX5_readNumber_42 ?_
        refine lv_bipush (v := 7) hx hb dX5_readNumber_45 (by decide) ?_
        refine lv_dup2_11 hx hb dX5_readNumber_47 rfl rfl ?_
        refine c_ldi (f := (B 33)) (n := 12) (t0 := 0) hx hb hE hP hO 36 (sg_36 G h0 a _ _ _ _ _) rfl (by unfold vp_in; decide) dX5_readNumber_48 ?_
        refine W.eq (g2 := F0 m 49 ls [.int ((B 33) 7), .int 7, .ref (a 33)]) rfl ?_
        refine lv_topi (fun x47 e48 => ?_)
        refine lv_iconst (v := 1) hx hb dX5_readNumber_49 (by decide) ?_
        refine lv_iadd hx hb dX5_readNumber_50 ?_
        refine lv_topi (fun x49 e50 => ?_)
        refine c_sti (f := (B 33)) (n := 12) (t0 := 0) hx hb hE hP hD hS hO 36 (sg_36 G h0 a _ _ _ _ _) rfl (by unfold vp_in; decide) (sb_33 G h0 a _ _ _ _ _ _) dX5_readNumber_51 (fun H locs w hP hD hS hO => ?_)
        have hz51 : (upd (B 33) 7 x49) 5 = nI fl := ((if_neg (by decide)).trans hfl)
        have hO : OKW G h0 a (upd F 19 (nI (tp + 1))) R Z (updA B 33 (upd (B 33) 7 x49)) (updJ J 29 (vp_updL (J 29) tp (nmV x40))) T Pi w := hO.to rfl
        exact W.vret hx hb hr (fun t99 ht99 hW99 => ⟨⟨_, (w, (x40, (upd (B 33) 7 x49))), rfl, ⟨rfl, hz51, hO⟩, by rw [ht99]; exact hP, hD⟩, hS.F ht99⟩) hS.2.2 dX5_readNumber_52
set_option maxHeartbeats 8000000 in
set_option maxRecDepth 100000 in
theorem Y_st12 (l : Launch) (G : pT) (h0 : Nat) (a : Nat → Nat) (F : Nat → Int32) (R : Nat → Value) (Z : Int64) (B : Nat → Nat → Int32) (J : Nat → Nat → Int64) (T : Nat → Nat) (Pi : Nat → va_E → Prop) (w : va_W) (y : TY) (Sh : Nat → Nat) (nn : Nat → Nat) (on : Nat) (j9 : Nat) (ba : Nat) (pc : Nat) (tp : Nat) (sp : Nat) (op : Nat) (ht : Nat) (fl : Nat) (hsp : (sp = 34 ∧ op = 35) ∨ (sp = 35 ∧ op = 34)) (hmi : MIy y (B 19) Sh nn (J sp) ht (B 30) (J 29) on j9 ba pc tp) (hmo : MOy y (B 16) (B 17) (B 18) (B 19) j9) (hZ : Z = 0) (hfl : B 33 5 = nI fl) (hflb : fl ≤ 20000) (hop : B 16 pc = nI 12) (hru : IRy y (B 16) (B 17) (B 18) pc j9 12) (hO : OKW G h0 a (upd (upd (upd (upd (upd (upd F 18 (nI ba)) 19 (nI tp)) 20 (nI pc)) 21 (nI (pc + 1))) 23 5) 26 (nI ht)) (updR (updR R 7 (.ref (a sp))) 8 (.ref (a op))) Z B J T Pi w) : PM l G pX0 yX5_step cX5_step 3 none ({ frames := 16, cells := 0, slots := 0, locals := 1600 }) [.ref (a 5), .int 12, .int (B 17 pc)] w (fun (v : Option Value) (u : va_W × (Nat × Int32 × Int32 × Int64 × (Nat → Nat → Int64) × (Nat → Int32) × (Nat → Int32) × Nat)) => v = none ∧ (StQ y (B 19) Sh nn (J sp) ht (B 30) (B 16) on j9 ba pc fl u.2.1 u.2.2.1 u.2.2.2.1 u.2.2.2.2.1 (u.2.2.2.2.2.1 29) u.2.2.2.2.2.2.2.2) ∧ (u.2.2.2.2.2.1 34 = J 34 ∧ u.2.2.2.2.2.1 35 = J 35) ∧ (u.2.2.2.2.2.2.1 5 = nI u.2.2.2.2.2.2.2.2) ∧ (u.2.2.2.2.2.2.2.2 ≤ fl ∧ u.2.1 ≤ 32000) ∧ (OKW G h0 a (upd (upd (upd (upd (upd (upd F 18 (nI ba)) 19 (nI u.2.1)) 20 (nI pc)) 21 u.2.2.2.1) 23 u.2.2.1) 26 (nI ht)) (updR (updR R 7 (.ref (a sp))) 8 (.ref (a op))) u.2.2.2.2.1 (updA (updA B 32 u.2.2.2.2.2.2.2.1) 33 u.2.2.2.2.2.2.1) u.2.2.2.2.2.1 T Pi u.1)) (fun u => u.1) := by
  intro sz
  refine Met.ofW (cc := cX5_step) (maxL := 3) (ret := none) (by decide) rfl ?_
  intro p e s m args below meth c s₁ B9 hml hv
  obtain ⟨rfl, hsz, hP, hD0, hE, hX⟩ := hv
  have hx := B9.exec
  have hb := B9.bytes
  have hr := B9.returns
  have hts := atoms_spec (ws := Cond.code yX5_step cX5_step 3 none :: pw) B9.pre
  have hq : ∀ w ∈ pw, w.before _ s = true := fun w h => hts w (List.mem_cons_of_mem _ h)
  have hown : s.vm.findClass RX5 = some m.cls := findClass_of_methodNamed B9.named
  have hlocks := B9.notSynchronized
  subst hsz
  have hD := hD0.self (sz := s.heap.size)
  have hA : ∀ q : Nat, s.heap.size ≤ q → va_A w s.heap.size q := fun q h => Or.inr h
  generalize va_A w s.heap.size = A at hD hE hA ⊢
  have hS : va_S A s.heap s.heap [] := va_S.rf
  have hl := lv_entry ([.ref (a 5), .int 12, .int (B 17 pc)]) (n := 3) (Nat.le_of_ble_eq_true rfl)
  rw [lg_entry_eq]
  generalize (lg_sl ([.ref (a 5), .int 12, .int (B 17 pc)]) ++ List.replicate (3 - (lg_sl ([.ref (a 5), .int 12, .int (B 17 pc)])).length) Slot.unset).toArray = ls at hl ⊢
  have hl : lv_has ls 3 [(0, .ref (a 5)), (1, .int 12), (2, .int (B 17 pc))] := hl
  obtain ⟨hn1, hn2, hn3, hn4, hn5, hn6, hn7, hn8, hn9, hn10, hn11, hn12⟩ := MIy.nums hmi hmo
  have hlo := FFy.lo hmi.ff
  refine lv_iload_n hx hb dX5_step_0 rfl (lv_at hl 1 rfl) ?_
  refine lv_tableIn (tgt := 206) (off := 205) hx hb dX5_step_1 (by decide) (by decide) (by decide) (by decide) ?_
  refine lv_aload_n hx hb dX5_step_206 rfl (lv_at hl 0 rfl) ?_
  have hO : OKW G h0 a (upd (upd (upd (upd (upd (upd (upd F 18 (nI ba)) 19 (nI tp)) 20 (nI pc)) 21 (nI (pc + 1))) 23 5) 26 (nI ht)) 19 (nI tp)) (updR (updR R 7 (.ref (a sp))) 8 (.ref (a op))) Z B J T Pi w := hO.to rfl
  obtain ⟨_, qr4, hqr5⟩ := hO.2.1 28 _ (sg_28 G h0 a _ _ _ _ _)
  refine pc_V0 (G := G) (As := []) (rest := []) hx hb hml hown hq hE hX pX0_al hP hD hS hA hl.1 (Y_readNumber l G h0 a (upd (upd (upd (upd (upd (upd F 18 (nI ba)) 19 (nI tp)) 20 (nI pc)) 21 (nI (pc + 1))) 23 5) 26 (nI ht)) (updR (updR R 7 (.ref (a sp))) 8 (.ref (a op))) Z B J T Pi w tp fl (by omega) hfl hO) (gV pw_637 pw_638 pw_639 pw_539 pw_620) hV_X5_readNumber qr4 4 hqr5 rfl rfl rfl (Nat.le_of_ble_eq_true rfl) dX5_step_207 ⟨Nat.le_of_ble_eq_true rfl, Nat.le_of_ble_eq_true rfl⟩ ⟨Nat.le_of_ble_eq_true rfl, Nat.le_of_ble_eq_true rfl⟩ (fun v3 u1 H locs hw2 hP hD hS => ?_)
  obtain ⟨w, r6, ta7⟩ := u1
  obtain ⟨hw2, h8, hO⟩ := hw2
  have h8 : ta7 5 = nI fl := h8
  obtain rfl : v3 = none := hw2
  have hO : OKW G h0 a (upd (upd (upd (upd (upd (upd F 18 (nI ba)) 19 (nI (tp + 1))) 20 (nI pc)) 21 (nI (pc + 1))) 23 5) 26 (nI ht)) (updR (updR R 7 (.ref (a sp))) 8 (.ref (a op))) Z (updA B 33 ta7) (updJ J 29 (vp_updL ((J 29)) tp (nmV r6))) T Pi w := hO.to rfl
  refine W.widen (k := 0) (n := 0) (Nat.le_of_ble_eq_true rfl) (Nat.le_of_ble_eq_true rfl) ?_
  refine W.eq (g2 := F0 m 210 ls []) rfl ?_
  refine lv_goto (tgt := 229) hx hb dX5_step_210 (by decide) ?_
  have hz9 : StQ y (B 19) Sh nn (J sp) ht (B 30) (B 16) on j9 ba pc fl (tp + 1) (5 : Int32) (nI (pc + 1)) Z ((updJ J 29 (vp_updL ((J 29)) tp (nmV r6))) 29) fl := (StQ.on1 hmi hmo (by rw [hop]; decide) (FFy.push hmi.ff VT.num) hru (fun i hi => vpL_ne (by omega)) (Nat.le_refl _) hZ)
  have hz10 : (updJ J 29 (vp_updL ((J 29)) tp (nmV r6))) 34 = J 34 ∧ (updJ J 29 (vp_updL ((J 29)) tp (nmV r6))) 35 = J 35 := ⟨rfl, rfl⟩
  have hz11 : ta7 5 = nI fl := h8
  have hz12 : fl ≤ fl ∧ (tp + 1) ≤ 32000 := (by omega)
  have hO : OKW G h0 a (upd (upd (upd (upd (upd (upd F 18 (nI ba)) 19 (nI (tp + 1))) 20 (nI pc)) 21 (nI (pc + 1))) 23 (5 : Int32)) 26 (nI ht)) (updR (updR R 7 (.ref (a sp))) 8 (.ref (a op))) Z (updA (updA B 32 (B 32)) 33 ta7) (updJ J 29 (vp_updL ((J 29)) tp (nmV r6))) T Pi w := hO.to rfl
  exact W.vret hx hb hr (fun t99 ht99 hW99 => ⟨⟨_, (w, ((tp + 1), (5 : Int32), (nI (pc + 1)), Z, (updJ J 29 (vp_updL ((J 29)) tp (nmV r6))), ta7, (B 32), fl)), rfl, ⟨rfl, hz9, hz10, hz11, hz12, hO⟩, by rw [ht99]; exact hP, hD⟩, hS.F ht99⟩) hS.2.2 dX5_step_229
set_option maxHeartbeats 2000000 in
set_option maxRecDepth 100000 in
theorem Y_print (l : Launch) (G : pT) (h0 : Nat) (a : Nat → Nat) (F : Nat → Int32) (R : Nat → Value) (Z : Int64) (B : Nat → Nat → Int32) (J : Nat → Nat → Int64) (T : Nat → Nat) (Pi : Nat → va_E → Prop) (w : va_W) (x : Int32) (fl : Nat) (hfl : B 33 5 = nI fl) (hO : OKW G h0 a F R Z B J T Pi w) : PM l G pX0 yX5_print cX5_print 3 none ({ frames := 2, cells := 0, slots := 0, locals := 60 }) [.ref (a 5), .int x] w (fun (v : Option Value) (u : va_W × ((Nat → Int32) × (Nat → Int32))) => v = none ∧ (u.2.1 5 = nI fl) ∧ (OKW G h0 a F R Z (updA (updA B 32 u.2.2) 33 u.2.1) J T Pi u.1)) (fun u => u.1) := by
  intro sz
  refine Met.ofW (cc := cX5_print) (maxL := 3) (ret := none) (by decide) rfl ?_
  intro p e s m args below meth c s₁ B9 hml hv
  obtain ⟨rfl, hsz, hP, hD0, hE, hX⟩ := hv
  have hx := B9.exec
  have hb := B9.bytes
  have hr := B9.returns
  have hts := atoms_spec (ws := Cond.code yX5_print cX5_print 3 none :: pw) B9.pre
  have hq : ∀ w ∈ pw, w.before _ s = true := fun w h => hts w (List.mem_cons_of_mem _ h)
  have hown : s.vm.findClass RX5 = some m.cls := findClass_of_methodNamed B9.named
  have hlocks := B9.notSynchronized
  subst hsz
  have hD := hD0.self (sz := s.heap.size)
  have hA : ∀ q : Nat, s.heap.size ≤ q → va_A w s.heap.size q := fun q h => Or.inr h
  generalize va_A w s.heap.size = A at hD hE hA ⊢
  have hS : va_S A s.heap s.heap [] := va_S.rf
  have hl := lv_entry ([.ref (a 5), .int x]) (n := 3) (Nat.le_of_ble_eq_true rfl)
  rw [lg_entry_eq]
  generalize (lg_sl ([.ref (a 5), .int x]) ++ List.replicate (3 - (lg_sl ([.ref (a 5), .int x])).length) Slot.unset).toArray = ls at hl ⊢
  have hl : lv_has ls 3 [(0, .ref (a 5)), (1, .int x)] := hl
  refine lv_aload_n hx hb dX5_print_0 rfl (lv_at hl 0 rfl) ?_
  refine c_get (v := .ref (a 33)) (C := RX5) (Tc := TX5) (N := 19) (ci := 4) hx hb hq pin_wsX50 hown hE hP hO 28 (sg_28 G h0 a _ _ _ _ _) rfl 7 (by decide) (hq _ pw_478) (fun _ h9 => h9) rfl dX5_print_1 ?_
  refine lv_bipush (v := 6) hx hb dX5_print_4 (by decide) ?_
  refine c_ldi (f := (B 33)) (n := 12) (t0 := 0) hx hb hE hP hO 36 (sg_36 G h0 a _ _ _ _ _) rfl (by unfold vp_in; decide) dX5_print_6 ?_
  refine W.eq (g2 := F0 m 7 ls [.int ((B 33) 6)]) rfl ?_
  refine lv_topi (fun x1 e2 => ?_)
  refine lv_istore_n (lv' := [(2, .int x1), (0, .ref (a 5)), (1, .int x)]) hx hb dX5_print_7 rfl hl (by decide) rfl (fun ls hl => ?_)
  refine lv_iload_n hx hb dX5_print_8 rfl (lv_at hl 0 rfl) ?_
  refine lv_if_lt (tgt := 37) hx hb dX5_print_9 (by decide) (fun c3 => ?_) (fun c3 => ?_)
  · have hz4 : (B 33) 5 = nI fl := hfl
    have hO : OKW G h0 a F R Z (updA (updA B 32 (B 32)) 33 (B 33)) J T Pi w := hO.to rfl
    exact W.vret hx hb hr (fun t99 ht99 hW99 => ⟨⟨_, (w, ((B 33), (B 32))), rfl, ⟨rfl, hz4, hO⟩, by rw [ht99]; exact hP, hD⟩, hS.F ht99⟩) hS.2.2 dX5_print_37
  · obtain ⟨a9, ht_a9, hb_a9⟩ := nI_nn2 ( c3)
    have cc5 := c3
    rw [ht_a9] at cc5
    have n6 : ¬ (a9 < 0) := fun h9 => cc5 ((nI_ltI (a := a9) (b := 0) (by omega) (by omega)).mpr h9)
    rw [ht_a9] at hl
    refine lv_iload_n hx hb dX5_print_12 rfl (lv_at hl 0 rfl) ?_
    refine lv_sipush (v := 400) hx hb dX5_print_13 (by decide) ?_
    refine lv_icmp_ge (tgt := 37) hx hb dX5_print_16 (by decide) (fun c7 => ?_) (fun c7 => ?_)
    · have n8 : 400 ≤ a9 := (nI_leI (a := 400) (b := a9) (by omega) (by omega)).mp c7
      have hz9 : (B 33) 5 = nI fl := hfl
      have hO : OKW G h0 a F R Z (updA (updA B 32 (B 32)) 33 (B 33)) J T Pi w := hO.to rfl
      exact W.vret hx hb hr (fun t99 ht99 hW99 => ⟨⟨_, (w, ((B 33), (B 32))), rfl, ⟨rfl, hz9, hO⟩, by rw [ht99]; exact hP, hD⟩, hS.F ht99⟩) hS.2.2 dX5_print_37
    · have n10 : ¬ (400 ≤ a9) := fun h9 => c7 ((nI_leI (a := 400) (b := a9) (by omega) (by omega)).mpr h9)
      refine lv_aload_n hx hb dX5_print_19 rfl (lv_at hl 1 rfl) ?_
      refine c_get (v := .ref (a 32)) (C := RX5) (Tc := TX5) (N := 19) (ci := 4) hx hb hq pin_wsX50 hown hE hP hO 28 (sg_28 G h0 a _ _ _ _ _) rfl 6 (by decide) (hq _ pw_477) (fun _ h9 => h9) rfl dX5_print_20 ?_
      refine lv_iload_n hx hb dX5_print_23 rfl (lv_at hl 0 rfl) ?_
      refine lv_iload_n hx hb dX5_print_24 rfl (lv_at hl 2 rfl) ?_
      refine c_sti (f := (B 32)) (n := 400) (t0 := 0) hx hb hE hP hD hS hO 35 (sg_35 G h0 a _ _ _ _ _) rfl (vp_in_nI (by omega) (by decide)) (sb_32 G h0 a _ _ _ _ _ _) dX5_print_25 (fun H locs w hP hD hS hO => ?_)
      rw [(nI_clamp (show a9 < 2 ^ 31 by omega))] at hO
      refine lv_aload_n hx hb dX5_print_26 rfl (lv_at hl 1 rfl) ?_
      refine c_get (v := .ref (a 33)) (C := RX5) (Tc := TX5) (N := 19) (ci := 4) hx hb hq pin_wsX50 hown hE hP hO 28 (sg_28 G h0 a _ _ _ _ _) rfl 7 (by decide) (hq _ pw_478) (fun _ h9 => h9) rfl dX5_print_27 ?_
      refine lv_bipush (v := 6) hx hb dX5_print_30 (by decide) ?_
      refine lv_dup2_11 hx hb dX5_print_32 rfl rfl ?_
      refine c_ldi (f := (B 33)) (n := 12) (t0 := 0) hx hb hE hP hO 36 (sg_36 G h0 a _ _ _ _ _) rfl (by unfold vp_in; decide) dX5_print_33 ?_
      refine W.eq (g2 := F0 m 34 ls [.int ((B 33) 6), .int 6, .ref (a 33)]) rfl ?_
      refine lv_topi (fun x11 e12 => ?_)
      refine lv_iconst (v := 1) hx hb dX5_print_34 (by decide) ?_
      refine lv_iadd hx hb dX5_print_35 ?_
      refine lv_topi (fun x13 e14 => ?_)
      refine c_sti (f := (B 33)) (n := 12) (t0 := 0) hx hb hE hP hD hS hO 36 (sg_36 G h0 a _ _ _ _ _) rfl (by unfold vp_in; decide) (sb_33 G h0 a _ _ _ _ _ _) dX5_print_36 (fun H locs w hP hD hS hO => ?_)
      have hz15 : (upd (B 33) 6 x13) 5 = nI fl := ((if_neg (by decide)).trans hfl)
      have hO : OKW G h0 a F R Z (updA (updA B 32 (upd (B 32) a9 x)) 33 (upd (B 33) 6 x13)) J T Pi w := hO.to rfl
      exact W.vret hx hb hr (fun t99 ht99 hW99 => ⟨⟨_, (w, ((upd (B 33) 6 x13), (upd (B 32) a9 x))), rfl, ⟨rfl, hz15, hO⟩, by rw [ht99]; exact hP, hD⟩, hS.F ht99⟩) hS.2.2 dX5_print_37
set_option maxHeartbeats 8000000 in
set_option maxRecDepth 100000 in
theorem Y_st13 (l : Launch) (G : pT) (h0 : Nat) (a : Nat → Nat) (F : Nat → Int32) (R : Nat → Value) (Z : Int64) (B : Nat → Nat → Int32) (J : Nat → Nat → Int64) (T : Nat → Nat) (Pi : Nat → va_E → Prop) (w : va_W) (y : TY) (Sh : Nat → Nat) (nn : Nat → Nat) (on : Nat) (j9 : Nat) (ba : Nat) (pc : Nat) (tp : Nat) (sp : Nat) (op : Nat) (ht : Nat) (fl : Nat) (hsp : (sp = 34 ∧ op = 35) ∨ (sp = 35 ∧ op = 34)) (hmi : MIy y (B 19) Sh nn (J sp) ht (B 30) (J 29) on j9 ba pc tp) (hmo : MOy y (B 16) (B 17) (B 18) (B 19) j9) (hZ : Z = 0) (hfl : B 33 5 = nI fl) (hflb : fl ≤ 20000) (hop : B 16 pc = nI 13) (hru : IRy y (B 16) (B 17) (B 18) pc j9 13) (hO : OKW G h0 a (upd (upd (upd (upd (upd (upd F 18 (nI ba)) 19 (nI tp)) 20 (nI pc)) 21 (nI (pc + 1))) 23 5) 26 (nI ht)) (updR (updR R 7 (.ref (a sp))) 8 (.ref (a op))) Z B J T Pi w) : PM l G pX0 yX5_step cX5_step 3 none ({ frames := 16, cells := 0, slots := 0, locals := 1600 }) [.ref (a 5), .int 13, .int (B 17 pc)] w (fun (v : Option Value) (u : va_W × (Nat × Int32 × Int32 × Int64 × (Nat → Nat → Int64) × (Nat → Int32) × (Nat → Int32) × Nat)) => v = none ∧ (StQ y (B 19) Sh nn (J sp) ht (B 30) (B 16) on j9 ba pc fl u.2.1 u.2.2.1 u.2.2.2.1 u.2.2.2.2.1 (u.2.2.2.2.2.1 29) u.2.2.2.2.2.2.2.2) ∧ (u.2.2.2.2.2.1 34 = J 34 ∧ u.2.2.2.2.2.1 35 = J 35) ∧ (u.2.2.2.2.2.2.1 5 = nI u.2.2.2.2.2.2.2.2) ∧ (u.2.2.2.2.2.2.2.2 ≤ fl ∧ u.2.1 ≤ 32000) ∧ (OKW G h0 a (upd (upd (upd (upd (upd (upd F 18 (nI ba)) 19 (nI u.2.1)) 20 (nI pc)) 21 u.2.2.2.1) 23 u.2.2.1) 26 (nI ht)) (updR (updR R 7 (.ref (a sp))) 8 (.ref (a op))) u.2.2.2.2.1 (updA (updA B 32 u.2.2.2.2.2.2.2.1) 33 u.2.2.2.2.2.2.1) u.2.2.2.2.2.1 T Pi u.1)) (fun u => u.1) := by
  intro sz
  refine Met.ofW (cc := cX5_step) (maxL := 3) (ret := none) (by decide) rfl ?_
  intro p e s m args below meth c s₁ B9 hml hv
  obtain ⟨rfl, hsz, hP, hD0, hE, hX⟩ := hv
  have hx := B9.exec
  have hb := B9.bytes
  have hr := B9.returns
  have hts := atoms_spec (ws := Cond.code yX5_step cX5_step 3 none :: pw) B9.pre
  have hq : ∀ w ∈ pw, w.before _ s = true := fun w h => hts w (List.mem_cons_of_mem _ h)
  have hown : s.vm.findClass RX5 = some m.cls := findClass_of_methodNamed B9.named
  have hlocks := B9.notSynchronized
  subst hsz
  have hD := hD0.self (sz := s.heap.size)
  have hA : ∀ q : Nat, s.heap.size ≤ q → va_A w s.heap.size q := fun q h => Or.inr h
  generalize va_A w s.heap.size = A at hD hE hA ⊢
  have hS : va_S A s.heap s.heap [] := va_S.rf
  have hl := lv_entry ([.ref (a 5), .int 13, .int (B 17 pc)]) (n := 3) (Nat.le_of_ble_eq_true rfl)
  rw [lg_entry_eq]
  generalize (lg_sl ([.ref (a 5), .int 13, .int (B 17 pc)]) ++ List.replicate (3 - (lg_sl ([.ref (a 5), .int 13, .int (B 17 pc)])).length) Slot.unset).toArray = ls at hl ⊢
  have hl : lv_has ls 3 [(0, .ref (a 5)), (1, .int 13), (2, .int (B 17 pc))] := hl
  obtain ⟨hn1, hn2, hn3, hn4, hn5, hn6, hn7, hn8, hn9, hn10, hn11, hn12⟩ := MIy.nums hmi hmo
  have hlo := FFy.lo hmi.ff
  obtain ⟨t9, os, r1, r2⟩ := hru
  obtain ⟨hv1, hv2, hv3, hv4⟩ := FFy.pop hmi.ff r1
  refine lv_iload_n hx hb dX5_step_0 rfl (lv_at hl 1 rfl) ?_
  refine lv_tableIn (tgt := 213) (off := 212) hx hb dX5_step_1 (by decide) (by decide) (by decide) (by decide) ?_
  refine lv_aload_n hx hb dX5_step_213 rfl (lv_at hl 0 rfl) ?_
  refine lv_aload_n hx hb dX5_step_214 rfl (lv_at hl 0 rfl) ?_
  have hO : OKW G h0 a (upd (upd (upd (upd (upd (upd (upd F 18 (nI ba)) 19 (nI tp)) 20 (nI pc)) 21 (nI (pc + 1))) 23 5) 26 (nI ht)) 19 (nI tp)) (updR (updR R 7 (.ref (a sp))) 8 (.ref (a op))) Z B J T Pi w := hO.to rfl
  obtain ⟨_, qr4, hqr5⟩ := hO.2.1 28 _ (sg_28 G h0 a _ _ _ _ _)
  refine pc_V0 (G := G) (As := []) (rest := [.ref (a 5)]) hx hb hml hown hq hE hX pX0_al hP hD hS hA hl.1 (Y_pop l G h0 a (upd (upd (upd (upd (upd (upd F 18 (nI ba)) 19 (nI tp)) 20 (nI pc)) 21 (nI (pc + 1))) 23 5) 26 (nI ht)) (updR (updR R 7 (.ref (a sp))) 8 (.ref (a op))) Z B J T Pi w tp (by omega) hO) (gV pw_598 pw_599 pw_600 pw_539 pw_595) hV_X5_pop qr4 4 hqr5 rfl rfl rfl (Nat.le_of_ble_eq_true rfl) dX5_step_215 ⟨Nat.le_of_ble_eq_true rfl, Nat.le_of_ble_eq_true rfl⟩ ⟨Nat.le_of_ble_eq_true rfl, Nat.le_of_ble_eq_true rfl⟩ (fun v3 u1 H locs hw2 hP hD hS => ?_)
  obtain ⟨w, _⟩ := u1
  obtain ⟨hw2, hO⟩ := hw2
  obtain rfl : v3 = some (.long ((J 29) (tp - 1))) := hw2
  have hO : OKW G h0 a (upd (upd (upd (upd (upd (upd F 18 (nI ba)) 19 (nI (tp - 1))) 20 (nI pc)) 21 (nI (pc + 1))) 23 5) 26 (nI ht)) (updR (updR R 7 (.ref (a sp))) 8 (.ref (a op))) Z B J T Pi w := hO.to rfl
  refine W.widen (k := 0) (n := 0) (Nat.le_of_ble_eq_true rfl) (Nat.le_of_ble_eq_true rfl) ?_
  refine W.eq (g2 := F0 m 218 ls [.long ((J 29) (tp - 1)), .ref (a 5)]) rfl ?_
  refine lv_l2i hx hb dX5_step_218 rfl ?_
  refine lv_topi (fun x6 e7 => ?_)
  have hO : OKW G h0 a (upd (upd (upd (upd (upd (upd F 18 (nI ba)) 19 (nI (tp - 1))) 20 (nI pc)) 21 (nI (pc + 1))) 23 5) 26 (nI ht)) (updR (updR R 7 (.ref (a sp))) 8 (.ref (a op))) Z B J T Pi w := hO.to rfl
  obtain ⟨_, qr11, hqr12⟩ := hO.2.1 28 _ (sg_28 G h0 a _ _ _ _ _)
  refine pc_V0 (G := G) (As := [.int x6]) (rest := []) hx hb hml hown hq hE hX pX0_al hP hD hS hA hl.1 (Y_print l G h0 a (upd (upd (upd (upd (upd (upd F 18 (nI ba)) 19 (nI (tp - 1))) 20 (nI pc)) 21 (nI (pc + 1))) 23 5) 26 (nI ht)) (updR (updR R 7 (.ref (a sp))) 8 (.ref (a op))) Z B J T Pi w x6 fl hfl hO) (gV pw_640 pw_641 pw_642 pw_539 pw_621) hV_X5_print qr11 4 hqr12 rfl rfl rfl (Nat.le_of_ble_eq_true rfl) dX5_step_219 ⟨Nat.le_of_ble_eq_true rfl, Nat.le_of_ble_eq_true rfl⟩ ⟨Nat.le_of_ble_eq_true rfl, Nat.le_of_ble_eq_true rfl⟩ (fun v10 u8 H locs hw9 hP hD hS => ?_)
  obtain ⟨w, ta13, ou14⟩ := u8
  obtain ⟨hw9, h15, hO⟩ := hw9
  have h15 : ta13 5 = nI fl := h15
  obtain rfl : v10 = none := hw9
  have hO : OKW G h0 a (upd (upd (upd (upd (upd (upd F 18 (nI ba)) 19 (nI (tp - 1))) 20 (nI pc)) 21 (nI (pc + 1))) 23 5) 26 (nI ht)) (updR (updR R 7 (.ref (a sp))) 8 (.ref (a op))) Z (updA (updA B 32 ou14) 33 ta13) J T Pi w := hO.to rfl
  refine W.widen (k := 0) (n := 0) (Nat.le_of_ble_eq_true rfl) (Nat.le_of_ble_eq_true rfl) ?_
  refine W.eq (g2 := F0 m 222 ls []) rfl ?_
  refine lv_goto (tgt := 229) hx hb dX5_step_222 (by decide) ?_
  have hz16 : StQ y (B 19) Sh nn (J sp) ht (B 30) (B 16) on j9 ba pc fl (tp - 1) (5 : Int32) (nI (pc + 1)) Z (J 29) fl := (StQ.on1 hmi hmo (by rw [hop]; decide) hv4 r2 (fun _ _ => rfl) (Nat.le_refl _) hZ)
  have hz17 : J 34 = J 34 ∧ J 35 = J 35 := ⟨rfl, rfl⟩
  have hz18 : ta13 5 = nI fl := h15
  have hz19 : fl ≤ fl ∧ (tp - 1) ≤ 32000 := (by omega)
  have hO : OKW G h0 a (upd (upd (upd (upd (upd (upd F 18 (nI ba)) 19 (nI (tp - 1))) 20 (nI pc)) 21 (nI (pc + 1))) 23 (5 : Int32)) 26 (nI ht)) (updR (updR R 7 (.ref (a sp))) 8 (.ref (a op))) Z (updA (updA B 32 ou14) 33 ta13) J T Pi w := hO.to rfl
  exact W.vret hx hb hr (fun t99 ht99 hW99 => ⟨⟨_, (w, ((tp - 1), (5 : Int32), (nI (pc + 1)), Z, J, ta13, ou14, fl)), rfl, ⟨rfl, hz16, hz17, hz18, hz19, hO⟩, by rw [ht99]; exact hP, hD⟩, hS.F ht99⟩) hS.2.2 dX5_step_229
set_option maxHeartbeats 8000000 in
theorem Y_step (l : Launch) (G : pT) (h0 : Nat) (a : Nat → Nat) (F : Nat → Int32) (R : Nat → Value) (Z : Int64) (B : Nat → Nat → Int32) (J : Nat → Nat → Int64) (T : Nat → Nat) (Pi : Nat → va_E → Prop) (w : va_W) (y : TY) (Sh : Nat → Nat) (nn : Nat → Nat) (on : Nat) (j9 : Nat) (ba : Nat) (pc : Nat) (tp : Nat) (sp : Nat) (op : Nat) (ht : Nat) (fl : Nat) (ko : Nat) (hsp : (sp = 34 ∧ op = 35) ∨ (sp = 35 ∧ op = 34)) (hmi : MIy y (B 19) Sh nn (J sp) ht (B 30) (J 29) on j9 ba pc tp) (hmo : MOy y (B 16) (B 17) (B 18) (B 19) j9) (hZ : Z = 0) (hfl : B 33 5 = nI fl) (hflb : fl ≤ 20000) (hop : B 16 pc = nI ko) (hru : IRy y (B 16) (B 17) (B 18) pc j9 ko) (hko : ko < 14) (hO : OKW G h0 a (upd (upd (upd (upd (upd (upd F 18 (nI ba)) 19 (nI tp)) 20 (nI pc)) 21 (nI (pc + 1))) 23 5) 26 (nI ht)) (updR (updR R 7 (.ref (a sp))) 8 (.ref (a op))) Z B J T Pi w) : PM l G pX0 yX5_step cX5_step 3 none ({ frames := 16, cells := 0, slots := 0, locals := 1600 }) [.ref (a 5), .int (nI ko), .int (B 17 pc)] w (fun (v : Option Value) (u : va_W × (Nat × Int32 × Int32 × Int64 × (Nat → Nat → Int64) × (Nat → Int32) × (Nat → Int32) × Nat)) => v = none ∧ (StQ y (B 19) Sh nn (J sp) ht (B 30) (B 16) on j9 ba pc fl u.2.1 u.2.2.1 u.2.2.2.1 u.2.2.2.2.1 (u.2.2.2.2.2.1 29) u.2.2.2.2.2.2.2.2) ∧ (u.2.2.2.2.2.1 34 = J 34 ∧ u.2.2.2.2.2.1 35 = J 35) ∧ (u.2.2.2.2.2.2.1 5 = nI u.2.2.2.2.2.2.2.2) ∧ (u.2.2.2.2.2.2.2.2 ≤ fl ∧ u.2.1 ≤ 32000) ∧ (OKW G h0 a (upd (upd (upd (upd (upd (upd F 18 (nI ba)) 19 (nI u.2.1)) 20 (nI pc)) 21 u.2.2.2.1) 23 u.2.2.1) 26 (nI ht)) (updR (updR R 7 (.ref (a sp))) 8 (.ref (a op))) u.2.2.2.2.1 (updA (updA B 32 u.2.2.2.2.2.2.2.1) 33 u.2.2.2.2.2.2.1) u.2.2.2.2.2.1 T Pi u.1)) (fun u => u.1) := by
  rcases (show ko = 0 ∨ ko = 1 ∨ ko = 2 ∨ ko = 3 ∨ ko = 4 ∨ ko = 5 ∨ ko = 6 ∨ ko = 7 ∨ ko = 8 ∨ ko = 9 ∨ ko = 10 ∨ ko = 11 ∨ ko = 12 ∨ ko = 13 by omega) with rfl | rfl | rfl | rfl | rfl | rfl | rfl | rfl | rfl | rfl | rfl | rfl | rfl | rfl
  · exact Y_st0 l G h0 a F R Z B J T Pi w y Sh nn on j9 ba pc tp sp op ht fl hsp hmi hmo hZ hfl hflb hop hru hO
  · exact Y_st1 l G h0 a F R Z B J T Pi w y Sh nn on j9 ba pc tp sp op ht fl hsp hmi hmo hZ hfl hflb hop hru hO
  · exact Y_st2 l G h0 a F R Z B J T Pi w y Sh nn on j9 ba pc tp sp op ht fl hsp hmi hmo hZ hfl hflb hop hru hO
  · exact Y_st3 l G h0 a F R Z B J T Pi w y Sh nn on j9 ba pc tp sp op ht fl hsp hmi hmo hZ hfl hflb hop hru hO
  · exact Y_st4 l G h0 a F R Z B J T Pi w y Sh nn on j9 ba pc tp sp op ht fl hsp hmi hmo hZ hfl hflb hop hru hO
  · exact Y_st5 l G h0 a F R Z B J T Pi w y Sh nn on j9 ba pc tp sp op ht fl hsp hmi hmo hZ hfl hflb hop hru hO
  · exact Y_st6 l G h0 a F R Z B J T Pi w y Sh nn on j9 ba pc tp sp op ht fl hsp hmi hmo hZ hfl hflb hop hru hO
  · exact Y_st7 l G h0 a F R Z B J T Pi w y Sh nn on j9 ba pc tp sp op ht fl hsp hmi hmo hZ hfl hflb hop hru hO
  · exact Y_st8 l G h0 a F R Z B J T Pi w y Sh nn on j9 ba pc tp sp op ht fl hsp hmi hmo hZ hfl hflb hop hru hO
  · exact Y_st9 l G h0 a F R Z B J T Pi w y Sh nn on j9 ba pc tp sp op ht fl hsp hmi hmo hZ hfl hflb hop hru hO
  · exact Y_st10 l G h0 a F R Z B J T Pi w y Sh nn on j9 ba pc tp sp op ht fl hsp hmi hmo hZ hfl hflb hop hru hO
  · exact Y_st11 l G h0 a F R Z B J T Pi w y Sh nn on j9 ba pc tp sp op ht fl hsp hmi hmo hZ hfl hflb hop hru hO
  · exact Y_st12 l G h0 a F R Z B J T Pi w y Sh nn on j9 ba pc tp sp op ht fl hsp hmi hmo hZ hfl hflb hop hru hO
  · exact Y_st13 l G h0 a F R Z B J T Pi w y Sh nn on j9 ba pc tp sp op ht fl hsp hmi hmo hZ hfl hflb hop hru hO
