/-! THE CLAIM OUT OF ONE WALK OF THE LAW'S BODY. Your part is whole_start (and what it stands on); all else here is the same for every law, but numbers. -/
def R_law : String := "JinjaTongueLaw"
def lw_P (b : Addr) (xs : List Int32) (args : Array Value) (s : State) : Prop := args = #[.ref b] ∧ s.IntsAt b xs ∧ xs.length ≤ 6 ∧ (Jvm.Cond.and given_1 narrow_1).before args s = true
def lw_Q (_ : Array Value) (s : State) (o : Outcome) (t : State) : Prop := o = .returned (some (.int 1)) ∧ Framed s o t [] 600002 7302232
def lw_Z (below : List Frame) (a : Array Value) (s : State) : State → Prop := fun t => ∃ o, t.status = .running ∧ Ended t below o ∧ lw_Q a s o t
/-- the law's own end, with 1 on the stack, nothing written that was there before, its room as the claim has it -/
theorem lw_ret {p : Program} {l : Launch} {e : Env} {s : State} {m : MethodId} {below : List Frame} {meth : Method} {c : Code} {b : Nat} (hx : p.tables.exec = Jvm.exec) (hb : c.code = code) (hr : meth.sig.returnType = ret) (hlocks : meth.locks = false) {pc : Nat} {H : Heap} {ls : Array Slot} (hdg : decode code pc = .ok (.ireturn, 1)) : W p l e room_1 s m #[Value.ref b] below meth c H [] 600002 7302232 (lw_Z below #[Value.ref b] s) (F0 m pc ls [.int 1]) := by
  intro T hT X
  obtain ⟨fs, hret, hrun, hended, hW, hframe⟩ := X.leave (v := some (.int 1)) (hlocks := hlocks) (fun h => by rw [hr] at h; cases h)
  have hmeth' : T.vm.method? m = some meth := X.method'
  refine ⟨T.setFrames fs, ?_, .returned (some (.int 1)), hrun, hended, rfl, ⟨_, rfl⟩, hW, hframe⟩
  jvm_step X.here [X.here.top, hx, hb, hdg, hmeth', hr, ret, narrow_b1]
  (try refine ⟨rfl, ?_⟩); (try refine ⟨rfl, ?_⟩)
  first | (intro acts; rw [hret _ acts rfl rfl rfl]) | rw [hret _ _ rfl rfl rfl]
  exact Steps.refl _
/-- what holds at the law's entry: the machine, the code, the tables' words (any of lw_tbl by 'hts w (by decide +kernel)'), the script of L ints xs at the cell b, what the Statement gives of the start (any of its parts by flat_of_before) -/
def lw_At (p : Program) (s : State) (m : MethodId) (meth : Method) (c : Code) (b L : Nat) (xs : Nat → Int32) : Prop :=
  p.tables.exec = Jvm.exec ∧ c.code = code ∧ meth.sig.returnType = ret ∧ c.maxLocals = 7 ∧ s.vm.findClass R_law = some m.cls ∧ (∀ w ∈ lw_tbl, w.before #[Value.ref b] s = true) ∧ va_X b L xs s s.heap ∧ b < s.heap.size ∧ meth.locks = false ∧ (Jvm.Cond.and given_1 narrow_1).before #[Value.ref b] s = true
set_option maxHeartbeats 8000000 in
set_option maxRecDepth 100000 in
theorem whole_start {p : Program} {e : Env} {s : State} {m : MethodId} {below : List Frame} {meth : Method} {c : Code} (l : Launch) {b L : Nat} {xs : Nat → Int32} (hL : L ≤ 6) (hl0 : l.stackTraces = false) (C0 : lw_At p s m meth c b L xs) : W p l e room_1 s m #[Value.ref b] below meth c s.heap [] 0 0 (lw_Z below #[Value.ref b] s) (entryFrame m ([Value.ref b] : List Value).toArray 7) := by
  obtain ⟨hx, hb, hr, hml, hown, hts, hXs, hbl, hlocks, hgv⟩ := id C0
  obtain ⟨G, hE⟩ := pE_start hts hgv
  have hq : ∀ w ∈ pw, w.before _ s = true := fun w h => hts w (pw_tbl w h)
  have hX : pX0 s := trivial
  have hbA : ¬ (fun q : Nat => s.heap.size ≤ q) b := Nat.not_le.mpr hbl
  obtain ⟨A, hAe⟩ : ∃ A : Nat → Prop, A = fun q : Nat => s.heap.size ≤ q := ⟨_, rfl⟩
  rw [← hAe] at hE hbA
  have hA : ∀ q : Nat, s.heap.size ≤ q → A q := fun q h => by rw [hAe]; exact h
  have hS : va_S A s.heap s.heap [] := va_S.rf
  have hP : va_P G.1 pCl [] s.heap := fun k q h => by simp at h
  have hD : va_D A [] := ⟨fun i j p q h => by simp at h, fun k q h => by simp at h⟩
  have hl := lv_entry ([.ref b]) (n := 7) (Nat.le_of_ble_eq_true rfl)
  rw [lg_entry_eq]
  generalize (lg_sl ([.ref b]) ++ List.replicate (7 - (lg_sl ([.ref b])).length) Slot.unset).toArray = ls at hl ⊢
  have hl : lv_has ls 7 [(0, .ref b)] := hl
  refine va_new (ci := 8) (fs := [.null, .int 0, .null, .null, .null, .null, .null, .null]) (C := RX11) (T := TX11) (N := 8) hx hb hq pin_wsX110 tyX11 tyX11_ok hown (hq _ pw_333) (hq _ pw_674) (hq _ pw_370) hE.1.1 hP hD hS hA rfl nw_X11 (Nat.le_of_ble_eq_true rfl) (Nat.le_of_ble_eq_true rfl) dL_law_0 (fun q1 H hP hD hS => ?_)
  have hP : va_P G.1 pCl [(q1, .inr (8, [.null, .int 0, .null, .null, .null, .null, .null, .null]))] H := hP
  have hD : va_D A [(q1, .inr (8, [.null, .int 0, .null, .null, .null, .null, .null, .null]))] := hD
  refine W.widen (k := 1) (n := 8) (Nat.le_of_ble_eq_true rfl) (Nat.le_of_ble_eq_true rfl) ?_
  refine lv_dup hx hb dL_law_3 rfl ?_
  refine pc_I (G := G) (As := []) (rest := [.ref q1]) (wr := []) hx hb hml hown hq hE hX pX0_al hP hD hS hA hl.1 (c_JT_init l G q1) pw_334 pw_369 pw_370 pw_368 rfl hS_X11_init [0] [] rfl rfl (by decide) (by decide) (by decide) rfl (Nat.le_of_ble_eq_true rfl) dL_law_4 ⟨Nat.le_of_ble_eq_true rfl, Nat.le_of_ble_eq_true rfl⟩ ⟨Nat.le_of_ble_eq_true rfl, Nat.le_of_ble_eq_true rfl⟩ (fun v4 u2 H locs hw3 hP hD hS => ?_)
  obtain rfl : v4 = none := hw3
  have hP : va_P G.1 pCl [(q1, .inr (8, [.ref (u2.1 0), .int 0, .ref (u2.1 1), .ref (u2.1 2), .ref (u2.1 3), .ref (u2.1 4), .ref (u2.1 5), .null])), ((u2.1 0), .inl (G.2.1 1, 5000, .inl (fun _ => 0))), ((u2.1 1), .inr (7, [.ref (u2.1 6), .int 220, .int 0, .ref (u2.1 7), .ref (u2.1 8), .ref (u2.1 9), .ref (u2.1 10), .ref (u2.1 11), .int 0, .ref (u2.1 12), .ref (u2.1 13), .ref (u2.1 14), .ref (u2.1 15), .int 0, .int 0])), ((u2.1 6), .inl (G.2.1 1, 5220, .inl (u2.2.1 0))), ((u2.1 7), .inl (G.2.1 0, 5000, .inl (fun _ => 0))), ((u2.1 8), .inl (G.2.1 0, 5000, .inl (fun _ => 0))), ((u2.1 9), .inl (G.2.1 0, 5000, .inl (fun _ => 0))), ((u2.1 10), .inl (G.2.1 1, 5000, .inl (fun _ => 0))), ((u2.1 11), .inl (G.2.1 0, 5000, .inl (fun _ => 0))), ((u2.1 12), .inl (G.2.1 0, 2540, .inl (fun _ => 0))), ((u2.1 13), .inl (G.2.1 0, 2540, .inl (fun _ => 0))), ((u2.1 14), .inl (G.2.1 0, 2540, .inl (fun _ => 0))), ((u2.1 15), .inl (G.2.1 0, 256, .inl (fun _ => 0))), ((u2.1 2), .inr (1, [.ref (u2.1 16), .ref (u2.1 17), .ref (u2.1 18), .ref (u2.1 19), .int 0, .ref (u2.1 20), .ref (u2.1 21), .ref (u2.1 22), .ref (u2.1 23), .ref (u2.1 24), .int 0, .int 0, .int 0])), ((u2.1 16), .inl (G.2.1 0, 10000, .inl (fun _ => 0))), ((u2.1 17), .inl (G.2.1 0, 10000, .inl (fun _ => 0))), ((u2.1 18), .inl (G.2.1 0, 10000, .inl (fun _ => 0))), ((u2.1 19), .inl (G.2.1 0, 10000, .inl (fun _ => 0))), ((u2.1 20), .inl (G.2.1 0, 625, .inl (fun _ => 0))), ((u2.1 21), .inl (G.2.1 0, 625, .inl (fun _ => 0))), ((u2.1 22), .inl (G.2.1 0, 625, .inl (fun _ => 0))), ((u2.1 23), .inl (G.2.1 0, 625, .inl (fun _ => 0))), ((u2.1 24), .inl (G.2.1 0, 625, .inl (fun _ => 0))), ((u2.1 3), .inr (5, [.ref (u2.1 1), .null, .int 0, .int 0, .int 0])), ((u2.1 4), .inr (0, [.ref (u2.1 1), .ref (u2.1 2), .ref (u2.1 25), .ref (u2.1 26), .ref (u2.1 27), .int 0, .null, .null, .int 0, .int 0, .int 0, .null, .int 0])), ((u2.1 25), .inl (G.2.1 0, 30, .inl (fun _ => 0))), ((u2.1 26), .inl (G.2.1 0, 30, .inl (fun _ => 0))), ((u2.1 27), .inl (G.2.1 0, 30, .inl (fun _ => 0))), ((u2.1 5), .inr (4, [.ref (u2.1 2), .ref (u2.1 28), .ref (u2.1 29), .ref (u2.1 30), .ref (u2.1 31), .int 0, .ref (u2.1 32), .ref (u2.1 33), .null, .null, .int 0, .int 0, .int 0, .int 0, .long 0, .int 0, .int 0, .int 0, .int 0])), ((u2.1 28), .inr (3, [.ref (u2.1 34), .ref (u2.1 35), .int 8, .int 0, .int 0])), ((u2.1 34), .inl (G.2.1 2, 3008, .inr (.inl (u2.2.2 0)))), ((u2.1 35), .inl (G.2.1 2, 3008, .inr (.inl (u2.2.2 1)))), ((u2.1 29), .inl (G.2.1 2, 32000, .inr (.inl (fun _ => 0)))), ((u2.1 30), .inl (G.2.1 0, 300, .inl (fun _ => 0))), ((u2.1 31), .inl (G.2.1 0, 200, .inl (fun _ => 0))), ((u2.1 32), .inl (G.2.1 0, 400, .inl (fun _ => 0))), ((u2.1 33), .inl (G.2.1 0, 12, .inl (fun _ => 0)))] H := hP
  have hD : va_D A [(q1, .inr (8, [.ref (u2.1 0), .int 0, .ref (u2.1 1), .ref (u2.1 2), .ref (u2.1 3), .ref (u2.1 4), .ref (u2.1 5), .null])), ((u2.1 0), .inl (G.2.1 1, 5000, .inl (fun _ => 0))), ((u2.1 1), .inr (7, [.ref (u2.1 6), .int 220, .int 0, .ref (u2.1 7), .ref (u2.1 8), .ref (u2.1 9), .ref (u2.1 10), .ref (u2.1 11), .int 0, .ref (u2.1 12), .ref (u2.1 13), .ref (u2.1 14), .ref (u2.1 15), .int 0, .int 0])), ((u2.1 6), .inl (G.2.1 1, 5220, .inl (u2.2.1 0))), ((u2.1 7), .inl (G.2.1 0, 5000, .inl (fun _ => 0))), ((u2.1 8), .inl (G.2.1 0, 5000, .inl (fun _ => 0))), ((u2.1 9), .inl (G.2.1 0, 5000, .inl (fun _ => 0))), ((u2.1 10), .inl (G.2.1 1, 5000, .inl (fun _ => 0))), ((u2.1 11), .inl (G.2.1 0, 5000, .inl (fun _ => 0))), ((u2.1 12), .inl (G.2.1 0, 2540, .inl (fun _ => 0))), ((u2.1 13), .inl (G.2.1 0, 2540, .inl (fun _ => 0))), ((u2.1 14), .inl (G.2.1 0, 2540, .inl (fun _ => 0))), ((u2.1 15), .inl (G.2.1 0, 256, .inl (fun _ => 0))), ((u2.1 2), .inr (1, [.ref (u2.1 16), .ref (u2.1 17), .ref (u2.1 18), .ref (u2.1 19), .int 0, .ref (u2.1 20), .ref (u2.1 21), .ref (u2.1 22), .ref (u2.1 23), .ref (u2.1 24), .int 0, .int 0, .int 0])), ((u2.1 16), .inl (G.2.1 0, 10000, .inl (fun _ => 0))), ((u2.1 17), .inl (G.2.1 0, 10000, .inl (fun _ => 0))), ((u2.1 18), .inl (G.2.1 0, 10000, .inl (fun _ => 0))), ((u2.1 19), .inl (G.2.1 0, 10000, .inl (fun _ => 0))), ((u2.1 20), .inl (G.2.1 0, 625, .inl (fun _ => 0))), ((u2.1 21), .inl (G.2.1 0, 625, .inl (fun _ => 0))), ((u2.1 22), .inl (G.2.1 0, 625, .inl (fun _ => 0))), ((u2.1 23), .inl (G.2.1 0, 625, .inl (fun _ => 0))), ((u2.1 24), .inl (G.2.1 0, 625, .inl (fun _ => 0))), ((u2.1 3), .inr (5, [.ref (u2.1 1), .null, .int 0, .int 0, .int 0])), ((u2.1 4), .inr (0, [.ref (u2.1 1), .ref (u2.1 2), .ref (u2.1 25), .ref (u2.1 26), .ref (u2.1 27), .int 0, .null, .null, .int 0, .int 0, .int 0, .null, .int 0])), ((u2.1 25), .inl (G.2.1 0, 30, .inl (fun _ => 0))), ((u2.1 26), .inl (G.2.1 0, 30, .inl (fun _ => 0))), ((u2.1 27), .inl (G.2.1 0, 30, .inl (fun _ => 0))), ((u2.1 5), .inr (4, [.ref (u2.1 2), .ref (u2.1 28), .ref (u2.1 29), .ref (u2.1 30), .ref (u2.1 31), .int 0, .ref (u2.1 32), .ref (u2.1 33), .null, .null, .int 0, .int 0, .int 0, .int 0, .long 0, .int 0, .int 0, .int 0, .int 0])), ((u2.1 28), .inr (3, [.ref (u2.1 34), .ref (u2.1 35), .int 8, .int 0, .int 0])), ((u2.1 34), .inl (G.2.1 2, 3008, .inr (.inl (u2.2.2 0)))), ((u2.1 35), .inl (G.2.1 2, 3008, .inr (.inl (u2.2.2 1)))), ((u2.1 29), .inl (G.2.1 2, 32000, .inr (.inl (fun _ => 0)))), ((u2.1 30), .inl (G.2.1 0, 300, .inl (fun _ => 0))), ((u2.1 31), .inl (G.2.1 0, 200, .inl (fun _ => 0))), ((u2.1 32), .inl (G.2.1 0, 400, .inl (fun _ => 0))), ((u2.1 33), .inl (G.2.1 0, 12, .inl (fun _ => 0)))] := hD
  generalize u2.1 0 = q5 at hP hD
  generalize u2.1 1 = q6 at hP hD
  generalize u2.1 2 = q7 at hP hD
  generalize u2.1 3 = q8 at hP hD
  generalize u2.1 4 = q9 at hP hD
  generalize u2.1 5 = q10 at hP hD
  generalize u2.1 6 = q11 at hP hD
  generalize u2.1 7 = q12 at hP hD
  generalize u2.1 8 = q13 at hP hD
  generalize u2.1 9 = q14 at hP hD
  generalize u2.1 10 = q15 at hP hD
  generalize u2.1 11 = q16 at hP hD
  generalize u2.1 12 = q17 at hP hD
  generalize u2.1 13 = q18 at hP hD
  generalize u2.1 14 = q19 at hP hD
  generalize u2.1 15 = q20 at hP hD
  generalize u2.2.1 0 = f21 at hP hD
  generalize u2.1 16 = q22 at hP hD
  generalize u2.1 17 = q23 at hP hD
  generalize u2.1 18 = q24 at hP hD
  generalize u2.1 19 = q25 at hP hD
  generalize u2.1 20 = q26 at hP hD
  generalize u2.1 21 = q27 at hP hD
  generalize u2.1 22 = q28 at hP hD
  generalize u2.1 23 = q29 at hP hD
  generalize u2.1 24 = q30 at hP hD
  generalize u2.1 25 = q31 at hP hD
  generalize u2.1 26 = q32 at hP hD
  generalize u2.1 27 = q33 at hP hD
  generalize u2.1 28 = q34 at hP hD
  generalize u2.1 29 = q35 at hP hD
  generalize u2.1 30 = q36 at hP hD
  generalize u2.1 31 = q37 at hP hD
  generalize u2.1 32 = q38 at hP hD
  generalize u2.1 33 = q39 at hP hD
  generalize u2.1 34 = q40 at hP hD
  generalize u2.1 35 = q41 at hP hD
  generalize u2.2.2 0 = g42 at hP hD
  generalize u2.2.2 1 = g43 at hP hD
  refine W.widen (k := 37) (n := 125317) (Nat.le_of_ble_eq_true rfl) (Nat.le_of_ble_eq_true rfl) ?_
  refine W.eq (g2 := F0 m 7 ls [.ref q1]) rfl ?_
  refine lv_astore_n (lv' := [(1, .ref q1), (0, .ref b)]) hx hb dL_law_7 rfl hl (by decide) rfl (fun ls hl => ?_)
  refine va_new (ci := 9) (fs := [.int 0, .null, .int 0, .null, .int 0, .null, .null, .null, .null, .int 0, .null, .null, .null, .int 0, .int 0, .int 0, .int 0, .null, .null, .null, .null, .null, .null, .null, .null, .null, .null, .int 0, .null, .null, .null, .int 0, .null, .null, .int 0, .int 0, .null, .null, .null, .null, .null, .null, .null, .null, .int 0, .null, .null, .null, .null, .int 0, .null, .null, .null, .null, .null, .null, .null, .null, .null, .int 0, .int 0, .null, .null, .null, .int 0, .int 0, .int 0, .int 0, .int 0, .int 0, .int 0, .null, .null, .int 0, .int 0, .int 0, .int 0, .int 0, .int 0, .int 0, .int 0, .int 0, .int 0, .int 0, .null, .int 0, .null, .int 0, .null, .null, .null, .null, .null, .null, .null, .null, .null, .int 0, .int 0, .int 0, .null, .int 0, .int 0, .null, .null, .null, .null, .null, .null, .null, .null, .int 0, .null, .null, .null, .int 0, .int 0, .int 0, .int 0, .int 0, .int 0, .int 0, .int 0, .int 0, .int 0, .int 0, .int 0, .null, .int 0, .null, .int 0, .null, .null, .null]) (C := RX12) (T := TX12) (N := 134) hx hb hq pin_wsX120 tyX12 tyX12_ok hown (hq _ pw_335) (hq _ pw_675) (hq _ pw_517) hE.1.1 hP hD hS hA rfl nw_X12 (Nat.le_of_ble_eq_true rfl) (Nat.le_of_ble_eq_true rfl) dL_law_8 (fun q44 H hP hD hS => ?_)
  have hP : va_P G.1 pCl [(q1, .inr (8, [.ref q5, .int 0, .ref q6, .ref q7, .ref q8, .ref q9, .ref q10, .null])), (q5, .inl (G.2.1 1, 5000, .inl (fun _ => 0))), (q6, .inr (7, [.ref q11, .int 220, .int 0, .ref q12, .ref q13, .ref q14, .ref q15, .ref q16, .int 0, .ref q17, .ref q18, .ref q19, .ref q20, .int 0, .int 0])), (q11, .inl (G.2.1 1, 5220, .inl f21)), (q12, .inl (G.2.1 0, 5000, .inl (fun _ => 0))), (q13, .inl (G.2.1 0, 5000, .inl (fun _ => 0))), (q14, .inl (G.2.1 0, 5000, .inl (fun _ => 0))), (q15, .inl (G.2.1 1, 5000, .inl (fun _ => 0))), (q16, .inl (G.2.1 0, 5000, .inl (fun _ => 0))), (q17, .inl (G.2.1 0, 2540, .inl (fun _ => 0))), (q18, .inl (G.2.1 0, 2540, .inl (fun _ => 0))), (q19, .inl (G.2.1 0, 2540, .inl (fun _ => 0))), (q20, .inl (G.2.1 0, 256, .inl (fun _ => 0))), (q7, .inr (1, [.ref q22, .ref q23, .ref q24, .ref q25, .int 0, .ref q26, .ref q27, .ref q28, .ref q29, .ref q30, .int 0, .int 0, .int 0])), (q22, .inl (G.2.1 0, 10000, .inl (fun _ => 0))), (q23, .inl (G.2.1 0, 10000, .inl (fun _ => 0))), (q24, .inl (G.2.1 0, 10000, .inl (fun _ => 0))), (q25, .inl (G.2.1 0, 10000, .inl (fun _ => 0))), (q26, .inl (G.2.1 0, 625, .inl (fun _ => 0))), (q27, .inl (G.2.1 0, 625, .inl (fun _ => 0))), (q28, .inl (G.2.1 0, 625, .inl (fun _ => 0))), (q29, .inl (G.2.1 0, 625, .inl (fun _ => 0))), (q30, .inl (G.2.1 0, 625, .inl (fun _ => 0))), (q8, .inr (5, [.ref q6, .null, .int 0, .int 0, .int 0])), (q9, .inr (0, [.ref q6, .ref q7, .ref q31, .ref q32, .ref q33, .int 0, .null, .null, .int 0, .int 0, .int 0, .null, .int 0])), (q31, .inl (G.2.1 0, 30, .inl (fun _ => 0))), (q32, .inl (G.2.1 0, 30, .inl (fun _ => 0))), (q33, .inl (G.2.1 0, 30, .inl (fun _ => 0))), (q10, .inr (4, [.ref q7, .ref q34, .ref q35, .ref q36, .ref q37, .int 0, .ref q38, .ref q39, .null, .null, .int 0, .int 0, .int 0, .int 0, .long 0, .int 0, .int 0, .int 0, .int 0])), (q34, .inr (3, [.ref q40, .ref q41, .int 8, .int 0, .int 0])), (q40, .inl (G.2.1 2, 3008, .inr (.inl g42))), (q41, .inl (G.2.1 2, 3008, .inr (.inl g43))), (q35, .inl (G.2.1 2, 32000, .inr (.inl (fun _ => 0)))), (q36, .inl (G.2.1 0, 300, .inl (fun _ => 0))), (q37, .inl (G.2.1 0, 200, .inl (fun _ => 0))), (q38, .inl (G.2.1 0, 400, .inl (fun _ => 0))), (q39, .inl (G.2.1 0, 12, .inl (fun _ => 0))), (q44, .inr (9, [.int 0, .null, .int 0, .null, .int 0, .null, .null, .null, .null, .int 0, .null, .null, .null, .int 0, .int 0, .int 0, .int 0, .null, .null, .null, .null, .null, .null, .null, .null, .null, .null, .int 0, .null, .null, .null, .int 0, .null, .null, .int 0, .int 0, .null, .null, .null, .null, .null, .null, .null, .null, .int 0, .null, .null, .null, .null, .int 0, .null, .null, .null, .null, .null, .null, .null, .null, .null, .int 0, .int 0, .null, .null, .null, .int 0, .int 0, .int 0, .int 0, .int 0, .int 0, .int 0, .null, .null, .int 0, .int 0, .int 0, .int 0, .int 0, .int 0, .int 0, .int 0, .int 0, .int 0, .int 0, .null, .int 0, .null, .int 0, .null, .null, .null, .null, .null, .null, .null, .null, .null, .int 0, .int 0, .int 0, .null, .int 0, .int 0, .null, .null, .null, .null, .null, .null, .null, .null, .int 0, .null, .null, .null, .int 0, .int 0, .int 0, .int 0, .int 0, .int 0, .int 0, .int 0, .int 0, .int 0, .int 0, .int 0, .null, .int 0, .null, .int 0, .null, .null, .null]))] H := hP
  have hD : va_D A [(q1, .inr (8, [.ref q5, .int 0, .ref q6, .ref q7, .ref q8, .ref q9, .ref q10, .null])), (q5, .inl (G.2.1 1, 5000, .inl (fun _ => 0))), (q6, .inr (7, [.ref q11, .int 220, .int 0, .ref q12, .ref q13, .ref q14, .ref q15, .ref q16, .int 0, .ref q17, .ref q18, .ref q19, .ref q20, .int 0, .int 0])), (q11, .inl (G.2.1 1, 5220, .inl f21)), (q12, .inl (G.2.1 0, 5000, .inl (fun _ => 0))), (q13, .inl (G.2.1 0, 5000, .inl (fun _ => 0))), (q14, .inl (G.2.1 0, 5000, .inl (fun _ => 0))), (q15, .inl (G.2.1 1, 5000, .inl (fun _ => 0))), (q16, .inl (G.2.1 0, 5000, .inl (fun _ => 0))), (q17, .inl (G.2.1 0, 2540, .inl (fun _ => 0))), (q18, .inl (G.2.1 0, 2540, .inl (fun _ => 0))), (q19, .inl (G.2.1 0, 2540, .inl (fun _ => 0))), (q20, .inl (G.2.1 0, 256, .inl (fun _ => 0))), (q7, .inr (1, [.ref q22, .ref q23, .ref q24, .ref q25, .int 0, .ref q26, .ref q27, .ref q28, .ref q29, .ref q30, .int 0, .int 0, .int 0])), (q22, .inl (G.2.1 0, 10000, .inl (fun _ => 0))), (q23, .inl (G.2.1 0, 10000, .inl (fun _ => 0))), (q24, .inl (G.2.1 0, 10000, .inl (fun _ => 0))), (q25, .inl (G.2.1 0, 10000, .inl (fun _ => 0))), (q26, .inl (G.2.1 0, 625, .inl (fun _ => 0))), (q27, .inl (G.2.1 0, 625, .inl (fun _ => 0))), (q28, .inl (G.2.1 0, 625, .inl (fun _ => 0))), (q29, .inl (G.2.1 0, 625, .inl (fun _ => 0))), (q30, .inl (G.2.1 0, 625, .inl (fun _ => 0))), (q8, .inr (5, [.ref q6, .null, .int 0, .int 0, .int 0])), (q9, .inr (0, [.ref q6, .ref q7, .ref q31, .ref q32, .ref q33, .int 0, .null, .null, .int 0, .int 0, .int 0, .null, .int 0])), (q31, .inl (G.2.1 0, 30, .inl (fun _ => 0))), (q32, .inl (G.2.1 0, 30, .inl (fun _ => 0))), (q33, .inl (G.2.1 0, 30, .inl (fun _ => 0))), (q10, .inr (4, [.ref q7, .ref q34, .ref q35, .ref q36, .ref q37, .int 0, .ref q38, .ref q39, .null, .null, .int 0, .int 0, .int 0, .int 0, .long 0, .int 0, .int 0, .int 0, .int 0])), (q34, .inr (3, [.ref q40, .ref q41, .int 8, .int 0, .int 0])), (q40, .inl (G.2.1 2, 3008, .inr (.inl g42))), (q41, .inl (G.2.1 2, 3008, .inr (.inl g43))), (q35, .inl (G.2.1 2, 32000, .inr (.inl (fun _ => 0)))), (q36, .inl (G.2.1 0, 300, .inl (fun _ => 0))), (q37, .inl (G.2.1 0, 200, .inl (fun _ => 0))), (q38, .inl (G.2.1 0, 400, .inl (fun _ => 0))), (q39, .inl (G.2.1 0, 12, .inl (fun _ => 0))), (q44, .inr (9, [.int 0, .null, .int 0, .null, .int 0, .null, .null, .null, .null, .int 0, .null, .null, .null, .int 0, .int 0, .int 0, .int 0, .null, .null, .null, .null, .null, .null, .null, .null, .null, .null, .int 0, .null, .null, .null, .int 0, .null, .null, .int 0, .int 0, .null, .null, .null, .null, .null, .null, .null, .null, .int 0, .null, .null, .null, .null, .int 0, .null, .null, .null, .null, .null, .null, .null, .null, .null, .int 0, .int 0, .null, .null, .null, .int 0, .int 0, .int 0, .int 0, .int 0, .int 0, .int 0, .null, .null, .int 0, .int 0, .int 0, .int 0, .int 0, .int 0, .int 0, .int 0, .int 0, .int 0, .int 0, .null, .int 0, .null, .int 0, .null, .null, .null, .null, .null, .null, .null, .null, .null, .int 0, .int 0, .int 0, .null, .int 0, .int 0, .null, .null, .null, .null, .null, .null, .null, .null, .int 0, .null, .null, .null, .int 0, .int 0, .int 0, .int 0, .int 0, .int 0, .int 0, .int 0, .int 0, .int 0, .int 0, .int 0, .null, .int 0, .null, .int 0, .null, .null, .null]))] := hD
  refine W.widen (k := 38) (n := 125451) (Nat.le_of_ble_eq_true rfl) (Nat.le_of_ble_eq_true rfl) ?_
  refine lv_dup hx hb dL_law_11 rfl ?_
  refine pc_I (G := G) (As := []) (rest := [.ref q44]) (wr := [(q1, .inr (8, [.ref q5, .int 0, .ref q6, .ref q7, .ref q8, .ref q9, .ref q10, .null])), (q5, .inl (G.2.1 1, 5000, .inl (fun _ => 0))), (q6, .inr (7, [.ref q11, .int 220, .int 0, .ref q12, .ref q13, .ref q14, .ref q15, .ref q16, .int 0, .ref q17, .ref q18, .ref q19, .ref q20, .int 0, .int 0])), (q11, .inl (G.2.1 1, 5220, .inl f21)), (q12, .inl (G.2.1 0, 5000, .inl (fun _ => 0))), (q13, .inl (G.2.1 0, 5000, .inl (fun _ => 0))), (q14, .inl (G.2.1 0, 5000, .inl (fun _ => 0))), (q15, .inl (G.2.1 1, 5000, .inl (fun _ => 0))), (q16, .inl (G.2.1 0, 5000, .inl (fun _ => 0))), (q17, .inl (G.2.1 0, 2540, .inl (fun _ => 0))), (q18, .inl (G.2.1 0, 2540, .inl (fun _ => 0))), (q19, .inl (G.2.1 0, 2540, .inl (fun _ => 0))), (q20, .inl (G.2.1 0, 256, .inl (fun _ => 0))), (q7, .inr (1, [.ref q22, .ref q23, .ref q24, .ref q25, .int 0, .ref q26, .ref q27, .ref q28, .ref q29, .ref q30, .int 0, .int 0, .int 0])), (q22, .inl (G.2.1 0, 10000, .inl (fun _ => 0))), (q23, .inl (G.2.1 0, 10000, .inl (fun _ => 0))), (q24, .inl (G.2.1 0, 10000, .inl (fun _ => 0))), (q25, .inl (G.2.1 0, 10000, .inl (fun _ => 0))), (q26, .inl (G.2.1 0, 625, .inl (fun _ => 0))), (q27, .inl (G.2.1 0, 625, .inl (fun _ => 0))), (q28, .inl (G.2.1 0, 625, .inl (fun _ => 0))), (q29, .inl (G.2.1 0, 625, .inl (fun _ => 0))), (q30, .inl (G.2.1 0, 625, .inl (fun _ => 0))), (q8, .inr (5, [.ref q6, .null, .int 0, .int 0, .int 0])), (q9, .inr (0, [.ref q6, .ref q7, .ref q31, .ref q32, .ref q33, .int 0, .null, .null, .int 0, .int 0, .int 0, .null, .int 0])), (q31, .inl (G.2.1 0, 30, .inl (fun _ => 0))), (q32, .inl (G.2.1 0, 30, .inl (fun _ => 0))), (q33, .inl (G.2.1 0, 30, .inl (fun _ => 0))), (q10, .inr (4, [.ref q7, .ref q34, .ref q35, .ref q36, .ref q37, .int 0, .ref q38, .ref q39, .null, .null, .int 0, .int 0, .int 0, .int 0, .long 0, .int 0, .int 0, .int 0, .int 0])), (q34, .inr (3, [.ref q40, .ref q41, .int 8, .int 0, .int 0])), (q40, .inl (G.2.1 2, 3008, .inr (.inl g42))), (q41, .inl (G.2.1 2, 3008, .inr (.inl g43))), (q35, .inl (G.2.1 2, 32000, .inr (.inl (fun _ => 0)))), (q36, .inl (G.2.1 0, 300, .inl (fun _ => 0))), (q37, .inl (G.2.1 0, 200, .inl (fun _ => 0))), (q38, .inl (G.2.1 0, 400, .inl (fun _ => 0))), (q39, .inl (G.2.1 0, 12, .inl (fun _ => 0)))]) hx hb hml hown hq hE hX pX0_al hP hD hS hA hl.1 (c_Model_init l G q44) pw_336 pw_516 pw_517 pw_515 rfl hS_X12_init [37] [0, 1, 2, 3, 4, 5, 6, 7, 8, 9, 10, 11, 12, 13, 14, 15, 16, 17, 18, 19, 20, 21, 22, 23, 24, 25, 26, 27, 28, 29, 30, 31, 32, 33, 34, 35, 36] rfl rfl (by decide) (by decide) (by decide) rfl (Nat.le_of_ble_eq_true rfl) dL_law_12 ⟨Nat.le_of_ble_eq_true rfl, Nat.le_of_ble_eq_true rfl⟩ ⟨Nat.le_of_ble_eq_true rfl, Nat.le_of_ble_eq_true rfl⟩ (fun v47 u45 H locs hw46 hP hD hS => ?_)
  obtain rfl : v47 = none := hw46
  have hP : va_P G.1 pCl [(q1, .inr (8, [.ref q5, .int 0, .ref q6, .ref q7, .ref q8, .ref q9, .ref q10, .null])), (q5, .inl (G.2.1 1, 5000, .inl (fun _ => 0))), (q6, .inr (7, [.ref q11, .int 220, .int 0, .ref q12, .ref q13, .ref q14, .ref q15, .ref q16, .int 0, .ref q17, .ref q18, .ref q19, .ref q20, .int 0, .int 0])), (q11, .inl (G.2.1 1, 5220, .inl f21)), (q12, .inl (G.2.1 0, 5000, .inl (fun _ => 0))), (q13, .inl (G.2.1 0, 5000, .inl (fun _ => 0))), (q14, .inl (G.2.1 0, 5000, .inl (fun _ => 0))), (q15, .inl (G.2.1 1, 5000, .inl (fun _ => 0))), (q16, .inl (G.2.1 0, 5000, .inl (fun _ => 0))), (q17, .inl (G.2.1 0, 2540, .inl (fun _ => 0))), (q18, .inl (G.2.1 0, 2540, .inl (fun _ => 0))), (q19, .inl (G.2.1 0, 2540, .inl (fun _ => 0))), (q20, .inl (G.2.1 0, 256, .inl (fun _ => 0))), (q7, .inr (1, [.ref q22, .ref q23, .ref q24, .ref q25, .int 0, .ref q26, .ref q27, .ref q28, .ref q29, .ref q30, .int 0, .int 0, .int 0])), (q22, .inl (G.2.1 0, 10000, .inl (fun _ => 0))), (q23, .inl (G.2.1 0, 10000, .inl (fun _ => 0))), (q24, .inl (G.2.1 0, 10000, .inl (fun _ => 0))), (q25, .inl (G.2.1 0, 10000, .inl (fun _ => 0))), (q26, .inl (G.2.1 0, 625, .inl (fun _ => 0))), (q27, .inl (G.2.1 0, 625, .inl (fun _ => 0))), (q28, .inl (G.2.1 0, 625, .inl (fun _ => 0))), (q29, .inl (G.2.1 0, 625, .inl (fun _ => 0))), (q30, .inl (G.2.1 0, 625, .inl (fun _ => 0))), (q8, .inr (5, [.ref q6, .null, .int 0, .int 0, .int 0])), (q9, .inr (0, [.ref q6, .ref q7, .ref q31, .ref q32, .ref q33, .int 0, .null, .null, .int 0, .int 0, .int 0, .null, .int 0])), (q31, .inl (G.2.1 0, 30, .inl (fun _ => 0))), (q32, .inl (G.2.1 0, 30, .inl (fun _ => 0))), (q33, .inl (G.2.1 0, 30, .inl (fun _ => 0))), (q10, .inr (4, [.ref q7, .ref q34, .ref q35, .ref q36, .ref q37, .int 0, .ref q38, .ref q39, .null, .null, .int 0, .int 0, .int 0, .int 0, .long 0, .int 0, .int 0, .int 0, .int 0])), (q34, .inr (3, [.ref q40, .ref q41, .int 8, .int 0, .int 0])), (q40, .inl (G.2.1 2, 3008, .inr (.inl g42))), (q41, .inl (G.2.1 2, 3008, .inr (.inl g43))), (q35, .inl (G.2.1 2, 32000, .inr (.inl (fun _ => 0)))), (q36, .inl (G.2.1 0, 300, .inl (fun _ => 0))), (q37, .inl (G.2.1 0, 200, .inl (fun _ => 0))), (q38, .inl (G.2.1 0, 400, .inl (fun _ => 0))), (q39, .inl (G.2.1 0, 12, .inl (fun _ => 0))), (q44, .inr (9, (mF u45))), ((u45 0), .inl (G.2.1 0, 5000, .inl (fun _ => 0))), ((u45 1), .inl (G.2.1 0, 5000, .inl (fun _ => 0))), ((u45 2), .inl (G.2.1 0, 5001, .inl (fun _ => 0))), ((u45 3), .inl (G.2.1 0, 5001, .inl (fun _ => 0))), ((u45 4), .inl (G.2.1 0, 5001, .inl (fun _ => 0))), ((u45 5), .inl (G.2.1 0, 5001, .inl (fun _ => 0))), ((u45 6), .inl (G.2.1 0, 5100, .inl (fun _ => 0))), ((u45 7), .inl (G.2.1 0, 5100, .inl (fun _ => 0))), ((u45 8), .inl (G.2.1 1, 5100, .inl (fun _ => 0))), ((u45 9), .inl (G.2.1 0, 12000, .inl (fun _ => 0))), ((u45 10), .inl (G.2.1 0, 12000, .inl (fun _ => 0))), ((u45 11), .inl (G.2.1 0, 12000, .inl (fun _ => 0))), ((u45 12), .inl (G.2.1 0, 12000, .inl (fun _ => 0))), ((u45 13), .inl (G.2.1 0, 12000, .inl (fun _ => 0))), ((u45 14), .inl (G.2.1 0, 12000, .inl (fun _ => 0))), ((u45 15), .inl (G.2.1 0, 12000, .inl (fun _ => 0))), ((u45 16), .inl (G.2.1 0, 12000, .inl (fun _ => 0))), ((u45 17), .inl (G.2.1 0, 12000, .inl (fun _ => 0))), ((u45 18), .inl (G.2.1 0, 12000, .inl (fun _ => 0))), ((u45 19), .inl (G.2.1 0, 5000, .inl (fun _ => 0))), ((u45 20), .inl (G.2.1 3, 5000, .inl (fun _ => 0))), ((u45 21), .inl (G.2.1 0, 5000, .inl (fun _ => 0))), ((u45 22), .inl (G.2.1 0, 5000, .inl (fun _ => 0))), ((u45 23), .inl (G.2.1 0, 5000, .inl (fun _ => 0))), ((u45 24), .inl (G.2.1 0, 40, .inl (fun _ => 0))), ((u45 25), .inl (G.2.1 0, 40, .inl (fun _ => 0))), ((u45 26), .inl (G.2.1 3, 40, .inl (fun _ => 0))), ((u45 27), .inl (G.2.1 0, 40, .inl (fun _ => 0))), ((u45 28), .inl (G.2.1 0, 40, .inl (fun _ => 0))), ((u45 29), .inl (G.2.1 0, 40, .inl (fun _ => 0))), ((u45 30), .inl (G.2.1 0, 40, .inl (fun _ => 0))), ((u45 31), .inl (G.2.1 3, 1600, .inl (fun _ => 0))), ((u45 32), .inl (G.2.1 0, 620, .inl (fun _ => 0))), ((u45 33), .inl (G.2.1 0, 620, .inl (fun _ => 0))), ((u45 34), .inl (G.2.1 0, 620, .inl (fun _ => 0))), ((u45 35), .inl (G.2.1 0, 620, .inl (fun _ => 0))), ((u45 36), .inl (G.2.1 0, 920, .inl (fun _ => 0))), ((u45 37), .inl (G.2.1 0, 920, .inl (fun _ => 0))), ((u45 38), .inl (G.2.1 0, 920, .inl (fun _ => 0))), ((u45 39), .inl (G.2.1 0, 920, .inl (fun _ => 0))), ((u45 40), .inl (G.2.1 0, 920, .inl (fun _ => 0))), ((u45 41), .inl (G.2.1 0, 920, .inl (fun _ => 0))), ((u45 42), .inl (G.2.1 0, 920, .inl (fun _ => 0))), ((u45 43), .inl (G.2.1 0, 920, .inl (fun _ => 0))), ((u45 44), .inl (G.2.1 0, 920, .inl (fun _ => 0))), ((u45 45), .inl (G.2.1 0, 5000, .inl (fun _ => 0))), ((u45 46), .inl (G.2.1 0, 5000, .inl (fun _ => 0))), ((u45 47), .inl (G.2.1 0, 5000, .inl (fun _ => 0))), ((u45 48), .inl (G.2.1 0, 40, .inl (fun _ => 0))), ((u45 49), .inl (G.2.1 0, 40, .inl (fun _ => 0))), ((u45 50), .inl (G.2.1 0, 200, .inl (fun _ => 0))), ((u45 51), .inl (G.2.1 0, 400, .inl (fun _ => 0))), ((u45 52), .inl (G.2.1 0, 12000, .inl (fun _ => 0))), ((u45 53), .inl (G.2.1 0, 620, .inl (fun _ => 0))), ((u45 54), .inl (G.2.1 0, 204000, .inl (fun _ => 0))), ((u45 55), .inl (G.2.1 0, 3000, .inl (fun _ => 0))), ((u45 56), .inl (G.2.1 0, 3000, .inl (fun _ => 0))), ((u45 57), .inl (G.2.1 0, 3000, .inl (fun _ => 0))), ((u45 58), .inl (G.2.1 0, 3000, .inl (fun _ => 0))), ((u45 59), .inl (G.2.1 3, 3000, .inl (fun _ => 0))), ((u45 60), .inl (G.2.1 0, 3100, .inl (fun _ => 0))), ((u45 61), .inl (G.2.1 0, 3000, .inl (fun _ => 0))), ((u45 62), .inl (G.2.1 0, 100, .inl (fun _ => 0))), ((u45 63), .inl (G.2.1 0, 100, .inl (fun _ => 0))), ((u45 64), .inl (G.2.1 0, 100, .inl (fun _ => 0))), ((u45 65), .inl (G.2.1 0, 100, .inl (fun _ => 0))), ((u45 66), .inl (G.2.1 0, 3200, .inl (fun _ => 0))), ((u45 67), .inl (G.2.1 3, 3200, .inl (fun _ => 0))), ((u45 68), .inl (G.2.1 0, 40000, .inl (fun _ => 0))), ((u45 69), .inl (G.2.1 3, 40000, .inl (fun _ => 0))), ((u45 70), .inl (G.2.1 0, 2100, .inl (fun _ => 0))), ((u45 71), .inl (G.2.1 0, 2100, .inl (fun _ => 0))), ((u45 72), .inl (G.2.1 3, 2100, .inl (fun _ => 0))), ((u45 73), .inl (G.2.1 0, 3000, .inl (fun _ => 0))), ((u45 74), .inl (G.2.1 0, 3000, .inl (fun _ => 0))), ((u45 75), .inl (G.2.1 0, 40, .inl (fun _ => 0))), ((u45 76), .inl (G.2.1 0, 40, .inl (fun _ => 0))), ((u45 77), .inl (G.2.1 0, 23000, .inl (fun _ => 0)))] H := hP
  have hD : va_D A [(q1, .inr (8, [.ref q5, .int 0, .ref q6, .ref q7, .ref q8, .ref q9, .ref q10, .null])), (q5, .inl (G.2.1 1, 5000, .inl (fun _ => 0))), (q6, .inr (7, [.ref q11, .int 220, .int 0, .ref q12, .ref q13, .ref q14, .ref q15, .ref q16, .int 0, .ref q17, .ref q18, .ref q19, .ref q20, .int 0, .int 0])), (q11, .inl (G.2.1 1, 5220, .inl f21)), (q12, .inl (G.2.1 0, 5000, .inl (fun _ => 0))), (q13, .inl (G.2.1 0, 5000, .inl (fun _ => 0))), (q14, .inl (G.2.1 0, 5000, .inl (fun _ => 0))), (q15, .inl (G.2.1 1, 5000, .inl (fun _ => 0))), (q16, .inl (G.2.1 0, 5000, .inl (fun _ => 0))), (q17, .inl (G.2.1 0, 2540, .inl (fun _ => 0))), (q18, .inl (G.2.1 0, 2540, .inl (fun _ => 0))), (q19, .inl (G.2.1 0, 2540, .inl (fun _ => 0))), (q20, .inl (G.2.1 0, 256, .inl (fun _ => 0))), (q7, .inr (1, [.ref q22, .ref q23, .ref q24, .ref q25, .int 0, .ref q26, .ref q27, .ref q28, .ref q29, .ref q30, .int 0, .int 0, .int 0])), (q22, .inl (G.2.1 0, 10000, .inl (fun _ => 0))), (q23, .inl (G.2.1 0, 10000, .inl (fun _ => 0))), (q24, .inl (G.2.1 0, 10000, .inl (fun _ => 0))), (q25, .inl (G.2.1 0, 10000, .inl (fun _ => 0))), (q26, .inl (G.2.1 0, 625, .inl (fun _ => 0))), (q27, .inl (G.2.1 0, 625, .inl (fun _ => 0))), (q28, .inl (G.2.1 0, 625, .inl (fun _ => 0))), (q29, .inl (G.2.1 0, 625, .inl (fun _ => 0))), (q30, .inl (G.2.1 0, 625, .inl (fun _ => 0))), (q8, .inr (5, [.ref q6, .null, .int 0, .int 0, .int 0])), (q9, .inr (0, [.ref q6, .ref q7, .ref q31, .ref q32, .ref q33, .int 0, .null, .null, .int 0, .int 0, .int 0, .null, .int 0])), (q31, .inl (G.2.1 0, 30, .inl (fun _ => 0))), (q32, .inl (G.2.1 0, 30, .inl (fun _ => 0))), (q33, .inl (G.2.1 0, 30, .inl (fun _ => 0))), (q10, .inr (4, [.ref q7, .ref q34, .ref q35, .ref q36, .ref q37, .int 0, .ref q38, .ref q39, .null, .null, .int 0, .int 0, .int 0, .int 0, .long 0, .int 0, .int 0, .int 0, .int 0])), (q34, .inr (3, [.ref q40, .ref q41, .int 8, .int 0, .int 0])), (q40, .inl (G.2.1 2, 3008, .inr (.inl g42))), (q41, .inl (G.2.1 2, 3008, .inr (.inl g43))), (q35, .inl (G.2.1 2, 32000, .inr (.inl (fun _ => 0)))), (q36, .inl (G.2.1 0, 300, .inl (fun _ => 0))), (q37, .inl (G.2.1 0, 200, .inl (fun _ => 0))), (q38, .inl (G.2.1 0, 400, .inl (fun _ => 0))), (q39, .inl (G.2.1 0, 12, .inl (fun _ => 0))), (q44, .inr (9, (mF u45))), ((u45 0), .inl (G.2.1 0, 5000, .inl (fun _ => 0))), ((u45 1), .inl (G.2.1 0, 5000, .inl (fun _ => 0))), ((u45 2), .inl (G.2.1 0, 5001, .inl (fun _ => 0))), ((u45 3), .inl (G.2.1 0, 5001, .inl (fun _ => 0))), ((u45 4), .inl (G.2.1 0, 5001, .inl (fun _ => 0))), ((u45 5), .inl (G.2.1 0, 5001, .inl (fun _ => 0))), ((u45 6), .inl (G.2.1 0, 5100, .inl (fun _ => 0))), ((u45 7), .inl (G.2.1 0, 5100, .inl (fun _ => 0))), ((u45 8), .inl (G.2.1 1, 5100, .inl (fun _ => 0))), ((u45 9), .inl (G.2.1 0, 12000, .inl (fun _ => 0))), ((u45 10), .inl (G.2.1 0, 12000, .inl (fun _ => 0))), ((u45 11), .inl (G.2.1 0, 12000, .inl (fun _ => 0))), ((u45 12), .inl (G.2.1 0, 12000, .inl (fun _ => 0))), ((u45 13), .inl (G.2.1 0, 12000, .inl (fun _ => 0))), ((u45 14), .inl (G.2.1 0, 12000, .inl (fun _ => 0))), ((u45 15), .inl (G.2.1 0, 12000, .inl (fun _ => 0))), ((u45 16), .inl (G.2.1 0, 12000, .inl (fun _ => 0))), ((u45 17), .inl (G.2.1 0, 12000, .inl (fun _ => 0))), ((u45 18), .inl (G.2.1 0, 12000, .inl (fun _ => 0))), ((u45 19), .inl (G.2.1 0, 5000, .inl (fun _ => 0))), ((u45 20), .inl (G.2.1 3, 5000, .inl (fun _ => 0))), ((u45 21), .inl (G.2.1 0, 5000, .inl (fun _ => 0))), ((u45 22), .inl (G.2.1 0, 5000, .inl (fun _ => 0))), ((u45 23), .inl (G.2.1 0, 5000, .inl (fun _ => 0))), ((u45 24), .inl (G.2.1 0, 40, .inl (fun _ => 0))), ((u45 25), .inl (G.2.1 0, 40, .inl (fun _ => 0))), ((u45 26), .inl (G.2.1 3, 40, .inl (fun _ => 0))), ((u45 27), .inl (G.2.1 0, 40, .inl (fun _ => 0))), ((u45 28), .inl (G.2.1 0, 40, .inl (fun _ => 0))), ((u45 29), .inl (G.2.1 0, 40, .inl (fun _ => 0))), ((u45 30), .inl (G.2.1 0, 40, .inl (fun _ => 0))), ((u45 31), .inl (G.2.1 3, 1600, .inl (fun _ => 0))), ((u45 32), .inl (G.2.1 0, 620, .inl (fun _ => 0))), ((u45 33), .inl (G.2.1 0, 620, .inl (fun _ => 0))), ((u45 34), .inl (G.2.1 0, 620, .inl (fun _ => 0))), ((u45 35), .inl (G.2.1 0, 620, .inl (fun _ => 0))), ((u45 36), .inl (G.2.1 0, 920, .inl (fun _ => 0))), ((u45 37), .inl (G.2.1 0, 920, .inl (fun _ => 0))), ((u45 38), .inl (G.2.1 0, 920, .inl (fun _ => 0))), ((u45 39), .inl (G.2.1 0, 920, .inl (fun _ => 0))), ((u45 40), .inl (G.2.1 0, 920, .inl (fun _ => 0))), ((u45 41), .inl (G.2.1 0, 920, .inl (fun _ => 0))), ((u45 42), .inl (G.2.1 0, 920, .inl (fun _ => 0))), ((u45 43), .inl (G.2.1 0, 920, .inl (fun _ => 0))), ((u45 44), .inl (G.2.1 0, 920, .inl (fun _ => 0))), ((u45 45), .inl (G.2.1 0, 5000, .inl (fun _ => 0))), ((u45 46), .inl (G.2.1 0, 5000, .inl (fun _ => 0))), ((u45 47), .inl (G.2.1 0, 5000, .inl (fun _ => 0))), ((u45 48), .inl (G.2.1 0, 40, .inl (fun _ => 0))), ((u45 49), .inl (G.2.1 0, 40, .inl (fun _ => 0))), ((u45 50), .inl (G.2.1 0, 200, .inl (fun _ => 0))), ((u45 51), .inl (G.2.1 0, 400, .inl (fun _ => 0))), ((u45 52), .inl (G.2.1 0, 12000, .inl (fun _ => 0))), ((u45 53), .inl (G.2.1 0, 620, .inl (fun _ => 0))), ((u45 54), .inl (G.2.1 0, 204000, .inl (fun _ => 0))), ((u45 55), .inl (G.2.1 0, 3000, .inl (fun _ => 0))), ((u45 56), .inl (G.2.1 0, 3000, .inl (fun _ => 0))), ((u45 57), .inl (G.2.1 0, 3000, .inl (fun _ => 0))), ((u45 58), .inl (G.2.1 0, 3000, .inl (fun _ => 0))), ((u45 59), .inl (G.2.1 3, 3000, .inl (fun _ => 0))), ((u45 60), .inl (G.2.1 0, 3100, .inl (fun _ => 0))), ((u45 61), .inl (G.2.1 0, 3000, .inl (fun _ => 0))), ((u45 62), .inl (G.2.1 0, 100, .inl (fun _ => 0))), ((u45 63), .inl (G.2.1 0, 100, .inl (fun _ => 0))), ((u45 64), .inl (G.2.1 0, 100, .inl (fun _ => 0))), ((u45 65), .inl (G.2.1 0, 100, .inl (fun _ => 0))), ((u45 66), .inl (G.2.1 0, 3200, .inl (fun _ => 0))), ((u45 67), .inl (G.2.1 3, 3200, .inl (fun _ => 0))), ((u45 68), .inl (G.2.1 0, 40000, .inl (fun _ => 0))), ((u45 69), .inl (G.2.1 3, 40000, .inl (fun _ => 0))), ((u45 70), .inl (G.2.1 0, 2100, .inl (fun _ => 0))), ((u45 71), .inl (G.2.1 0, 2100, .inl (fun _ => 0))), ((u45 72), .inl (G.2.1 3, 2100, .inl (fun _ => 0))), ((u45 73), .inl (G.2.1 0, 3000, .inl (fun _ => 0))), ((u45 74), .inl (G.2.1 0, 3000, .inl (fun _ => 0))), ((u45 75), .inl (G.2.1 0, 40, .inl (fun _ => 0))), ((u45 76), .inl (G.2.1 0, 40, .inl (fun _ => 0))), ((u45 77), .inl (G.2.1 0, 23000, .inl (fun _ => 0)))] := hD
  refine W.widen (k := 116) (n := 703975) (Nat.le_of_ble_eq_true rfl) (Nat.le_of_ble_eq_true rfl) ?_
  refine W.eq (g2 := F0 m 15 ls [.ref q44]) rfl ?_
  refine lv_astore_n (lv' := [(2, .ref q44), (1, .ref q1), (0, .ref b)]) hx hb dL_law_15 rfl hl (by decide) rfl (fun ls hl => ?_)
  refine lv_iconst (v := 1) hx hb dL_law_16 (by decide) ?_
  refine pn_newa (G := G) (atype := .long) (a0 := (1, .inr (.inl (fun _ => 0)))) (N' := 1) hx hb (hq _ pw_645) rfl hE.1.2.2.2.1 hP hD hS hA (fun _ => rfl) (by decide) (by decide) (by decide) (Nat.le_of_ble_eq_true rfl) (Nat.le_of_ble_eq_true rfl) dL_law_17 (fun q48 H hP hD hS => ?_)
  have hP : va_P G.1 pCl [(q1, .inr (8, [.ref q5, .int 0, .ref q6, .ref q7, .ref q8, .ref q9, .ref q10, .null])), (q5, .inl (G.2.1 1, 5000, .inl (fun _ => 0))), (q6, .inr (7, [.ref q11, .int 220, .int 0, .ref q12, .ref q13, .ref q14, .ref q15, .ref q16, .int 0, .ref q17, .ref q18, .ref q19, .ref q20, .int 0, .int 0])), (q11, .inl (G.2.1 1, 5220, .inl f21)), (q12, .inl (G.2.1 0, 5000, .inl (fun _ => 0))), (q13, .inl (G.2.1 0, 5000, .inl (fun _ => 0))), (q14, .inl (G.2.1 0, 5000, .inl (fun _ => 0))), (q15, .inl (G.2.1 1, 5000, .inl (fun _ => 0))), (q16, .inl (G.2.1 0, 5000, .inl (fun _ => 0))), (q17, .inl (G.2.1 0, 2540, .inl (fun _ => 0))), (q18, .inl (G.2.1 0, 2540, .inl (fun _ => 0))), (q19, .inl (G.2.1 0, 2540, .inl (fun _ => 0))), (q20, .inl (G.2.1 0, 256, .inl (fun _ => 0))), (q7, .inr (1, [.ref q22, .ref q23, .ref q24, .ref q25, .int 0, .ref q26, .ref q27, .ref q28, .ref q29, .ref q30, .int 0, .int 0, .int 0])), (q22, .inl (G.2.1 0, 10000, .inl (fun _ => 0))), (q23, .inl (G.2.1 0, 10000, .inl (fun _ => 0))), (q24, .inl (G.2.1 0, 10000, .inl (fun _ => 0))), (q25, .inl (G.2.1 0, 10000, .inl (fun _ => 0))), (q26, .inl (G.2.1 0, 625, .inl (fun _ => 0))), (q27, .inl (G.2.1 0, 625, .inl (fun _ => 0))), (q28, .inl (G.2.1 0, 625, .inl (fun _ => 0))), (q29, .inl (G.2.1 0, 625, .inl (fun _ => 0))), (q30, .inl (G.2.1 0, 625, .inl (fun _ => 0))), (q8, .inr (5, [.ref q6, .null, .int 0, .int 0, .int 0])), (q9, .inr (0, [.ref q6, .ref q7, .ref q31, .ref q32, .ref q33, .int 0, .null, .null, .int 0, .int 0, .int 0, .null, .int 0])), (q31, .inl (G.2.1 0, 30, .inl (fun _ => 0))), (q32, .inl (G.2.1 0, 30, .inl (fun _ => 0))), (q33, .inl (G.2.1 0, 30, .inl (fun _ => 0))), (q10, .inr (4, [.ref q7, .ref q34, .ref q35, .ref q36, .ref q37, .int 0, .ref q38, .ref q39, .null, .null, .int 0, .int 0, .int 0, .int 0, .long 0, .int 0, .int 0, .int 0, .int 0])), (q34, .inr (3, [.ref q40, .ref q41, .int 8, .int 0, .int 0])), (q40, .inl (G.2.1 2, 3008, .inr (.inl g42))), (q41, .inl (G.2.1 2, 3008, .inr (.inl g43))), (q35, .inl (G.2.1 2, 32000, .inr (.inl (fun _ => 0)))), (q36, .inl (G.2.1 0, 300, .inl (fun _ => 0))), (q37, .inl (G.2.1 0, 200, .inl (fun _ => 0))), (q38, .inl (G.2.1 0, 400, .inl (fun _ => 0))), (q39, .inl (G.2.1 0, 12, .inl (fun _ => 0))), (q44, .inr (9, (mF u45))), ((u45 0), .inl (G.2.1 0, 5000, .inl (fun _ => 0))), ((u45 1), .inl (G.2.1 0, 5000, .inl (fun _ => 0))), ((u45 2), .inl (G.2.1 0, 5001, .inl (fun _ => 0))), ((u45 3), .inl (G.2.1 0, 5001, .inl (fun _ => 0))), ((u45 4), .inl (G.2.1 0, 5001, .inl (fun _ => 0))), ((u45 5), .inl (G.2.1 0, 5001, .inl (fun _ => 0))), ((u45 6), .inl (G.2.1 0, 5100, .inl (fun _ => 0))), ((u45 7), .inl (G.2.1 0, 5100, .inl (fun _ => 0))), ((u45 8), .inl (G.2.1 1, 5100, .inl (fun _ => 0))), ((u45 9), .inl (G.2.1 0, 12000, .inl (fun _ => 0))), ((u45 10), .inl (G.2.1 0, 12000, .inl (fun _ => 0))), ((u45 11), .inl (G.2.1 0, 12000, .inl (fun _ => 0))), ((u45 12), .inl (G.2.1 0, 12000, .inl (fun _ => 0))), ((u45 13), .inl (G.2.1 0, 12000, .inl (fun _ => 0))), ((u45 14), .inl (G.2.1 0, 12000, .inl (fun _ => 0))), ((u45 15), .inl (G.2.1 0, 12000, .inl (fun _ => 0))), ((u45 16), .inl (G.2.1 0, 12000, .inl (fun _ => 0))), ((u45 17), .inl (G.2.1 0, 12000, .inl (fun _ => 0))), ((u45 18), .inl (G.2.1 0, 12000, .inl (fun _ => 0))), ((u45 19), .inl (G.2.1 0, 5000, .inl (fun _ => 0))), ((u45 20), .inl (G.2.1 3, 5000, .inl (fun _ => 0))), ((u45 21), .inl (G.2.1 0, 5000, .inl (fun _ => 0))), ((u45 22), .inl (G.2.1 0, 5000, .inl (fun _ => 0))), ((u45 23), .inl (G.2.1 0, 5000, .inl (fun _ => 0))), ((u45 24), .inl (G.2.1 0, 40, .inl (fun _ => 0))), ((u45 25), .inl (G.2.1 0, 40, .inl (fun _ => 0))), ((u45 26), .inl (G.2.1 3, 40, .inl (fun _ => 0))), ((u45 27), .inl (G.2.1 0, 40, .inl (fun _ => 0))), ((u45 28), .inl (G.2.1 0, 40, .inl (fun _ => 0))), ((u45 29), .inl (G.2.1 0, 40, .inl (fun _ => 0))), ((u45 30), .inl (G.2.1 0, 40, .inl (fun _ => 0))), ((u45 31), .inl (G.2.1 3, 1600, .inl (fun _ => 0))), ((u45 32), .inl (G.2.1 0, 620, .inl (fun _ => 0))), ((u45 33), .inl (G.2.1 0, 620, .inl (fun _ => 0))), ((u45 34), .inl (G.2.1 0, 620, .inl (fun _ => 0))), ((u45 35), .inl (G.2.1 0, 620, .inl (fun _ => 0))), ((u45 36), .inl (G.2.1 0, 920, .inl (fun _ => 0))), ((u45 37), .inl (G.2.1 0, 920, .inl (fun _ => 0))), ((u45 38), .inl (G.2.1 0, 920, .inl (fun _ => 0))), ((u45 39), .inl (G.2.1 0, 920, .inl (fun _ => 0))), ((u45 40), .inl (G.2.1 0, 920, .inl (fun _ => 0))), ((u45 41), .inl (G.2.1 0, 920, .inl (fun _ => 0))), ((u45 42), .inl (G.2.1 0, 920, .inl (fun _ => 0))), ((u45 43), .inl (G.2.1 0, 920, .inl (fun _ => 0))), ((u45 44), .inl (G.2.1 0, 920, .inl (fun _ => 0))), ((u45 45), .inl (G.2.1 0, 5000, .inl (fun _ => 0))), ((u45 46), .inl (G.2.1 0, 5000, .inl (fun _ => 0))), ((u45 47), .inl (G.2.1 0, 5000, .inl (fun _ => 0))), ((u45 48), .inl (G.2.1 0, 40, .inl (fun _ => 0))), ((u45 49), .inl (G.2.1 0, 40, .inl (fun _ => 0))), ((u45 50), .inl (G.2.1 0, 200, .inl (fun _ => 0))), ((u45 51), .inl (G.2.1 0, 400, .inl (fun _ => 0))), ((u45 52), .inl (G.2.1 0, 12000, .inl (fun _ => 0))), ((u45 53), .inl (G.2.1 0, 620, .inl (fun _ => 0))), ((u45 54), .inl (G.2.1 0, 204000, .inl (fun _ => 0))), ((u45 55), .inl (G.2.1 0, 3000, .inl (fun _ => 0))), ((u45 56), .inl (G.2.1 0, 3000, .inl (fun _ => 0))), ((u45 57), .inl (G.2.1 0, 3000, .inl (fun _ => 0))), ((u45 58), .inl (G.2.1 0, 3000, .inl (fun _ => 0))), ((u45 59), .inl (G.2.1 3, 3000, .inl (fun _ => 0))), ((u45 60), .inl (G.2.1 0, 3100, .inl (fun _ => 0))), ((u45 61), .inl (G.2.1 0, 3000, .inl (fun _ => 0))), ((u45 62), .inl (G.2.1 0, 100, .inl (fun _ => 0))), ((u45 63), .inl (G.2.1 0, 100, .inl (fun _ => 0))), ((u45 64), .inl (G.2.1 0, 100, .inl (fun _ => 0))), ((u45 65), .inl (G.2.1 0, 100, .inl (fun _ => 0))), ((u45 66), .inl (G.2.1 0, 3200, .inl (fun _ => 0))), ((u45 67), .inl (G.2.1 3, 3200, .inl (fun _ => 0))), ((u45 68), .inl (G.2.1 0, 40000, .inl (fun _ => 0))), ((u45 69), .inl (G.2.1 3, 40000, .inl (fun _ => 0))), ((u45 70), .inl (G.2.1 0, 2100, .inl (fun _ => 0))), ((u45 71), .inl (G.2.1 0, 2100, .inl (fun _ => 0))), ((u45 72), .inl (G.2.1 3, 2100, .inl (fun _ => 0))), ((u45 73), .inl (G.2.1 0, 3000, .inl (fun _ => 0))), ((u45 74), .inl (G.2.1 0, 3000, .inl (fun _ => 0))), ((u45 75), .inl (G.2.1 0, 40, .inl (fun _ => 0))), ((u45 76), .inl (G.2.1 0, 40, .inl (fun _ => 0))), ((u45 77), .inl (G.2.1 0, 23000, .inl (fun _ => 0))), (q48, .inl (G.2.1 2, 1, .inr (.inl (fun _ => 0))))] H := hP
  have hD : va_D A [(q1, .inr (8, [.ref q5, .int 0, .ref q6, .ref q7, .ref q8, .ref q9, .ref q10, .null])), (q5, .inl (G.2.1 1, 5000, .inl (fun _ => 0))), (q6, .inr (7, [.ref q11, .int 220, .int 0, .ref q12, .ref q13, .ref q14, .ref q15, .ref q16, .int 0, .ref q17, .ref q18, .ref q19, .ref q20, .int 0, .int 0])), (q11, .inl (G.2.1 1, 5220, .inl f21)), (q12, .inl (G.2.1 0, 5000, .inl (fun _ => 0))), (q13, .inl (G.2.1 0, 5000, .inl (fun _ => 0))), (q14, .inl (G.2.1 0, 5000, .inl (fun _ => 0))), (q15, .inl (G.2.1 1, 5000, .inl (fun _ => 0))), (q16, .inl (G.2.1 0, 5000, .inl (fun _ => 0))), (q17, .inl (G.2.1 0, 2540, .inl (fun _ => 0))), (q18, .inl (G.2.1 0, 2540, .inl (fun _ => 0))), (q19, .inl (G.2.1 0, 2540, .inl (fun _ => 0))), (q20, .inl (G.2.1 0, 256, .inl (fun _ => 0))), (q7, .inr (1, [.ref q22, .ref q23, .ref q24, .ref q25, .int 0, .ref q26, .ref q27, .ref q28, .ref q29, .ref q30, .int 0, .int 0, .int 0])), (q22, .inl (G.2.1 0, 10000, .inl (fun _ => 0))), (q23, .inl (G.2.1 0, 10000, .inl (fun _ => 0))), (q24, .inl (G.2.1 0, 10000, .inl (fun _ => 0))), (q25, .inl (G.2.1 0, 10000, .inl (fun _ => 0))), (q26, .inl (G.2.1 0, 625, .inl (fun _ => 0))), (q27, .inl (G.2.1 0, 625, .inl (fun _ => 0))), (q28, .inl (G.2.1 0, 625, .inl (fun _ => 0))), (q29, .inl (G.2.1 0, 625, .inl (fun _ => 0))), (q30, .inl (G.2.1 0, 625, .inl (fun _ => 0))), (q8, .inr (5, [.ref q6, .null, .int 0, .int 0, .int 0])), (q9, .inr (0, [.ref q6, .ref q7, .ref q31, .ref q32, .ref q33, .int 0, .null, .null, .int 0, .int 0, .int 0, .null, .int 0])), (q31, .inl (G.2.1 0, 30, .inl (fun _ => 0))), (q32, .inl (G.2.1 0, 30, .inl (fun _ => 0))), (q33, .inl (G.2.1 0, 30, .inl (fun _ => 0))), (q10, .inr (4, [.ref q7, .ref q34, .ref q35, .ref q36, .ref q37, .int 0, .ref q38, .ref q39, .null, .null, .int 0, .int 0, .int 0, .int 0, .long 0, .int 0, .int 0, .int 0, .int 0])), (q34, .inr (3, [.ref q40, .ref q41, .int 8, .int 0, .int 0])), (q40, .inl (G.2.1 2, 3008, .inr (.inl g42))), (q41, .inl (G.2.1 2, 3008, .inr (.inl g43))), (q35, .inl (G.2.1 2, 32000, .inr (.inl (fun _ => 0)))), (q36, .inl (G.2.1 0, 300, .inl (fun _ => 0))), (q37, .inl (G.2.1 0, 200, .inl (fun _ => 0))), (q38, .inl (G.2.1 0, 400, .inl (fun _ => 0))), (q39, .inl (G.2.1 0, 12, .inl (fun _ => 0))), (q44, .inr (9, (mF u45))), ((u45 0), .inl (G.2.1 0, 5000, .inl (fun _ => 0))), ((u45 1), .inl (G.2.1 0, 5000, .inl (fun _ => 0))), ((u45 2), .inl (G.2.1 0, 5001, .inl (fun _ => 0))), ((u45 3), .inl (G.2.1 0, 5001, .inl (fun _ => 0))), ((u45 4), .inl (G.2.1 0, 5001, .inl (fun _ => 0))), ((u45 5), .inl (G.2.1 0, 5001, .inl (fun _ => 0))), ((u45 6), .inl (G.2.1 0, 5100, .inl (fun _ => 0))), ((u45 7), .inl (G.2.1 0, 5100, .inl (fun _ => 0))), ((u45 8), .inl (G.2.1 1, 5100, .inl (fun _ => 0))), ((u45 9), .inl (G.2.1 0, 12000, .inl (fun _ => 0))), ((u45 10), .inl (G.2.1 0, 12000, .inl (fun _ => 0))), ((u45 11), .inl (G.2.1 0, 12000, .inl (fun _ => 0))), ((u45 12), .inl (G.2.1 0, 12000, .inl (fun _ => 0))), ((u45 13), .inl (G.2.1 0, 12000, .inl (fun _ => 0))), ((u45 14), .inl (G.2.1 0, 12000, .inl (fun _ => 0))), ((u45 15), .inl (G.2.1 0, 12000, .inl (fun _ => 0))), ((u45 16), .inl (G.2.1 0, 12000, .inl (fun _ => 0))), ((u45 17), .inl (G.2.1 0, 12000, .inl (fun _ => 0))), ((u45 18), .inl (G.2.1 0, 12000, .inl (fun _ => 0))), ((u45 19), .inl (G.2.1 0, 5000, .inl (fun _ => 0))), ((u45 20), .inl (G.2.1 3, 5000, .inl (fun _ => 0))), ((u45 21), .inl (G.2.1 0, 5000, .inl (fun _ => 0))), ((u45 22), .inl (G.2.1 0, 5000, .inl (fun _ => 0))), ((u45 23), .inl (G.2.1 0, 5000, .inl (fun _ => 0))), ((u45 24), .inl (G.2.1 0, 40, .inl (fun _ => 0))), ((u45 25), .inl (G.2.1 0, 40, .inl (fun _ => 0))), ((u45 26), .inl (G.2.1 3, 40, .inl (fun _ => 0))), ((u45 27), .inl (G.2.1 0, 40, .inl (fun _ => 0))), ((u45 28), .inl (G.2.1 0, 40, .inl (fun _ => 0))), ((u45 29), .inl (G.2.1 0, 40, .inl (fun _ => 0))), ((u45 30), .inl (G.2.1 0, 40, .inl (fun _ => 0))), ((u45 31), .inl (G.2.1 3, 1600, .inl (fun _ => 0))), ((u45 32), .inl (G.2.1 0, 620, .inl (fun _ => 0))), ((u45 33), .inl (G.2.1 0, 620, .inl (fun _ => 0))), ((u45 34), .inl (G.2.1 0, 620, .inl (fun _ => 0))), ((u45 35), .inl (G.2.1 0, 620, .inl (fun _ => 0))), ((u45 36), .inl (G.2.1 0, 920, .inl (fun _ => 0))), ((u45 37), .inl (G.2.1 0, 920, .inl (fun _ => 0))), ((u45 38), .inl (G.2.1 0, 920, .inl (fun _ => 0))), ((u45 39), .inl (G.2.1 0, 920, .inl (fun _ => 0))), ((u45 40), .inl (G.2.1 0, 920, .inl (fun _ => 0))), ((u45 41), .inl (G.2.1 0, 920, .inl (fun _ => 0))), ((u45 42), .inl (G.2.1 0, 920, .inl (fun _ => 0))), ((u45 43), .inl (G.2.1 0, 920, .inl (fun _ => 0))), ((u45 44), .inl (G.2.1 0, 920, .inl (fun _ => 0))), ((u45 45), .inl (G.2.1 0, 5000, .inl (fun _ => 0))), ((u45 46), .inl (G.2.1 0, 5000, .inl (fun _ => 0))), ((u45 47), .inl (G.2.1 0, 5000, .inl (fun _ => 0))), ((u45 48), .inl (G.2.1 0, 40, .inl (fun _ => 0))), ((u45 49), .inl (G.2.1 0, 40, .inl (fun _ => 0))), ((u45 50), .inl (G.2.1 0, 200, .inl (fun _ => 0))), ((u45 51), .inl (G.2.1 0, 400, .inl (fun _ => 0))), ((u45 52), .inl (G.2.1 0, 12000, .inl (fun _ => 0))), ((u45 53), .inl (G.2.1 0, 620, .inl (fun _ => 0))), ((u45 54), .inl (G.2.1 0, 204000, .inl (fun _ => 0))), ((u45 55), .inl (G.2.1 0, 3000, .inl (fun _ => 0))), ((u45 56), .inl (G.2.1 0, 3000, .inl (fun _ => 0))), ((u45 57), .inl (G.2.1 0, 3000, .inl (fun _ => 0))), ((u45 58), .inl (G.2.1 0, 3000, .inl (fun _ => 0))), ((u45 59), .inl (G.2.1 3, 3000, .inl (fun _ => 0))), ((u45 60), .inl (G.2.1 0, 3100, .inl (fun _ => 0))), ((u45 61), .inl (G.2.1 0, 3000, .inl (fun _ => 0))), ((u45 62), .inl (G.2.1 0, 100, .inl (fun _ => 0))), ((u45 63), .inl (G.2.1 0, 100, .inl (fun _ => 0))), ((u45 64), .inl (G.2.1 0, 100, .inl (fun _ => 0))), ((u45 65), .inl (G.2.1 0, 100, .inl (fun _ => 0))), ((u45 66), .inl (G.2.1 0, 3200, .inl (fun _ => 0))), ((u45 67), .inl (G.2.1 3, 3200, .inl (fun _ => 0))), ((u45 68), .inl (G.2.1 0, 40000, .inl (fun _ => 0))), ((u45 69), .inl (G.2.1 3, 40000, .inl (fun _ => 0))), ((u45 70), .inl (G.2.1 0, 2100, .inl (fun _ => 0))), ((u45 71), .inl (G.2.1 0, 2100, .inl (fun _ => 0))), ((u45 72), .inl (G.2.1 3, 2100, .inl (fun _ => 0))), ((u45 73), .inl (G.2.1 0, 3000, .inl (fun _ => 0))), ((u45 74), .inl (G.2.1 0, 3000, .inl (fun _ => 0))), ((u45 75), .inl (G.2.1 0, 40, .inl (fun _ => 0))), ((u45 76), .inl (G.2.1 0, 40, .inl (fun _ => 0))), ((u45 77), .inl (G.2.1 0, 23000, .inl (fun _ => 0))), (q48, .inl (G.2.1 2, 1, .inr (.inl (fun _ => 0))))] := hD
  refine W.widen (k := 117) (n := 703976) (Nat.le_of_ble_eq_true rfl) (Nat.le_of_ble_eq_true rfl) ?_
  refine lv_astore_n (lv' := [(3, .ref q48), (2, .ref q44), (1, .ref q1), (0, .ref b)]) hx hb dL_law_19 rfl hl (by decide) rfl (fun ls hl => ?_)
  refine lv_iconst (v := 0) hx hb dL_law_20 (by decide) ?_
  refine lv_istore (lv' := [(4, .int 0), (3, .ref q48), (2, .ref q44), (1, .ref q1), (0, .ref b)]) hx hb dL_law_21 hl (by decide) rfl (fun ls hl => ?_)
  have hc : L = 6 ∨ L = 0 ∨ L = 1 ∨ L = 2 ∨ L = 3 ∨ L = 4 ∨ L = 5 := by omega
  rcases hc with rfl | rfl | rfl | rfl | rfl | rfl | rfl
  · refine lv_iload hx hb dL_law_23 (lv_at hl 0 rfl) ?_
    refine lv_aload_n hx hb dL_law_25 rfl (lv_at hl 4 rfl) ?_
    refine va_slen hx hb hXs hbl hbA hS dL_law_26 ?_
    refine lv_topi (fun x49 e50 => ?_)
    obtain rfl : x49 = 6 := e50.trans (by decide)
    refine lv_bipush (v := 6) hx hb dL_law_27 (by decide) ?_
    refine lv_isub hx hb dL_law_29 ?_
    refine lv_topi (fun x51 e52 => ?_)
    obtain rfl : x51 = 0 := e52.trans (by decide)
    refine lv_icmp_gt (tgt := 586) hx hb dL_law_30 (by decide) (fun c53 => absurd c53 (by decide)) (fun c53 => ?_)
    refine lv_aload_n hx hb dL_law_33 rfl (lv_at hl 4 rfl) ?_
    refine lv_iload hx hb dL_law_34 (lv_at hl 0 rfl) ?_
    refine va_sld hx hb hXs hbl hbA hS (by unfold vp_in; decide) dL_law_36 ?_
    refine lv_topi (fun x54 e55 => ?_)
    refine lv_bipush (v := 15) hx hb dL_law_37 (by decide) ?_
    refine lv_iand hx hb dL_law_39 ?_
    refine lv_topi (fun x56 e57 => ?_)
    by_cases h58 : x56 = 0
    · subst h58
      refine lv_tableIn (tgt := 116) (off := 76) hx hb dL_law_40 (by decide) (by decide) (by decide) (by decide) ?_
      have hP := hP.sub (ws' := [(q1, .inr (8, [.ref q5, .int 0, .ref q6, .ref q7, .ref q8, .ref q9, .ref q10, .null])), (q5, .inl (G.2.1 1, 5000, .inl (fun _ => 0))), (q44, .inr (9, (mF u45))), ((u45 0), .inl (G.2.1 0, 5000, .inl (fun _ => 0)))]) [0, 1, 37, 38] rfl
      have hD := hD.sub (ws' := [(q1, .inr (8, [.ref q5, .int 0, .ref q6, .ref q7, .ref q8, .ref q9, .ref q10, .null])), (q5, .inl (G.2.1 1, 5000, .inl (fun _ => 0))), (q44, .inr (9, (mF u45))), ((u45 0), .inl (G.2.1 0, 5000, .inl (fun _ => 0)))]) [0, 1, 37, 38] (by decide) rfl
      have hP : va_P G.1 pCl [(q1, .inr (8, [.ref q5, .int 0, .ref q6, .ref q7, .ref q8, .ref q9, .ref q10, .null])), (q5, .inl (G.2.1 1, 5000, .inl (fun _ => 0))), (q44, .inr (9, (mF u45))), ((u45 0), .inl (G.2.1 0, 5000, .inl (fun _ => 0)))] H := hP
      have hD : va_D A [(q1, .inr (8, [.ref q5, .int 0, .ref q6, .ref q7, .ref q8, .ref q9, .ref q10, .null])), (q5, .inl (G.2.1 1, 5000, .inl (fun _ => 0))), (q44, .inr (9, (mF u45))), ((u45 0), .inl (G.2.1 0, 5000, .inl (fun _ => 0)))] := hD
      refine lv_aload_n hx hb dL_law_116 rfl (lv_at hl 3 rfl) ?_
      refine lv_aload_n hx hb dL_law_117 rfl (lv_at hl 4 rfl) ?_
      refine lv_iload hx hb dL_law_118 (lv_at hl 0 rfl) ?_
      refine lv_iconst (v := 1) hx hb dL_law_120 (by decide) ?_
      refine lv_iadd hx hb dL_law_121 ?_
      refine lv_topi (fun x59 e60 => ?_)
      obtain rfl : x59 = 1 := e60.trans (by decide)
      refine va_sld hx hb hXs hbl hbA hS (by unfold vp_in; decide) dL_law_122 ?_
      refine lv_topi (fun x61 e62 => ?_)
      refine lv_aload_n hx hb dL_law_123 rfl (lv_at hl 4 rfl) ?_
      refine lv_iload hx hb dL_law_124 (lv_at hl 0 rfl) ?_
      refine lv_iconst (v := 2) hx hb dL_law_126 (by decide) ?_
      refine lv_iadd hx hb dL_law_127 ?_
      refine lv_topi (fun x63 e64 => ?_)
      obtain rfl : x63 = 2 := e64.trans (by decide)
      refine va_sld hx hb hXs hbl hbA hS (by unfold vp_in; decide) dL_law_128 ?_
      refine lv_topi (fun x65 e66 => ?_)
      refine lv_aload_n hx hb dL_law_129 rfl (lv_at hl 4 rfl) ?_
      refine lv_iload hx hb dL_law_130 (lv_at hl 0 rfl) ?_
      refine lv_iconst (v := 3) hx hb dL_law_132 (by decide) ?_
      refine lv_iadd hx hb dL_law_133 ?_
      refine lv_topi (fun x67 e68 => ?_)
      obtain rfl : x67 = 3 := e68.trans (by decide)
      refine va_sld hx hb hXs hbl hbA hS (by unfold vp_in; decide) dL_law_134 ?_
      refine lv_topi (fun x69 e70 => ?_)
      refine lv_aload_n hx hb dL_law_135 rfl (lv_at hl 4 rfl) ?_
      refine lv_iload hx hb dL_law_136 (lv_at hl 0 rfl) ?_
      refine lv_iconst (v := 4) hx hb dL_law_138 (by decide) ?_
      refine lv_iadd hx hb dL_law_139 ?_
      refine lv_topi (fun x71 e72 => ?_)
      obtain rfl : x71 = 4 := e72.trans (by decide)
      refine va_sld hx hb hXs hbl hbA hS (by unfold vp_in; decide) dL_law_140 ?_
      refine lv_topi (fun x73 e74 => ?_)
      refine lv_aload_n hx hb dL_law_141 rfl (lv_at hl 4 rfl) ?_
      refine lv_iload hx hb dL_law_142 (lv_at hl 0 rfl) ?_
      refine lv_iconst (v := 5) hx hb dL_law_144 (by decide) ?_
      refine lv_iadd hx hb dL_law_145 ?_
      refine lv_topi (fun x75 e76 => ?_)
      obtain rfl : x75 = 5 := e76.trans (by decide)
      refine va_sld hx hb hXs hbl hbA hS (by unfold vp_in; decide) dL_law_146 ?_
      refine lv_topi (fun x77 e78 => ?_)
      refine pc_V (G := G) (As := [.int x61, .int x65, .int x69, .int x73, .int x77]) (rest := []) (wr := [(q44, .inr (9, (mF u45))), ((u45 0), .inl (G.2.1 0, 5000, .inl (fun _ => 0)))]) hx hb hml hown hq hE hX pX0_al hP hD hS hA hl.1 (c_feed l G q1 q5 q6 q7 q8 q9 q10 ((fun _ => 0)) x61 x65 x69 x73 x77) (gV pw_337 pw_372 pw_373 pw_370 pw_371) hV_X11_feed 0 8 rfl rfl rfl [0, 1] [2, 3] rfl rfl (by decide) (by decide) (by decide) rfl (Nat.le_of_ble_eq_true rfl) dL_law_147 ⟨Nat.le_of_ble_eq_true rfl, Nat.le_of_ble_eq_true rfl⟩ ⟨Nat.le_of_ble_eq_true rfl, Nat.le_of_ble_eq_true rfl⟩ (fun v81 u79 H locs hw80 hP hD hS => ?_)
      obtain rfl : v81 = some (.int 20) := hw80
      have hP : va_P G.1 pCl [(q44, .inr (9, (mF u45))), ((u45 0), .inl (G.2.1 0, 5000, .inl (fun _ => 0)))] H := hP
      have hD : va_D A [(q44, .inr (9, (mF u45))), ((u45 0), .inl (G.2.1 0, 5000, .inl (fun _ => 0)))] := hD
      refine W.widen (k := 117) (n := 703976) (Nat.le_of_ble_eq_true rfl) (Nat.le_of_ble_eq_true rfl) ?_
      refine W.eq (g2 := F0 m 150 ls [.int 20]) rfl ?_
      refine lv_aload_n hx hb dL_law_150 rfl (lv_at hl 2 rfl) ?_
      refine lv_aload_n hx hb dL_law_151 rfl (lv_at hl 4 rfl) ?_
      refine lv_iload hx hb dL_law_152 (lv_at hl 0 rfl) ?_
      refine lv_iconst (v := 1) hx hb dL_law_154 (by decide) ?_
      refine lv_iadd hx hb dL_law_155 ?_
      refine lv_topi (fun x82 e83 => ?_)
      obtain rfl : x82 = 1 := e83.trans (by decide)
      refine va_sld hx hb hXs hbl hbA hS (by unfold vp_in; decide) dL_law_156 ?_
      refine lv_topi (fun x84 e85 => ?_)
      obtain rfl : x61 = x84 := e62.trans e85.symm
      refine lv_aload_n hx hb dL_law_157 rfl (lv_at hl 4 rfl) ?_
      refine lv_iload hx hb dL_law_158 (lv_at hl 0 rfl) ?_
      refine lv_iconst (v := 2) hx hb dL_law_160 (by decide) ?_
      refine lv_iadd hx hb dL_law_161 ?_
      refine lv_topi (fun x86 e87 => ?_)
      obtain rfl : x86 = 2 := e87.trans (by decide)
      refine va_sld hx hb hXs hbl hbA hS (by unfold vp_in; decide) dL_law_162 ?_
      refine lv_topi (fun x88 e89 => ?_)
      obtain rfl : x65 = x88 := e66.trans e89.symm
      refine lv_aload_n hx hb dL_law_163 rfl (lv_at hl 4 rfl) ?_
      refine lv_iload hx hb dL_law_164 (lv_at hl 0 rfl) ?_
      refine lv_iconst (v := 3) hx hb dL_law_166 (by decide) ?_
      refine lv_iadd hx hb dL_law_167 ?_
      refine lv_topi (fun x90 e91 => ?_)
      obtain rfl : x90 = 3 := e91.trans (by decide)
      refine va_sld hx hb hXs hbl hbA hS (by unfold vp_in; decide) dL_law_168 ?_
      refine lv_topi (fun x92 e93 => ?_)
      obtain rfl : x69 = x92 := e70.trans e93.symm
      refine lv_aload_n hx hb dL_law_169 rfl (lv_at hl 4 rfl) ?_
      refine lv_iload hx hb dL_law_170 (lv_at hl 0 rfl) ?_
      refine lv_iconst (v := 4) hx hb dL_law_172 (by decide) ?_
      refine lv_iadd hx hb dL_law_173 ?_
      refine lv_topi (fun x94 e95 => ?_)
      obtain rfl : x94 = 4 := e95.trans (by decide)
      refine va_sld hx hb hXs hbl hbA hS (by unfold vp_in; decide) dL_law_174 ?_
      refine lv_topi (fun x96 e97 => ?_)
      obtain rfl : x73 = x96 := e74.trans e97.symm
      refine lv_aload_n hx hb dL_law_175 rfl (lv_at hl 4 rfl) ?_
      refine lv_iload hx hb dL_law_176 (lv_at hl 0 rfl) ?_
      refine lv_iconst (v := 5) hx hb dL_law_178 (by decide) ?_
      refine lv_iadd hx hb dL_law_179 ?_
      refine lv_topi (fun x98 e99 => ?_)
      obtain rfl : x98 = 5 := e99.trans (by decide)
      refine va_sld hx hb hXs hbl hbA hS (by unfold vp_in; decide) dL_law_180 ?_
      refine lv_topi (fun x100 e101 => ?_)
      obtain rfl : x77 = x100 := e78.trans e101.symm
      refine pc_V (G := G) (As := [.int x61, .int x65, .int x69, .int x73, .int x77]) (rest := [.int 20]) (wr := []) hx hb hml hown hq hE hX pX0_al hP hD hS hA hl.1 (m_feed l G q44 u45 x61 x65 x69 x73 x77) (gV pw_338 pw_524 pw_525 pw_517 pw_523) hV_X12_feed 0 9 rfl rfl rfl [0, 1] [] rfl rfl (by decide) (by decide) (by decide) rfl (Nat.le_of_ble_eq_true rfl) dL_law_181 ⟨Nat.le_of_ble_eq_true rfl, Nat.le_of_ble_eq_true rfl⟩ ⟨Nat.le_of_ble_eq_true rfl, Nat.le_of_ble_eq_true rfl⟩ (fun v104 u102 H locs hw103 hP hD hS => ?_)
      obtain rfl : v104 = some (.int 20) := hw103
      have hP : va_P G.1 pCl [] H := hP
      have hD : va_D A [] := hD
      refine W.widen (k := 117) (n := 703976) (Nat.le_of_ble_eq_true rfl) (Nat.le_of_ble_eq_true rfl) ?_
      refine W.eq (g2 := F0 m 184 ls [.int 20, .int 20]) rfl ?_
      refine lv_icmp_eq (tgt := 580) hx hb dL_law_184 (by decide) (fun c105 => ?_) (fun c105 => absurd c105 (by decide))
      refine lv_iinc (v := 6) (lv' := [(4, .int 6), (3, .ref q48), (2, .ref q44), (1, .ref q1), (0, .ref b)]) hx hb dL_law_580 hl (k := 0) rfl (by decide) (by decide) rfl (fun ls hl => ?_)
      refine lv_goto (tgt := 23) hx hb dL_law_583 (by decide) ?_
      refine lv_iload hx hb dL_law_23 (lv_at hl 0 rfl) ?_
      refine lv_aload_n hx hb dL_law_25 rfl (lv_at hl 4 rfl) ?_
      refine va_slen hx hb hXs hbl hbA hS dL_law_26 ?_
      refine lv_topi (fun x106 e107 => ?_)
      obtain rfl : x106 = 6 := e107.trans (by decide)
      refine lv_bipush (v := 6) hx hb dL_law_27 (by decide) ?_
      refine lv_isub hx hb dL_law_29 ?_
      refine lv_topi (fun x108 e109 => ?_)
      obtain rfl : x108 = 0 := e109.trans (by decide)
      refine lv_icmp_gt (tgt := 586) hx hb dL_law_30 (by decide) (fun c110 => ?_) (fun c110 => absurd c110 (by decide))
      refine lv_iconst (v := 1) hx hb dL_law_586 (by decide) ?_
      refine va_forget (fun q hq => by have h9 := hS.2.2 q hq; rw [hAe] at h9; exact h9) ?_
      refine W.widen (k := 600002) (n := 7302232) (Nat.le_of_ble_eq_true rfl) (Nat.le_of_ble_eq_true rfl) ?_
      exact lw_ret hx hb hr hlocks dL_law_587
    by_cases h111 : x56 = 1
    · subst h111
      refine lv_tableIn (tgt := 189) (off := 149) hx hb dL_law_40 (by decide) (by decide) (by decide) (by decide) ?_
      have hP := hP.sub (ws' := [(q1, .inr (8, [.ref q5, .int 0, .ref q6, .ref q7, .ref q8, .ref q9, .ref q10, .null])), (q44, .inr (9, (mF u45)))]) [0, 37] rfl
      have hD := hD.sub (ws' := [(q1, .inr (8, [.ref q5, .int 0, .ref q6, .ref q7, .ref q8, .ref q9, .ref q10, .null])), (q44, .inr (9, (mF u45)))]) [0, 37] (by decide) rfl
      have hP : va_P G.1 pCl [(q1, .inr (8, [.ref q5, .int 0, .ref q6, .ref q7, .ref q8, .ref q9, .ref q10, .null])), (q44, .inr (9, (mF u45)))] H := hP
      have hD : va_D A [(q1, .inr (8, [.ref q5, .int 0, .ref q6, .ref q7, .ref q8, .ref q9, .ref q10, .null])), (q44, .inr (9, (mF u45)))] := hD
      refine lv_aload_n hx hb dL_law_189 rfl (lv_at hl 3 rfl) ?_
      refine lv_aload_n hx hb dL_law_190 rfl (lv_at hl 4 rfl) ?_
      refine lv_iload hx hb dL_law_191 (lv_at hl 0 rfl) ?_
      refine lv_iconst (v := 1) hx hb dL_law_193 (by decide) ?_
      refine lv_iadd hx hb dL_law_194 ?_
      refine lv_topi (fun x112 e113 => ?_)
      obtain rfl : x112 = 1 := e113.trans (by decide)
      refine va_sld hx hb hXs hbl hbA hS (by unfold vp_in; decide) dL_law_195 ?_
      refine lv_topi (fun x114 e115 => ?_)
      refine pc_V (G := G) (As := [.int x114]) (rest := []) (wr := [(q44, .inr (9, (mF u45)))]) hx hb hml hown hq hE hX pX0_al hP hD hS hA hl.1 (c_back l G q1 q5 q6 q7 q8 q9 q10 x114) (gV pw_339 pw_378 pw_379 pw_370 pw_377) hV_X11_back 0 8 rfl rfl rfl [0] [1] rfl rfl (by decide) (by decide) (by decide) rfl (Nat.le_of_ble_eq_true rfl) dL_law_196 ⟨Nat.le_of_ble_eq_true rfl, Nat.le_of_ble_eq_true rfl⟩ ⟨Nat.le_of_ble_eq_true rfl, Nat.le_of_ble_eq_true rfl⟩ (fun v118 u116 H locs hw117 hP hD hS => ?_)
      obtain rfl : v118 = some (.int (if x114 = 0 then 0 else (-1))) := hw117
      have hP : va_P G.1 pCl [(q44, .inr (9, (mF u45)))] H := hP
      have hD : va_D A [(q44, .inr (9, (mF u45)))] := hD
      refine W.widen (k := 117) (n := 703976) (Nat.le_of_ble_eq_true rfl) (Nat.le_of_ble_eq_true rfl) ?_
      refine W.eq (g2 := F0 m 199 ls [.int (if x114 = 0 then 0 else (-1))]) rfl ?_
      refine lv_aload_n hx hb dL_law_199 rfl (lv_at hl 2 rfl) ?_
      refine lv_aload_n hx hb dL_law_200 rfl (lv_at hl 4 rfl) ?_
      refine lv_iload hx hb dL_law_201 (lv_at hl 0 rfl) ?_
      refine lv_iconst (v := 1) hx hb dL_law_203 (by decide) ?_
      refine lv_iadd hx hb dL_law_204 ?_
      refine lv_topi (fun x119 e120 => ?_)
      obtain rfl : x119 = 1 := e120.trans (by decide)
      refine va_sld hx hb hXs hbl hbA hS (by unfold vp_in; decide) dL_law_205 ?_
      refine lv_topi (fun x121 e122 => ?_)
      obtain rfl : x114 = x121 := e115.trans e122.symm
      refine pc_V (G := G) (As := [.int x114]) (rest := [.int (if x114 = 0 then 0 else (-1))]) (wr := []) hx hb hml hown hq hE hX pX0_al hP hD hS hA hl.1 (m_back l G q44 u45 x114) (gV pw_340 pw_527 pw_528 pw_517 pw_526) hV_X12_back 0 9 rfl rfl rfl [0] [] rfl rfl (by decide) (by decide) (by decide) rfl (Nat.le_of_ble_eq_true rfl) dL_law_206 ⟨Nat.le_of_ble_eq_true rfl, Nat.le_of_ble_eq_true rfl⟩ ⟨Nat.le_of_ble_eq_true rfl, Nat.le_of_ble_eq_true rfl⟩ (fun v125 u123 H locs hw124 hP hD hS => ?_)
      obtain rfl : v125 = some (.int (if x114 = 0 then 0 else (-1))) := hw124
      have hP : va_P G.1 pCl [] H := hP
      have hD : va_D A [] := hD
      refine W.widen (k := 117) (n := 703976) (Nat.le_of_ble_eq_true rfl) (Nat.le_of_ble_eq_true rfl) ?_
      refine W.eq (g2 := F0 m 209 ls [.int (if x114 = 0 then 0 else (-1)), .int (if x114 = 0 then 0 else (-1))]) rfl ?_
      refine lv_icmp_eq (tgt := 580) hx hb dL_law_209 (by decide) (fun c126 => ?_) (fun c126 => absurd rfl c126)
      refine lv_iinc (v := 6) (lv' := [(4, .int 6), (3, .ref q48), (2, .ref q44), (1, .ref q1), (0, .ref b)]) hx hb dL_law_580 hl (k := 0) rfl (by decide) (by decide) rfl (fun ls hl => ?_)
      refine lv_goto (tgt := 23) hx hb dL_law_583 (by decide) ?_
      refine lv_iload hx hb dL_law_23 (lv_at hl 0 rfl) ?_
      refine lv_aload_n hx hb dL_law_25 rfl (lv_at hl 4 rfl) ?_
      refine va_slen hx hb hXs hbl hbA hS dL_law_26 ?_
      refine lv_topi (fun x127 e128 => ?_)
      obtain rfl : x127 = 6 := e128.trans (by decide)
      refine lv_bipush (v := 6) hx hb dL_law_27 (by decide) ?_
      refine lv_isub hx hb dL_law_29 ?_
      refine lv_topi (fun x129 e130 => ?_)
      obtain rfl : x129 = 0 := e130.trans (by decide)
      refine lv_icmp_gt (tgt := 586) hx hb dL_law_30 (by decide) (fun c131 => ?_) (fun c131 => absurd c131 (by decide))
      refine lv_iconst (v := 1) hx hb dL_law_586 (by decide) ?_
      refine va_forget (fun q hq => by have h9 := hS.2.2 q hq; rw [hAe] at h9; exact h9) ?_
      refine W.widen (k := 600002) (n := 7302232) (Nat.le_of_ble_eq_true rfl) (Nat.le_of_ble_eq_true rfl) ?_
      exact lw_ret hx hb hr hlocks dL_law_587
    by_cases h132 : x56 = 2
    · subst h132
      refine lv_tableIn (tgt := 214) (off := 174) hx hb dL_law_40 (by decide) (by decide) (by decide) (by decide) ?_
      have hP := hP.sub (ws' := [(q1, .inr (8, [.ref q5, .int 0, .ref q6, .ref q7, .ref q8, .ref q9, .ref q10, .null])), (q5, .inl (G.2.1 1, 5000, .inl (fun _ => 0))), (q6, .inr (7, [.ref q11, .int 220, .int 0, .ref q12, .ref q13, .ref q14, .ref q15, .ref q16, .int 0, .ref q17, .ref q18, .ref q19, .ref q20, .int 0, .int 0])), (q11, .inl (G.2.1 1, 5220, .inl f21)), (q17, .inl (G.2.1 0, 2540, .inl (fun _ => 0))), (q18, .inl (G.2.1 0, 2540, .inl (fun _ => 0))), (q19, .inl (G.2.1 0, 2540, .inl (fun _ => 0))), (q20, .inl (G.2.1 0, 256, .inl (fun _ => 0))), (q8, .inr (5, [.ref q6, .null, .int 0, .int 0, .int 0])), (q10, .inr (4, [.ref q7, .ref q34, .ref q35, .ref q36, .ref q37, .int 0, .ref q38, .ref q39, .null, .null, .int 0, .int 0, .int 0, .int 0, .long 0, .int 0, .int 0, .int 0, .int 0])), (q39, .inl (G.2.1 0, 12, .inl (fun _ => 0))), (q44, .inr (9, (mF u45))), ((u45 6), .inl (G.2.1 0, 5100, .inl (fun _ => 0))), ((u45 7), .inl (G.2.1 0, 5100, .inl (fun _ => 0))), ((u45 8), .inl (G.2.1 1, 5100, .inl (fun _ => 0))), ((u45 2), .inl (G.2.1 0, 5001, .inl (fun _ => 0))), ((u45 3), .inl (G.2.1 0, 5001, .inl (fun _ => 0))), ((u45 4), .inl (G.2.1 0, 5001, .inl (fun _ => 0))), ((u45 5), .inl (G.2.1 0, 5001, .inl (fun _ => 0))), ((u45 24), .inl (G.2.1 0, 40, .inl (fun _ => 0))), ((u45 26), .inl (G.2.1 3, 40, .inl (fun _ => 0))), ((u45 27), .inl (G.2.1 0, 40, .inl (fun _ => 0))), ((u45 28), .inl (G.2.1 0, 40, .inl (fun _ => 0))), ((u45 29), .inl (G.2.1 0, 40, .inl (fun _ => 0))), ((u45 31), .inl (G.2.1 3, 1600, .inl (fun _ => 0)))]) [0, 1, 2, 3, 9, 10, 11, 12, 23, 28, 36, 37, 44, 45, 46, 40, 41, 42, 43, 62, 64, 65, 66, 67, 69] rfl
      have hD := hD.sub (ws' := [(q1, .inr (8, [.ref q5, .int 0, .ref q6, .ref q7, .ref q8, .ref q9, .ref q10, .null])), (q5, .inl (G.2.1 1, 5000, .inl (fun _ => 0))), (q6, .inr (7, [.ref q11, .int 220, .int 0, .ref q12, .ref q13, .ref q14, .ref q15, .ref q16, .int 0, .ref q17, .ref q18, .ref q19, .ref q20, .int 0, .int 0])), (q11, .inl (G.2.1 1, 5220, .inl f21)), (q17, .inl (G.2.1 0, 2540, .inl (fun _ => 0))), (q18, .inl (G.2.1 0, 2540, .inl (fun _ => 0))), (q19, .inl (G.2.1 0, 2540, .inl (fun _ => 0))), (q20, .inl (G.2.1 0, 256, .inl (fun _ => 0))), (q8, .inr (5, [.ref q6, .null, .int 0, .int 0, .int 0])), (q10, .inr (4, [.ref q7, .ref q34, .ref q35, .ref q36, .ref q37, .int 0, .ref q38, .ref q39, .null, .null, .int 0, .int 0, .int 0, .int 0, .long 0, .int 0, .int 0, .int 0, .int 0])), (q39, .inl (G.2.1 0, 12, .inl (fun _ => 0))), (q44, .inr (9, (mF u45))), ((u45 6), .inl (G.2.1 0, 5100, .inl (fun _ => 0))), ((u45 7), .inl (G.2.1 0, 5100, .inl (fun _ => 0))), ((u45 8), .inl (G.2.1 1, 5100, .inl (fun _ => 0))), ((u45 2), .inl (G.2.1 0, 5001, .inl (fun _ => 0))), ((u45 3), .inl (G.2.1 0, 5001, .inl (fun _ => 0))), ((u45 4), .inl (G.2.1 0, 5001, .inl (fun _ => 0))), ((u45 5), .inl (G.2.1 0, 5001, .inl (fun _ => 0))), ((u45 24), .inl (G.2.1 0, 40, .inl (fun _ => 0))), ((u45 26), .inl (G.2.1 3, 40, .inl (fun _ => 0))), ((u45 27), .inl (G.2.1 0, 40, .inl (fun _ => 0))), ((u45 28), .inl (G.2.1 0, 40, .inl (fun _ => 0))), ((u45 29), .inl (G.2.1 0, 40, .inl (fun _ => 0))), ((u45 31), .inl (G.2.1 3, 1600, .inl (fun _ => 0)))]) [0, 1, 2, 3, 9, 10, 11, 12, 23, 28, 36, 37, 44, 45, 46, 40, 41, 42, 43, 62, 64, 65, 66, 67, 69] (by decide) rfl
      have hP : va_P G.1 pCl [(q1, .inr (8, [.ref q5, .int 0, .ref q6, .ref q7, .ref q8, .ref q9, .ref q10, .null])), (q5, .inl (G.2.1 1, 5000, .inl (fun _ => 0))), (q6, .inr (7, [.ref q11, .int 220, .int 0, .ref q12, .ref q13, .ref q14, .ref q15, .ref q16, .int 0, .ref q17, .ref q18, .ref q19, .ref q20, .int 0, .int 0])), (q11, .inl (G.2.1 1, 5220, .inl f21)), (q17, .inl (G.2.1 0, 2540, .inl (fun _ => 0))), (q18, .inl (G.2.1 0, 2540, .inl (fun _ => 0))), (q19, .inl (G.2.1 0, 2540, .inl (fun _ => 0))), (q20, .inl (G.2.1 0, 256, .inl (fun _ => 0))), (q8, .inr (5, [.ref q6, .null, .int 0, .int 0, .int 0])), (q10, .inr (4, [.ref q7, .ref q34, .ref q35, .ref q36, .ref q37, .int 0, .ref q38, .ref q39, .null, .null, .int 0, .int 0, .int 0, .int 0, .long 0, .int 0, .int 0, .int 0, .int 0])), (q39, .inl (G.2.1 0, 12, .inl (fun _ => 0))), (q44, .inr (9, (mF u45))), ((u45 6), .inl (G.2.1 0, 5100, .inl (fun _ => 0))), ((u45 7), .inl (G.2.1 0, 5100, .inl (fun _ => 0))), ((u45 8), .inl (G.2.1 1, 5100, .inl (fun _ => 0))), ((u45 2), .inl (G.2.1 0, 5001, .inl (fun _ => 0))), ((u45 3), .inl (G.2.1 0, 5001, .inl (fun _ => 0))), ((u45 4), .inl (G.2.1 0, 5001, .inl (fun _ => 0))), ((u45 5), .inl (G.2.1 0, 5001, .inl (fun _ => 0))), ((u45 24), .inl (G.2.1 0, 40, .inl (fun _ => 0))), ((u45 26), .inl (G.2.1 3, 40, .inl (fun _ => 0))), ((u45 27), .inl (G.2.1 0, 40, .inl (fun _ => 0))), ((u45 28), .inl (G.2.1 0, 40, .inl (fun _ => 0))), ((u45 29), .inl (G.2.1 0, 40, .inl (fun _ => 0))), ((u45 31), .inl (G.2.1 3, 1600, .inl (fun _ => 0)))] H := hP
      have hD : va_D A [(q1, .inr (8, [.ref q5, .int 0, .ref q6, .ref q7, .ref q8, .ref q9, .ref q10, .null])), (q5, .inl (G.2.1 1, 5000, .inl (fun _ => 0))), (q6, .inr (7, [.ref q11, .int 220, .int 0, .ref q12, .ref q13, .ref q14, .ref q15, .ref q16, .int 0, .ref q17, .ref q18, .ref q19, .ref q20, .int 0, .int 0])), (q11, .inl (G.2.1 1, 5220, .inl f21)), (q17, .inl (G.2.1 0, 2540, .inl (fun _ => 0))), (q18, .inl (G.2.1 0, 2540, .inl (fun _ => 0))), (q19, .inl (G.2.1 0, 2540, .inl (fun _ => 0))), (q20, .inl (G.2.1 0, 256, .inl (fun _ => 0))), (q8, .inr (5, [.ref q6, .null, .int 0, .int 0, .int 0])), (q10, .inr (4, [.ref q7, .ref q34, .ref q35, .ref q36, .ref q37, .int 0, .ref q38, .ref q39, .null, .null, .int 0, .int 0, .int 0, .int 0, .long 0, .int 0, .int 0, .int 0, .int 0])), (q39, .inl (G.2.1 0, 12, .inl (fun _ => 0))), (q44, .inr (9, (mF u45))), ((u45 6), .inl (G.2.1 0, 5100, .inl (fun _ => 0))), ((u45 7), .inl (G.2.1 0, 5100, .inl (fun _ => 0))), ((u45 8), .inl (G.2.1 1, 5100, .inl (fun _ => 0))), ((u45 2), .inl (G.2.1 0, 5001, .inl (fun _ => 0))), ((u45 3), .inl (G.2.1 0, 5001, .inl (fun _ => 0))), ((u45 4), .inl (G.2.1 0, 5001, .inl (fun _ => 0))), ((u45 5), .inl (G.2.1 0, 5001, .inl (fun _ => 0))), ((u45 24), .inl (G.2.1 0, 40, .inl (fun _ => 0))), ((u45 26), .inl (G.2.1 3, 40, .inl (fun _ => 0))), ((u45 27), .inl (G.2.1 0, 40, .inl (fun _ => 0))), ((u45 28), .inl (G.2.1 0, 40, .inl (fun _ => 0))), ((u45 29), .inl (G.2.1 0, 40, .inl (fun _ => 0))), ((u45 31), .inl (G.2.1 3, 1600, .inl (fun _ => 0)))] := hD
      refine lv_aload_n hx hb dL_law_214 rfl (lv_at hl 3 rfl) ?_
      refine pc_VW (G := G) (As := []) (rest := []) (wr := [(q44, .inr (9, (mF u45))), ((u45 6), .inl (G.2.1 0, 5100, .inl (fun _ => 0))), ((u45 7), .inl (G.2.1 0, 5100, .inl (fun _ => 0))), ((u45 8), .inl (G.2.1 1, 5100, .inl (fun _ => 0))), ((u45 2), .inl (G.2.1 0, 5001, .inl (fun _ => 0))), ((u45 3), .inl (G.2.1 0, 5001, .inl (fun _ => 0))), ((u45 4), .inl (G.2.1 0, 5001, .inl (fun _ => 0))), ((u45 5), .inl (G.2.1 0, 5001, .inl (fun _ => 0))), ((u45 24), .inl (G.2.1 0, 40, .inl (fun _ => 0))), ((u45 26), .inl (G.2.1 3, 40, .inl (fun _ => 0))), ((u45 27), .inl (G.2.1 0, 40, .inl (fun _ => 0))), ((u45 28), .inl (G.2.1 0, 40, .inl (fun _ => 0))), ((u45 29), .inl (G.2.1 0, 40, .inl (fun _ => 0))), ((u45 31), .inl (G.2.1 3, 1600, .inl (fun _ => 0)))]) hx hb hml hown hq hE hX pX0_al hP hD hS hA hl.1 (c_read l G q1 q5 q6 q7 q8 q9 q10 q11 q12 q13 q14 q15 q16 q17 q18 q19 q20 q7 q34 q35 q36 q37 q38 q39 ((fun _ => 0)) f21 ((fun _ => 0)) ((fun _ => 0)) ((fun _ => 0)) ((fun _ => 0)) ((fun _ => 0)) hl0) (gV pw_341 pw_381 pw_382 pw_370 pw_380) hV_X11_read 0 8 rfl rfl rfl [0, 1, 2, 3, 4, 5, 6, 7, 8, 9, 10] [11, 12, 13, 14, 15, 16, 17, 18, 19, 20, 21, 22, 23, 24] rfl rfl (by decide) (by decide) (by decide) rfl (Nat.le_of_ble_eq_true rfl) dL_law_215 ⟨Nat.le_of_ble_eq_true rfl, Nat.le_of_ble_eq_true rfl⟩ ⟨Nat.le_of_ble_eq_true rfl, Nat.le_of_ble_eq_true rfl⟩ (fun v135 u133 H locs hw134 hP hD hS => ?_)
      obtain rfl : v135 = some (.int 9) := hw134
      have hP : va_P G.1 pCl [(q44, .inr (9, (mF u45))), ((u45 6), .inl (G.2.1 0, 5100, .inl (fun _ => 0))), ((u45 7), .inl (G.2.1 0, 5100, .inl (fun _ => 0))), ((u45 8), .inl (G.2.1 1, 5100, .inl (fun _ => 0))), ((u45 2), .inl (G.2.1 0, 5001, .inl (fun _ => 0))), ((u45 3), .inl (G.2.1 0, 5001, .inl (fun _ => 0))), ((u45 4), .inl (G.2.1 0, 5001, .inl (fun _ => 0))), ((u45 5), .inl (G.2.1 0, 5001, .inl (fun _ => 0))), ((u45 24), .inl (G.2.1 0, 40, .inl (fun _ => 0))), ((u45 26), .inl (G.2.1 3, 40, .inl (fun _ => 0))), ((u45 27), .inl (G.2.1 0, 40, .inl (fun _ => 0))), ((u45 28), .inl (G.2.1 0, 40, .inl (fun _ => 0))), ((u45 29), .inl (G.2.1 0, 40, .inl (fun _ => 0))), ((u45 31), .inl (G.2.1 3, 1600, .inl (fun _ => 0)))] H := hP
      have hD : va_D A [(q44, .inr (9, (mF u45))), ((u45 6), .inl (G.2.1 0, 5100, .inl (fun _ => 0))), ((u45 7), .inl (G.2.1 0, 5100, .inl (fun _ => 0))), ((u45 8), .inl (G.2.1 1, 5100, .inl (fun _ => 0))), ((u45 2), .inl (G.2.1 0, 5001, .inl (fun _ => 0))), ((u45 3), .inl (G.2.1 0, 5001, .inl (fun _ => 0))), ((u45 4), .inl (G.2.1 0, 5001, .inl (fun _ => 0))), ((u45 5), .inl (G.2.1 0, 5001, .inl (fun _ => 0))), ((u45 24), .inl (G.2.1 0, 40, .inl (fun _ => 0))), ((u45 26), .inl (G.2.1 3, 40, .inl (fun _ => 0))), ((u45 27), .inl (G.2.1 0, 40, .inl (fun _ => 0))), ((u45 28), .inl (G.2.1 0, 40, .inl (fun _ => 0))), ((u45 29), .inl (G.2.1 0, 40, .inl (fun _ => 0))), ((u45 31), .inl (G.2.1 3, 1600, .inl (fun _ => 0)))] := hD
      refine W.widen (k := 156) (n := 704202) (Nat.le_of_ble_eq_true rfl) (Nat.le_of_ble_eq_true rfl) ?_
      refine W.eq (g2 := F0 m 218 ls [.int 9]) rfl ?_
      refine lv_aload_n hx hb dL_law_218 rfl (lv_at hl 2 rfl) ?_
      refine pc_V (G := G) (As := []) (rest := [.int 9]) (wr := []) hx hb hml hown hq hE hX pX0_al hP hD hS hA hl.1 (m_read l G q44 u45 ((mF u45)) ((fun _ => 0)) ((fun _ => 0)) ((fun _ => 0)) ((fun _ => 0)) ((fun _ => 0)) ((fun _ => 0)) ((fun _ => 0)) ((fun _ => 0)) ((fun _ => 0)) ((fun _ => 0)) rfl rfl rfl rfl rfl rfl rfl rfl rfl rfl rfl rfl rfl rfl rfl) (gV pw_342 pw_560 pw_561 pw_517 pw_559) hV_X12_read 0 9 rfl rfl rfl [0, 1, 2, 3, 4, 5, 6, 7, 8, 9, 10, 11, 12, 13] [] rfl rfl (by decide) (by decide) (by decide) rfl (Nat.le_of_ble_eq_true rfl) dL_law_219 ⟨Nat.le_of_ble_eq_true rfl, Nat.le_of_ble_eq_true rfl⟩ ⟨Nat.le_of_ble_eq_true rfl, Nat.le_of_ble_eq_true rfl⟩ (fun v138 u136 H locs hw137 hP hD hS => ?_)
      obtain rfl : v138 = some (.int 9) := hw137
      have hP : va_P G.1 pCl [] H := hP
      have hD : va_D A [] := hD
      refine W.widen (k := 156) (n := 704202) (Nat.le_of_ble_eq_true rfl) (Nat.le_of_ble_eq_true rfl) ?_
      refine W.eq (g2 := F0 m 222 ls [.int 9, .int 9]) rfl ?_
      refine lv_icmp_eq (tgt := 580) hx hb dL_law_222 (by decide) (fun c139 => ?_) (fun c139 => absurd c139 (by decide))
      refine lv_iinc (v := 6) (lv' := [(4, .int 6), (3, .ref q48), (2, .ref q44), (1, .ref q1), (0, .ref b)]) hx hb dL_law_580 hl (k := 0) rfl (by decide) (by decide) rfl (fun ls hl => ?_)
      refine lv_goto (tgt := 23) hx hb dL_law_583 (by decide) ?_
      refine lv_iload hx hb dL_law_23 (lv_at hl 0 rfl) ?_
      refine lv_aload_n hx hb dL_law_25 rfl (lv_at hl 4 rfl) ?_
      refine va_slen hx hb hXs hbl hbA hS dL_law_26 ?_
      refine lv_topi (fun x140 e141 => ?_)
      obtain rfl : x140 = 6 := e141.trans (by decide)
      refine lv_bipush (v := 6) hx hb dL_law_27 (by decide) ?_
      refine lv_isub hx hb dL_law_29 ?_
      refine lv_topi (fun x142 e143 => ?_)
      obtain rfl : x142 = 0 := e143.trans (by decide)
      refine lv_icmp_gt (tgt := 586) hx hb dL_law_30 (by decide) (fun c144 => ?_) (fun c144 => absurd c144 (by decide))
      refine lv_iconst (v := 1) hx hb dL_law_586 (by decide) ?_
      refine va_forget (fun q hq => by have h9 := hS.2.2 q hq; rw [hAe] at h9; exact h9) ?_
      refine W.widen (k := 600002) (n := 7302232) (Nat.le_of_ble_eq_true rfl) (Nat.le_of_ble_eq_true rfl) ?_
      exact lw_ret hx hb hr hlocks dL_law_587
    by_cases h145 : x56 = 3
    · subst h145
      refine lv_tableIn (tgt := 227) (off := 187) hx hb dL_law_40 (by decide) (by decide) (by decide) (by decide) ?_
      have hP := hP.sub (ws' := [(q1, .inr (8, [.ref q5, .int 0, .ref q6, .ref q7, .ref q8, .ref q9, .ref q10, .null])), (q44, .inr (9, (mF u45)))]) [0, 37] rfl
      have hD := hD.sub (ws' := [(q1, .inr (8, [.ref q5, .int 0, .ref q6, .ref q7, .ref q8, .ref q9, .ref q10, .null])), (q44, .inr (9, (mF u45)))]) [0, 37] (by decide) rfl
      have hP : va_P G.1 pCl [(q1, .inr (8, [.ref q5, .int 0, .ref q6, .ref q7, .ref q8, .ref q9, .ref q10, .null])), (q44, .inr (9, (mF u45)))] H := hP
      have hD : va_D A [(q1, .inr (8, [.ref q5, .int 0, .ref q6, .ref q7, .ref q8, .ref q9, .ref q10, .null])), (q44, .inr (9, (mF u45)))] := hD
      refine lv_aload_n hx hb dL_law_227 rfl (lv_at hl 3 rfl) ?_
      refine lv_aload_n hx hb dL_law_228 rfl (lv_at hl 4 rfl) ?_
      refine lv_iload hx hb dL_law_229 (lv_at hl 0 rfl) ?_
      refine lv_iconst (v := 1) hx hb dL_law_231 (by decide) ?_
      refine lv_iadd hx hb dL_law_232 ?_
      refine lv_topi (fun x146 e147 => ?_)
      obtain rfl : x146 = 1 := e147.trans (by decide)
      refine va_sld hx hb hXs hbl hbA hS (by unfold vp_in; decide) dL_law_233 ?_
      refine lv_topi (fun x148 e149 => ?_)
      refine lv_aload_n hx hb dL_law_234 rfl (lv_at hl 4 rfl) ?_
      refine lv_iload hx hb dL_law_235 (lv_at hl 0 rfl) ?_
      refine lv_iconst (v := 2) hx hb dL_law_237 (by decide) ?_
      refine lv_iadd hx hb dL_law_238 ?_
      refine lv_topi (fun x150 e151 => ?_)
      obtain rfl : x150 = 2 := e151.trans (by decide)
      refine va_sld hx hb hXs hbl hbA hS (by unfold vp_in; decide) dL_law_239 ?_
      refine lv_topi (fun x152 e153 => ?_)
      refine pc_V (G := G) (As := [.int x148, .int x152]) (rest := []) (wr := [(q44, .inr (9, (mF u45)))]) hx hb hml hown hq hE hX pX0_al hP hD hS hA hl.1 (c_type l G q1 q5 q6 q7 q8 q9 q10 x148 x152) (gV pw_343 pw_387 pw_388 pw_370 pw_386) hV_X11_type 0 8 rfl rfl rfl [0] [1] rfl rfl (by decide) (by decide) (by decide) rfl (Nat.le_of_ble_eq_true rfl) dL_law_240 ⟨Nat.le_of_ble_eq_true rfl, Nat.le_of_ble_eq_true rfl⟩ ⟨Nat.le_of_ble_eq_true rfl, Nat.le_of_ble_eq_true rfl⟩ (fun v156 u154 H locs hw155 hP hD hS => ?_)
      obtain rfl : v156 = some (.int (-1)) := hw155
      have hP : va_P G.1 pCl [(q44, .inr (9, (mF u45)))] H := hP
      have hD : va_D A [(q44, .inr (9, (mF u45)))] := hD
      refine W.widen (k := 117) (n := 703976) (Nat.le_of_ble_eq_true rfl) (Nat.le_of_ble_eq_true rfl) ?_
      refine W.eq (g2 := F0 m 243 ls [.int (-1)]) rfl ?_
      refine lv_aload_n hx hb dL_law_243 rfl (lv_at hl 2 rfl) ?_
      refine lv_aload_n hx hb dL_law_244 rfl (lv_at hl 4 rfl) ?_
      refine lv_iload hx hb dL_law_245 (lv_at hl 0 rfl) ?_
      refine lv_iconst (v := 1) hx hb dL_law_247 (by decide) ?_
      refine lv_iadd hx hb dL_law_248 ?_
      refine lv_topi (fun x157 e158 => ?_)
      obtain rfl : x157 = 1 := e158.trans (by decide)
      refine va_sld hx hb hXs hbl hbA hS (by unfold vp_in; decide) dL_law_249 ?_
      refine lv_topi (fun x159 e160 => ?_)
      obtain rfl : x148 = x159 := e149.trans e160.symm
      refine lv_aload_n hx hb dL_law_250 rfl (lv_at hl 4 rfl) ?_
      refine lv_iload hx hb dL_law_251 (lv_at hl 0 rfl) ?_
      refine lv_iconst (v := 2) hx hb dL_law_253 (by decide) ?_
      refine lv_iadd hx hb dL_law_254 ?_
      refine lv_topi (fun x161 e162 => ?_)
      obtain rfl : x161 = 2 := e162.trans (by decide)
      refine va_sld hx hb hXs hbl hbA hS (by unfold vp_in; decide) dL_law_255 ?_
      refine lv_topi (fun x163 e164 => ?_)
      obtain rfl : x152 = x163 := e153.trans e164.symm
      refine pc_V (G := G) (As := [.int x148, .int x152]) (rest := [.int (-1)]) (wr := []) hx hb hml hown hq hE hX pX0_al hP hD hS hA hl.1 (m_type l G q44 u45 x148 x152) (gV pw_344 pw_563 pw_564 pw_517 pw_562) hV_X12_type 0 9 rfl rfl rfl [0] [] rfl rfl (by decide) (by decide) (by decide) rfl (Nat.le_of_ble_eq_true rfl) dL_law_256 ⟨Nat.le_of_ble_eq_true rfl, Nat.le_of_ble_eq_true rfl⟩ ⟨Nat.le_of_ble_eq_true rfl, Nat.le_of_ble_eq_true rfl⟩ (fun v167 u165 H locs hw166 hP hD hS => ?_)
      obtain rfl : v167 = some (.int (-1)) := hw166
      have hP : va_P G.1 pCl [] H := hP
      have hD : va_D A [] := hD
      refine W.widen (k := 117) (n := 703976) (Nat.le_of_ble_eq_true rfl) (Nat.le_of_ble_eq_true rfl) ?_
      refine W.eq (g2 := F0 m 259 ls [.int (-1), .int (-1)]) rfl ?_
      refine lv_icmp_eq (tgt := 580) hx hb dL_law_259 (by decide) (fun c168 => ?_) (fun c168 => absurd c168 (by decide))
      refine lv_iinc (v := 6) (lv' := [(4, .int 6), (3, .ref q48), (2, .ref q44), (1, .ref q1), (0, .ref b)]) hx hb dL_law_580 hl (k := 0) rfl (by decide) (by decide) rfl (fun ls hl => ?_)
      refine lv_goto (tgt := 23) hx hb dL_law_583 (by decide) ?_
      refine lv_iload hx hb dL_law_23 (lv_at hl 0 rfl) ?_
      refine lv_aload_n hx hb dL_law_25 rfl (lv_at hl 4 rfl) ?_
      refine va_slen hx hb hXs hbl hbA hS dL_law_26 ?_
      refine lv_topi (fun x169 e170 => ?_)
      obtain rfl : x169 = 6 := e170.trans (by decide)
      refine lv_bipush (v := 6) hx hb dL_law_27 (by decide) ?_
      refine lv_isub hx hb dL_law_29 ?_
      refine lv_topi (fun x171 e172 => ?_)
      obtain rfl : x171 = 0 := e172.trans (by decide)
      refine lv_icmp_gt (tgt := 586) hx hb dL_law_30 (by decide) (fun c173 => ?_) (fun c173 => absurd c173 (by decide))
      refine lv_iconst (v := 1) hx hb dL_law_586 (by decide) ?_
      refine va_forget (fun q hq => by have h9 := hS.2.2 q hq; rw [hAe] at h9; exact h9) ?_
      refine W.widen (k := 600002) (n := 7302232) (Nat.le_of_ble_eq_true rfl) (Nat.le_of_ble_eq_true rfl) ?_
      exact lw_ret hx hb hr hlocks dL_law_587
    by_cases h174 : x56 = 4
    · subst h174
      refine lv_tableIn (tgt := 264) (off := 224) hx hb dL_law_40 (by decide) (by decide) (by decide) (by decide) ?_
      have hP := hP.sub (ws' := [(q1, .inr (8, [.ref q5, .int 0, .ref q6, .ref q7, .ref q8, .ref q9, .ref q10, .null])), (q44, .inr (9, (mF u45)))]) [0, 37] rfl
      have hD := hD.sub (ws' := [(q1, .inr (8, [.ref q5, .int 0, .ref q6, .ref q7, .ref q8, .ref q9, .ref q10, .null])), (q44, .inr (9, (mF u45)))]) [0, 37] (by decide) rfl
      have hP : va_P G.1 pCl [(q1, .inr (8, [.ref q5, .int 0, .ref q6, .ref q7, .ref q8, .ref q9, .ref q10, .null])), (q44, .inr (9, (mF u45)))] H := hP
      have hD : va_D A [(q1, .inr (8, [.ref q5, .int 0, .ref q6, .ref q7, .ref q8, .ref q9, .ref q10, .null])), (q44, .inr (9, (mF u45)))] := hD
      refine lv_aload_n hx hb dL_law_264 rfl (lv_at hl 3 rfl) ?_
      refine lv_aload_n hx hb dL_law_265 rfl (lv_at hl 4 rfl) ?_
      refine lv_iload hx hb dL_law_266 (lv_at hl 0 rfl) ?_
      refine lv_iconst (v := 1) hx hb dL_law_268 (by decide) ?_
      refine lv_iadd hx hb dL_law_269 ?_
      refine lv_topi (fun x175 e176 => ?_)
      obtain rfl : x175 = 1 := e176.trans (by decide)
      refine va_sld hx hb hXs hbl hbA hS (by unfold vp_in; decide) dL_law_270 ?_
      refine lv_topi (fun x177 e178 => ?_)
      refine lv_aload_n hx hb dL_law_271 rfl (lv_at hl 4 rfl) ?_
      refine lv_iload hx hb dL_law_272 (lv_at hl 0 rfl) ?_
      refine lv_iconst (v := 2) hx hb dL_law_274 (by decide) ?_
      refine lv_iadd hx hb dL_law_275 ?_
      refine lv_topi (fun x179 e180 => ?_)
      obtain rfl : x179 = 2 := e180.trans (by decide)
      refine va_sld hx hb hXs hbl hbA hS (by unfold vp_in; decide) dL_law_276 ?_
      refine lv_topi (fun x181 e182 => ?_)
      refine pc_V (G := G) (As := [.int x177, .int x181]) (rest := []) (wr := [(q44, .inr (9, (mF u45)))]) hx hb hml hown hq hE hX pX0_al hP hD hS hA hl.1 (c_above l G q1 q5 q6 q7 q8 q9 q10 x177 x181) (gV pw_345 pw_390 pw_391 pw_370 pw_389) hV_X11_above 0 8 rfl rfl rfl [0] [1] rfl rfl (by decide) (by decide) (by decide) rfl (Nat.le_of_ble_eq_true rfl) dL_law_277 ⟨Nat.le_of_ble_eq_true rfl, Nat.le_of_ble_eq_true rfl⟩ ⟨Nat.le_of_ble_eq_true rfl, Nat.le_of_ble_eq_true rfl⟩ (fun v185 u183 H locs hw184 hP hD hS => ?_)
      obtain rfl : v185 = some (.int (-1)) := hw184
      have hP : va_P G.1 pCl [(q44, .inr (9, (mF u45)))] H := hP
      have hD : va_D A [(q44, .inr (9, (mF u45)))] := hD
      refine W.widen (k := 117) (n := 703976) (Nat.le_of_ble_eq_true rfl) (Nat.le_of_ble_eq_true rfl) ?_
      refine W.eq (g2 := F0 m 280 ls [.int (-1)]) rfl ?_
      refine lv_aload_n hx hb dL_law_280 rfl (lv_at hl 2 rfl) ?_
      refine lv_aload_n hx hb dL_law_281 rfl (lv_at hl 4 rfl) ?_
      refine lv_iload hx hb dL_law_282 (lv_at hl 0 rfl) ?_
      refine lv_iconst (v := 1) hx hb dL_law_284 (by decide) ?_
      refine lv_iadd hx hb dL_law_285 ?_
      refine lv_topi (fun x186 e187 => ?_)
      obtain rfl : x186 = 1 := e187.trans (by decide)
      refine va_sld hx hb hXs hbl hbA hS (by unfold vp_in; decide) dL_law_286 ?_
      refine lv_topi (fun x188 e189 => ?_)
      obtain rfl : x177 = x188 := e178.trans e189.symm
      refine lv_aload_n hx hb dL_law_287 rfl (lv_at hl 4 rfl) ?_
      refine lv_iload hx hb dL_law_288 (lv_at hl 0 rfl) ?_
      refine lv_iconst (v := 2) hx hb dL_law_290 (by decide) ?_
      refine lv_iadd hx hb dL_law_291 ?_
      refine lv_topi (fun x190 e191 => ?_)
      obtain rfl : x190 = 2 := e191.trans (by decide)
      refine va_sld hx hb hXs hbl hbA hS (by unfold vp_in; decide) dL_law_292 ?_
      refine lv_topi (fun x192 e193 => ?_)
      obtain rfl : x181 = x192 := e182.trans e193.symm
      refine pc_V (G := G) (As := [.int x177, .int x181]) (rest := [.int (-1)]) (wr := []) hx hb hml hown hq hE hX pX0_al hP hD hS hA hl.1 (m_above l G q44 u45 x177 x181) (gV pw_346 pw_566 pw_567 pw_517 pw_565) hV_X12_above 0 9 rfl rfl rfl [0] [] rfl rfl (by decide) (by decide) (by decide) rfl (Nat.le_of_ble_eq_true rfl) dL_law_293 ⟨Nat.le_of_ble_eq_true rfl, Nat.le_of_ble_eq_true rfl⟩ ⟨Nat.le_of_ble_eq_true rfl, Nat.le_of_ble_eq_true rfl⟩ (fun v196 u194 H locs hw195 hP hD hS => ?_)
      obtain rfl : v196 = some (.int (-1)) := hw195
      have hP : va_P G.1 pCl [] H := hP
      have hD : va_D A [] := hD
      refine W.widen (k := 117) (n := 703976) (Nat.le_of_ble_eq_true rfl) (Nat.le_of_ble_eq_true rfl) ?_
      refine W.eq (g2 := F0 m 296 ls [.int (-1), .int (-1)]) rfl ?_
      refine lv_icmp_eq (tgt := 580) hx hb dL_law_296 (by decide) (fun c197 => ?_) (fun c197 => absurd c197 (by decide))
      refine lv_iinc (v := 6) (lv' := [(4, .int 6), (3, .ref q48), (2, .ref q44), (1, .ref q1), (0, .ref b)]) hx hb dL_law_580 hl (k := 0) rfl (by decide) (by decide) rfl (fun ls hl => ?_)
      refine lv_goto (tgt := 23) hx hb dL_law_583 (by decide) ?_
      refine lv_iload hx hb dL_law_23 (lv_at hl 0 rfl) ?_
      refine lv_aload_n hx hb dL_law_25 rfl (lv_at hl 4 rfl) ?_
      refine va_slen hx hb hXs hbl hbA hS dL_law_26 ?_
      refine lv_topi (fun x198 e199 => ?_)
      obtain rfl : x198 = 6 := e199.trans (by decide)
      refine lv_bipush (v := 6) hx hb dL_law_27 (by decide) ?_
      refine lv_isub hx hb dL_law_29 ?_
      refine lv_topi (fun x200 e201 => ?_)
      obtain rfl : x200 = 0 := e201.trans (by decide)
      refine lv_icmp_gt (tgt := 586) hx hb dL_law_30 (by decide) (fun c202 => ?_) (fun c202 => absurd c202 (by decide))
      refine lv_iconst (v := 1) hx hb dL_law_586 (by decide) ?_
      refine va_forget (fun q hq => by have h9 := hS.2.2 q hq; rw [hAe] at h9; exact h9) ?_
      refine W.widen (k := 600002) (n := 7302232) (Nat.le_of_ble_eq_true rfl) (Nat.le_of_ble_eq_true rfl) ?_
      exact lw_ret hx hb hr hlocks dL_law_587
    by_cases h203 : x56 = 5
    · subst h203
      refine lv_tableIn (tgt := 301) (off := 261) hx hb dL_law_40 (by decide) (by decide) (by decide) (by decide) ?_
      have hP := hP.sub (ws' := [(q1, .inr (8, [.ref q5, .int 0, .ref q6, .ref q7, .ref q8, .ref q9, .ref q10, .null])), (q44, .inr (9, (mF u45)))]) [0, 37] rfl
      have hD := hD.sub (ws' := [(q1, .inr (8, [.ref q5, .int 0, .ref q6, .ref q7, .ref q8, .ref q9, .ref q10, .null])), (q44, .inr (9, (mF u45)))]) [0, 37] (by decide) rfl
      have hP : va_P G.1 pCl [(q1, .inr (8, [.ref q5, .int 0, .ref q6, .ref q7, .ref q8, .ref q9, .ref q10, .null])), (q44, .inr (9, (mF u45)))] H := hP
      have hD : va_D A [(q1, .inr (8, [.ref q5, .int 0, .ref q6, .ref q7, .ref q8, .ref q9, .ref q10, .null])), (q44, .inr (9, (mF u45)))] := hD
      refine lv_aload_n hx hb dL_law_301 rfl (lv_at hl 3 rfl) ?_
      refine lv_aload_n hx hb dL_law_302 rfl (lv_at hl 4 rfl) ?_
      refine lv_iload hx hb dL_law_303 (lv_at hl 0 rfl) ?_
      refine lv_iconst (v := 1) hx hb dL_law_305 (by decide) ?_
      refine lv_iadd hx hb dL_law_306 ?_
      refine lv_topi (fun x204 e205 => ?_)
      obtain rfl : x204 = 1 := e205.trans (by decide)
      refine va_sld hx hb hXs hbl hbA hS (by unfold vp_in; decide) dL_law_307 ?_
      refine lv_topi (fun x206 e207 => ?_)
      refine lv_aload_n hx hb dL_law_308 rfl (lv_at hl 4 rfl) ?_
      refine lv_iload hx hb dL_law_309 (lv_at hl 0 rfl) ?_
      refine lv_iconst (v := 2) hx hb dL_law_311 (by decide) ?_
      refine lv_iadd hx hb dL_law_312 ?_
      refine lv_topi (fun x208 e209 => ?_)
      obtain rfl : x208 = 2 := e209.trans (by decide)
      refine va_sld hx hb hXs hbl hbA hS (by unfold vp_in; decide) dL_law_313 ?_
      refine lv_topi (fun x210 e211 => ?_)
      refine pc_V (G := G) (As := [.int x206, .int x210]) (rest := []) (wr := [(q44, .inr (9, (mF u45)))]) hx hb hml hown hq hE hX pX0_al hP hD hS hA hl.1 (c_letter l G q1 q5 q6 q7 q8 q9 q10 x206 x210) (gV pw_347 pw_393 pw_394 pw_370 pw_392) hV_X11_letter 0 8 rfl rfl rfl [0] [1] rfl rfl (by decide) (by decide) (by decide) rfl (Nat.le_of_ble_eq_true rfl) dL_law_314 ⟨Nat.le_of_ble_eq_true rfl, Nat.le_of_ble_eq_true rfl⟩ ⟨Nat.le_of_ble_eq_true rfl, Nat.le_of_ble_eq_true rfl⟩ (fun v214 u212 H locs hw213 hP hD hS => ?_)
      obtain rfl : v214 = some (.int (-1)) := hw213
      have hP : va_P G.1 pCl [(q44, .inr (9, (mF u45)))] H := hP
      have hD : va_D A [(q44, .inr (9, (mF u45)))] := hD
      refine W.widen (k := 117) (n := 703976) (Nat.le_of_ble_eq_true rfl) (Nat.le_of_ble_eq_true rfl) ?_
      refine W.eq (g2 := F0 m 317 ls [.int (-1)]) rfl ?_
      refine lv_aload_n hx hb dL_law_317 rfl (lv_at hl 2 rfl) ?_
      refine lv_aload_n hx hb dL_law_318 rfl (lv_at hl 4 rfl) ?_
      refine lv_iload hx hb dL_law_319 (lv_at hl 0 rfl) ?_
      refine lv_iconst (v := 1) hx hb dL_law_321 (by decide) ?_
      refine lv_iadd hx hb dL_law_322 ?_
      refine lv_topi (fun x215 e216 => ?_)
      obtain rfl : x215 = 1 := e216.trans (by decide)
      refine va_sld hx hb hXs hbl hbA hS (by unfold vp_in; decide) dL_law_323 ?_
      refine lv_topi (fun x217 e218 => ?_)
      obtain rfl : x206 = x217 := e207.trans e218.symm
      refine lv_aload_n hx hb dL_law_324 rfl (lv_at hl 4 rfl) ?_
      refine lv_iload hx hb dL_law_325 (lv_at hl 0 rfl) ?_
      refine lv_iconst (v := 2) hx hb dL_law_327 (by decide) ?_
      refine lv_iadd hx hb dL_law_328 ?_
      refine lv_topi (fun x219 e220 => ?_)
      obtain rfl : x219 = 2 := e220.trans (by decide)
      refine va_sld hx hb hXs hbl hbA hS (by unfold vp_in; decide) dL_law_329 ?_
      refine lv_topi (fun x221 e222 => ?_)
      obtain rfl : x210 = x221 := e211.trans e222.symm
      refine pc_V (G := G) (As := [.int x206, .int x210]) (rest := [.int (-1)]) (wr := []) hx hb hml hown hq hE hX pX0_al hP hD hS hA hl.1 (m_letter l G q44 u45 x206 x210) (gV pw_348 pw_569 pw_570 pw_517 pw_568) hV_X12_letter 0 9 rfl rfl rfl [0] [] rfl rfl (by decide) (by decide) (by decide) rfl (Nat.le_of_ble_eq_true rfl) dL_law_330 ⟨Nat.le_of_ble_eq_true rfl, Nat.le_of_ble_eq_true rfl⟩ ⟨Nat.le_of_ble_eq_true rfl, Nat.le_of_ble_eq_true rfl⟩ (fun v225 u223 H locs hw224 hP hD hS => ?_)
      obtain rfl : v225 = some (.int (-1)) := hw224
      have hP : va_P G.1 pCl [] H := hP
      have hD : va_D A [] := hD
      refine W.widen (k := 117) (n := 703976) (Nat.le_of_ble_eq_true rfl) (Nat.le_of_ble_eq_true rfl) ?_
      refine W.eq (g2 := F0 m 333 ls [.int (-1), .int (-1)]) rfl ?_
      refine lv_icmp_eq (tgt := 580) hx hb dL_law_333 (by decide) (fun c226 => ?_) (fun c226 => absurd c226 (by decide))
      refine lv_iinc (v := 6) (lv' := [(4, .int 6), (3, .ref q48), (2, .ref q44), (1, .ref q1), (0, .ref b)]) hx hb dL_law_580 hl (k := 0) rfl (by decide) (by decide) rfl (fun ls hl => ?_)
      refine lv_goto (tgt := 23) hx hb dL_law_583 (by decide) ?_
      refine lv_iload hx hb dL_law_23 (lv_at hl 0 rfl) ?_
      refine lv_aload_n hx hb dL_law_25 rfl (lv_at hl 4 rfl) ?_
      refine va_slen hx hb hXs hbl hbA hS dL_law_26 ?_
      refine lv_topi (fun x227 e228 => ?_)
      obtain rfl : x227 = 6 := e228.trans (by decide)
      refine lv_bipush (v := 6) hx hb dL_law_27 (by decide) ?_
      refine lv_isub hx hb dL_law_29 ?_
      refine lv_topi (fun x229 e230 => ?_)
      obtain rfl : x229 = 0 := e230.trans (by decide)
      refine lv_icmp_gt (tgt := 586) hx hb dL_law_30 (by decide) (fun c231 => ?_) (fun c231 => absurd c231 (by decide))
      refine lv_iconst (v := 1) hx hb dL_law_586 (by decide) ?_
      refine va_forget (fun q hq => by have h9 := hS.2.2 q hq; rw [hAe] at h9; exact h9) ?_
      refine W.widen (k := 600002) (n := 7302232) (Nat.le_of_ble_eq_true rfl) (Nat.le_of_ble_eq_true rfl) ?_
      exact lw_ret hx hb hr hlocks dL_law_587
    by_cases h232 : x56 = 6
    · subst h232
      refine lv_tableIn (tgt := 338) (off := 298) hx hb dL_law_40 (by decide) (by decide) (by decide) (by decide) ?_
      have hP := hP.sub (ws' := [(q1, .inr (8, [.ref q5, .int 0, .ref q6, .ref q7, .ref q8, .ref q9, .ref q10, .null])), (q44, .inr (9, (mF u45)))]) [0, 37] rfl
      have hD := hD.sub (ws' := [(q1, .inr (8, [.ref q5, .int 0, .ref q6, .ref q7, .ref q8, .ref q9, .ref q10, .null])), (q44, .inr (9, (mF u45)))]) [0, 37] (by decide) rfl
      have hP : va_P G.1 pCl [(q1, .inr (8, [.ref q5, .int 0, .ref q6, .ref q7, .ref q8, .ref q9, .ref q10, .null])), (q44, .inr (9, (mF u45)))] H := hP
      have hD : va_D A [(q1, .inr (8, [.ref q5, .int 0, .ref q6, .ref q7, .ref q8, .ref q9, .ref q10, .null])), (q44, .inr (9, (mF u45)))] := hD
      refine lv_aload_n hx hb dL_law_338 rfl (lv_at hl 3 rfl) ?_
      refine lv_aload_n hx hb dL_law_339 rfl (lv_at hl 4 rfl) ?_
      refine lv_iload hx hb dL_law_340 (lv_at hl 0 rfl) ?_
      refine lv_iconst (v := 1) hx hb dL_law_342 (by decide) ?_
      refine lv_iadd hx hb dL_law_343 ?_
      refine lv_topi (fun x233 e234 => ?_)
      obtain rfl : x233 = 1 := e234.trans (by decide)
      refine va_sld hx hb hXs hbl hbA hS (by unfold vp_in; decide) dL_law_344 ?_
      refine lv_topi (fun x235 e236 => ?_)
      refine lv_aload_n hx hb dL_law_345 rfl (lv_at hl 4 rfl) ?_
      refine lv_iload hx hb dL_law_346 (lv_at hl 0 rfl) ?_
      refine lv_iconst (v := 2) hx hb dL_law_348 (by decide) ?_
      refine lv_iadd hx hb dL_law_349 ?_
      refine lv_topi (fun x237 e238 => ?_)
      obtain rfl : x237 = 2 := e238.trans (by decide)
      refine va_sld hx hb hXs hbl hbA hS (by unfold vp_in; decide) dL_law_350 ?_
      refine lv_topi (fun x239 e240 => ?_)
      refine pc_V (G := G) (As := [.int x235, .int x239]) (rest := []) (wr := [(q44, .inr (9, (mF u45)))]) hx hb hml hown hq hE hX pX0_al hP hD hS hA hl.1 (c_called l G q1 q5 q6 q7 q8 q9 q10 x235 x239) (gV pw_349 pw_396 pw_397 pw_370 pw_395) hV_X11_called 0 8 rfl rfl rfl [0] [1] rfl rfl (by decide) (by decide) (by decide) rfl (Nat.le_of_ble_eq_true rfl) dL_law_351 ⟨Nat.le_of_ble_eq_true rfl, Nat.le_of_ble_eq_true rfl⟩ ⟨Nat.le_of_ble_eq_true rfl, Nat.le_of_ble_eq_true rfl⟩ (fun v243 u241 H locs hw242 hP hD hS => ?_)
      obtain rfl : v243 = some (.int (-1)) := hw242
      have hP : va_P G.1 pCl [(q44, .inr (9, (mF u45)))] H := hP
      have hD : va_D A [(q44, .inr (9, (mF u45)))] := hD
      refine W.widen (k := 117) (n := 703976) (Nat.le_of_ble_eq_true rfl) (Nat.le_of_ble_eq_true rfl) ?_
      refine W.eq (g2 := F0 m 354 ls [.int (-1)]) rfl ?_
      refine lv_aload_n hx hb dL_law_354 rfl (lv_at hl 2 rfl) ?_
      refine lv_aload_n hx hb dL_law_355 rfl (lv_at hl 4 rfl) ?_
      refine lv_iload hx hb dL_law_356 (lv_at hl 0 rfl) ?_
      refine lv_iconst (v := 1) hx hb dL_law_358 (by decide) ?_
      refine lv_iadd hx hb dL_law_359 ?_
      refine lv_topi (fun x244 e245 => ?_)
      obtain rfl : x244 = 1 := e245.trans (by decide)
      refine va_sld hx hb hXs hbl hbA hS (by unfold vp_in; decide) dL_law_360 ?_
      refine lv_topi (fun x246 e247 => ?_)
      obtain rfl : x235 = x246 := e236.trans e247.symm
      refine lv_aload_n hx hb dL_law_361 rfl (lv_at hl 4 rfl) ?_
      refine lv_iload hx hb dL_law_362 (lv_at hl 0 rfl) ?_
      refine lv_iconst (v := 2) hx hb dL_law_364 (by decide) ?_
      refine lv_iadd hx hb dL_law_365 ?_
      refine lv_topi (fun x248 e249 => ?_)
      obtain rfl : x248 = 2 := e249.trans (by decide)
      refine va_sld hx hb hXs hbl hbA hS (by unfold vp_in; decide) dL_law_366 ?_
      refine lv_topi (fun x250 e251 => ?_)
      obtain rfl : x239 = x250 := e240.trans e251.symm
      refine pc_V (G := G) (As := [.int x235, .int x239]) (rest := [.int (-1)]) (wr := []) hx hb hml hown hq hE hX pX0_al hP hD hS hA hl.1 (m_called l G q44 u45 x235 x239) (gV pw_350 pw_572 pw_573 pw_517 pw_571) hV_X12_called 0 9 rfl rfl rfl [0] [] rfl rfl (by decide) (by decide) (by decide) rfl (Nat.le_of_ble_eq_true rfl) dL_law_367 ⟨Nat.le_of_ble_eq_true rfl, Nat.le_of_ble_eq_true rfl⟩ ⟨Nat.le_of_ble_eq_true rfl, Nat.le_of_ble_eq_true rfl⟩ (fun v254 u252 H locs hw253 hP hD hS => ?_)
      obtain rfl : v254 = some (.int (-1)) := hw253
      have hP : va_P G.1 pCl [] H := hP
      have hD : va_D A [] := hD
      refine W.widen (k := 117) (n := 703976) (Nat.le_of_ble_eq_true rfl) (Nat.le_of_ble_eq_true rfl) ?_
      refine W.eq (g2 := F0 m 370 ls [.int (-1), .int (-1)]) rfl ?_
      refine lv_icmp_eq (tgt := 580) hx hb dL_law_370 (by decide) (fun c255 => ?_) (fun c255 => absurd c255 (by decide))
      refine lv_iinc (v := 6) (lv' := [(4, .int 6), (3, .ref q48), (2, .ref q44), (1, .ref q1), (0, .ref b)]) hx hb dL_law_580 hl (k := 0) rfl (by decide) (by decide) rfl (fun ls hl => ?_)
      refine lv_goto (tgt := 23) hx hb dL_law_583 (by decide) ?_
      refine lv_iload hx hb dL_law_23 (lv_at hl 0 rfl) ?_
      refine lv_aload_n hx hb dL_law_25 rfl (lv_at hl 4 rfl) ?_
      refine va_slen hx hb hXs hbl hbA hS dL_law_26 ?_
      refine lv_topi (fun x256 e257 => ?_)
      obtain rfl : x256 = 6 := e257.trans (by decide)
      refine lv_bipush (v := 6) hx hb dL_law_27 (by decide) ?_
      refine lv_isub hx hb dL_law_29 ?_
      refine lv_topi (fun x258 e259 => ?_)
      obtain rfl : x258 = 0 := e259.trans (by decide)
      refine lv_icmp_gt (tgt := 586) hx hb dL_law_30 (by decide) (fun c260 => ?_) (fun c260 => absurd c260 (by decide))
      refine lv_iconst (v := 1) hx hb dL_law_586 (by decide) ?_
      refine va_forget (fun q hq => by have h9 := hS.2.2 q hq; rw [hAe] at h9; exact h9) ?_
      refine W.widen (k := 600002) (n := 7302232) (Nat.le_of_ble_eq_true rfl) (Nat.le_of_ble_eq_true rfl) ?_
      exact lw_ret hx hb hr hlocks dL_law_587
    by_cases h261 : x56 = 7
    · subst h261
      refine lv_tableIn (tgt := 375) (off := 335) hx hb dL_law_40 (by decide) (by decide) (by decide) (by decide) ?_
      have hP := hP.sub (ws' := [(q1, .inr (8, [.ref q5, .int 0, .ref q6, .ref q7, .ref q8, .ref q9, .ref q10, .null])), (q10, .inr (4, [.ref q7, .ref q34, .ref q35, .ref q36, .ref q37, .int 0, .ref q38, .ref q39, .null, .null, .int 0, .int 0, .int 0, .int 0, .long 0, .int 0, .int 0, .int 0, .int 0])), (q37, .inl (G.2.1 0, 200, .inl (fun _ => 0))), (q44, .inr (9, (mF u45))), ((u45 50), .inl (G.2.1 0, 200, .inl (fun _ => 0)))]) [0, 28, 34, 37, 88] rfl
      have hD := hD.sub (ws' := [(q1, .inr (8, [.ref q5, .int 0, .ref q6, .ref q7, .ref q8, .ref q9, .ref q10, .null])), (q10, .inr (4, [.ref q7, .ref q34, .ref q35, .ref q36, .ref q37, .int 0, .ref q38, .ref q39, .null, .null, .int 0, .int 0, .int 0, .int 0, .long 0, .int 0, .int 0, .int 0, .int 0])), (q37, .inl (G.2.1 0, 200, .inl (fun _ => 0))), (q44, .inr (9, (mF u45))), ((u45 50), .inl (G.2.1 0, 200, .inl (fun _ => 0)))]) [0, 28, 34, 37, 88] (by decide) rfl
      have hP : va_P G.1 pCl [(q1, .inr (8, [.ref q5, .int 0, .ref q6, .ref q7, .ref q8, .ref q9, .ref q10, .null])), (q10, .inr (4, [.ref q7, .ref q34, .ref q35, .ref q36, .ref q37, .int 0, .ref q38, .ref q39, .null, .null, .int 0, .int 0, .int 0, .int 0, .long 0, .int 0, .int 0, .int 0, .int 0])), (q37, .inl (G.2.1 0, 200, .inl (fun _ => 0))), (q44, .inr (9, (mF u45))), ((u45 50), .inl (G.2.1 0, 200, .inl (fun _ => 0)))] H := hP
      have hD : va_D A [(q1, .inr (8, [.ref q5, .int 0, .ref q6, .ref q7, .ref q8, .ref q9, .ref q10, .null])), (q10, .inr (4, [.ref q7, .ref q34, .ref q35, .ref q36, .ref q37, .int 0, .ref q38, .ref q39, .null, .null, .int 0, .int 0, .int 0, .int 0, .long 0, .int 0, .int 0, .int 0, .int 0])), (q37, .inl (G.2.1 0, 200, .inl (fun _ => 0))), (q44, .inr (9, (mF u45))), ((u45 50), .inl (G.2.1 0, 200, .inl (fun _ => 0)))] := hD
      refine lv_aload_n hx hb dL_law_375 rfl (lv_at hl 3 rfl) ?_
      refine lv_aload_n hx hb dL_law_376 rfl (lv_at hl 4 rfl) ?_
      refine lv_iload hx hb dL_law_377 (lv_at hl 0 rfl) ?_
      refine lv_iconst (v := 1) hx hb dL_law_379 (by decide) ?_
      refine lv_iadd hx hb dL_law_380 ?_
      refine lv_topi (fun x262 e263 => ?_)
      obtain rfl : x262 = 1 := e263.trans (by decide)
      refine va_sld hx hb hXs hbl hbA hS (by unfold vp_in; decide) dL_law_381 ?_
      refine lv_topi (fun x264 e265 => ?_)
      refine pc_V (G := G) (As := [.int x264]) (rest := []) (wr := [(q44, .inr (9, (mF u45))), ((u45 50), .inl (G.2.1 0, 200, .inl (fun _ => 0)))]) hx hb hml hown hq hE hX pX0_al hP hD hS hA hl.1 (c_input l G q1 q5 q6 q7 q8 q9 q10 q7 q34 q35 q36 q37 q38 q39 ((fun _ => 0)) x264) (gV pw_351 pw_399 pw_400 pw_370 pw_398) hV_X11_input 0 8 rfl rfl rfl [0, 1, 2] [3, 4] rfl rfl (by decide) (by decide) (by decide) rfl (Nat.le_of_ble_eq_true rfl) dL_law_382 ⟨Nat.le_of_ble_eq_true rfl, Nat.le_of_ble_eq_true rfl⟩ ⟨Nat.le_of_ble_eq_true rfl, Nat.le_of_ble_eq_true rfl⟩ (fun v268 u266 H locs hw267 hP hD hS => ?_)
      obtain rfl : v268 = some (.int 1) := hw267
      have hP : va_P G.1 pCl [(q44, .inr (9, (mF u45))), ((u45 50), .inl (G.2.1 0, 200, .inl (fun _ => 0)))] H := hP
      have hD : va_D A [(q44, .inr (9, (mF u45))), ((u45 50), .inl (G.2.1 0, 200, .inl (fun _ => 0)))] := hD
      refine W.widen (k := 117) (n := 703976) (Nat.le_of_ble_eq_true rfl) (Nat.le_of_ble_eq_true rfl) ?_
      refine W.eq (g2 := F0 m 385 ls [.int 1]) rfl ?_
      refine lv_aload_n hx hb dL_law_385 rfl (lv_at hl 2 rfl) ?_
      refine lv_aload_n hx hb dL_law_386 rfl (lv_at hl 4 rfl) ?_
      refine lv_iload hx hb dL_law_387 (lv_at hl 0 rfl) ?_
      refine lv_iconst (v := 1) hx hb dL_law_389 (by decide) ?_
      refine lv_iadd hx hb dL_law_390 ?_
      refine lv_topi (fun x269 e270 => ?_)
      obtain rfl : x269 = 1 := e270.trans (by decide)
      refine va_sld hx hb hXs hbl hbA hS (by unfold vp_in; decide) dL_law_391 ?_
      refine lv_topi (fun x271 e272 => ?_)
      obtain rfl : x264 = x271 := e265.trans e272.symm
      refine pc_V (G := G) (As := [.int x264]) (rest := [.int 1]) (wr := []) hx hb hml hown hq hE hX pX0_al hP hD hS hA hl.1 (m_input l G q44 u45 x264) (gV pw_352 pw_575 pw_576 pw_517 pw_574) hV_X12_input 0 9 rfl rfl rfl [0, 1] [] rfl rfl (by decide) (by decide) (by decide) rfl (Nat.le_of_ble_eq_true rfl) dL_law_392 ⟨Nat.le_of_ble_eq_true rfl, Nat.le_of_ble_eq_true rfl⟩ ⟨Nat.le_of_ble_eq_true rfl, Nat.le_of_ble_eq_true rfl⟩ (fun v275 u273 H locs hw274 hP hD hS => ?_)
      obtain rfl : v275 = some (.int 1) := hw274
      have hP : va_P G.1 pCl [] H := hP
      have hD : va_D A [] := hD
      refine W.widen (k := 117) (n := 703976) (Nat.le_of_ble_eq_true rfl) (Nat.le_of_ble_eq_true rfl) ?_
      refine W.eq (g2 := F0 m 395 ls [.int 1, .int 1]) rfl ?_
      refine lv_icmp_eq (tgt := 580) hx hb dL_law_395 (by decide) (fun c276 => ?_) (fun c276 => absurd c276 (by decide))
      refine lv_iinc (v := 6) (lv' := [(4, .int 6), (3, .ref q48), (2, .ref q44), (1, .ref q1), (0, .ref b)]) hx hb dL_law_580 hl (k := 0) rfl (by decide) (by decide) rfl (fun ls hl => ?_)
      refine lv_goto (tgt := 23) hx hb dL_law_583 (by decide) ?_
      refine lv_iload hx hb dL_law_23 (lv_at hl 0 rfl) ?_
      refine lv_aload_n hx hb dL_law_25 rfl (lv_at hl 4 rfl) ?_
      refine va_slen hx hb hXs hbl hbA hS dL_law_26 ?_
      refine lv_topi (fun x277 e278 => ?_)
      obtain rfl : x277 = 6 := e278.trans (by decide)
      refine lv_bipush (v := 6) hx hb dL_law_27 (by decide) ?_
      refine lv_isub hx hb dL_law_29 ?_
      refine lv_topi (fun x279 e280 => ?_)
      obtain rfl : x279 = 0 := e280.trans (by decide)
      refine lv_icmp_gt (tgt := 586) hx hb dL_law_30 (by decide) (fun c281 => ?_) (fun c281 => absurd c281 (by decide))
      refine lv_iconst (v := 1) hx hb dL_law_586 (by decide) ?_
      refine va_forget (fun q hq => by have h9 := hS.2.2 q hq; rw [hAe] at h9; exact h9) ?_
      refine W.widen (k := 600002) (n := 7302232) (Nat.le_of_ble_eq_true rfl) (Nat.le_of_ble_eq_true rfl) ?_
      exact lw_ret hx hb hr hlocks dL_law_587
    by_cases h282 : x56 = 8
    · subst h282
      refine lv_tableIn (tgt := 400) (off := 360) hx hb dL_law_40 (by decide) (by decide) (by decide) (by decide) ?_
      have hP := hP.sub (ws' := [(q1, .inr (8, [.ref q5, .int 0, .ref q6, .ref q7, .ref q8, .ref q9, .ref q10, .null])), (q10, .inr (4, [.ref q7, .ref q34, .ref q35, .ref q36, .ref q37, .int 0, .ref q38, .ref q39, .null, .null, .int 0, .int 0, .int 0, .int 0, .long 0, .int 0, .int 0, .int 0, .int 0])), (q44, .inr (9, (mF u45)))]) [0, 28, 37] rfl
      have hD := hD.sub (ws' := [(q1, .inr (8, [.ref q5, .int 0, .ref q6, .ref q7, .ref q8, .ref q9, .ref q10, .null])), (q10, .inr (4, [.ref q7, .ref q34, .ref q35, .ref q36, .ref q37, .int 0, .ref q38, .ref q39, .null, .null, .int 0, .int 0, .int 0, .int 0, .long 0, .int 0, .int 0, .int 0, .int 0])), (q44, .inr (9, (mF u45)))]) [0, 28, 37] (by decide) rfl
      have hP : va_P G.1 pCl [(q1, .inr (8, [.ref q5, .int 0, .ref q6, .ref q7, .ref q8, .ref q9, .ref q10, .null])), (q10, .inr (4, [.ref q7, .ref q34, .ref q35, .ref q36, .ref q37, .int 0, .ref q38, .ref q39, .null, .null, .int 0, .int 0, .int 0, .int 0, .long 0, .int 0, .int 0, .int 0, .int 0])), (q44, .inr (9, (mF u45)))] H := hP
      have hD : va_D A [(q1, .inr (8, [.ref q5, .int 0, .ref q6, .ref q7, .ref q8, .ref q9, .ref q10, .null])), (q10, .inr (4, [.ref q7, .ref q34, .ref q35, .ref q36, .ref q37, .int 0, .ref q38, .ref q39, .null, .null, .int 0, .int 0, .int 0, .int 0, .long 0, .int 0, .int 0, .int 0, .int 0])), (q44, .inr (9, (mF u45)))] := hD
      refine lv_aload_n hx hb dL_law_400 rfl (lv_at hl 3 rfl) ?_
      refine pc_V (G := G) (As := []) (rest := []) (wr := [(q44, .inr (9, (mF u45)))]) hx hb hml hown hq hE hX pX0_al hP hD hS hA hl.1 (c_forget l G q1 q5 q6 q7 q8 q9 q10 q7 q34 q35 q36 q37 q38 q39) (gV pw_353 pw_402 pw_403 pw_370 pw_401) hV_X11_forget 0 8 rfl rfl rfl [0, 1] [2] rfl rfl (by decide) (by decide) (by decide) rfl (Nat.le_of_ble_eq_true rfl) dL_law_401 ⟨Nat.le_of_ble_eq_true rfl, Nat.le_of_ble_eq_true rfl⟩ ⟨Nat.le_of_ble_eq_true rfl, Nat.le_of_ble_eq_true rfl⟩ (fun v285 u283 H locs hw284 hP hD hS => ?_)
      obtain rfl : v285 = none := hw284
      have hP : va_P G.1 pCl [(q44, .inr (9, (mF u45)))] H := hP
      have hD : va_D A [(q44, .inr (9, (mF u45)))] := hD
      refine W.widen (k := 117) (n := 703976) (Nat.le_of_ble_eq_true rfl) (Nat.le_of_ble_eq_true rfl) ?_
      refine W.eq (g2 := F0 m 404 ls []) rfl ?_
      refine lv_aload_n hx hb dL_law_404 rfl (lv_at hl 2 rfl) ?_
      refine pc_V (G := G) (As := []) (rest := []) (wr := []) hx hb hml hown hq hE hX pX0_al hP hD hS hA hl.1 (m_forget l G q44 u45) (gV pw_354 pw_578 pw_579 pw_517 pw_577) hV_X12_forget 0 9 rfl rfl rfl [0] [] rfl rfl (by decide) (by decide) (by decide) rfl (Nat.le_of_ble_eq_true rfl) dL_law_405 ⟨Nat.le_of_ble_eq_true rfl, Nat.le_of_ble_eq_true rfl⟩ ⟨Nat.le_of_ble_eq_true rfl, Nat.le_of_ble_eq_true rfl⟩ (fun v288 u286 H locs hw287 hP hD hS => ?_)
      obtain rfl : v288 = none := hw287
      have hP : va_P G.1 pCl [] H := hP
      have hD : va_D A [] := hD
      refine W.widen (k := 117) (n := 703976) (Nat.le_of_ble_eq_true rfl) (Nat.le_of_ble_eq_true rfl) ?_
      refine W.eq (g2 := F0 m 408 ls []) rfl ?_
      refine lv_goto (tgt := 580) hx hb dL_law_408 (by decide) ?_
      refine lv_iinc (v := 6) (lv' := [(4, .int 6), (3, .ref q48), (2, .ref q44), (1, .ref q1), (0, .ref b)]) hx hb dL_law_580 hl (k := 0) rfl (by decide) (by decide) rfl (fun ls hl => ?_)
      refine lv_goto (tgt := 23) hx hb dL_law_583 (by decide) ?_
      refine lv_iload hx hb dL_law_23 (lv_at hl 0 rfl) ?_
      refine lv_aload_n hx hb dL_law_25 rfl (lv_at hl 4 rfl) ?_
      refine va_slen hx hb hXs hbl hbA hS dL_law_26 ?_
      refine lv_topi (fun x289 e290 => ?_)
      obtain rfl : x289 = 6 := e290.trans (by decide)
      refine lv_bipush (v := 6) hx hb dL_law_27 (by decide) ?_
      refine lv_isub hx hb dL_law_29 ?_
      refine lv_topi (fun x291 e292 => ?_)
      obtain rfl : x291 = 0 := e292.trans (by decide)
      refine lv_icmp_gt (tgt := 586) hx hb dL_law_30 (by decide) (fun c293 => ?_) (fun c293 => absurd c293 (by decide))
      refine lv_iconst (v := 1) hx hb dL_law_586 (by decide) ?_
      refine va_forget (fun q hq => by have h9 := hS.2.2 q hq; rw [hAe] at h9; exact h9) ?_
      refine W.widen (k := 600002) (n := 7302232) (Nat.le_of_ble_eq_true rfl) (Nat.le_of_ble_eq_true rfl) ?_
      exact lw_ret hx hb hr hlocks dL_law_587
    by_cases h294 : x56 = 9
    · subst h294
      refine lv_tableIn (tgt := 411) (off := 371) hx hb dL_law_40 (by decide) (by decide) (by decide) (by decide) ?_
      have hP := hP.sub (ws' := [(q1, .inr (8, [.ref q5, .int 0, .ref q6, .ref q7, .ref q8, .ref q9, .ref q10, .null])), (q44, .inr (9, (mF u45)))]) [0, 37] rfl
      have hD := hD.sub (ws' := [(q1, .inr (8, [.ref q5, .int 0, .ref q6, .ref q7, .ref q8, .ref q9, .ref q10, .null])), (q44, .inr (9, (mF u45)))]) [0, 37] (by decide) rfl
      have hP : va_P G.1 pCl [(q1, .inr (8, [.ref q5, .int 0, .ref q6, .ref q7, .ref q8, .ref q9, .ref q10, .null])), (q44, .inr (9, (mF u45)))] H := hP
      have hD : va_D A [(q1, .inr (8, [.ref q5, .int 0, .ref q6, .ref q7, .ref q8, .ref q9, .ref q10, .null])), (q44, .inr (9, (mF u45)))] := hD
      refine lv_aload_n hx hb dL_law_411 rfl (lv_at hl 3 rfl) ?_
      refine lv_aload_n hx hb dL_law_412 rfl (lv_at hl 4 rfl) ?_
      refine lv_iload hx hb dL_law_413 (lv_at hl 0 rfl) ?_
      refine lv_iconst (v := 1) hx hb dL_law_415 (by decide) ?_
      refine lv_iadd hx hb dL_law_416 ?_
      refine lv_topi (fun x295 e296 => ?_)
      obtain rfl : x295 = 1 := e296.trans (by decide)
      refine va_sld hx hb hXs hbl hbA hS (by unfold vp_in; decide) dL_law_417 ?_
      refine lv_topi (fun x297 e298 => ?_)
      refine lv_aload_n hx hb dL_law_418 rfl (lv_at hl 4 rfl) ?_
      refine lv_iload hx hb dL_law_419 (lv_at hl 0 rfl) ?_
      refine lv_iconst (v := 2) hx hb dL_law_421 (by decide) ?_
      refine lv_iadd hx hb dL_law_422 ?_
      refine lv_topi (fun x299 e300 => ?_)
      obtain rfl : x299 = 2 := e300.trans (by decide)
      refine va_sld hx hb hXs hbl hbA hS (by unfold vp_in; decide) dL_law_423 ?_
      refine lv_topi (fun x301 e302 => ?_)
      refine lv_aload_n hx hb dL_law_424 rfl (lv_at hl 1 rfl) ?_
      refine pc_SW (G := G) (As := [.ref q1, .int x297, .int x301, .ref q48]) (rest := []) (wr := [(q44, .inr (9, (mF u45)))]) hx hb hml hown hq hE hX pX0_al hP hD hS hA hl.1 (c_Lrun l G q1 q5 q6 q7 q8 q9 q10 x297 x301 q48 hl0) (gS pw_355 pw_632 pw_633 pw_631) hS_L_run [0] [1] rfl rfl (by decide) (by decide) (by decide) rfl (Nat.le_of_ble_eq_true rfl) dL_law_425 ⟨Nat.le_of_ble_eq_true rfl, Nat.le_of_ble_eq_true rfl⟩ ⟨Nat.le_of_ble_eq_true rfl, Nat.le_of_ble_eq_true rfl⟩ (fun v305 u303 H locs hw304 hP hD hS => ?_)
      obtain rfl : v305 = some (.int (rk x297 x301)) := hw304
      have hP : va_P G.1 pCl [(q44, .inr (9, (mF u45)))] H := hP
      have hD : va_D A [(q44, .inr (9, (mF u45)))] := hD
      refine W.widen (k := 118) (n := 703982) (Nat.le_of_ble_eq_true rfl) (Nat.le_of_ble_eq_true rfl) ?_
      refine W.eq (g2 := F0 m 428 ls [.int (rk x297 x301)]) rfl ?_
      refine lv_istore (lv' := [(5, .int (rk x297 x301)), (4, .int 0), (3, .ref q48), (2, .ref q44), (1, .ref q1), (0, .ref b)]) hx hb dL_law_428 hl (by decide) rfl (fun ls hl => ?_)
      refine lv_aload_n hx hb dL_law_430 rfl (lv_at hl 3 rfl) ?_
      refine lv_aload_n hx hb dL_law_431 rfl (lv_at hl 5 rfl) ?_
      refine lv_iload hx hb dL_law_432 (lv_at hl 1 rfl) ?_
      refine lv_iconst (v := 1) hx hb dL_law_434 (by decide) ?_
      refine lv_iadd hx hb dL_law_435 ?_
      refine lv_topi (fun x306 e307 => ?_)
      obtain rfl : x306 = 1 := e307.trans (by decide)
      refine va_sld hx hb hXs hbl hbA hS (by unfold vp_in; decide) dL_law_436 ?_
      refine lv_topi (fun x308 e309 => ?_)
      obtain rfl : x297 = x308 := e298.trans e309.symm
      refine lv_aload_n hx hb dL_law_437 rfl (lv_at hl 5 rfl) ?_
      refine lv_iload hx hb dL_law_438 (lv_at hl 1 rfl) ?_
      refine lv_iconst (v := 2) hx hb dL_law_440 (by decide) ?_
      refine lv_iadd hx hb dL_law_441 ?_
      refine lv_topi (fun x310 e311 => ?_)
      obtain rfl : x310 = 2 := e311.trans (by decide)
      refine va_sld hx hb hXs hbl hbA hS (by unfold vp_in; decide) dL_law_442 ?_
      refine lv_topi (fun x312 e313 => ?_)
      obtain rfl : x301 = x312 := e302.trans e313.symm
      refine pc_V (G := G) (As := [.int x297, .int x301]) (rest := []) (wr := []) hx hb hml hown hq hE hX pX0_al hP hD hS hA hl.1 (m_run l G q44 u45 x297 x301) (gV pw_356 pw_581 pw_582 pw_517 pw_580) hV_X12_run 0 9 rfl rfl rfl [0] [] rfl rfl (by decide) (by decide) (by decide) rfl (Nat.le_of_ble_eq_true rfl) dL_law_443 ⟨Nat.le_of_ble_eq_true rfl, Nat.le_of_ble_eq_true rfl⟩ ⟨Nat.le_of_ble_eq_true rfl, Nat.le_of_ble_eq_true rfl⟩ (fun v316 u314 H locs hw315 hP hD hS => ?_)
      obtain rfl : v316 = some (.int 0) := hw315
      have hP : va_P G.1 pCl [(q44, .inr (9, ((mF u45).set 0 (.int (rk x297 x301)))))] H := hP
      have hD : va_D A [(q44, .inr (9, ((mF u45).set 0 (.int (rk x297 x301)))))] := hD
      refine W.widen (k := 118) (n := 703982) (Nat.le_of_ble_eq_true rfl) (Nat.le_of_ble_eq_true rfl) ?_
      refine W.eq (g2 := F0 m 446 ls [.int 0]) rfl ?_
      refine lv_istore (lv' := [(6, .int 0), (5, .int (rk x297 x301)), (4, .int 0), (3, .ref q48), (2, .ref q44), (1, .ref q1), (0, .ref b)]) hx hb dL_law_446 hl (by decide) rfl (fun ls hl => ?_)
      refine lv_aload_n hx hb dL_law_448 rfl (lv_at hl 4 rfl) ?_
      refine pc_V (G := G) (As := []) (rest := []) (wr := []) hx hb hml hown hq hE hX pX0_al hP hD hS hA hl.1 (m_thrown0 l G q44 u45 ((rk x297 x301))) (gV pw_357 pw_519 pw_520 pw_517 pw_518) hV_X12_thrown 0 9 rfl rfl rfl [0] [] rfl rfl (by decide) (by decide) (by decide) rfl (Nat.le_of_ble_eq_true rfl) dL_law_449 ⟨Nat.le_of_ble_eq_true rfl, Nat.le_of_ble_eq_true rfl⟩ ⟨Nat.le_of_ble_eq_true rfl, Nat.le_of_ble_eq_true rfl⟩ (fun v319 u317 H locs hw318 hP hD hS => ?_)
      obtain rfl : v319 = some (.int (rk x297 x301)) := hw318
      have hP : va_P G.1 pCl [] H := hP
      have hD : va_D A [] := hD
      refine W.widen (k := 118) (n := 703982) (Nat.le_of_ble_eq_true rfl) (Nat.le_of_ble_eq_true rfl) ?_
      refine W.eq (g2 := F0 m 452 ls [.int (rk x297 x301)]) rfl ?_
      refine lv_iload hx hb dL_law_452 (lv_at hl 1 rfl) ?_
      refine lv_icmp_eq (tgt := 459) hx hb dL_law_454 (by decide) (fun c320 => ?_) (fun c320 => absurd rfl c320)
      refine lv_iload hx hb dL_law_459 (lv_at hl 1 rfl) ?_
      refine lv_if_ne (tgt := 476) hx hb dL_law_461 (by decide) (fun c321 => ?_) (fun c321 => absurd c321 rk_ne0)
      refine lv_goto (tgt := 580) hx hb dL_law_476 (by decide) ?_
      refine lv_iinc (v := 6) (lv' := [(4, .int 6), (6, .int 0), (5, .int (rk x297 x301)), (3, .ref q48), (2, .ref q44), (1, .ref q1), (0, .ref b)]) hx hb dL_law_580 hl (k := 2) rfl (by decide) (by decide) rfl (fun ls hl => ?_)
      refine lv_goto (tgt := 23) hx hb dL_law_583 (by decide) ?_
      refine lv_iload hx hb dL_law_23 (lv_at hl 0 rfl) ?_
      refine lv_aload_n hx hb dL_law_25 rfl (lv_at hl 6 rfl) ?_
      refine va_slen hx hb hXs hbl hbA hS dL_law_26 ?_
      refine lv_topi (fun x322 e323 => ?_)
      obtain rfl : x322 = 6 := e323.trans (by decide)
      refine lv_bipush (v := 6) hx hb dL_law_27 (by decide) ?_
      refine lv_isub hx hb dL_law_29 ?_
      refine lv_topi (fun x324 e325 => ?_)
      obtain rfl : x324 = 0 := e325.trans (by decide)
      refine lv_icmp_gt (tgt := 586) hx hb dL_law_30 (by decide) (fun c326 => ?_) (fun c326 => absurd c326 (by decide))
      refine lv_iconst (v := 1) hx hb dL_law_586 (by decide) ?_
      refine va_forget (fun q hq => by have h9 := hS.2.2 q hq; rw [hAe] at h9; exact h9) ?_
      refine W.widen (k := 600002) (n := 7302232) (Nat.le_of_ble_eq_true rfl) (Nat.le_of_ble_eq_true rfl) ?_
      exact lw_ret hx hb hr hlocks dL_law_587
    by_cases h327 : x56 = 10
    · subst h327
      refine lv_tableIn (tgt := 479) (off := 439) hx hb dL_law_40 (by decide) (by decide) (by decide) (by decide) ?_
      have hP := hP.sub (ws' := [(q1, .inr (8, [.ref q5, .int 0, .ref q6, .ref q7, .ref q8, .ref q9, .ref q10, .null])), (q10, .inr (4, [.ref q7, .ref q34, .ref q35, .ref q36, .ref q37, .int 0, .ref q38, .ref q39, .null, .null, .int 0, .int 0, .int 0, .int 0, .long 0, .int 0, .int 0, .int 0, .int 0])), (q44, .inr (9, (mF u45)))]) [0, 28, 37] rfl
      have hD := hD.sub (ws' := [(q1, .inr (8, [.ref q5, .int 0, .ref q6, .ref q7, .ref q8, .ref q9, .ref q10, .null])), (q10, .inr (4, [.ref q7, .ref q34, .ref q35, .ref q36, .ref q37, .int 0, .ref q38, .ref q39, .null, .null, .int 0, .int 0, .int 0, .int 0, .long 0, .int 0, .int 0, .int 0, .int 0])), (q44, .inr (9, (mF u45)))]) [0, 28, 37] (by decide) rfl
      have hP : va_P G.1 pCl [(q1, .inr (8, [.ref q5, .int 0, .ref q6, .ref q7, .ref q8, .ref q9, .ref q10, .null])), (q10, .inr (4, [.ref q7, .ref q34, .ref q35, .ref q36, .ref q37, .int 0, .ref q38, .ref q39, .null, .null, .int 0, .int 0, .int 0, .int 0, .long 0, .int 0, .int 0, .int 0, .int 0])), (q44, .inr (9, (mF u45)))] H := hP
      have hD : va_D A [(q1, .inr (8, [.ref q5, .int 0, .ref q6, .ref q7, .ref q8, .ref q9, .ref q10, .null])), (q10, .inr (4, [.ref q7, .ref q34, .ref q35, .ref q36, .ref q37, .int 0, .ref q38, .ref q39, .null, .null, .int 0, .int 0, .int 0, .int 0, .long 0, .int 0, .int 0, .int 0, .int 0])), (q44, .inr (9, (mF u45)))] := hD
      refine lv_aload_n hx hb dL_law_479 rfl (lv_at hl 3 rfl) ?_
      refine pc_V (G := G) (As := []) (rest := []) (wr := [(q44, .inr (9, (mF u45)))]) hx hb hml hown hq hE hX pX0_al hP hD hS hA hl.1 (c_result l G q1 q5 q6 q7 q8 q9 q10 q7 q34 q35 q36 q37 q38 q39) (gV pw_358 pw_408 pw_409 pw_370 pw_407) hV_X11_result 0 8 rfl rfl rfl [0, 1] [2] rfl rfl (by decide) (by decide) (by decide) rfl (Nat.le_of_ble_eq_true rfl) dL_law_480 ⟨Nat.le_of_ble_eq_true rfl, Nat.le_of_ble_eq_true rfl⟩ ⟨Nat.le_of_ble_eq_true rfl, Nat.le_of_ble_eq_true rfl⟩ (fun v330 u328 H locs hw329 hP hD hS => ?_)
      obtain rfl : v330 = some (.int 0) := hw329
      have hP : va_P G.1 pCl [(q44, .inr (9, (mF u45)))] H := hP
      have hD : va_D A [(q44, .inr (9, (mF u45)))] := hD
      refine W.widen (k := 117) (n := 703976) (Nat.le_of_ble_eq_true rfl) (Nat.le_of_ble_eq_true rfl) ?_
      refine W.eq (g2 := F0 m 483 ls [.int 0]) rfl ?_
      refine lv_aload_n hx hb dL_law_483 rfl (lv_at hl 2 rfl) ?_
      refine pc_V (G := G) (As := []) (rest := [.int 0]) (wr := []) hx hb hml hown hq hE hX pX0_al hP hD hS hA hl.1 (m_result l G q44 u45) (gV pw_359 pw_584 pw_585 pw_517 pw_583) hV_X12_result 0 9 rfl rfl rfl [0] [] rfl rfl (by decide) (by decide) (by decide) rfl (Nat.le_of_ble_eq_true rfl) dL_law_484 ⟨Nat.le_of_ble_eq_true rfl, Nat.le_of_ble_eq_true rfl⟩ ⟨Nat.le_of_ble_eq_true rfl, Nat.le_of_ble_eq_true rfl⟩ (fun v333 u331 H locs hw332 hP hD hS => ?_)
      obtain rfl : v333 = some (.int 0) := hw332
      have hP : va_P G.1 pCl [] H := hP
      have hD : va_D A [] := hD
      refine W.widen (k := 117) (n := 703976) (Nat.le_of_ble_eq_true rfl) (Nat.le_of_ble_eq_true rfl) ?_
      refine W.eq (g2 := F0 m 487 ls [.int 0, .int 0]) rfl ?_
      refine lv_icmp_eq (tgt := 580) hx hb dL_law_487 (by decide) (fun c334 => ?_) (fun c334 => absurd c334 (by decide))
      refine lv_iinc (v := 6) (lv' := [(4, .int 6), (3, .ref q48), (2, .ref q44), (1, .ref q1), (0, .ref b)]) hx hb dL_law_580 hl (k := 0) rfl (by decide) (by decide) rfl (fun ls hl => ?_)
      refine lv_goto (tgt := 23) hx hb dL_law_583 (by decide) ?_
      refine lv_iload hx hb dL_law_23 (lv_at hl 0 rfl) ?_
      refine lv_aload_n hx hb dL_law_25 rfl (lv_at hl 4 rfl) ?_
      refine va_slen hx hb hXs hbl hbA hS dL_law_26 ?_
      refine lv_topi (fun x335 e336 => ?_)
      obtain rfl : x335 = 6 := e336.trans (by decide)
      refine lv_bipush (v := 6) hx hb dL_law_27 (by decide) ?_
      refine lv_isub hx hb dL_law_29 ?_
      refine lv_topi (fun x337 e338 => ?_)
      obtain rfl : x337 = 0 := e338.trans (by decide)
      refine lv_icmp_gt (tgt := 586) hx hb dL_law_30 (by decide) (fun c339 => ?_) (fun c339 => absurd c339 (by decide))
      refine lv_iconst (v := 1) hx hb dL_law_586 (by decide) ?_
      refine va_forget (fun q hq => by have h9 := hS.2.2 q hq; rw [hAe] at h9; exact h9) ?_
      refine W.widen (k := 600002) (n := 7302232) (Nat.le_of_ble_eq_true rfl) (Nat.le_of_ble_eq_true rfl) ?_
      exact lw_ret hx hb hr hlocks dL_law_587
    by_cases h340 : x56 = 11
    · subst h340
      refine lv_tableIn (tgt := 492) (off := 452) hx hb dL_law_40 (by decide) (by decide) (by decide) (by decide) ?_
      have hP := hP.sub (ws' := [(q1, .inr (8, [.ref q5, .int 0, .ref q6, .ref q7, .ref q8, .ref q9, .ref q10, .null])), (q10, .inr (4, [.ref q7, .ref q34, .ref q35, .ref q36, .ref q37, .int 0, .ref q38, .ref q39, .null, .null, .int 0, .int 0, .int 0, .int 0, .long 0, .int 0, .int 0, .int 0, .int 0])), (q39, .inl (G.2.1 0, 12, .inl (fun _ => 0))), (q44, .inr (9, (mF u45)))]) [0, 28, 36, 37] rfl
      have hD := hD.sub (ws' := [(q1, .inr (8, [.ref q5, .int 0, .ref q6, .ref q7, .ref q8, .ref q9, .ref q10, .null])), (q10, .inr (4, [.ref q7, .ref q34, .ref q35, .ref q36, .ref q37, .int 0, .ref q38, .ref q39, .null, .null, .int 0, .int 0, .int 0, .int 0, .long 0, .int 0, .int 0, .int 0, .int 0])), (q39, .inl (G.2.1 0, 12, .inl (fun _ => 0))), (q44, .inr (9, (mF u45)))]) [0, 28, 36, 37] (by decide) rfl
      have hP : va_P G.1 pCl [(q1, .inr (8, [.ref q5, .int 0, .ref q6, .ref q7, .ref q8, .ref q9, .ref q10, .null])), (q10, .inr (4, [.ref q7, .ref q34, .ref q35, .ref q36, .ref q37, .int 0, .ref q38, .ref q39, .null, .null, .int 0, .int 0, .int 0, .int 0, .long 0, .int 0, .int 0, .int 0, .int 0])), (q39, .inl (G.2.1 0, 12, .inl (fun _ => 0))), (q44, .inr (9, (mF u45)))] H := hP
      have hD : va_D A [(q1, .inr (8, [.ref q5, .int 0, .ref q6, .ref q7, .ref q8, .ref q9, .ref q10, .null])), (q10, .inr (4, [.ref q7, .ref q34, .ref q35, .ref q36, .ref q37, .int 0, .ref q38, .ref q39, .null, .null, .int 0, .int 0, .int 0, .int 0, .long 0, .int 0, .int 0, .int 0, .int 0])), (q39, .inl (G.2.1 0, 12, .inl (fun _ => 0))), (q44, .inr (9, (mF u45)))] := hD
      refine lv_aload_n hx hb dL_law_492 rfl (lv_at hl 3 rfl) ?_
      refine lv_aload_n hx hb dL_law_493 rfl (lv_at hl 4 rfl) ?_
      refine lv_iload hx hb dL_law_494 (lv_at hl 0 rfl) ?_
      refine lv_iconst (v := 1) hx hb dL_law_496 (by decide) ?_
      refine lv_iadd hx hb dL_law_497 ?_
      refine lv_topi (fun x341 e342 => ?_)
      obtain rfl : x341 = 1 := e342.trans (by decide)
      refine va_sld hx hb hXs hbl hbA hS (by unfold vp_in; decide) dL_law_498 ?_
      refine lv_topi (fun x343 e344 => ?_)
      refine pc_V (G := G) (As := [.int x343]) (rest := []) (wr := [(q44, .inr (9, (mF u45)))]) hx hb hml hown hq hE hX pX0_al hP hD hS hA hl.1 (c_output l G q1 q5 q6 q7 q8 q9 q10 q7 q34 q35 q36 q37 q38 q39 x343) (gV pw_360 pw_411 pw_412 pw_370 pw_410) hV_X11_output 0 8 rfl rfl rfl [0, 1, 2] [3] rfl rfl (by decide) (by decide) (by decide) rfl (Nat.le_of_ble_eq_true rfl) dL_law_499 ⟨Nat.le_of_ble_eq_true rfl, Nat.le_of_ble_eq_true rfl⟩ ⟨Nat.le_of_ble_eq_true rfl, Nat.le_of_ble_eq_true rfl⟩ (fun v347 u345 H locs hw346 hP hD hS => ?_)
      obtain rfl : v347 = some (.int 0) := hw346
      have hP : va_P G.1 pCl [(q44, .inr (9, (mF u45)))] H := hP
      have hD : va_D A [(q44, .inr (9, (mF u45)))] := hD
      refine W.widen (k := 117) (n := 703976) (Nat.le_of_ble_eq_true rfl) (Nat.le_of_ble_eq_true rfl) ?_
      refine W.eq (g2 := F0 m 502 ls [.int 0]) rfl ?_
      refine lv_aload_n hx hb dL_law_502 rfl (lv_at hl 2 rfl) ?_
      refine lv_aload_n hx hb dL_law_503 rfl (lv_at hl 4 rfl) ?_
      refine lv_iload hx hb dL_law_504 (lv_at hl 0 rfl) ?_
      refine lv_iconst (v := 1) hx hb dL_law_506 (by decide) ?_
      refine lv_iadd hx hb dL_law_507 ?_
      refine lv_topi (fun x348 e349 => ?_)
      obtain rfl : x348 = 1 := e349.trans (by decide)
      refine va_sld hx hb hXs hbl hbA hS (by unfold vp_in; decide) dL_law_508 ?_
      refine lv_topi (fun x350 e351 => ?_)
      obtain rfl : x343 = x350 := e344.trans e351.symm
      refine pc_V (G := G) (As := [.int x343]) (rest := [.int 0]) (wr := []) hx hb hml hown hq hE hX pX0_al hP hD hS hA hl.1 (m_output l G q44 u45 x343) (gV pw_361 pw_587 pw_588 pw_517 pw_586) hV_X12_output 0 9 rfl rfl rfl [0] [] rfl rfl (by decide) (by decide) (by decide) rfl (Nat.le_of_ble_eq_true rfl) dL_law_509 ⟨Nat.le_of_ble_eq_true rfl, Nat.le_of_ble_eq_true rfl⟩ ⟨Nat.le_of_ble_eq_true rfl, Nat.le_of_ble_eq_true rfl⟩ (fun v354 u352 H locs hw353 hP hD hS => ?_)
      obtain rfl : v354 = some (.int 0) := hw353
      have hP : va_P G.1 pCl [] H := hP
      have hD : va_D A [] := hD
      refine W.widen (k := 117) (n := 703976) (Nat.le_of_ble_eq_true rfl) (Nat.le_of_ble_eq_true rfl) ?_
      refine W.eq (g2 := F0 m 512 ls [.int 0, .int 0]) rfl ?_
      refine lv_icmp_eq (tgt := 580) hx hb dL_law_512 (by decide) (fun c355 => ?_) (fun c355 => absurd c355 (by decide))
      refine lv_iinc (v := 6) (lv' := [(4, .int 6), (3, .ref q48), (2, .ref q44), (1, .ref q1), (0, .ref b)]) hx hb dL_law_580 hl (k := 0) rfl (by decide) (by decide) rfl (fun ls hl => ?_)
      refine lv_goto (tgt := 23) hx hb dL_law_583 (by decide) ?_
      refine lv_iload hx hb dL_law_23 (lv_at hl 0 rfl) ?_
      refine lv_aload_n hx hb dL_law_25 rfl (lv_at hl 4 rfl) ?_
      refine va_slen hx hb hXs hbl hbA hS dL_law_26 ?_
      refine lv_topi (fun x356 e357 => ?_)
      obtain rfl : x356 = 6 := e357.trans (by decide)
      refine lv_bipush (v := 6) hx hb dL_law_27 (by decide) ?_
      refine lv_isub hx hb dL_law_29 ?_
      refine lv_topi (fun x358 e359 => ?_)
      obtain rfl : x358 = 0 := e359.trans (by decide)
      refine lv_icmp_gt (tgt := 586) hx hb dL_law_30 (by decide) (fun c360 => ?_) (fun c360 => absurd c360 (by decide))
      refine lv_iconst (v := 1) hx hb dL_law_586 (by decide) ?_
      refine va_forget (fun q hq => by have h9 := hS.2.2 q hq; rw [hAe] at h9; exact h9) ?_
      refine W.widen (k := 600002) (n := 7302232) (Nat.le_of_ble_eq_true rfl) (Nat.le_of_ble_eq_true rfl) ?_
      exact lw_ret hx hb hr hlocks dL_law_587
    by_cases h361 : x56 = 12
    · subst h361
      refine lv_tableIn (tgt := 517) (off := 477) hx hb dL_law_40 (by decide) (by decide) (by decide) (by decide) ?_
      have hP := hP.sub (ws' := [(q1, .inr (8, [.ref q5, .int 0, .ref q6, .ref q7, .ref q8, .ref q9, .ref q10, .null])), (q10, .inr (4, [.ref q7, .ref q34, .ref q35, .ref q36, .ref q37, .int 0, .ref q38, .ref q39, .null, .null, .int 0, .int 0, .int 0, .int 0, .long 0, .int 0, .int 0, .int 0, .int 0])), (q44, .inr (9, (mF u45)))]) [0, 28, 37] rfl
      have hD := hD.sub (ws' := [(q1, .inr (8, [.ref q5, .int 0, .ref q6, .ref q7, .ref q8, .ref q9, .ref q10, .null])), (q10, .inr (4, [.ref q7, .ref q34, .ref q35, .ref q36, .ref q37, .int 0, .ref q38, .ref q39, .null, .null, .int 0, .int 0, .int 0, .int 0, .long 0, .int 0, .int 0, .int 0, .int 0])), (q44, .inr (9, (mF u45)))]) [0, 28, 37] (by decide) rfl
      have hP : va_P G.1 pCl [(q1, .inr (8, [.ref q5, .int 0, .ref q6, .ref q7, .ref q8, .ref q9, .ref q10, .null])), (q10, .inr (4, [.ref q7, .ref q34, .ref q35, .ref q36, .ref q37, .int 0, .ref q38, .ref q39, .null, .null, .int 0, .int 0, .int 0, .int 0, .long 0, .int 0, .int 0, .int 0, .int 0])), (q44, .inr (9, (mF u45)))] H := hP
      have hD : va_D A [(q1, .inr (8, [.ref q5, .int 0, .ref q6, .ref q7, .ref q8, .ref q9, .ref q10, .null])), (q10, .inr (4, [.ref q7, .ref q34, .ref q35, .ref q36, .ref q37, .int 0, .ref q38, .ref q39, .null, .null, .int 0, .int 0, .int 0, .int 0, .long 0, .int 0, .int 0, .int 0, .int 0])), (q44, .inr (9, (mF u45)))] := hD
      refine lv_aload_n hx hb dL_law_517 rfl (lv_at hl 3 rfl) ?_
      refine lv_aload_n hx hb dL_law_518 rfl (lv_at hl 4 rfl) ?_
      refine lv_iload hx hb dL_law_519 (lv_at hl 0 rfl) ?_
      refine lv_iconst (v := 1) hx hb dL_law_521 (by decide) ?_
      refine lv_iadd hx hb dL_law_522 ?_
      refine lv_topi (fun x362 e363 => ?_)
      obtain rfl : x362 = 1 := e363.trans (by decide)
      refine va_sld hx hb hXs hbl hbA hS (by unfold vp_in; decide) dL_law_523 ?_
      refine lv_topi (fun x364 e365 => ?_)
      refine pc_V (G := G) (As := [.int x364]) (rest := []) (wr := [(q44, .inr (9, (mF u45)))]) hx hb hml hown hq hE hX pX0_al hP hD hS hA hl.1 (c_thrown l G q1 q5 q6 q7 q8 q9 q10 q7 q34 q35 q36 q37 q38 q39 x364) (gV pw_362 pw_414 pw_415 pw_370 pw_413) hV_X11_thrown 0 8 rfl rfl rfl [0, 1] [2] rfl rfl (by decide) (by decide) (by decide) rfl (Nat.le_of_ble_eq_true rfl) dL_law_524 ⟨Nat.le_of_ble_eq_true rfl, Nat.le_of_ble_eq_true rfl⟩ ⟨Nat.le_of_ble_eq_true rfl, Nat.le_of_ble_eq_true rfl⟩ (fun v368 u366 H locs hw367 hP hD hS => ?_)
      obtain rfl : v368 = some (.int (-1)) := hw367
      have hP : va_P G.1 pCl [(q44, .inr (9, (mF u45)))] H := hP
      have hD : va_D A [(q44, .inr (9, (mF u45)))] := hD
      refine W.widen (k := 117) (n := 703976) (Nat.le_of_ble_eq_true rfl) (Nat.le_of_ble_eq_true rfl) ?_
      refine W.eq (g2 := F0 m 527 ls [.int (-1)]) rfl ?_
      refine lv_aload_n hx hb dL_law_527 rfl (lv_at hl 2 rfl) ?_
      refine lv_aload_n hx hb dL_law_528 rfl (lv_at hl 4 rfl) ?_
      refine lv_iload hx hb dL_law_529 (lv_at hl 0 rfl) ?_
      refine lv_iconst (v := 1) hx hb dL_law_531 (by decide) ?_
      refine lv_iadd hx hb dL_law_532 ?_
      refine lv_topi (fun x369 e370 => ?_)
      obtain rfl : x369 = 1 := e370.trans (by decide)
      refine va_sld hx hb hXs hbl hbA hS (by unfold vp_in; decide) dL_law_533 ?_
      refine lv_topi (fun x371 e372 => ?_)
      obtain rfl : x364 = x371 := e365.trans e372.symm
      refine pc_V (G := G) (As := [.int x364]) (rest := [.int (-1)]) (wr := []) hx hb hml hown hq hE hX pX0_al hP hD hS hA hl.1 (m_thrown l G q44 u45 x364) (gV pw_363 pw_590 pw_591 pw_517 pw_589) hV_X12_thrown_ 0 9 rfl rfl rfl [0] [] rfl rfl (by decide) (by decide) (by decide) rfl (Nat.le_of_ble_eq_true rfl) dL_law_534 ⟨Nat.le_of_ble_eq_true rfl, Nat.le_of_ble_eq_true rfl⟩ ⟨Nat.le_of_ble_eq_true rfl, Nat.le_of_ble_eq_true rfl⟩ (fun v375 u373 H locs hw374 hP hD hS => ?_)
      obtain rfl : v375 = some (.int (-1)) := hw374
      have hP : va_P G.1 pCl [] H := hP
      have hD : va_D A [] := hD
      refine W.widen (k := 117) (n := 703976) (Nat.le_of_ble_eq_true rfl) (Nat.le_of_ble_eq_true rfl) ?_
      refine W.eq (g2 := F0 m 537 ls [.int (-1), .int (-1)]) rfl ?_
      refine lv_icmp_eq (tgt := 580) hx hb dL_law_537 (by decide) (fun c376 => ?_) (fun c376 => absurd c376 (by decide))
      refine lv_iinc (v := 6) (lv' := [(4, .int 6), (3, .ref q48), (2, .ref q44), (1, .ref q1), (0, .ref b)]) hx hb dL_law_580 hl (k := 0) rfl (by decide) (by decide) rfl (fun ls hl => ?_)
      refine lv_goto (tgt := 23) hx hb dL_law_583 (by decide) ?_
      refine lv_iload hx hb dL_law_23 (lv_at hl 0 rfl) ?_
      refine lv_aload_n hx hb dL_law_25 rfl (lv_at hl 4 rfl) ?_
      refine va_slen hx hb hXs hbl hbA hS dL_law_26 ?_
      refine lv_topi (fun x377 e378 => ?_)
      obtain rfl : x377 = 6 := e378.trans (by decide)
      refine lv_bipush (v := 6) hx hb dL_law_27 (by decide) ?_
      refine lv_isub hx hb dL_law_29 ?_
      refine lv_topi (fun x379 e380 => ?_)
      obtain rfl : x379 = 0 := e380.trans (by decide)
      refine lv_icmp_gt (tgt := 586) hx hb dL_law_30 (by decide) (fun c381 => ?_) (fun c381 => absurd c381 (by decide))
      refine lv_iconst (v := 1) hx hb dL_law_586 (by decide) ?_
      refine va_forget (fun q hq => by have h9 := hS.2.2 q hq; rw [hAe] at h9; exact h9) ?_
      refine W.widen (k := 600002) (n := 7302232) (Nat.le_of_ble_eq_true rfl) (Nat.le_of_ble_eq_true rfl) ?_
      exact lw_ret hx hb hr hlocks dL_law_587
    by_cases h382 : x56 = 13
    · subst h382
      refine lv_tableIn (tgt := 542) (off := 502) hx hb dL_law_40 (by decide) (by decide) (by decide) (by decide) ?_
      have hP := hP.sub (ws' := [(q1, .inr (8, [.ref q5, .int 0, .ref q6, .ref q7, .ref q8, .ref q9, .ref q10, .null])), (q10, .inr (4, [.ref q7, .ref q34, .ref q35, .ref q36, .ref q37, .int 0, .ref q38, .ref q39, .null, .null, .int 0, .int 0, .int 0, .int 0, .long 0, .int 0, .int 0, .int 0, .int 0])), (q39, .inl (G.2.1 0, 12, .inl (fun _ => 0))), (q44, .inr (9, (mF u45)))]) [0, 28, 36, 37] rfl
      have hD := hD.sub (ws' := [(q1, .inr (8, [.ref q5, .int 0, .ref q6, .ref q7, .ref q8, .ref q9, .ref q10, .null])), (q10, .inr (4, [.ref q7, .ref q34, .ref q35, .ref q36, .ref q37, .int 0, .ref q38, .ref q39, .null, .null, .int 0, .int 0, .int 0, .int 0, .long 0, .int 0, .int 0, .int 0, .int 0])), (q39, .inl (G.2.1 0, 12, .inl (fun _ => 0))), (q44, .inr (9, (mF u45)))]) [0, 28, 36, 37] (by decide) rfl
      have hP : va_P G.1 pCl [(q1, .inr (8, [.ref q5, .int 0, .ref q6, .ref q7, .ref q8, .ref q9, .ref q10, .null])), (q10, .inr (4, [.ref q7, .ref q34, .ref q35, .ref q36, .ref q37, .int 0, .ref q38, .ref q39, .null, .null, .int 0, .int 0, .int 0, .int 0, .long 0, .int 0, .int 0, .int 0, .int 0])), (q39, .inl (G.2.1 0, 12, .inl (fun _ => 0))), (q44, .inr (9, (mF u45)))] H := hP
      have hD : va_D A [(q1, .inr (8, [.ref q5, .int 0, .ref q6, .ref q7, .ref q8, .ref q9, .ref q10, .null])), (q10, .inr (4, [.ref q7, .ref q34, .ref q35, .ref q36, .ref q37, .int 0, .ref q38, .ref q39, .null, .null, .int 0, .int 0, .int 0, .int 0, .long 0, .int 0, .int 0, .int 0, .int 0])), (q39, .inl (G.2.1 0, 12, .inl (fun _ => 0))), (q44, .inr (9, (mF u45)))] := hD
      refine lv_aload_n hx hb dL_law_542 rfl (lv_at hl 3 rfl) ?_
      refine lv_aload_n hx hb dL_law_543 rfl (lv_at hl 4 rfl) ?_
      refine lv_iload hx hb dL_law_544 (lv_at hl 0 rfl) ?_
      refine lv_iconst (v := 1) hx hb dL_law_546 (by decide) ?_
      refine lv_iadd hx hb dL_law_547 ?_
      refine lv_topi (fun x383 e384 => ?_)
      obtain rfl : x383 = 1 := e384.trans (by decide)
      refine va_sld hx hb hXs hbl hbA hS (by unfold vp_in; decide) dL_law_548 ?_
      refine lv_topi (fun x385 e386 => ?_)
      refine pc_V (G := G) (As := [.int x385]) (rest := []) (wr := [(q44, .inr (9, (mF u45)))]) hx hb hml hown hq hE hX pX0_al hP hD hS hA hl.1 (c_count l G q1 q5 q6 q7 q8 q9 q10 q7 q34 q35 q36 q37 q38 q39 x385) (gV pw_364 pw_417 pw_418 pw_370 pw_416) hV_X11_count 0 8 rfl rfl rfl [0, 1, 2] [3] rfl rfl (by decide) (by decide) (by decide) rfl (Nat.le_of_ble_eq_true rfl) dL_law_549 ⟨Nat.le_of_ble_eq_true rfl, Nat.le_of_ble_eq_true rfl⟩ ⟨Nat.le_of_ble_eq_true rfl, Nat.le_of_ble_eq_true rfl⟩ (fun v389 u387 H locs hw388 hP hD hS => ?_)
      obtain rfl : v389 = some (.int (cnt x385)) := hw388
      have hP : va_P G.1 pCl [(q44, .inr (9, (mF u45)))] H := hP
      have hD : va_D A [(q44, .inr (9, (mF u45)))] := hD
      refine W.widen (k := 117) (n := 703976) (Nat.le_of_ble_eq_true rfl) (Nat.le_of_ble_eq_true rfl) ?_
      refine W.eq (g2 := F0 m 552 ls [.int (cnt x385)]) rfl ?_
      refine lv_aload_n hx hb dL_law_552 rfl (lv_at hl 2 rfl) ?_
      refine lv_aload_n hx hb dL_law_553 rfl (lv_at hl 4 rfl) ?_
      refine lv_iload hx hb dL_law_554 (lv_at hl 0 rfl) ?_
      refine lv_iconst (v := 1) hx hb dL_law_556 (by decide) ?_
      refine lv_iadd hx hb dL_law_557 ?_
      refine lv_topi (fun x390 e391 => ?_)
      obtain rfl : x390 = 1 := e391.trans (by decide)
      refine va_sld hx hb hXs hbl hbA hS (by unfold vp_in; decide) dL_law_558 ?_
      refine lv_topi (fun x392 e393 => ?_)
      obtain rfl : x385 = x392 := e386.trans e393.symm
      refine pc_V (G := G) (As := [.int x385]) (rest := [.int (cnt x385)]) (wr := []) hx hb hml hown hq hE hX pX0_al hP hD hS hA hl.1 (m_count l G q44 u45 x385) (gV pw_365 pw_593 pw_594 pw_517 pw_592) hV_X12_count 0 9 rfl rfl rfl [0] [] rfl rfl (by decide) (by decide) (by decide) rfl (Nat.le_of_ble_eq_true rfl) dL_law_559 ⟨Nat.le_of_ble_eq_true rfl, Nat.le_of_ble_eq_true rfl⟩ ⟨Nat.le_of_ble_eq_true rfl, Nat.le_of_ble_eq_true rfl⟩ (fun v396 u394 H locs hw395 hP hD hS => ?_)
      obtain rfl : v396 = some (.int (cnt x385)) := hw395
      have hP : va_P G.1 pCl [] H := hP
      have hD : va_D A [] := hD
      refine W.widen (k := 117) (n := 703976) (Nat.le_of_ble_eq_true rfl) (Nat.le_of_ble_eq_true rfl) ?_
      refine W.eq (g2 := F0 m 562 ls [.int (cnt x385), .int (cnt x385)]) rfl ?_
      refine lv_icmp_eq (tgt := 580) hx hb dL_law_562 (by decide) (fun c397 => ?_) (fun c397 => absurd rfl c397)
      refine lv_iinc (v := 6) (lv' := [(4, .int 6), (3, .ref q48), (2, .ref q44), (1, .ref q1), (0, .ref b)]) hx hb dL_law_580 hl (k := 0) rfl (by decide) (by decide) rfl (fun ls hl => ?_)
      refine lv_goto (tgt := 23) hx hb dL_law_583 (by decide) ?_
      refine lv_iload hx hb dL_law_23 (lv_at hl 0 rfl) ?_
      refine lv_aload_n hx hb dL_law_25 rfl (lv_at hl 4 rfl) ?_
      refine va_slen hx hb hXs hbl hbA hS dL_law_26 ?_
      refine lv_topi (fun x398 e399 => ?_)
      obtain rfl : x398 = 6 := e399.trans (by decide)
      refine lv_bipush (v := 6) hx hb dL_law_27 (by decide) ?_
      refine lv_isub hx hb dL_law_29 ?_
      refine lv_topi (fun x400 e401 => ?_)
      obtain rfl : x400 = 0 := e401.trans (by decide)
      refine lv_icmp_gt (tgt := 586) hx hb dL_law_30 (by decide) (fun c402 => ?_) (fun c402 => absurd c402 (by decide))
      refine lv_iconst (v := 1) hx hb dL_law_586 (by decide) ?_
      refine va_forget (fun q hq => by have h9 := hS.2.2 q hq; rw [hAe] at h9; exact h9) ?_
      refine W.widen (k := 600002) (n := 7302232) (Nat.le_of_ble_eq_true rfl) (Nat.le_of_ble_eq_true rfl) ?_
      exact lw_ret hx hb hr hlocks dL_law_587
    by_cases h403 : x56 = 14
    · subst h403
      refine lv_tableIn (tgt := 567) (off := 527) hx hb dL_law_40 (by decide) (by decide) (by decide) (by decide) ?_
      have hP := hP.sub (ws' := [(q1, .inr (8, [.ref q5, .int 0, .ref q6, .ref q7, .ref q8, .ref q9, .ref q10, .null])), (q10, .inr (4, [.ref q7, .ref q34, .ref q35, .ref q36, .ref q37, .int 0, .ref q38, .ref q39, .null, .null, .int 0, .int 0, .int 0, .int 0, .long 0, .int 0, .int 0, .int 0, .int 0])), (q44, .inr (9, (mF u45)))]) [0, 28, 37] rfl
      have hD := hD.sub (ws' := [(q1, .inr (8, [.ref q5, .int 0, .ref q6, .ref q7, .ref q8, .ref q9, .ref q10, .null])), (q10, .inr (4, [.ref q7, .ref q34, .ref q35, .ref q36, .ref q37, .int 0, .ref q38, .ref q39, .null, .null, .int 0, .int 0, .int 0, .int 0, .long 0, .int 0, .int 0, .int 0, .int 0])), (q44, .inr (9, (mF u45)))]) [0, 28, 37] (by decide) rfl
      have hP : va_P G.1 pCl [(q1, .inr (8, [.ref q5, .int 0, .ref q6, .ref q7, .ref q8, .ref q9, .ref q10, .null])), (q10, .inr (4, [.ref q7, .ref q34, .ref q35, .ref q36, .ref q37, .int 0, .ref q38, .ref q39, .null, .null, .int 0, .int 0, .int 0, .int 0, .long 0, .int 0, .int 0, .int 0, .int 0])), (q44, .inr (9, (mF u45)))] H := hP
      have hD : va_D A [(q1, .inr (8, [.ref q5, .int 0, .ref q6, .ref q7, .ref q8, .ref q9, .ref q10, .null])), (q10, .inr (4, [.ref q7, .ref q34, .ref q35, .ref q36, .ref q37, .int 0, .ref q38, .ref q39, .null, .null, .int 0, .int 0, .int 0, .int 0, .long 0, .int 0, .int 0, .int 0, .int 0])), (q44, .inr (9, (mF u45)))] := hD
      refine lv_aload_n hx hb dL_law_567 rfl (lv_at hl 3 rfl) ?_
      refine pc_V (G := G) (As := []) (rest := []) (wr := [(q44, .inr (9, (mF u45)))]) hx hb hml hown hq hE hX pX0_al hP hD hS hA hl.1 (c_refusals l G q1 q5 q6 q7 q8 q9 q10 q7 q34 q35 q36 q37 q38 q39) (gV pw_366 pw_420 pw_421 pw_370 pw_419) hV_X11_refusals 0 8 rfl rfl rfl [0, 1] [2] rfl rfl (by decide) (by decide) (by decide) rfl (Nat.le_of_ble_eq_true rfl) dL_law_568 ⟨Nat.le_of_ble_eq_true rfl, Nat.le_of_ble_eq_true rfl⟩ ⟨Nat.le_of_ble_eq_true rfl, Nat.le_of_ble_eq_true rfl⟩ (fun v406 u404 H locs hw405 hP hD hS => ?_)
      obtain rfl : v406 = some (.int 0) := hw405
      have hP : va_P G.1 pCl [(q44, .inr (9, (mF u45)))] H := hP
      have hD : va_D A [(q44, .inr (9, (mF u45)))] := hD
      refine W.widen (k := 117) (n := 703976) (Nat.le_of_ble_eq_true rfl) (Nat.le_of_ble_eq_true rfl) ?_
      refine W.eq (g2 := F0 m 571 ls [.int 0]) rfl ?_
      refine lv_aload_n hx hb dL_law_571 rfl (lv_at hl 2 rfl) ?_
      refine pc_V (G := G) (As := []) (rest := [.int 0]) (wr := []) hx hb hml hown hq hE hX pX0_al hP hD hS hA hl.1 (m_refusals l G q44 u45) (gV pw_367 pw_596 pw_597 pw_517 pw_595) hV_X12_refusals 0 9 rfl rfl rfl [0] [] rfl rfl (by decide) (by decide) (by decide) rfl (Nat.le_of_ble_eq_true rfl) dL_law_572 ⟨Nat.le_of_ble_eq_true rfl, Nat.le_of_ble_eq_true rfl⟩ ⟨Nat.le_of_ble_eq_true rfl, Nat.le_of_ble_eq_true rfl⟩ (fun v409 u407 H locs hw408 hP hD hS => ?_)
      obtain rfl : v409 = some (.int 0) := hw408
      have hP : va_P G.1 pCl [] H := hP
      have hD : va_D A [] := hD
      refine W.widen (k := 117) (n := 703976) (Nat.le_of_ble_eq_true rfl) (Nat.le_of_ble_eq_true rfl) ?_
      refine W.eq (g2 := F0 m 575 ls [.int 0, .int 0]) rfl ?_
      refine lv_icmp_eq (tgt := 580) hx hb dL_law_575 (by decide) (fun c410 => ?_) (fun c410 => absurd c410 (by decide))
      refine lv_iinc (v := 6) (lv' := [(4, .int 6), (3, .ref q48), (2, .ref q44), (1, .ref q1), (0, .ref b)]) hx hb dL_law_580 hl (k := 0) rfl (by decide) (by decide) rfl (fun ls hl => ?_)
      refine lv_goto (tgt := 23) hx hb dL_law_583 (by decide) ?_
      refine lv_iload hx hb dL_law_23 (lv_at hl 0 rfl) ?_
      refine lv_aload_n hx hb dL_law_25 rfl (lv_at hl 4 rfl) ?_
      refine va_slen hx hb hXs hbl hbA hS dL_law_26 ?_
      refine lv_topi (fun x411 e412 => ?_)
      obtain rfl : x411 = 6 := e412.trans (by decide)
      refine lv_bipush (v := 6) hx hb dL_law_27 (by decide) ?_
      refine lv_isub hx hb dL_law_29 ?_
      refine lv_topi (fun x413 e414 => ?_)
      obtain rfl : x413 = 0 := e414.trans (by decide)
      refine lv_icmp_gt (tgt := 586) hx hb dL_law_30 (by decide) (fun c415 => ?_) (fun c415 => absurd c415 (by decide))
      refine lv_iconst (v := 1) hx hb dL_law_586 (by decide) ?_
      refine va_forget (fun q hq => by have h9 := hS.2.2 q hq; rw [hAe] at h9; exact h9) ?_
      refine W.widen (k := 600002) (n := 7302232) (Nat.le_of_ble_eq_true rfl) (Nat.le_of_ble_eq_true rfl) ?_
      exact lw_ret hx hb hr hlocks dL_law_587
    refine lv_tableOut (tgt := 580) hx hb dL_law_40 (sw_out14 h58 h111 h132 h145 h174 h203 h232 h261 h282 h294 h327 h340 h361 h382 h403) (by decide) ?_
    refine lv_iinc (v := 6) (lv' := [(4, .int 6), (3, .ref q48), (2, .ref q44), (1, .ref q1), (0, .ref b)]) hx hb dL_law_580 hl (k := 0) rfl (by decide) (by decide) rfl (fun ls hl => ?_)
    refine lv_goto (tgt := 23) hx hb dL_law_583 (by decide) ?_
    refine lv_iload hx hb dL_law_23 (lv_at hl 0 rfl) ?_
    refine lv_aload_n hx hb dL_law_25 rfl (lv_at hl 4 rfl) ?_
    refine va_slen hx hb hXs hbl hbA hS dL_law_26 ?_
    refine lv_topi (fun x416 e417 => ?_)
    obtain rfl : x416 = 6 := e417.trans (by decide)
    refine lv_bipush (v := 6) hx hb dL_law_27 (by decide) ?_
    refine lv_isub hx hb dL_law_29 ?_
    refine lv_topi (fun x418 e419 => ?_)
    obtain rfl : x418 = 0 := e419.trans (by decide)
    refine lv_icmp_gt (tgt := 586) hx hb dL_law_30 (by decide) (fun c420 => ?_) (fun c420 => absurd c420 (by decide))
    refine lv_iconst (v := 1) hx hb dL_law_586 (by decide) ?_
    refine va_forget (fun q hq => by have h9 := hS.2.2 q hq; rw [hAe] at h9; exact h9) ?_
    refine W.widen (k := 600002) (n := 7302232) (Nat.le_of_ble_eq_true rfl) (Nat.le_of_ble_eq_true rfl) ?_
    exact lw_ret hx hb hr hlocks dL_law_587
  · refine lv_iload hx hb dL_law_23 (lv_at hl 0 rfl) ?_
    refine lv_aload_n hx hb dL_law_25 rfl (lv_at hl 4 rfl) ?_
    refine va_slen hx hb hXs hbl hbA hS dL_law_26 ?_
    refine lv_topi (fun x421 e422 => ?_)
    obtain rfl : x421 = 0 := e422.trans (by decide)
    refine lv_bipush (v := 6) hx hb dL_law_27 (by decide) ?_
    refine lv_isub hx hb dL_law_29 ?_
    refine lv_topi (fun x423 e424 => ?_)
    obtain rfl : x423 = (-6) := e424.trans (by decide)
    refine lv_icmp_gt (tgt := 586) hx hb dL_law_30 (by decide) (fun c425 => ?_) (fun c425 => absurd c425 (by decide))
    refine lv_iconst (v := 1) hx hb dL_law_586 (by decide) ?_
    refine va_forget (fun q hq => by have h9 := hS.2.2 q hq; rw [hAe] at h9; exact h9) ?_
    refine W.widen (k := 600002) (n := 7302232) (Nat.le_of_ble_eq_true rfl) (Nat.le_of_ble_eq_true rfl) ?_
    exact lw_ret hx hb hr hlocks dL_law_587
  · refine lv_iload hx hb dL_law_23 (lv_at hl 0 rfl) ?_
    refine lv_aload_n hx hb dL_law_25 rfl (lv_at hl 4 rfl) ?_
    refine va_slen hx hb hXs hbl hbA hS dL_law_26 ?_
    refine lv_topi (fun x426 e427 => ?_)
    obtain rfl : x426 = 1 := e427.trans (by decide)
    refine lv_bipush (v := 6) hx hb dL_law_27 (by decide) ?_
    refine lv_isub hx hb dL_law_29 ?_
    refine lv_topi (fun x428 e429 => ?_)
    obtain rfl : x428 = (-5) := e429.trans (by decide)
    refine lv_icmp_gt (tgt := 586) hx hb dL_law_30 (by decide) (fun c430 => ?_) (fun c430 => absurd c430 (by decide))
    refine lv_iconst (v := 1) hx hb dL_law_586 (by decide) ?_
    refine va_forget (fun q hq => by have h9 := hS.2.2 q hq; rw [hAe] at h9; exact h9) ?_
    refine W.widen (k := 600002) (n := 7302232) (Nat.le_of_ble_eq_true rfl) (Nat.le_of_ble_eq_true rfl) ?_
    exact lw_ret hx hb hr hlocks dL_law_587
  · refine lv_iload hx hb dL_law_23 (lv_at hl 0 rfl) ?_
    refine lv_aload_n hx hb dL_law_25 rfl (lv_at hl 4 rfl) ?_
    refine va_slen hx hb hXs hbl hbA hS dL_law_26 ?_
    refine lv_topi (fun x431 e432 => ?_)
    obtain rfl : x431 = 2 := e432.trans (by decide)
    refine lv_bipush (v := 6) hx hb dL_law_27 (by decide) ?_
    refine lv_isub hx hb dL_law_29 ?_
    refine lv_topi (fun x433 e434 => ?_)
    obtain rfl : x433 = (-4) := e434.trans (by decide)
    refine lv_icmp_gt (tgt := 586) hx hb dL_law_30 (by decide) (fun c435 => ?_) (fun c435 => absurd c435 (by decide))
    refine lv_iconst (v := 1) hx hb dL_law_586 (by decide) ?_
    refine va_forget (fun q hq => by have h9 := hS.2.2 q hq; rw [hAe] at h9; exact h9) ?_
    refine W.widen (k := 600002) (n := 7302232) (Nat.le_of_ble_eq_true rfl) (Nat.le_of_ble_eq_true rfl) ?_
    exact lw_ret hx hb hr hlocks dL_law_587
  · refine lv_iload hx hb dL_law_23 (lv_at hl 0 rfl) ?_
    refine lv_aload_n hx hb dL_law_25 rfl (lv_at hl 4 rfl) ?_
    refine va_slen hx hb hXs hbl hbA hS dL_law_26 ?_
    refine lv_topi (fun x436 e437 => ?_)
    obtain rfl : x436 = 3 := e437.trans (by decide)
    refine lv_bipush (v := 6) hx hb dL_law_27 (by decide) ?_
    refine lv_isub hx hb dL_law_29 ?_
    refine lv_topi (fun x438 e439 => ?_)
    obtain rfl : x438 = (-3) := e439.trans (by decide)
    refine lv_icmp_gt (tgt := 586) hx hb dL_law_30 (by decide) (fun c440 => ?_) (fun c440 => absurd c440 (by decide))
    refine lv_iconst (v := 1) hx hb dL_law_586 (by decide) ?_
    refine va_forget (fun q hq => by have h9 := hS.2.2 q hq; rw [hAe] at h9; exact h9) ?_
    refine W.widen (k := 600002) (n := 7302232) (Nat.le_of_ble_eq_true rfl) (Nat.le_of_ble_eq_true rfl) ?_
    exact lw_ret hx hb hr hlocks dL_law_587
  · refine lv_iload hx hb dL_law_23 (lv_at hl 0 rfl) ?_
    refine lv_aload_n hx hb dL_law_25 rfl (lv_at hl 4 rfl) ?_
    refine va_slen hx hb hXs hbl hbA hS dL_law_26 ?_
    refine lv_topi (fun x441 e442 => ?_)
    obtain rfl : x441 = 4 := e442.trans (by decide)
    refine lv_bipush (v := 6) hx hb dL_law_27 (by decide) ?_
    refine lv_isub hx hb dL_law_29 ?_
    refine lv_topi (fun x443 e444 => ?_)
    obtain rfl : x443 = (-2) := e444.trans (by decide)
    refine lv_icmp_gt (tgt := 586) hx hb dL_law_30 (by decide) (fun c445 => ?_) (fun c445 => absurd c445 (by decide))
    refine lv_iconst (v := 1) hx hb dL_law_586 (by decide) ?_
    refine va_forget (fun q hq => by have h9 := hS.2.2 q hq; rw [hAe] at h9; exact h9) ?_
    refine W.widen (k := 600002) (n := 7302232) (Nat.le_of_ble_eq_true rfl) (Nat.le_of_ble_eq_true rfl) ?_
    exact lw_ret hx hb hr hlocks dL_law_587
  · refine lv_iload hx hb dL_law_23 (lv_at hl 0 rfl) ?_
    refine lv_aload_n hx hb dL_law_25 rfl (lv_at hl 4 rfl) ?_
    refine va_slen hx hb hXs hbl hbA hS dL_law_26 ?_
    refine lv_topi (fun x446 e447 => ?_)
    obtain rfl : x446 = 5 := e447.trans (by decide)
    refine lv_bipush (v := 6) hx hb dL_law_27 (by decide) ?_
    refine lv_isub hx hb dL_law_29 ?_
    refine lv_topi (fun x448 e449 => ?_)
    obtain rfl : x448 = (-1) := e449.trans (by decide)
    refine lv_icmp_gt (tgt := 586) hx hb dL_law_30 (by decide) (fun c450 => ?_) (fun c450 => absurd c450 (by decide))
    refine lv_iconst (v := 1) hx hb dL_law_586 (by decide) ?_
    refine va_forget (fun q hq => by have h9 := hS.2.2 q hq; rw [hAe] at h9; exact h9) ?_
    refine W.widen (k := 600002) (n := 7302232) (Nat.le_of_ble_eq_true rfl) (Nat.le_of_ble_eq_true rfl) ?_
    exact lw_ret hx hb hr hlocks dL_law_587
