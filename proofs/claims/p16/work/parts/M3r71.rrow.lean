section SK4
variable {K : Nat → Int32} {T wr nd n k s dc fd md sc j kk rs c d il i : Nat} {X : Nat → Nat → Int32} {gh : Nat → Nat → Nat} {ty ty' mn mn' nc nc' : Nat → Int32} {v : Int32} {e : En}
/-- members looked at so far -/
def TsL (X : Nat → Nat → Int32) (dc fd md nd : Nat) (ty mn nc : Nat → Int32) (k rs : Nat) (v : Int32) (E : Nat → En) (i : Nat) : Prop := ∀ z c : Nat, z < i → c < 20000 → itr (X 16) v z = nI c → TyS X dc fd md nd ty mn nc k rs c (E z)
theorem TsL.zero {E : Nat → En} : TsL X dc fd md nd ty mn nc k rs v E 0 := fun z c h => absurd h (by omega)
theorem TsL.succ {E : Nat → En} (hF : Fs2 K T wr X gh nd) (hnd : nd ≤ 12000) (hn : n < nd) (e : X 9 n = nI kk) (k4 : kk ≤ 44) (s1 : 1 ≤ s) (s4 : s ≤ 4) (hc2 : 200 ≤ cdOf kk s) (ev : v = X (11 + s) n) (hv : v = -1 ∨ ∃ q : Nat, v = nI q ∧ q < nd) (h : TsL X dc fd md nd ty mn nc k rs v E i) (hc : c < 20000) (e1 : itr (X 16) v i = nI c) (g : ChS X nd c ty ty' mn mn' nc nc') (ht : TyS X dc fd md nd ty' mn' nc' k rs c (E i)) : TsL X dc fd md nd ty' mn' nc' k rs v E (i + 1) := fun z b hz hb w => by
  by_cases q : z = i
  · rw [q, e1] at w
    have : c = b := (nI_eq (by omega) (by omega)).mp w
    rw [← this, q]; exact ht
  · have w' := w
    have e1' := e1
    rw [ev] at w' e1'
    have p1 := pch_list e k4 s1 s4 hc2 w'
    have p2 := pch_list e k4 s1 s4 hc2 e1'
    exact (h z b (by omega) hb w).beside hF hnd hn (pch_par hF hnd hn hb p1).1 (pch_par hF hnd hn hc p2).1 p1 p2 (itr_ne hF hnd hv (by omega) hb hc w e1) g
/-- members not yet looked at -/
def mnL (X : Nat → Nat → Int32) (nd : Nat) (v : Int32) (i : Nat) (mn : Nat → Int32) : Prop := ∀ z c : Nat, i ≤ z → c < 20000 → itr (X 16) v z = nI c → mnC X nd c mn
theorem mnL.succ (hF : Fs2 K T wr X gh nd) (hnd : nd ≤ 12000) (hn : n < nd) (e : X 9 n = nI kk) (k4 : kk ≤ 44) (s1 : 1 ≤ s) (s4 : s ≤ 4) (hc2 : 200 ≤ cdOf kk s) (ev : v = X (11 + s) n) (hv : v = -1 ∨ ∃ q : Nat, v = nI q ∧ q < nd) (h : mnL X nd v i mn) (hc : c < 20000) (e1 : itr (X 16) v i = nI c) (g : ChS X nd c ty ty' mn mn' nc nc') : mnL X nd v (i + 1) mn' := fun z b hz hb w => by
  have w' := w
  have e1' := e1
  rw [ev] at w' e1'
  have p1 := pch_list e k4 s1 s4 hc2 w'
  have p2 := pch_list e k4 s1 s4 hc2 e1'
  exact (h z b (by omega) hb w).beside hF hnd hn (pch_par hF hnd hn hb p1).1 (pch_par hF hnd hn hc p2).1 p1 p2 (fun q => itr_ne hF hnd hv (by omega) hc hb e1 w q.symm) g
theorem TsL.all {E : Nat → En} (h : TsL X dc fd md nd ty mn nc k rs v E i) (e : itr (X 16) v i = -1) : ∀ z c : Nat, c < 20000 → itr (X 16) v z = nI c → TyS X dc fd md nd ty mn nc k rs c (E z) := fun z c hc w => by
  by_cases q : z < i
  · exact h z c q hc w
  · rw [itr_m1 e z (by omega)] at w; exact absurd w.symm (nI_m1 (by omega))
theorem lup_mk (h1 : sc = e.1) (h2 : il = e.2.1) : ((sc, il + 1, e.2.2) : En) = lup e := by subst h1; subst h2; rfl
theorem forE_il : (forE X n e).2.1 = e.2.1 := by unfold forE; split; rfl; exact aft_il
theorem forE_1 (h : X 12 n = -1) : forE X n e = e := if_pos h
theorem forE_2 (h : X 12 n = nI c) (hc : c < 2 ^ 31) : forE X n e = aft X c e := by
  unfold forE
  rw [if_neg (by rw [h]; exact nI_m1 hc), chN_1 h hc]
end SK4
theorem dX12_lookAtRow_0 : decode cX12_lookAtRow 0 = .ok (.aload_n 0, 1) := by decide +kernel
theorem dX12_lookAtRow_1 : decode cX12_lookAtRow 1 = .ok (.getfield 537, 3) := by decide +kernel
theorem dX12_lookAtRow_4 : decode cX12_lookAtRow 4 = .ok (.istore_n 2, 1) := by decide +kernel
theorem dX12_lookAtRow_5 : decode cX12_lookAtRow 5 = .ok (.iload_n 1, 1) := by decide +kernel
theorem dX12_lookAtRow_6 : decode cX12_lookAtRow 6 = .ok (.istore_n 3, 1) := by decide +kernel
theorem dX12_lookAtRow_7 : decode cX12_lookAtRow 7 = .ok (.iload_n 3, 1) := by decide +kernel
theorem dX12_lookAtRow_8 : decode cX12_lookAtRow 8 = .ok (.iconst (-1), 1) := by decide +kernel
theorem dX12_lookAtRow_9 : decode cX12_lookAtRow 9 = .ok (.if_icmp .eq 25, 3) := by decide +kernel
theorem dX12_lookAtRow_34 : decode cX12_lookAtRow 34 = .ok (.aload_n 0, 1) := by decide +kernel
theorem dX12_lookAtRow_35 : decode cX12_lookAtRow 35 = .ok (.iload_n 2, 1) := by decide +kernel
theorem dX12_lookAtRow_36 : decode cX12_lookAtRow 36 = .ok (.putfield 537, 3) := by decide +kernel
theorem dX12_lookAtRow_39 : decode cX12_lookAtRow 39 = .ok (.return_, 1) := by decide +kernel
theorem dX12_lookAtRow_12 : decode cX12_lookAtRow 12 = .ok (.aload_n 0, 1) := by decide +kernel
theorem dX12_lookAtRow_13 : decode cX12_lookAtRow 13 = .ok (.getfield 350, 3) := by decide +kernel
theorem dX12_lookAtRow_16 : decode cX12_lookAtRow 16 = .ok (.ifCond .ne 18, 3) := by decide +kernel
theorem dX12_lookAtRow_19 : decode cX12_lookAtRow 19 = .ok (.aload_n 0, 1) := by decide +kernel
theorem dX12_lookAtRow_20 : decode cX12_lookAtRow 20 = .ok (.iload_n 3, 1) := by decide +kernel
theorem dX12_lookAtRow_21 : decode cX12_lookAtRow 21 = .ok (.invokevirtual 606, 3) := by decide +kernel
theorem dX12_lookAtRow_24 : decode cX12_lookAtRow 24 = .ok (.aload_n 0, 1) := by decide +kernel
theorem dX12_lookAtRow_25 : decode cX12_lookAtRow 25 = .ok (.getfield 59, 3) := by decide +kernel
theorem dX12_lookAtRow_28 : decode cX12_lookAtRow 28 = .ok (.iload_n 3, 1) := by decide +kernel
theorem dX12_lookAtRow_29 : decode cX12_lookAtRow 29 = .ok (.iaload, 1) := by decide +kernel
theorem dX12_lookAtRow_30 : decode cX12_lookAtRow 30 = .ok (.istore_n 3, 1) := by decide +kernel
theorem dX12_lookAtRow_31 : decode cX12_lookAtRow 31 = .ok (.goto (-24), 3) := by decide +kernel
set_option maxHeartbeats 8000000 in
set_option maxRecDepth 100000 in
/-- lookAtRow(first) of a block -/
theorem L_lookAtRow (l : Launch) (G : pT) (h0 : Nat) (a : Nat → Nat) (F : Nat → Int32) (B : Nat → Nat → Int32) (n9 : Nat) (z9 : Nat) (fa : Nat) (sc : Nat) (il : Nat) (k9 : Nat) (rs : Nat) (nd : Nat) (T : Nat) (nm : Nat) (wr : Nat) (lz : Nat) (dc : Nat) (fd : Nat) (md : Nat) (pr : Nat) (bk : Nat) (gh : Nat → Nat → Nat) (dn : Int32) (wt : Int32) (wf : Int32) (ab : Int32) (ac : Int32) (nc : Nat → Int32) (ty : Nat → Int32) (mn : Nat → Int32) (vn : Nat → Int32) (vt : Nat → Int32) (ev : Nat → Int32) (hst : St B gh nd T nm wr lz dc fd md pr bk) (hnm : nd ≤ 12000 ∧ T ≤ 5000 ∧ wr ≤ 5000 ∧ 7 ≤ dc ∧ dc ≤ 37 ∧ fd ≤ 620 ∧ md ≤ 920 ∧ pr ≤ 5000) (hn9 : n9 < nd) (hz : gh 1 n9 < z9) (hfa : fa ≤ 15) (hsc : sc ≤ 30) (hk9 : 7 ≤ k9 ∧ k9 < dc) (hnc : ∀ i : Nat, i < nd → ¬ B 9 i = 44 → nc i = B 14 i) (hmn : mnN B nd mn) (hil : il + z9 ≤ 1000) (hrs : TyC dc rs) (hrs5 : rs ≤ 2050) (hmc : mnC B nd n9 mn) (hvt : ∀ i : Nat, i < sc → tyOK dc (vt i)) (hve : ∀ i : Nat, i < sc → vt i = ev i) (hkd : B 9 n9 = nI 31) (ihS : PlookStatement l G (z9 - 1)) : PM l G pX0 yX12_lookAtRow cX12_lookAtRow 4 none ({ frames := (4 * z9 + 13), cells := 0, slots := 0, locals := (160 * z9 + 1660) }) [.ref h0, .int (B 12 n9)] (mW G h0 a (upd (upd (upd (upd (upd (upd (upd (upd (upd (upd (upd (upd F 15 (nI fa)) 44 (nI fd)) 49 (nI md)) 73 (nI sc)) 74 (nI k9)) 75 (nI rs)) 76 (nI il)) 77 dn) 78 wt) 79 wf) 80 ab) 81 ac) (updA (updA (updA (updA (updA B 14 nc) 17 ty) 18 mn) 48 vn) 49 vt)) (fun (v : Option Value) (u : Nat × Nat × Int32 × Int32 × Int32 × Int32 × Int32 × Int32 × (Nat → Int32) × (Nat → Int32) × (Nat → Int32) × (Nat → Int32) × (Nat → Int32)) => v = none ∧ (fa ≤ u.1) ∧ (u.1 ≤ 15) ∧ (sc ≤ u.2.1) ∧ (u.2.1 ≤ 30) ∧ (ChS B nd n9 ty u.2.2.2.2.2.2.2.2.2.1 mn u.2.2.2.2.2.2.2.2.2.2.1 nc u.2.2.2.2.2.2.2.2.1) ∧ (mnN B nd u.2.2.2.2.2.2.2.2.2.2.1) ∧ (∀ i : Nat, i < nd → ¬ (B) 9 i = 44 → u.2.2.2.2.2.2.2.2.1 i = (B) 14 i) ∧ (∀ i : Nat, i < sc → u.2.2.2.2.2.2.2.2.2.2.2.2 i = vt i) ∧ (If (u.1 = 0) (∀ z c : Nat, c < 20000 → itr (B 16) (B 12 n9) z = nI c → TyS B dc fd md nd u.2.2.2.2.2.2.2.2.2.1 u.2.2.2.2.2.2.2.2.2.2.1 u.2.2.2.2.2.2.2.2.1 k9 rs c (envL B (B 12 n9) (sc, il, ev) z))) ∧ (u.2.1 ≤ sc) ∧ (u.2.2.2.2.2.2.2.2.2.2.1 n9 = mn n9)) (fun u => (mW G h0 a (upd (upd (upd (upd (upd (upd (upd (upd (upd (upd (upd (upd (upd F 15 (nI u.1)) 16 u.2.2.1) 44 (nI fd)) 49 (nI md)) 73 (nI u.2.1)) 74 (nI k9)) 75 (nI rs)) 76 (nI il)) 77 u.2.2.2.1) 78 u.2.2.2.2.1) 79 u.2.2.2.2.2.1) 80 u.2.2.2.2.2.2.1) 81 u.2.2.2.2.2.2.2.1) (updA (updA (updA (updA (updA B 14 u.2.2.2.2.2.2.2.2.1) 17 u.2.2.2.2.2.2.2.2.2.1) 18 u.2.2.2.2.2.2.2.2.2.2.1) 48 u.2.2.2.2.2.2.2.2.2.2.2.1) 49 u.2.2.2.2.2.2.2.2.2.2.2.2))) := by
  intro sz
  refine Met.ofW (cc := cX12_lookAtRow) (maxL := 4) (ret := none) (by decide) rfl ?_
  intro p e s m args below meth c s₁ B9 hml hv
  obtain ⟨rfl, hsz, hP, hD0, hE, hX⟩ := hv
  have hx := B9.exec
  have hb := B9.bytes
  have hr := B9.returns
  have hts := atoms_spec (ws := Cond.code yX12_lookAtRow cX12_lookAtRow 4 none :: pw) B9.pre
  have hq : ∀ w ∈ pw, w.before _ s = true := fun w h => hts w (List.mem_cons_of_mem _ h)
  have hown : s.vm.findClass RX12 = some m.cls := findClass_of_methodNamed B9.named
  have hlocks := B9.notSynchronized
  subst hsz
  have hD := hD0.self (sz := s.heap.size)
  have hA : ∀ q : Nat, s.heap.size ≤ q → va_A (mW G h0 a (upd (upd (upd (upd (upd (upd (upd (upd (upd (upd (upd (upd F 15 (nI fa)) 44 (nI fd)) 49 (nI md)) 73 (nI sc)) 74 (nI k9)) 75 (nI rs)) 76 (nI il)) 77 dn) 78 wt) 79 wf) 80 ab) 81 ac) (updA (updA (updA (updA (updA B 14 nc) 17 ty) 18 mn) 48 vn) 49 vt)) s.heap.size q := fun q h => Or.inr h
  have hP : va_P G.1 pCl (mW G h0 a (upd (upd (upd (upd (upd (upd (upd (upd (upd (upd (upd (upd F 15 (nI fa)) 44 (nI fd)) 49 (nI md)) 73 (nI sc)) 74 (nI k9)) 75 (nI rs)) 76 (nI il)) 77 dn) 78 wt) 79 wf) 80 ab) 81 ac) (updA (updA (updA (updA (updA B 14 nc) 17 ty) 18 mn) 48 vn) 49 vt)) s.heap := hP
  generalize va_A (mW G h0 a (upd (upd (upd (upd (upd (upd (upd (upd (upd (upd (upd (upd F 15 (nI fa)) 44 (nI fd)) 49 (nI md)) 73 (nI sc)) 74 (nI k9)) 75 (nI rs)) 76 (nI il)) 77 dn) 78 wt) 79 wf) 80 ab) 81 ac) (updA (updA (updA (updA (updA B 14 nc) 17 ty) 18 mn) 48 vn) 49 vt)) s.heap.size = A at hD hE hA ⊢
  have hS : va_S A s.heap s.heap [] := va_S.rf
  have hl := lv_entry ([.ref h0, .int (B 12 n9)]) (n := 4) (Nat.le_of_ble_eq_true rfl)
  rw [lg_entry_eq]
  generalize (lg_sl ([.ref h0, .int (B 12 n9)]) ++ List.replicate (4 - (lg_sl ([.ref h0, .int (B 12 n9)])).length) Slot.unset).toArray = ls at hl ⊢
  have hl : lv_has ls 4 [(0, .ref h0), (1, .int (B 12 n9))] := hl
  have hF := hst.1
  have hPS := hst.2.1
  have hBI := hst.2.2.1
  have hRK := hst.2.2.2.1
  have hTY := hst.2.2.2.2.1
  have hNW := hst.2.2.2.2.2.1
  have hTK := hst.2.2.2.2.2.2
  have hv12 : B 12 n9 = -1 ∨ ∃ q : Nat, B 12 n9 = nI q ∧ q < nd := by
    obtain ⟨k2, e2, _, k24, hs⟩ := hF.knd hn9
    have ek : k2 = 31 := (nI_eq (by omega) (by omega)).mp (e2.symm.trans hkd)
    subst ek
    exact sok.or (hs 1 (by omega) (by omega)) (by decide)
  refine lv_aload_n hx hb dX12_lookAtRow_0 rfl (lv_at hl 0 rfl) ?_
  refine r_get (v := .int (nI sc)) hx hb hown hq hE hP 73 537 tFX12_73 (by decide) pw_1795 rfl dX12_lookAtRow_1 ?_
  refine lv_istore_n (lv' := [(2, .int (nI sc)), (0, .ref h0), (1, .int (B 12 n9))]) hx hb dX12_lookAtRow_4 rfl hl (by decide) rfl (fun ls hl => ?_)
  refine lv_iload_n hx hb dX12_lookAtRow_5 rfl (lv_at hl 2 rfl) ?_
  refine lv_istore_n (lv' := [(3, .int (B 12 n9)), (2, .int (nI sc)), (0, .ref h0), (1, .int (B 12 n9))]) hx hb dX12_lookAtRow_6 rfl hl (by decide) rfl (fun ls hl => ?_)
  have loop_o : ∀ (n_o : Nat) (i2 : Nat) (fa2 : Nat) (sc2 : Nat) (pl2 : Int32) (dn2 : Int32) (wt2 : Int32) (wf2 : Int32) (ab2 : Int32) (ac2 : Int32) (nc2 : Nat → Int32) (ty2 : Nat → Int32) (mn2 : Nat → Int32) (vn2 : Nat → Int32) (vt2 : Nat → Int32) (H : Heap) (locs : List Loc) (ls : Array Slot), i2 ≤ nd → nd + 1 ≤ i2 + n_o → (fa ≤ fa2) → (fa2 ≤ 15) → (sc ≤ sc2) → (sc2 ≤ 30) → (ChS B nd n9 ty ty2 mn mn2 nc nc2) → (mnN B nd mn2) → (∀ i : Nat, i < nd → ¬ B 9 i = 44 → nc2 i = B 14 i) → (∀ i : Nat, i < sc → vt2 i = vt i) → (If (fa2 = 0) (sc2 = (envL B (B 12 n9) (sc, il, ev) i2).1 ∧ ∀ i : Nat, i < sc2 → vt2 i = (envL B (B 12 n9) (sc, il, ev) i2).2.2 i ∧ tyOK dc (vt2 i))) → (If (fa2 = 0) (TsL B dc fd md nd ty2 mn2 nc2 k9 rs (B 12 n9) (envL B (B 12 n9) (sc, il, ev)) i2)) → (mnL B nd (B 12 n9) i2 mn2) → (mn2 n9 = mn n9) → va_P G.1 pCl (mW G h0 a (upd (upd (upd (upd (upd (upd (upd (upd (upd (upd (upd (upd (upd F 15 (nI fa2)) 16 pl2) 44 (nI fd)) 49 (nI md)) 73 (nI sc2)) 74 (nI k9)) 75 (nI rs)) 76 (nI il)) 77 dn2) 78 wt2) 79 wf2) 80 ab2) 81 ac2) (updA (updA (updA (updA (updA B 14 nc2) 17 ty2) 18 mn2) 48 vn2) 49 vt2)) H → va_D A (mW G h0 a (upd (upd (upd (upd (upd (upd (upd (upd (upd (upd (upd (upd (upd F 15 (nI fa2)) 16 pl2) 44 (nI fd)) 49 (nI md)) 73 (nI sc2)) 74 (nI k9)) 75 (nI rs)) 76 (nI il)) 77 dn2) 78 wt2) 79 wf2) 80 ab2) 81 ac2) (updA (updA (updA (updA (updA B 14 nc2) 17 ty2) 18 mn2) 48 vn2) 49 vt2)) → va_S A s.heap H locs → lv_has ls 4 [(3, .int (itr (B 16) (B 12 n9) i2)), (2, .int (nI sc)), (1, .int (B 12 n9)), (0, .ref h0)] → W p l e (headSpec (Cond.code yX12_lookAtRow cX12_lookAtRow 4 none :: pw) ({ frames := (4 * z9 + 13), cells := 0, slots := 0, locals := (160 * z9 + 1660) } : Room)).room s m ([.ref h0, .int (B 12 n9)] : List Value).toArray below meth c H locs 0 0 (MQ below (pQ G A (fun (v : Option Value) (u : Nat × Nat × Int32 × Int32 × Int32 × Int32 × Int32 × Int32 × (Nat → Int32) × (Nat → Int32) × (Nat → Int32) × (Nat → Int32) × (Nat → Int32)) => v = none ∧ (fa ≤ u.1) ∧ (u.1 ≤ 15) ∧ (sc ≤ u.2.1) ∧ (u.2.1 ≤ 30) ∧ (ChS B nd n9 ty u.2.2.2.2.2.2.2.2.2.1 mn u.2.2.2.2.2.2.2.2.2.2.1 nc u.2.2.2.2.2.2.2.2.1) ∧ (mnN B nd u.2.2.2.2.2.2.2.2.2.2.1) ∧ (∀ i : Nat, i < nd → ¬ (B) 9 i = 44 → u.2.2.2.2.2.2.2.2.1 i = (B) 14 i) ∧ (∀ i : Nat, i < sc → u.2.2.2.2.2.2.2.2.2.2.2.2 i = vt i) ∧ (If (u.1 = 0) (∀ z c : Nat, c < 20000 → itr (B 16) (B 12 n9) z = nI c → TyS B dc fd md nd u.2.2.2.2.2.2.2.2.2.1 u.2.2.2.2.2.2.2.2.2.2.1 u.2.2.2.2.2.2.2.2.1 k9 rs c (envL B (B 12 n9) (sc, il, ev) z))) ∧ (u.2.1 ≤ sc) ∧ (u.2.2.2.2.2.2.2.2.2.2.1 n9 = mn n9)) (fun u => (mW G h0 a (upd (upd (upd (upd (upd (upd (upd (upd (upd (upd (upd (upd (upd F 15 (nI u.1)) 16 u.2.2.1) 44 (nI fd)) 49 (nI md)) 73 (nI u.2.1)) 74 (nI k9)) 75 (nI rs)) 76 (nI il)) 77 u.2.2.2.1) 78 u.2.2.2.2.1) 79 u.2.2.2.2.2.1) 80 u.2.2.2.2.2.2.1) 81 u.2.2.2.2.2.2.2.1) (updA (updA (updA (updA (updA B 14 u.2.2.2.2.2.2.2.2.1) 17 u.2.2.2.2.2.2.2.2.2.1) 18 u.2.2.2.2.2.2.2.2.2.2.1) 48 u.2.2.2.2.2.2.2.2.2.2.2.1) 49 u.2.2.2.2.2.2.2.2.2.2.2.2)))) ([.ref h0, .int (B 12 n9)] : List Value).toArray s ({ frames := (4 * z9 + 13), cells := 0, slots := 0, locals := (160 * z9 + 1660) } : Room).cells ({ frames := (4 * z9 + 13), cells := 0, slots := 0, locals := (160 * z9 + 1660) } : Room).slots A) (F0 m 7 ls []) := by
    intro n_o
    induction n_o with
    | zero => intro i2 fa2 sc2 pl2 dn2 wt2 wf2 ab2 ac2 nc2 ty2 mn2 vn2 vt2 H locs ls hk_o hn_o; omega
    | succ n_o ih_o =>
      intro i2 fa2 sc2 pl2 dn2 wt2 wf2 ab2 ac2 nc2 ty2 mn2 vn2 vt2 H locs ls hk_o hn_o hl1 hl2 hl3 hl4 hch2 hmn2 hnc2 hq82 hen hts hmcl hon hP hD hS hl
      refine lv_iload_n hx hb dX12_lookAtRow_7 rfl (lv_at hl 0 rfl) ?_
      refine lv_iconst (v := (-1)) hx hb dX12_lookAtRow_8 (by decide) ?_
      refine lv_icmp_eq (tgt := 34) hx hb dX12_lookAtRow_9 (by decide) (fun c1 => ?_) (fun c1 => ?_)
      · refine lv_aload_n hx hb dX12_lookAtRow_34 rfl (lv_at hl 3 rfl) ?_
        refine lv_iload_n hx hb dX12_lookAtRow_35 rfl (lv_at hl 1 rfl) ?_
        refine r_put (v := (nI sc)) (ty := .int) hx hb hown hq hE hP hD hS 73 537 tFX12_73 (by decide) pw_1795 (by decide) rfl rfl (ms_73 a _ _) dX12_lookAtRow_36 (fun H locs hP hD hS => ?_)
        have hz2 : fa ≤ fa2 := (by omega)
        have hz3 : fa2 ≤ 15 := (by omega)
        have hz4 : sc ≤ sc := (by omega)
        have hz5 : sc ≤ 30 := (by omega)
        have hz6 : ChS B nd n9 ty ty2 mn mn2 nc nc2 := hch2
        have hz7 : mnN B nd mn2 := hmn2
        have hz8 : ∀ i : Nat, i < nd → ¬ (B) 9 i = 44 → nc2 i = (B) 14 i := hnc2
        have hz9 : ∀ i : Nat, i < sc → vt2 i = vt i := hq82
        have hz10 : If (fa2 = 0) (∀ z c : Nat, c < 20000 → itr (B 16) (B 12 n9) z = nI c → TyS B dc fd md nd ty2 mn2 nc2 k9 rs c (envL B (B 12 n9) (sc, il, ev) z)) := (fun e => TsL.all (hts (by omega)) c1)
        have hz11 : sc ≤ sc := (Nat.le_refl _)
        have hz12 : mn2 n9 = mn n9 := hon
        have hP : va_P G.1 pCl (mW G h0 a (upd (upd (upd (upd (upd (upd (upd (upd (upd (upd (upd (upd (upd F 15 (nI fa2)) 16 pl2) 44 (nI fd)) 49 (nI md)) 73 (nI sc)) 74 (nI k9)) 75 (nI rs)) 76 (nI il)) 77 dn2) 78 wt2) 79 wf2) 80 ab2) 81 ac2) (updA (updA (updA (updA (updA B 14 nc2) 17 ty2) 18 mn2) 48 vn2) 49 vt2)) _ := mW_to (F := F) (l1 := [(15, (nI fa2)), (16, pl2), (44, (nI fd)), (49, (nI md)), (73, (nI sc2)), (74, (nI k9)), (75, (nI rs)), (76, (nI il)), (77, dn2), (78, wt2), (79, wf2), (80, ab2), (81, ac2), (73, (nI sc))]) (l2 := [(15, (nI fa2)), (16, pl2), (44, (nI fd)), (49, (nI md)), (73, (nI sc)), (74, (nI k9)), (75, (nI rs)), (76, (nI il)), (77, dn2), (78, wt2), (79, wf2), (80, ab2), (81, ac2)]) (V := [(nI fa2), pl2, (nI fd), (nI md), (nI sc), (nI k9), (nI rs), (nI il), dn2, wt2, wf2, ab2, ac2, (nI sc), (nI fa2), pl2, (nI fd), (nI md), (nI sc), (nI k9), (nI rs), (nI il), dn2, wt2, wf2, ab2, ac2]) rfl rfl rfl hP
        have hD : va_D A (mW G h0 a (upd (upd (upd (upd (upd (upd (upd (upd (upd (upd (upd (upd (upd F 15 (nI fa2)) 16 pl2) 44 (nI fd)) 49 (nI md)) 73 (nI sc)) 74 (nI k9)) 75 (nI rs)) 76 (nI il)) 77 dn2) 78 wt2) 79 wf2) 80 ab2) 81 ac2) (updA (updA (updA (updA (updA B 14 nc2) 17 ty2) 18 mn2) 48 vn2) 49 vt2)) := mW_D hD
        exact W.vret hx hb hr (fun t9 ht9 hW9 => ⟨⟨_, (fa2, sc, pl2, dn2, wt2, wf2, ab2, ac2, nc2, ty2, mn2, vn2, vt2), rfl, ⟨rfl, hz2, hz3, hz4, hz5, hz6, hz7, hz8, hz9, hz10, hz11, hz12⟩, by rw [ht9]; exact hP, hD⟩, hS.F ht9⟩) hS.2.2 dX12_lookAtRow_39
      · obtain ⟨c13, e14, h15, h16⟩ := (itr_ln hF.lnr hv12 (by omega) i2).resolve_left c1
        obtain ⟨h17, hg18, h19, hp20, hc21⟩ := lst_st hF (by omega) hn9 hkd (by omega) e14
        rw [e14] at hl
        refine lv_aload_n hx hb dX12_lookAtRow_12 rfl (lv_at hl 3 rfl) ?_
        refine r_get (v := .int (nI fa2)) hx hb hown hq hE hP 15 350 tFX12_15 (by decide) pw_1594 rfl dX12_lookAtRow_13 ?_
        refine lv_if_ne (tgt := 34) hx hb dX12_lookAtRow_16 (by decide) (fun c22 => ?_) (fun c22 => ?_)
        · have n23 : ¬ (fa2 = 0) := fun h9 => c22 ((nI_eq (a := fa2) (b := 0) (by omega) (by omega)).mpr h9)
          refine lv_aload_n hx hb dX12_lookAtRow_34 rfl (lv_at hl 3 rfl) ?_
          refine lv_iload_n hx hb dX12_lookAtRow_35 rfl (lv_at hl 1 rfl) ?_
          refine r_put (v := (nI sc)) (ty := .int) hx hb hown hq hE hP hD hS 73 537 tFX12_73 (by decide) pw_1795 (by decide) rfl rfl (ms_73 a _ _) dX12_lookAtRow_36 (fun H locs hP hD hS => ?_)
          have hz24 : fa ≤ fa2 := (by omega)
          have hz25 : fa2 ≤ 15 := (by omega)
          have hz26 : sc ≤ sc := (by omega)
          have hz27 : sc ≤ 30 := (by omega)
          have hz28 : ChS B nd n9 ty ty2 mn mn2 nc nc2 := hch2
          have hz29 : mnN B nd mn2 := hmn2
          have hz30 : ∀ i : Nat, i < nd → ¬ (B) 9 i = 44 → nc2 i = (B) 14 i := hnc2
          have hz31 : ∀ i : Nat, i < sc → vt2 i = vt i := hq82
          have hz32 : If (fa2 = 0) (∀ z c : Nat, c < 20000 → itr (B 16) (B 12 n9) z = nI c → TyS B dc fd md nd ty2 mn2 nc2 k9 rs c (envL B (B 12 n9) (sc, il, ev) z)) := (fun e => absurd e (by omega))
          have hz33 : sc ≤ sc := (Nat.le_refl _)
          have hz34 : mn2 n9 = mn n9 := hon
          have hP : va_P G.1 pCl (mW G h0 a (upd (upd (upd (upd (upd (upd (upd (upd (upd (upd (upd (upd (upd F 15 (nI fa2)) 16 pl2) 44 (nI fd)) 49 (nI md)) 73 (nI sc)) 74 (nI k9)) 75 (nI rs)) 76 (nI il)) 77 dn2) 78 wt2) 79 wf2) 80 ab2) 81 ac2) (updA (updA (updA (updA (updA B 14 nc2) 17 ty2) 18 mn2) 48 vn2) 49 vt2)) _ := mW_to (F := F) (l1 := [(15, (nI fa2)), (16, pl2), (44, (nI fd)), (49, (nI md)), (73, (nI sc2)), (74, (nI k9)), (75, (nI rs)), (76, (nI il)), (77, dn2), (78, wt2), (79, wf2), (80, ab2), (81, ac2), (73, (nI sc))]) (l2 := [(15, (nI fa2)), (16, pl2), (44, (nI fd)), (49, (nI md)), (73, (nI sc)), (74, (nI k9)), (75, (nI rs)), (76, (nI il)), (77, dn2), (78, wt2), (79, wf2), (80, ab2), (81, ac2)]) (V := [(nI fa2), pl2, (nI fd), (nI md), (nI sc), (nI k9), (nI rs), (nI il), dn2, wt2, wf2, ab2, ac2, (nI sc), (nI fa2), pl2, (nI fd), (nI md), (nI sc), (nI k9), (nI rs), (nI il), dn2, wt2, wf2, ab2, ac2]) rfl rfl rfl hP
          have hD : va_D A (mW G h0 a (upd (upd (upd (upd (upd (upd (upd (upd (upd (upd (upd (upd (upd F 15 (nI fa2)) 16 pl2) 44 (nI fd)) 49 (nI md)) 73 (nI sc)) 74 (nI k9)) 75 (nI rs)) 76 (nI il)) 77 dn2) 78 wt2) 79 wf2) 80 ab2) 81 ac2) (updA (updA (updA (updA (updA B 14 nc2) 17 ty2) 18 mn2) 48 vn2) 49 vt2)) := mW_D hD
          exact W.vret hx hb hr (fun t9 ht9 hW9 => ⟨⟨_, (fa2, sc, pl2, dn2, wt2, wf2, ab2, ac2, nc2, ty2, mn2, vn2, vt2), rfl, ⟨rfl, hz24, hz25, hz26, hz27, hz28, hz29, hz30, hz31, hz32, hz33, hz34⟩, by rw [ht9]; exact hP, hD⟩, hS.F ht9⟩) hS.2.2 dX12_lookAtRow_39
        · have n35 : fa2 = 0 := (nI_eq (a := fa2) (b := 0) (by omega) (by omega)).mp c22
          obtain ⟨hz1, hz2⟩ := hen (by omega)
          have hemk := En.mk3 (sc := sc2) (il := il) (e := (envL B (B 12 n9) (sc, il, ev) i2)) hz1 (envL_il (X := B) (v := B 12 n9) (e := (sc, il, ev)) i2).symm
          refine lv_aload_n hx hb dX12_lookAtRow_19 rfl (lv_at hl 3 rfl) ?_
          refine lv_iload_n hx hb dX12_lookAtRow_20 rfl (lv_at hl 0 rfl) ?_
          have hP : va_P G.1 pCl (mW G h0 a (upd (upd (upd (upd (upd (upd (upd (upd (upd (upd (upd (upd (upd (upd (upd (upd (upd (upd (upd (upd (upd (upd (upd (upd (upd F 15 (nI fa2)) 16 pl2) 44 (nI fd)) 49 (nI md)) 73 (nI sc2)) 74 (nI k9)) 75 (nI rs)) 76 (nI il)) 77 dn2) 78 wt2) 79 wf2) 80 ab2) 81 ac2) 15 (nI fa2)) 44 (nI fd)) 49 (nI md)) 73 (nI sc2)) 74 (nI k9)) 75 (nI rs)) 76 (nI il)) 77 dn2) 78 wt2) 79 wf2) 80 ab2) 81 ac2) (updA (updA (updA (updA (updA B 14 nc2) 17 ty2) 18 mn2) 48 vn2) 49 vt2)) _ := mW_to (F := F) (l1 := [(15, (nI fa2)), (16, pl2), (44, (nI fd)), (49, (nI md)), (73, (nI sc2)), (74, (nI k9)), (75, (nI rs)), (76, (nI il)), (77, dn2), (78, wt2), (79, wf2), (80, ab2), (81, ac2)]) (l2 := [(15, (nI fa2)), (16, pl2), (44, (nI fd)), (49, (nI md)), (73, (nI sc2)), (74, (nI k9)), (75, (nI rs)), (76, (nI il)), (77, dn2), (78, wt2), (79, wf2), (80, ab2), (81, ac2), (15, (nI fa2)), (44, (nI fd)), (49, (nI md)), (73, (nI sc2)), (74, (nI k9)), (75, (nI rs)), (76, (nI il)), (77, dn2), (78, wt2), (79, wf2), (80, ab2), (81, ac2)]) (V := [(nI fa2), pl2, (nI fd), (nI md), (nI sc2), (nI k9), (nI rs), (nI il), dn2, wt2, wf2, ab2, ac2, (nI fa2), pl2, (nI fd), (nI md), (nI sc2), (nI k9), (nI rs), (nI il), dn2, wt2, wf2, ab2, ac2, (nI fa2), (nI fd), (nI md), (nI sc2), (nI k9), (nI rs), (nI il), dn2, wt2, wf2, ab2, ac2]) rfl rfl rfl hP
          have hD : va_D A (mW G h0 a (upd (upd (upd (upd (upd (upd (upd (upd (upd (upd (upd (upd (upd (upd (upd (upd (upd (upd (upd (upd (upd (upd (upd (upd (upd F 15 (nI fa2)) 16 pl2) 44 (nI fd)) 49 (nI md)) 73 (nI sc2)) 74 (nI k9)) 75 (nI rs)) 76 (nI il)) 77 dn2) 78 wt2) 79 wf2) 80 ab2) 81 ac2) 15 (nI fa2)) 44 (nI fd)) 49 (nI md)) 73 (nI sc2)) 74 (nI k9)) 75 (nI rs)) 76 (nI il)) 77 dn2) 78 wt2) 79 wf2) 80 ab2) 81 ac2) (updA (updA (updA (updA (updA B 14 nc2) 17 ty2) 18 mn2) 48 vn2) 49 vt2)) := mW_D hD
          refine pc_V0 (G := G) (As := [.int (nI c13)]) (rest := []) hx hb hml hown hq hE hX pX0_al hP hD hS hA hl.1 (ihS h0 a (upd (upd (upd (upd (upd (upd (upd (upd (upd (upd (upd (upd (upd F 15 (nI fa2)) 16 pl2) 44 (nI fd)) 49 (nI md)) 73 (nI sc2)) 74 (nI k9)) 75 (nI rs)) 76 (nI il)) 77 dn2) 78 wt2) 79 wf2) 80 ab2) 81 ac2) B c13 fa2 sc2 il k9 rs nd T nm wr lz dc fd md pr bk gh dn2 wt2 wf2 ab2 ac2 nc2 ty2 mn2 vn2 vt2 ((envL B (B 12 n9) (sc, il, ev) i2).2.2) hst hnm h17 (by omega) (by omega) (by omega) hk9 hnc2 hmn2 (by omega) hrs (by omega) (hmcl i2 c13 (Nat.le_refl _) (by omega) e14) (fun i h => (hz2 i h).2) (fun i h => (hz2 i h).1) hc21) (gV pw_1874 pw_1875 pw_1876 pw_1523 pw_1884) hV_X12_lookStatement 0 9 rfl rfl rfl rfl (Nat.le_of_ble_eq_true rfl) dX12_lookAtRow_21 ⟨Nat.le_of_ble_eq_true rfl, Nat.le_of_ble_eq_true rfl⟩ ⟨(by show (4 * (z9 - 1) + 14) + 1 ≤ (4 * z9 + 13); omega), (by show 8 + (4 + 11) + (160 * (z9 - 1) + 1700) ≤ (160 * z9 + 1660); omega)⟩ (fun v38 u36 H locs hw37 hP hD hS => ?_)
          obtain ⟨fa39, sc40, pl41, dn42, wt43, wf44, ab45, ac46, nc47, ty48, mn49, vn50, vt51⟩ := u36
          obtain ⟨hw37, h52, h53, h54, h55, h56, h57, h58, h59, h60⟩ := hw37
          replace h52 : fa2 ≤ fa39 := h52
          replace h53 : fa39 ≤ 15 := h53
          replace h54 : sc2 ≤ sc40 := h54
          replace h55 : sc40 ≤ 30 := h55
          replace h56 : ChS B nd c13 ty2 ty48 mn2 mn49 nc2 nc47 := h56
          replace h57 : mnN B nd mn49 := h57
          replace h58 : ∀ i : Nat, i < nd → ¬ (B) 9 i = 44 → nc47 i = (B) 14 i := h58
          replace h59 : ∀ i : Nat, i < sc2 → vt51 i = vt2 i := h59
          replace h60 : If (fa39 = 0) (TyS B dc fd md nd ty48 mn49 nc47 k9 rs c13 (sc2, il, ((envL B (B 12 n9) (sc, il, ev) i2).2.2)) ∧ sc40 = (aft B c13 (sc2, il, ((envL B (B 12 n9) (sc, il, ev) i2).2.2))).1 ∧ ∀ i : Nat, i < sc40 → vt51 i = (aft B c13 (sc2, il, ((envL B (B 12 n9) (sc, il, ev) i2).2.2))).2.2 i ∧ tyOK dc (vt51 i)) := h60
          obtain rfl : v38 = none := hw37
          have hP : va_P G.1 pCl (mW G h0 a (upd (upd (upd (upd (upd (upd (upd (upd (upd (upd (upd (upd (upd F 15 (nI fa39)) 16 pl41) 44 (nI fd)) 49 (nI md)) 73 (nI sc40)) 74 (nI k9)) 75 (nI rs)) 76 (nI il)) 77 dn42) 78 wt43) 79 wf44) 80 ab45) 81 ac46) (updA (updA (updA (updA (updA B 14 nc47) 17 ty48) 18 mn49) 48 vn50) 49 vt51)) _ := mW_to (F := F) (l1 := [(15, (nI fa2)), (16, pl2), (44, (nI fd)), (49, (nI md)), (73, (nI sc2)), (74, (nI k9)), (75, (nI rs)), (76, (nI il)), (77, dn2), (78, wt2), (79, wf2), (80, ab2), (81, ac2), (15, (nI fa39)), (16, pl41), (44, (nI fd)), (49, (nI md)), (73, (nI sc40)), (74, (nI k9)), (75, (nI rs)), (76, (nI il)), (77, dn42), (78, wt43), (79, wf44), (80, ab45), (81, ac46)]) (l2 := [(15, (nI fa39)), (16, pl41), (44, (nI fd)), (49, (nI md)), (73, (nI sc40)), (74, (nI k9)), (75, (nI rs)), (76, (nI il)), (77, dn42), (78, wt43), (79, wf44), (80, ab45), (81, ac46)]) (V := [(nI fa39), pl41, (nI fd), (nI md), (nI sc40), (nI k9), (nI rs), (nI il), dn42, wt43, wf44, ab45, ac46, (nI fa39), pl41, (nI fd), (nI md), (nI sc40), (nI k9), (nI rs), (nI il), dn42, wt43, wf44, ab45, ac46, (nI fa39), pl41, (nI fd), (nI md), (nI sc40), (nI k9), (nI rs), (nI il), dn42, wt43, wf44, ab45, ac46]) rfl rfl rfl hP
          have hD : va_D A (mW G h0 a (upd (upd (upd (upd (upd (upd (upd (upd (upd (upd (upd (upd (upd F 15 (nI fa39)) 16 pl41) 44 (nI fd)) 49 (nI md)) 73 (nI sc40)) 74 (nI k9)) 75 (nI rs)) 76 (nI il)) 77 dn42) 78 wt43) 79 wf44) 80 ab45) 81 ac46) (updA (updA (updA (updA (updA B 14 nc47) 17 ty48) 18 mn49) 48 vn50) 49 vt51)) := mW_D hD
          refine W.widen (k := 0) (n := 0) (Nat.le_of_ble_eq_true rfl) (Nat.le_of_ble_eq_true rfl) ?_
          refine W.eq (g2 := F0 m 24 ls []) rfl ?_
          have hch61 : ChS B nd n9 ty ty48 mn mn49 nc nc47 := (ChS.trans hch2 (ChS.kid h56 (by omega) hp20))
          have hq862 : ∀ i : Nat, i < sc → vt51 i = vt i := (fun i h => (h59 i (by omega)).trans (hq82 i h))
          refine lv_aload_n hx hb dX12_lookAtRow_24 rfl (lv_at hl 3 rfl) ?_
          refine r_get (v := .ref (a 16)) hx hb hown hq hE hP 24 59 tFX12_24 (by decide) pw_1446 rfl dX12_lookAtRow_25 ?_
          refine lv_iload_n hx hb dX12_lookAtRow_28 rfl (lv_at hl 0 rfl) ?_
          refine r_ldi (f := (B 16)) (j := c13) hx hb hE hP 16 (ma_16 G a _) rfl (by omega) (by decide) dX12_lookAtRow_29 ?_
          refine lv_topi (fun x63 e64 => ?_)
          obtain rfl : x63 = itr (B 16) (B 12 n9) (i2 + 1) := e64.trans (itr_s e14 (by omega)).symm
          refine lv_istore_n (lv' := [(3, .int (itr (B 16) (B 12 n9) (i2 + 1))), (2, .int (nI sc)), (1, .int (B 12 n9)), (0, .ref h0)]) hx hb dX12_lookAtRow_30 rfl hl (by decide) rfl (fun ls hl => ?_)
          refine lv_goto (tgt := 7) hx hb dX12_lookAtRow_31 (by decide) ?_
          have hP : va_P G.1 pCl (mW G h0 a (upd (upd (upd (upd (upd (upd (upd (upd (upd (upd (upd (upd (upd F 15 (nI fa39)) 16 pl41) 44 (nI fd)) 49 (nI md)) 73 (nI sc40)) 74 (nI k9)) 75 (nI rs)) 76 (nI il)) 77 dn42) 78 wt43) 79 wf44) 80 ab45) 81 ac46) (updA (updA (updA (updA (updA B 14 nc47) 17 ty48) 18 mn49) 48 vn50) 49 vt51)) _ := hP
          have hD : va_D A (mW G h0 a (upd (upd (upd (upd (upd (upd (upd (upd (upd (upd (upd (upd (upd F 15 (nI fa39)) 16 pl41) 44 (nI fd)) 49 (nI md)) 73 (nI sc40)) 74 (nI k9)) 75 (nI rs)) 76 (nI il)) 77 dn42) 78 wt43) 79 wf44) 80 ab45) 81 ac46) (updA (updA (updA (updA (updA B 14 nc47) 17 ty48) 18 mn49) 48 vn50) 49 vt51)) := mW_D hD
          exact ih_o (i2 + 1) fa39 sc40 pl41 dn42 wt43 wf44 ab45 ac46 nc47 ty48 mn49 vn50 vt51 _ _ _ (by omega) (by omega) (by omega) (by omega) (by omega) (by omega) hch61 h57 h58 hq862 (fun e => by have z := h60 e; rw [(envL_s (X := B) (v := B 12 n9) (e := (sc, il, ev)) e14 (by omega)), ← hemk]; exact ⟨z.2.1, z.2.2⟩) (fun e => TsL.succ (kk := 31) (s := 1) hF (by omega) hn9 hkd (by decide) (by decide) (by decide) (by decide) rfl hv12 (hts (by omega)) (by omega) e14 h56 (by have z := (h60 e).1; rw [hemk] at z; exact z)) (mnL.succ (kk := 31) (s := 1) hF (by omega) hn9 hkd (by decide) (by decide) (by decide) (by decide) rfl hv12 hmcl (by omega) e14 h56) ((ChS.own hF (by omega) hn9 h17 hp20 h56).1.trans hon) hP hD hS (lv_sub hl [0, 1, 2, 3] rfl)
  have hP : va_P G.1 pCl (mW G h0 a (upd (upd (upd (upd (upd (upd (upd (upd (upd (upd (upd (upd (upd F 15 (nI fa)) 16 (F 16)) 44 (nI fd)) 49 (nI md)) 73 (nI sc)) 74 (nI k9)) 75 (nI rs)) 76 (nI il)) 77 dn) 78 wt) 79 wf) 80 ab) 81 ac) (updA (updA (updA (updA (updA B 14 nc) 17 ty) 18 mn) 48 vn) 49 vt)) _ := hP
  have hD : va_D A (mW G h0 a (upd (upd (upd (upd (upd (upd (upd (upd (upd (upd (upd (upd (upd F 15 (nI fa)) 16 (F 16)) 44 (nI fd)) 49 (nI md)) 73 (nI sc)) 74 (nI k9)) 75 (nI rs)) 76 (nI il)) 77 dn) 78 wt) 79 wf) 80 ab) 81 ac) (updA (updA (updA (updA (updA B 14 nc) 17 ty) 18 mn) 48 vn) 49 vt)) := mW_D hD
  exact loop_o (nd + 1) 0 fa sc (F 16) dn wt wf ab ac nc ty mn vn vt _ _ _ (by omega) (by omega) (by omega) (by omega) (by omega) (by omega) ChS.rfl hmn hnc (fun i h => rfl) (fun _ => ⟨rfl, fun i h => ⟨hve i h, hvt i h⟩⟩) (fun _ => TsL.zero) (fun z c _ hc w => mnC.kid hmc hc (pch_list hkd (by decide) (s := 1) (by decide) (by decide) (by decide) w)) rfl hP hD hS (lv_sub hl [0, 1, 3, 2] rfl)
