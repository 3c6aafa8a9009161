/-! THE CLAIM OUT OF ONE WALK OF THE LAW'S BODY. Your part is whole_start (and what it stands on); all else here is the same for every law, but numbers. -/
def R_law : String := "JinjaTongueLaw"
def lw_P (b : Addr) (xs : List Int32) (args : Array Value) (s : State) : Prop := args = #[.ref b] ∧ s.IntsAt b xs ∧ xs.length ≤ 3072 ∧ (Jvm.Cond.and given_1 narrow_1).before args s = true
def lw_Q (_ : Array Value) (s : State) (o : Outcome) (t : State) : Prop := o = .returned (some (.int 1)) ∧ Framed s o t [] 601024 7293034
def lw_Z (below : List Frame) (a : Array Value) (s : State) : State → Prop := fun t => ∃ o, t.status = .running ∧ Ended t below o ∧ lw_Q a s o t
/-- the law's own end, with 1 on the stack, nothing written that was there before, its room as the claim has it -/
theorem lw_ret {p : Program} {l : Launch} {e : Env} {s : State} {m : MethodId} {below : List Frame} {meth : Method} {c : Code} {b : Nat} (hx : p.tables.exec = Jvm.exec) (hb : c.code = code) (hr : meth.sig.returnType = ret) (hlocks : meth.locks = false) {pc : Nat} {H : Heap} {ls : Array Slot} (hdg : decode code pc = .ok (.ireturn, 1)) : W p l e room_1 s m #[Value.ref b] below meth c H [] 601024 7293034 (lw_Z below #[Value.ref b] s) (F0 m pc ls [.int 1]) := by
  intro T hT X
  obtain ⟨fs, hret, hrun, hended, hW, hframe⟩ := X.leave (v := some (.int 1)) (hlocks := hlocks) (fun h => by rw [hr] at h; cases h)
  have hmeth' : T.vm.method? m = some meth := X.method'
  refine ⟨T.setFrames fs, ?_, .returned (some (.int 1)), hrun, hended, rfl, ⟨_, rfl⟩, hW, hframe⟩
  jvm_step X.here [X.here.top, hx, hb, hdg, hmeth', hr, ret, narrow_b1]
  (try refine ⟨rfl, ?_⟩); (try refine ⟨rfl, ?_⟩)
  first | (intro acts; rw [hret _ acts rfl rfl rfl]) | rw [hret _ _ rfl rfl rfl]
  exact Steps.refl _
/-- what holds at the law's entry: the machine, the code, the tables' words (any of lw_tbl by 'hts w (by decide +kernel)'), the script of L ints xs at the cell b, what the Statement gives of the start (any of its parts by flat_of_before) -/
def lw_At (p : Program) (s : State) (m : MethodId) (meth : Method) (c : Code) (b L : Nat) (xs : Nat → Int32) : Prop :=
  p.tables.exec = Jvm.exec ∧ c.code = code ∧ meth.sig.returnType = ret ∧ c.maxLocals = 7 ∧ s.vm.findClass R_law = some m.cls ∧ (∀ w ∈ lw_tbl, w.before #[Value.ref b] s = true) ∧ va_X b L xs s s.heap ∧ b < s.heap.size ∧ meth.locks = false ∧ (Jvm.Cond.and given_1 narrow_1).before #[Value.ref b] s = true
set_option maxHeartbeats 40000000 in
set_option maxRecDepth 100000 in
theorem whole_start {p : Program} {e : Env} {s : State} {m : MethodId} {below : List Frame} {meth : Method} {c : Code} (l : Launch) {b L : Nat} {xs : Nat → Int32} (hL : L ≤ 3072) (hl0 : l.stackTraces = false) (C0 : lw_At p s m meth c b L xs) : W p l e room_1 s m #[Value.ref b] below meth c s.heap [] 0 0 (lw_Z below #[Value.ref b] s) (entryFrame m ([Value.ref b] : List Value).toArray 7) := by
  obtain ⟨hx, hb, hr, hml, hown, hts, hXs, hbl, hlocks, hgv⟩ := id C0
  obtain ⟨G, hE⟩ := pE_start hts hgv
  have hq : ∀ w ∈ pw, w.before _ s = true := fun w h => hts w (pw_tbl w h)
  have hX : pX0 s := trivial
  have hbA : ¬ (fun q : Nat => s.heap.size ≤ q) b := Nat.not_le.mpr hbl
  obtain ⟨A, hAe⟩ : ∃ A : Nat → Prop, A = fun q : Nat => s.heap.size ≤ q := ⟨_, rfl⟩
  rw [← hAe] at hE hbA
  have hA : ∀ q : Nat, s.heap.size ≤ q → A q := fun q h => by rw [hAe]; exact h
  have hS : va_S A s.heap s.heap [] := va_S.rf
  have hP : va_P G.1 pCl [] s.heap := fun k q h => by simp at h
  have hD : va_D A [] := ⟨fun i j p q h => by simp at h, fun k q h => by simp at h⟩
  have hl := lv_entry ([.ref b]) (n := 7) (Nat.le_of_ble_eq_true rfl)
  rw [lg_entry_eq]
  generalize (lg_sl ([.ref b]) ++ List.replicate (7 - (lg_sl ([.ref b])).length) Slot.unset).toArray = ls at hl ⊢
  have hl : lv_has ls 7 [(0, .ref b)] := hl
  have loop : ∀ (n k tl ni ce sl q1 q2 o : Nat) (a1 a2 : Nat → Nat) (wA wM : va_W) (fo : Nat → Int64) (H : Heap) (locs : List Loc) (ls : Array Slot), InC G q1 a1 tl ni wA → InR G q2 a2 tl ni wM → va_P G.1 pCl ((wA ++ [(o, .inl (G.2.1 2, 1, .inr (.inl fo)))]) ++ wM) H → va_D A ((wA ++ [(o, .inl (G.2.1 2, 1, .inr (.inl fo)))]) ++ wM) → va_S A s.heap H locs → lv_has ls 7 [(4, .int (nI (6 * k))), (3, .ref o), (2, .ref q2), (1, .ref q1), (0, .ref b)] → 6 * k ≤ L → L + 1 ≤ 6 * k + n → ce + 42 * tl ≤ 117 + 840 * k → sl + 380 * tl ≤ 703976 + 7600 * k → W p l e room_1 s m #[Value.ref b] below meth c H locs ce sl (lw_Z below #[Value.ref b] s) (F0 m 23 ls []) := by
    intro n
    induction n with
    | zero => intro k tl ni ce sl q1 q2 o a1 a2 wA wM fo H locs ls hC hR hP hD hS hl hk hn; omega
    | succ n ih =>
      intro k tl ni ce sl q1 q2 o a1 a2 wA wM fo H locs ls hC hR hP hD hS hl hk hn hce hsl
      have hC0 := hC.tl
      refine lv_iload hx hb dL_law_23 (lv_at hl 0 rfl) ?_
      refine lv_aload_n hx hb dL_law_25 rfl (lv_at hl 4 rfl) ?_
      refine va_slen hx hb hXs hbl hbA hS dL_law_26 ?_
      refine lv_bipush (v := 6) hx hb dL_law_27 (by decide) ?_
      refine lv_isub hx hb dL_law_29 ?_
      refine lv_icmp_gt (tgt := 558) hx hb dL_law_30 (by decide) (fun c1 => ?_) (fun c1 => ?_)
      · refine lv_iconst (v := 1) hx hb dL_law_558 (by decide) ?_
        refine va_forget (fun q hq => by have h9 := hS.2.2 q hq; rw [hAe] at h9; exact h9) ?_
        refine W.widen (k := 601024) (n := 7293034) (by omega) (by omega) ?_
        exact lw_ret hx hb hr hlocks dL_law_559
      · have hk6 : 6 * k + 6 ≤ L := law_le hL hk c1
        have at552 : ∀ (t1 n1 ce1 sl1 : Nat) (wB wN : va_W) (f1 : Nat → Int64) (H : Heap) (locs : List Loc) (ls : Array Slot), InC G q1 a1 t1 n1 wB → InR G q2 a2 t1 n1 wN → va_P G.1 pCl ((wB ++ [(o, .inl (G.2.1 2, 1, .inr (.inl f1)))]) ++ wN) H → va_D A ((wB ++ [(o, .inl (G.2.1 2, 1, .inr (.inl f1)))]) ++ wN) → va_S A s.heap H locs → lv_has ls 7 [(4, .int (nI (6 * k))), (3, .ref o), (2, .ref q2), (1, .ref q1), (0, .ref b)] → ce1 + 42 * t1 ≤ 117 + 840 * (k + 1) → sl1 + 380 * t1 ≤ 703976 + 7600 * (k + 1) → W p l e room_1 s m #[Value.ref b] below meth c H locs ce1 sl1 (lw_Z below #[Value.ref b] s) (F0 m 552 ls []) := by
          intro t1 n1 ce1 sl1 wB wN f1 H locs ls hC hR hP hD hS hl h1 h2
          refine lv_iinc (v := nI (6 * k + 6)) (lv' := [(4, .int (nI (6 * k + 6))), (3, .ref o), (2, .ref q2), (1, .ref q1), (0, .ref b)]) hx hb dL_law_552 hl (k := 0) rfl (nI_add (6 * k) 6) (by decide) rfl (fun ls hl => ?_)
          refine lv_goto (tgt := 23) hx hb dL_law_555 (by decide) ?_
          exact ih (k + 1) t1 n1 ce1 sl1 q1 q2 o a1 a2 wB wN f1 H locs ls hC hR hP hD hS hl (by omega) (by omega) h1 h2
        refine lv_aload_n hx hb dL_law_33 rfl (lv_at hl 4 rfl) ?_
        refine lv_iload hx hb dL_law_34 (lv_at hl 0 rfl) ?_
        refine va_sld hx hb hXs hbl hbA hS (vp_in_nI (by omega) (by omega)) dL_law_36 ?_
        refine lv_bipush (v := 15) hx hb dL_law_37 (by decide) ?_
        refine lv_iand hx hb dL_law_39 ?_
        refine lv_topi (fun x0 ex0 => ?_)
        clear ex0
        by_cases hsw0 : x0 = 0
        · subst hsw0
          refine lv_tableIn (tgt := 116) (off := 76) hx hb dL_law_40 (by decide) (by decide) (by decide) (by decide) ?_
          refine lv_aload_n hx hb dL_law_116 rfl (lv_at hl 3 rfl) ?_
          refine lv_aload_n hx hb dL_law_117 rfl (lv_at hl 4 rfl) ?_
          refine lv_iload hx hb dL_law_118 (lv_at hl 0 rfl) ?_
          refine lv_iconst (v := 1) hx hb dL_law_120 (by decide) ?_
          refine lv_iadd hx hb dL_law_121 ?_
          refine lv_topi (fun z1 ez2 => ?_)
          obtain rfl : z1 = nI (6 * k + 1) := ez2.trans (nI_add (6 * k) 1)
          refine va_sld hx hb hXs hbl hbA hS (vp_in_nI (by omega) (by omega)) dL_law_122 ?_
          refine lv_topi (fun x3 ex4 => ?_)
          refine lv_aload_n hx hb dL_law_123 rfl (lv_at hl 4 rfl) ?_
          refine lv_iload hx hb dL_law_124 (lv_at hl 0 rfl) ?_
          refine lv_iconst (v := 2) hx hb dL_law_126 (by decide) ?_
          refine lv_iadd hx hb dL_law_127 ?_
          refine lv_topi (fun z5 ez6 => ?_)
          obtain rfl : z5 = nI (6 * k + 2) := ez6.trans (nI_add (6 * k) 2)
          refine va_sld hx hb hXs hbl hbA hS (vp_in_nI (by omega) (by omega)) dL_law_128 ?_
          refine lv_topi (fun x7 ex8 => ?_)
          refine lv_aload_n hx hb dL_law_129 rfl (lv_at hl 4 rfl) ?_
          refine lv_iload hx hb dL_law_130 (lv_at hl 0 rfl) ?_
          refine lv_iconst (v := 3) hx hb dL_law_132 (by decide) ?_
          refine lv_iadd hx hb dL_law_133 ?_
          refine lv_topi (fun z9 ez10 => ?_)
          obtain rfl : z9 = nI (6 * k + 3) := ez10.trans (nI_add (6 * k) 3)
          refine va_sld hx hb hXs hbl hbA hS (vp_in_nI (by omega) (by omega)) dL_law_134 ?_
          refine lv_topi (fun x11 ex12 => ?_)
          refine lv_aload_n hx hb dL_law_135 rfl (lv_at hl 4 rfl) ?_
          refine lv_iload hx hb dL_law_136 (lv_at hl 0 rfl) ?_
          refine lv_iconst (v := 4) hx hb dL_law_138 (by decide) ?_
          refine lv_iadd hx hb dL_law_139 ?_
          refine lv_topi (fun z13 ez14 => ?_)
          obtain rfl : z13 = nI (6 * k + 4) := ez14.trans (nI_add (6 * k) 4)
          refine va_sld hx hb hXs hbl hbA hS (vp_in_nI (by omega) (by omega)) dL_law_140 ?_
          refine lv_topi (fun x15 ex16 => ?_)
          refine lv_aload_n hx hb dL_law_141 rfl (lv_at hl 4 rfl) ?_
          refine lv_iload hx hb dL_law_142 (lv_at hl 0 rfl) ?_
          refine lv_iconst (v := 5) hx hb dL_law_144 (by decide) ?_
          refine lv_iadd hx hb dL_law_145 ?_
          refine lv_topi (fun z17 ez18 => ?_)
          obtain rfl : z17 = nI (6 * k + 5) := ez18.trans (nI_add (6 * k) 5)
          refine va_sld hx hb hXs hbl hbA hS (vp_in_nI (by omega) (by omega)) dL_law_146 ?_
          refine lv_topi (fun x19 ex20 => ?_)
          obtain ⟨qr24, fs25, hqr26⟩ := hC.recv
          refine la_V (G := G) (As := [.int x3, .int x7, .int x11, .int x15, .int x19]) (rest := []) hx hb hml hown hq hE hX pX0_al hP hD hS hA hl.1 (C_feed l G q1 a1 tl ni wA x3 x7 x11 x15 x19 hC) (gV pw_2242 pw_2243 pw_2244 pw_1339 pw_1335) hLV_X11_feed qr24 8 hqr26 rfl rfl rfl (Nat.le_of_ble_eq_true rfl) dL_law_147 ⟨(by show ce + (0) ≤ 601024; omega), (by show sl + (0) ≤ 7293034; omega)⟩ ⟨Nat.le_of_ble_eq_true rfl, Nat.le_of_ble_eq_true rfl⟩ (fun v27 u28 H locs hw29 hP hD hS => ?_)
          obtain ⟨t21, rfl, e22, b23, hC⟩ := hw29
          refine W.widen (k := ce) (n := sl) (Nat.le_refl _) (Nat.le_refl _) ?_
          refine W.eq (g2 := F0 m 150 ls [.int (fdR tl)]) rfl ?_
          refine lv_pop hx hb dL_law_150 rfl ?_
          refine lv_aload_n hx hb dL_law_151 rfl (lv_at hl 2 rfl) ?_
          refine lv_aload_n hx hb dL_law_152 rfl (lv_at hl 4 rfl) ?_
          refine lv_iload hx hb dL_law_153 (lv_at hl 0 rfl) ?_
          refine lv_iconst (v := 1) hx hb dL_law_155 (by decide) ?_
          refine lv_iadd hx hb dL_law_156 ?_
          refine lv_topi (fun z30 ez31 => ?_)
          obtain rfl : z30 = nI (6 * k + 1) := ez31.trans (nI_add (6 * k) 1)
          refine va_sld hx hb hXs hbl hbA hS (vp_in_nI (by omega) (by omega)) dL_law_157 ?_
          refine lv_topi (fun x32 ex33 => ?_)
          obtain rfl : x3 = x32 := ex4.trans ex33.symm
          refine lv_aload_n hx hb dL_law_158 rfl (lv_at hl 4 rfl) ?_
          refine lv_iload hx hb dL_law_159 (lv_at hl 0 rfl) ?_
          refine lv_iconst (v := 2) hx hb dL_law_161 (by decide) ?_
          refine lv_iadd hx hb dL_law_162 ?_
          refine lv_topi (fun z34 ez35 => ?_)
          obtain rfl : z34 = nI (6 * k + 2) := ez35.trans (nI_add (6 * k) 2)
          refine va_sld hx hb hXs hbl hbA hS (vp_in_nI (by omega) (by omega)) dL_law_163 ?_
          refine lv_topi (fun x36 ex37 => ?_)
          obtain rfl : x7 = x36 := ex8.trans ex37.symm
          refine lv_aload_n hx hb dL_law_164 rfl (lv_at hl 4 rfl) ?_
          refine lv_iload hx hb dL_law_165 (lv_at hl 0 rfl) ?_
          refine lv_iconst (v := 3) hx hb dL_law_167 (by decide) ?_
          refine lv_iadd hx hb dL_law_168 ?_
          refine lv_topi (fun z38 ez39 => ?_)
          obtain rfl : z38 = nI (6 * k + 3) := ez39.trans (nI_add (6 * k) 3)
          refine va_sld hx hb hXs hbl hbA hS (vp_in_nI (by omega) (by omega)) dL_law_169 ?_
          refine lv_topi (fun x40 ex41 => ?_)
          obtain rfl : x11 = x40 := ex12.trans ex41.symm
          refine lv_aload_n hx hb dL_law_170 rfl (lv_at hl 4 rfl) ?_
          refine lv_iload hx hb dL_law_171 (lv_at hl 0 rfl) ?_
          refine lv_iconst (v := 4) hx hb dL_law_173 (by decide) ?_
          refine lv_iadd hx hb dL_law_174 ?_
          refine lv_topi (fun z42 ez43 => ?_)
          obtain rfl : z42 = nI (6 * k + 4) := ez43.trans (nI_add (6 * k) 4)
          refine va_sld hx hb hXs hbl hbA hS (vp_in_nI (by omega) (by omega)) dL_law_175 ?_
          refine lv_topi (fun x44 ex45 => ?_)
          obtain rfl : x15 = x44 := ex16.trans ex45.symm
          refine lv_aload_n hx hb dL_law_176 rfl (lv_at hl 4 rfl) ?_
          refine lv_iload hx hb dL_law_177 (lv_at hl 0 rfl) ?_
          refine lv_iconst (v := 5) hx hb dL_law_179 (by decide) ?_
          refine lv_iadd hx hb dL_law_180 ?_
          refine lv_topi (fun z46 ez47 => ?_)
          obtain rfl : z46 = nI (6 * k + 5) := ez47.trans (nI_add (6 * k) 5)
          refine va_sld hx hb hXs hbl hbA hS (vp_in_nI (by omega) (by omega)) dL_law_181 ?_
          refine lv_topi (fun x48 ex49 => ?_)
          obtain rfl : x19 = x48 := ex20.trans ex49.symm
          obtain ⟨qr53, fs54, hqr55⟩ := hR.recv
          refine lm_V (G := G) (As := [.int x3, .int x7, .int x11, .int x15, .int x19]) (rest := []) hx hb hml hown hq hE hX pX0_al hP hD hS hA hl.1 (M_feed l G q2 a2 tl ni wM x3 x7 x11 x15 x19 hR) (gV pw_2245 pw_2246 pw_2247 pw_1523 pw_1514) hLV_X12_feed qr53 9 hqr55 rfl rfl rfl (Nat.le_of_ble_eq_true rfl) dL_law_182 ⟨(by show ce + (0) ≤ 601024; omega), (by show sl + (0) ≤ 7293034; omega)⟩ ⟨Nat.le_of_ble_eq_true rfl, Nat.le_of_ble_eq_true rfl⟩ (fun v56 u57 H locs hw58 hP hD hS => ?_)
          obtain ⟨t50, rfl, e51, b52, hR⟩ := hw58
          refine W.widen (k := ce) (n := sl) (Nat.le_refl _) (Nat.le_refl _) ?_
          refine W.eq (g2 := F0 m 185 ls [.int (fdR tl)]) rfl ?_
          obtain rfl : t21 = t50 := (nI_eq (by omega) (by omega)).mp (e22.trans e51.symm)
          have hle := fdT_le hC0 b23 e22
          refine lv_pop hx hb dL_law_185 rfl ?_
          refine lv_goto (tgt := 552) hx hb dL_law_186 (by decide) ?_
          exact at552 t21 ni ce sl u28 u57 fo _ _ _ hC hR hP hD hS hl (by omega) (by omega)
        by_cases hsw1 : x0 = 1
        · subst hsw1
          refine lv_tableIn (tgt := 189) (off := 149) hx hb dL_law_40 (by decide) (by decide) (by decide) (by decide) ?_
          refine lv_aload_n hx hb dL_law_189 rfl (lv_at hl 3 rfl) ?_
          refine lv_aload_n hx hb dL_law_190 rfl (lv_at hl 4 rfl) ?_
          refine lv_iload hx hb dL_law_191 (lv_at hl 0 rfl) ?_
          refine lv_iconst (v := 1) hx hb dL_law_193 (by decide) ?_
          refine lv_iadd hx hb dL_law_194 ?_
          refine lv_topi (fun z59 ez60 => ?_)
          obtain rfl : z59 = nI (6 * k + 1) := ez60.trans (nI_add (6 * k) 1)
          refine va_sld hx hb hXs hbl hbA hS (vp_in_nI (by omega) (by omega)) dL_law_195 ?_
          refine lv_topi (fun x61 ex62 => ?_)
          obtain ⟨qr66, fs67, hqr68⟩ := hC.recv
          refine la_V (G := G) (As := [.int x61]) (rest := []) hx hb hml hown hq hE hX pX0_al hP hD hS hA hl.1 (C_back l G q1 a1 tl ni wA x61 hC) (gV pw_2248 pw_2249 pw_2250 pw_1339 pw_1340) hLV_X11_back qr66 8 hqr68 rfl rfl rfl (Nat.le_of_ble_eq_true rfl) dL_law_196 ⟨(by show ce + (0) ≤ 601024; omega), (by show sl + (0) ≤ 7293034; omega)⟩ ⟨Nat.le_of_ble_eq_true rfl, Nat.le_of_ble_eq_true rfl⟩ (fun v69 u70 H locs hw71 hP hD hS => ?_)
          obtain ⟨t63, rfl, e64, b65, hC⟩ := hw71
          refine W.widen (k := ce) (n := sl) (Nat.le_refl _) (Nat.le_refl _) ?_
          refine W.eq (g2 := F0 m 199 ls [.int (bkR x61 tl)]) rfl ?_
          refine lv_pop hx hb dL_law_199 rfl ?_
          refine lv_aload_n hx hb dL_law_200 rfl (lv_at hl 2 rfl) ?_
          refine lv_aload_n hx hb dL_law_201 rfl (lv_at hl 4 rfl) ?_
          refine lv_iload hx hb dL_law_202 (lv_at hl 0 rfl) ?_
          refine lv_iconst (v := 1) hx hb dL_law_204 (by decide) ?_
          refine lv_iadd hx hb dL_law_205 ?_
          refine lv_topi (fun z72 ez73 => ?_)
          obtain rfl : z72 = nI (6 * k + 1) := ez73.trans (nI_add (6 * k) 1)
          refine va_sld hx hb hXs hbl hbA hS (vp_in_nI (by omega) (by omega)) dL_law_206 ?_
          refine lv_topi (fun x74 ex75 => ?_)
          obtain rfl : x61 = x74 := ex62.trans ex75.symm
          obtain ⟨qr79, fs80, hqr81⟩ := hR.recv
          refine lm_V (G := G) (As := [.int x61]) (rest := []) hx hb hml hown hq hE hX pX0_al hP hD hS hA hl.1 (M_back l G q2 a2 tl ni wM x61 hR) (gV pw_2251 pw_2252 pw_2253 pw_1523 pw_1517) hLV_X12_back qr79 9 hqr81 rfl rfl rfl (Nat.le_of_ble_eq_true rfl) dL_law_207 ⟨(by show ce + (0) ≤ 601024; omega), (by show sl + (0) ≤ 7293034; omega)⟩ ⟨Nat.le_of_ble_eq_true rfl, Nat.le_of_ble_eq_true rfl⟩ (fun v82 u83 H locs hw84 hP hD hS => ?_)
          obtain ⟨t76, rfl, e77, b78, hR⟩ := hw84
          refine W.widen (k := ce) (n := sl) (Nat.le_refl _) (Nat.le_refl _) ?_
          refine W.eq (g2 := F0 m 210 ls [.int (bkR x61 tl)]) rfl ?_
          obtain rfl : t63 = t76 := (nI_eq (by omega) (by omega)).mp (e64.trans e77.symm)
          have hle := bkT_le hC0 b65 e64
          refine lv_pop hx hb dL_law_210 rfl ?_
          refine lv_goto (tgt := 552) hx hb dL_law_211 (by decide) ?_
          exact at552 t63 ni ce sl u70 u83 fo _ _ _ hC hR hP hD hS hl (by omega) (by omega)
        by_cases hsw2 : x0 = 2
        · subst hsw2
          refine lv_tableIn (tgt := 214) (off := 174) hx hb dL_law_40 (by decide) (by decide) (by decide) (by decide) ?_
          refine lv_aload_n hx hb dL_law_214 rfl (lv_at hl 3 rfl) ?_
          obtain ⟨qr86, fs87, hqr88⟩ := hC.recv
          refine la_VW (G := G) (As := []) (rest := []) hx hb hml hown hq hE hX pX0_al hP hD hS hA hl.1 (C_read l G q1 a1 tl ni wA hC hl0) (gV pw_2254 pw_2255 pw_2256 pw_1339 pw_1361) hLV_X11_read qr86 8 hqr88 rfl rfl rfl (Nat.le_of_ble_eq_true rfl) dL_law_215 ⟨(by show ce + (42 * tl + 101) ≤ 601024; omega), (by show sl + (380 * tl + 6000) ≤ 7293034; omega)⟩ ⟨Nat.le_of_ble_eq_true rfl, Nat.le_of_ble_eq_true rfl⟩ (fun v89 u90 H locs hw91 hP hD hS => ?_)
          obtain ⟨r85, rfl, hC⟩ := hw91
          refine W.widen (k := (ce + (42 * tl + 101))) (n := (sl + (380 * tl + 6000))) (Nat.le_refl _) (Nat.le_refl _) ?_
          refine W.eq (g2 := F0 m 218 ls [.int r85]) rfl ?_
          refine lv_pop hx hb dL_law_218 rfl ?_
          refine lv_aload_n hx hb dL_law_219 rfl (lv_at hl 2 rfl) ?_
          obtain ⟨qr93, fs94, hqr95⟩ := hR.recv
          refine lm_V (G := G) (As := []) (rest := []) hx hb hml hown hq hE hX pX0_al hP hD hS hA hl.1 (M_read l G q2 a2 tl ni wM hR) (gV pw_2257 pw_2258 pw_2259 pw_1523 pw_1955) hLV_X12_read qr93 9 hqr95 rfl rfl rfl (Nat.le_of_ble_eq_true rfl) dL_law_220 ⟨(by show (ce + (42 * tl + 101)) + (0) ≤ 601024; omega), (by show (sl + (380 * tl + 6000)) + (0) ≤ 7293034; omega)⟩ ⟨Nat.le_of_ble_eq_true rfl, Nat.le_of_ble_eq_true rfl⟩ (fun v96 u97 H locs hw98 hP hD hS => ?_)
          obtain ⟨r92, rfl, hR⟩ := hw98
          refine W.widen (k := (ce + (42 * tl + 101))) (n := (sl + (380 * tl + 6000))) (Nat.le_refl _) (Nat.le_refl _) ?_
          refine W.eq (g2 := F0 m 223 ls [.int r92]) rfl ?_
          refine lv_pop hx hb dL_law_223 rfl ?_
          refine lv_goto (tgt := 552) hx hb dL_law_224 (by decide) ?_
          exact at552 0 ni (ce + (42 * tl + 101)) (sl + (380 * tl + 6000)) u90 u97 fo _ _ _ hC hR hP hD hS hl (by omega) (by omega)
        by_cases hsw3 : x0 = 3
        · subst hsw3
          refine lv_tableIn (tgt := 227) (off := 187) hx hb dL_law_40 (by decide) (by decide) (by decide) (by decide) ?_
          refine lv_aload_n hx hb dL_law_227 rfl (lv_at hl 3 rfl) ?_
          refine lv_aload_n hx hb dL_law_228 rfl (lv_at hl 4 rfl) ?_
          refine lv_iload hx hb dL_law_229 (lv_at hl 0 rfl) ?_
          refine lv_iconst (v := 1) hx hb dL_law_231 (by decide) ?_
          refine lv_iadd hx hb dL_law_232 ?_
          refine lv_topi (fun z99 ez100 => ?_)
          obtain rfl : z99 = nI (6 * k + 1) := ez100.trans (nI_add (6 * k) 1)
          refine va_sld hx hb hXs hbl hbA hS (vp_in_nI (by omega) (by omega)) dL_law_233 ?_
          refine lv_topi (fun x101 ex102 => ?_)
          refine lv_aload_n hx hb dL_law_234 rfl (lv_at hl 4 rfl) ?_
          refine lv_iload hx hb dL_law_235 (lv_at hl 0 rfl) ?_
          refine lv_iconst (v := 2) hx hb dL_law_237 (by decide) ?_
          refine lv_iadd hx hb dL_law_238 ?_
          refine lv_topi (fun z103 ez104 => ?_)
          obtain rfl : z103 = nI (6 * k + 2) := ez104.trans (nI_add (6 * k) 2)
          refine va_sld hx hb hXs hbl hbA hS (vp_in_nI (by omega) (by omega)) dL_law_239 ?_
          refine lv_topi (fun x105 ex106 => ?_)
          obtain ⟨qr108, fs109, hqr110⟩ := hC.recv
          refine la_V (G := G) (As := [.int x101, .int x105]) (rest := []) hx hb hml hown hq hE hX pX0_al hP hD hS hA hl.1 (C_type l G q1 a1 tl ni wA x101 x105 hC) (gV pw_2260 pw_2261 pw_2262 pw_1339 pw_1382) hLV_X11_type qr108 8 hqr110 rfl rfl rfl (Nat.le_of_ble_eq_true rfl) dL_law_240 ⟨(by show ce + (0) ≤ 601024; omega), (by show sl + (0) ≤ 7293034; omega)⟩ ⟨Nat.le_of_ble_eq_true rfl, Nat.le_of_ble_eq_true rfl⟩ (fun v111 u112 H locs hw113 hP hD hS => ?_)
          obtain ⟨r107, rfl, hC⟩ := hw113
          refine W.widen (k := ce) (n := sl) (Nat.le_refl _) (Nat.le_refl _) ?_
          refine W.eq (g2 := F0 m 243 ls [.int r107]) rfl ?_
          refine lv_pop hx hb dL_law_243 rfl ?_
          refine lv_aload_n hx hb dL_law_244 rfl (lv_at hl 2 rfl) ?_
          refine lv_aload_n hx hb dL_law_245 rfl (lv_at hl 4 rfl) ?_
          refine lv_iload hx hb dL_law_246 (lv_at hl 0 rfl) ?_
          refine lv_iconst (v := 1) hx hb dL_law_248 (by decide) ?_
          refine lv_iadd hx hb dL_law_249 ?_
          refine lv_topi (fun z114 ez115 => ?_)
          obtain rfl : z114 = nI (6 * k + 1) := ez115.trans (nI_add (6 * k) 1)
          refine va_sld hx hb hXs hbl hbA hS (vp_in_nI (by omega) (by omega)) dL_law_250 ?_
          refine lv_topi (fun x116 ex117 => ?_)
          obtain rfl : x101 = x116 := ex102.trans ex117.symm
          refine lv_aload_n hx hb dL_law_251 rfl (lv_at hl 4 rfl) ?_
          refine lv_iload hx hb dL_law_252 (lv_at hl 0 rfl) ?_
          refine lv_iconst (v := 2) hx hb dL_law_254 (by decide) ?_
          refine lv_iadd hx hb dL_law_255 ?_
          refine lv_topi (fun z118 ez119 => ?_)
          obtain rfl : z118 = nI (6 * k + 2) := ez119.trans (nI_add (6 * k) 2)
          refine va_sld hx hb hXs hbl hbA hS (vp_in_nI (by omega) (by omega)) dL_law_256 ?_
          refine lv_topi (fun x120 ex121 => ?_)
          obtain rfl : x105 = x120 := ex106.trans ex121.symm
          obtain ⟨qr123, fs124, hqr125⟩ := hR.recv
          refine lm_V (G := G) (As := [.int x101, .int x105]) (rest := []) hx hb hml hown hq hE hX pX0_al hP hD hS hA hl.1 (M_type l G q2 a2 tl ni wM x101 x105 hR) (gV pw_2263 pw_2264 pw_2265 pw_1523 pw_1956) hLV_X12_type qr123 9 hqr125 rfl rfl rfl (Nat.le_of_ble_eq_true rfl) dL_law_257 ⟨(by show ce + (0) ≤ 601024; omega), (by show sl + (0) ≤ 7293034; omega)⟩ ⟨Nat.le_of_ble_eq_true rfl, Nat.le_of_ble_eq_true rfl⟩ (fun v126 u127 H locs hw128 hP hD hS => ?_)
          obtain ⟨r122, rfl, hR⟩ := hw128
          refine W.widen (k := ce) (n := sl) (Nat.le_refl _) (Nat.le_refl _) ?_
          refine W.eq (g2 := F0 m 260 ls [.int r122]) rfl ?_
          refine lv_pop hx hb dL_law_260 rfl ?_
          refine lv_goto (tgt := 552) hx hb dL_law_261 (by decide) ?_
          exact at552 tl ni ce sl u112 u127 fo _ _ _ hC hR hP hD hS hl (by omega) (by omega)
        by_cases hsw4 : x0 = 4
        · subst hsw4
          refine lv_tableIn (tgt := 264) (off := 224) hx hb dL_law_40 (by decide) (by decide) (by decide) (by decide) ?_
          refine lv_aload_n hx hb dL_law_264 rfl (lv_at hl 3 rfl) ?_
          refine lv_aload_n hx hb dL_law_265 rfl (lv_at hl 4 rfl) ?_
          refine lv_iload hx hb dL_law_266 (lv_at hl 0 rfl) ?_
          refine lv_iconst (v := 1) hx hb dL_law_268 (by decide) ?_
          refine lv_iadd hx hb dL_law_269 ?_
          refine lv_topi (fun z129 ez130 => ?_)
          obtain rfl : z129 = nI (6 * k + 1) := ez130.trans (nI_add (6 * k) 1)
          refine va_sld hx hb hXs hbl hbA hS (vp_in_nI (by omega) (by omega)) dL_law_270 ?_
          refine lv_topi (fun x131 ex132 => ?_)
          refine lv_aload_n hx hb dL_law_271 rfl (lv_at hl 4 rfl) ?_
          refine lv_iload hx hb dL_law_272 (lv_at hl 0 rfl) ?_
          refine lv_iconst (v := 2) hx hb dL_law_274 (by decide) ?_
          refine lv_iadd hx hb dL_law_275 ?_
          refine lv_topi (fun z133 ez134 => ?_)
          obtain rfl : z133 = nI (6 * k + 2) := ez134.trans (nI_add (6 * k) 2)
          refine va_sld hx hb hXs hbl hbA hS (vp_in_nI (by omega) (by omega)) dL_law_276 ?_
          refine lv_topi (fun x135 ex136 => ?_)
          obtain ⟨qr138, fs139, hqr140⟩ := hC.recv
          refine la_V (G := G) (As := [.int x131, .int x135]) (rest := []) hx hb hml hown hq hE hX pX0_al hP hD hS hA hl.1 (C_above l G q1 a1 tl ni wA x131 x135 hC) (gV pw_2266 pw_2267 pw_2268 pw_1339 pw_1383) hLV_X11_above qr138 8 hqr140 rfl rfl rfl (Nat.le_of_ble_eq_true rfl) dL_law_277 ⟨(by show ce + (0) ≤ 601024; omega), (by show sl + (0) ≤ 7293034; omega)⟩ ⟨Nat.le_of_ble_eq_true rfl, Nat.le_of_ble_eq_true rfl⟩ (fun v141 u142 H locs hw143 hP hD hS => ?_)
          obtain ⟨r137, rfl, hC⟩ := hw143
          refine W.widen (k := ce) (n := sl) (Nat.le_refl _) (Nat.le_refl _) ?_
          refine W.eq (g2 := F0 m 280 ls [.int r137]) rfl ?_
          refine lv_pop hx hb dL_law_280 rfl ?_
          refine lv_aload_n hx hb dL_law_281 rfl (lv_at hl 2 rfl) ?_
          refine lv_aload_n hx hb dL_law_282 rfl (lv_at hl 4 rfl) ?_
          refine lv_iload hx hb dL_law_283 (lv_at hl 0 rfl) ?_
          refine lv_iconst (v := 1) hx hb dL_law_285 (by decide) ?_
          refine lv_iadd hx hb dL_law_286 ?_
          refine lv_topi (fun z144 ez145 => ?_)
          obtain rfl : z144 = nI (6 * k + 1) := ez145.trans (nI_add (6 * k) 1)
          refine va_sld hx hb hXs hbl hbA hS (vp_in_nI (by omega) (by omega)) dL_law_287 ?_
          refine lv_topi (fun x146 ex147 => ?_)
          obtain rfl : x131 = x146 := ex132.trans ex147.symm
          refine lv_aload_n hx hb dL_law_288 rfl (lv_at hl 4 rfl) ?_
          refine lv_iload hx hb dL_law_289 (lv_at hl 0 rfl) ?_
          refine lv_iconst (v := 2) hx hb dL_law_291 (by decide) ?_
          refine lv_iadd hx hb dL_law_292 ?_
          refine lv_topi (fun z148 ez149 => ?_)
          obtain rfl : z148 = nI (6 * k + 2) := ez149.trans (nI_add (6 * k) 2)
          refine va_sld hx hb hXs hbl hbA hS (vp_in_nI (by omega) (by omega)) dL_law_293 ?_
          refine lv_topi (fun x150 ex151 => ?_)
          obtain rfl : x135 = x150 := ex136.trans ex151.symm
          obtain ⟨qr153, fs154, hqr155⟩ := hR.recv
          refine lm_V (G := G) (As := [.int x131, .int x135]) (rest := []) hx hb hml hown hq hE hX pX0_al hP hD hS hA hl.1 (M_above l G q2 a2 tl ni wM x131 x135 hR) (gV pw_2269 pw_2270 pw_2271 pw_1523 pw_1957) hLV_X12_above qr153 9 hqr155 rfl rfl rfl (Nat.le_of_ble_eq_true rfl) dL_law_294 ⟨(by show ce + (0) ≤ 601024; omega), (by show sl + (0) ≤ 7293034; omega)⟩ ⟨Nat.le_of_ble_eq_true rfl, Nat.le_of_ble_eq_true rfl⟩ (fun v156 u157 H locs hw158 hP hD hS => ?_)
          obtain ⟨r152, rfl, hR⟩ := hw158
          refine W.widen (k := ce) (n := sl) (Nat.le_refl _) (Nat.le_refl _) ?_
          refine W.eq (g2 := F0 m 297 ls [.int r152]) rfl ?_
          refine lv_pop hx hb dL_law_297 rfl ?_
          refine lv_goto (tgt := 552) hx hb dL_law_298 (by decide) ?_
          exact at552 tl ni ce sl u142 u157 fo _ _ _ hC hR hP hD hS hl (by omega) (by omega)
        by_cases hsw5 : x0 = 5
        · subst hsw5
          refine lv_tableIn (tgt := 301) (off := 261) hx hb dL_law_40 (by decide) (by decide) (by decide) (by decide) ?_
          refine lv_aload_n hx hb dL_law_301 rfl (lv_at hl 3 rfl) ?_
          refine lv_aload_n hx hb dL_law_302 rfl (lv_at hl 4 rfl) ?_
          refine lv_iload hx hb dL_law_303 (lv_at hl 0 rfl) ?_
          refine lv_iconst (v := 1) hx hb dL_law_305 (by decide) ?_
          refine lv_iadd hx hb dL_law_306 ?_
          refine lv_topi (fun z159 ez160 => ?_)
          obtain rfl : z159 = nI (6 * k + 1) := ez160.trans (nI_add (6 * k) 1)
          refine va_sld hx hb hXs hbl hbA hS (vp_in_nI (by omega) (by omega)) dL_law_307 ?_
          refine lv_topi (fun x161 ex162 => ?_)
          refine lv_aload_n hx hb dL_law_308 rfl (lv_at hl 4 rfl) ?_
          refine lv_iload hx hb dL_law_309 (lv_at hl 0 rfl) ?_
          refine lv_iconst (v := 2) hx hb dL_law_311 (by decide) ?_
          refine lv_iadd hx hb dL_law_312 ?_
          refine lv_topi (fun z163 ez164 => ?_)
          obtain rfl : z163 = nI (6 * k + 2) := ez164.trans (nI_add (6 * k) 2)
          refine va_sld hx hb hXs hbl hbA hS (vp_in_nI (by omega) (by omega)) dL_law_313 ?_
          refine lv_topi (fun x165 ex166 => ?_)
          obtain ⟨qr168, fs169, hqr170⟩ := hC.recv
          refine la_V (G := G) (As := [.int x161, .int x165]) (rest := []) hx hb hml hown hq hE hX pX0_al hP hD hS hA hl.1 (C_letter l G q1 a1 tl ni wA x161 x165 hC) (gV pw_2272 pw_2273 pw_2274 pw_1339 pw_1385) hLV_X11_letter qr168 8 hqr170 rfl rfl rfl (Nat.le_of_ble_eq_true rfl) dL_law_314 ⟨(by show ce + (0) ≤ 601024; omega), (by show sl + (0) ≤ 7293034; omega)⟩ ⟨Nat.le_of_ble_eq_true rfl, Nat.le_of_ble_eq_true rfl⟩ (fun v171 u172 H locs hw173 hP hD hS => ?_)
          obtain ⟨r167, rfl, hC⟩ := hw173
          refine W.widen (k := ce) (n := sl) (Nat.le_refl _) (Nat.le_refl _) ?_
          refine W.eq (g2 := F0 m 317 ls [.int r167]) rfl ?_
          refine lv_pop hx hb dL_law_317 rfl ?_
          refine lv_aload_n hx hb dL_law_318 rfl (lv_at hl 2 rfl) ?_
          refine lv_aload_n hx hb dL_law_319 rfl (lv_at hl 4 rfl) ?_
          refine lv_iload hx hb dL_law_320 (lv_at hl 0 rfl) ?_
          refine lv_iconst (v := 1) hx hb dL_law_322 (by decide) ?_
          refine lv_iadd hx hb dL_law_323 ?_
          refine lv_topi (fun z174 ez175 => ?_)
          obtain rfl : z174 = nI (6 * k + 1) := ez175.trans (nI_add (6 * k) 1)
          refine va_sld hx hb hXs hbl hbA hS (vp_in_nI (by omega) (by omega)) dL_law_324 ?_
          refine lv_topi (fun x176 ex177 => ?_)
          obtain rfl : x161 = x176 := ex162.trans ex177.symm
          refine lv_aload_n hx hb dL_law_325 rfl (lv_at hl 4 rfl) ?_
          refine lv_iload hx hb dL_law_326 (lv_at hl 0 rfl) ?_
          refine lv_iconst (v := 2) hx hb dL_law_328 (by decide) ?_
          refine lv_iadd hx hb dL_law_329 ?_
          refine lv_topi (fun z178 ez179 => ?_)
          obtain rfl : z178 = nI (6 * k + 2) := ez179.trans (nI_add (6 * k) 2)
          refine va_sld hx hb hXs hbl hbA hS (vp_in_nI (by omega) (by omega)) dL_law_330 ?_
          refine lv_topi (fun x180 ex181 => ?_)
          obtain rfl : x165 = x180 := ex166.trans ex181.symm
          obtain ⟨qr183, fs184, hqr185⟩ := hR.recv
          refine lm_V (G := G) (As := [.int x161, .int x165]) (rest := []) hx hb hml hown hq hE hX pX0_al hP hD hS hA hl.1 (M_letter l G q2 a2 tl ni wM x161 x165 hR) (gV pw_2275 pw_2276 pw_2277 pw_1523 pw_1958) hLV_X12_letter qr183 9 hqr185 rfl rfl rfl (Nat.le_of_ble_eq_true rfl) dL_law_331 ⟨(by show ce + (0) ≤ 601024; omega), (by show sl + (0) ≤ 7293034; omega)⟩ ⟨Nat.le_of_ble_eq_true rfl, Nat.le_of_ble_eq_true rfl⟩ (fun v186 u187 H locs hw188 hP hD hS => ?_)
          obtain ⟨r182, rfl, hR⟩ := hw188
          refine W.widen (k := ce) (n := sl) (Nat.le_refl _) (Nat.le_refl _) ?_
          refine W.eq (g2 := F0 m 334 ls [.int r182]) rfl ?_
          refine lv_pop hx hb dL_law_334 rfl ?_
          refine lv_goto (tgt := 552) hx hb dL_law_335 (by decide) ?_
          exact at552 tl ni ce sl u172 u187 fo _ _ _ hC hR hP hD hS hl (by omega) (by omega)
        by_cases hsw6 : x0 = 6
        · subst hsw6
          refine lv_tableIn (tgt := 338) (off := 298) hx hb dL_law_40 (by decide) (by decide) (by decide) (by decide) ?_
          refine lv_aload_n hx hb dL_law_338 rfl (lv_at hl 3 rfl) ?_
          refine lv_aload_n hx hb dL_law_339 rfl (lv_at hl 4 rfl) ?_
          refine lv_iload hx hb dL_law_340 (lv_at hl 0 rfl) ?_
          refine lv_iconst (v := 1) hx hb dL_law_342 (by decide) ?_
          refine lv_iadd hx hb dL_law_343 ?_
          refine lv_topi (fun z189 ez190 => ?_)
          obtain rfl : z189 = nI (6 * k + 1) := ez190.trans (nI_add (6 * k) 1)
          refine va_sld hx hb hXs hbl hbA hS (vp_in_nI (by omega) (by omega)) dL_law_344 ?_
          refine lv_topi (fun x191 ex192 => ?_)
          refine lv_aload_n hx hb dL_law_345 rfl (lv_at hl 4 rfl) ?_
          refine lv_iload hx hb dL_law_346 (lv_at hl 0 rfl) ?_
          refine lv_iconst (v := 2) hx hb dL_law_348 (by decide) ?_
          refine lv_iadd hx hb dL_law_349 ?_
          refine lv_topi (fun z193 ez194 => ?_)
          obtain rfl : z193 = nI (6 * k + 2) := ez194.trans (nI_add (6 * k) 2)
          refine va_sld hx hb hXs hbl hbA hS (vp_in_nI (by omega) (by omega)) dL_law_350 ?_
          refine lv_topi (fun x195 ex196 => ?_)
          obtain ⟨qr198, fs199, hqr200⟩ := hC.recv
          refine la_V (G := G) (As := [.int x191, .int x195]) (rest := []) hx hb hml hown hq hE hX pX0_al hP hD hS hA hl.1 (C_called l G q1 a1 tl ni wA x191 x195 hC) (gV pw_2278 pw_2279 pw_2280 pw_1339 pw_1394) hLV_X11_called qr198 8 hqr200 rfl rfl rfl (Nat.le_of_ble_eq_true rfl) dL_law_351 ⟨(by show ce + (0) ≤ 601024; omega), (by show sl + (0) ≤ 7293034; omega)⟩ ⟨Nat.le_of_ble_eq_true rfl, Nat.le_of_ble_eq_true rfl⟩ (fun v201 u202 H locs hw203 hP hD hS => ?_)
          obtain ⟨r197, rfl, hC⟩ := hw203
          refine W.widen (k := ce) (n := sl) (Nat.le_refl _) (Nat.le_refl _) ?_
          refine W.eq (g2 := F0 m 354 ls [.int r197]) rfl ?_
          refine lv_pop hx hb dL_law_354 rfl ?_
          refine lv_aload_n hx hb dL_law_355 rfl (lv_at hl 2 rfl) ?_
          refine lv_aload_n hx hb dL_law_356 rfl (lv_at hl 4 rfl) ?_
          refine lv_iload hx hb dL_law_357 (lv_at hl 0 rfl) ?_
          refine lv_iconst (v := 1) hx hb dL_law_359 (by decide) ?_
          refine lv_iadd hx hb dL_law_360 ?_
          refine lv_topi (fun z204 ez205 => ?_)
          obtain rfl : z204 = nI (6 * k + 1) := ez205.trans (nI_add (6 * k) 1)
          refine va_sld hx hb hXs hbl hbA hS (vp_in_nI (by omega) (by omega)) dL_law_361 ?_
          refine lv_topi (fun x206 ex207 => ?_)
          obtain rfl : x191 = x206 := ex192.trans ex207.symm
          refine lv_aload_n hx hb dL_law_362 rfl (lv_at hl 4 rfl) ?_
          refine lv_iload hx hb dL_law_363 (lv_at hl 0 rfl) ?_
          refine lv_iconst (v := 2) hx hb dL_law_365 (by decide) ?_
          refine lv_iadd hx hb dL_law_366 ?_
          refine lv_topi (fun z208 ez209 => ?_)
          obtain rfl : z208 = nI (6 * k + 2) := ez209.trans (nI_add (6 * k) 2)
          refine va_sld hx hb hXs hbl hbA hS (vp_in_nI (by omega) (by omega)) dL_law_367 ?_
          refine lv_topi (fun x210 ex211 => ?_)
          obtain rfl : x195 = x210 := ex196.trans ex211.symm
          obtain ⟨qr213, fs214, hqr215⟩ := hR.recv
          refine lm_V (G := G) (As := [.int x191, .int x195]) (rest := []) hx hb hml hown hq hE hX pX0_al hP hD hS hA hl.1 (M_called l G q2 a2 tl ni wM x191 x195 hR) (gV pw_2281 pw_2282 pw_2283 pw_1523 pw_1959) hLV_X12_called qr213 9 hqr215 rfl rfl rfl (Nat.le_of_ble_eq_true rfl) dL_law_368 ⟨(by show ce + (0) ≤ 601024; omega), (by show sl + (0) ≤ 7293034; omega)⟩ ⟨Nat.le_of_ble_eq_true rfl, Nat.le_of_ble_eq_true rfl⟩ (fun v216 u217 H locs hw218 hP hD hS => ?_)
          obtain ⟨r212, rfl, hR⟩ := hw218
          refine W.widen (k := ce) (n := sl) (Nat.le_refl _) (Nat.le_refl _) ?_
          refine W.eq (g2 := F0 m 371 ls [.int r212]) rfl ?_
          refine lv_pop hx hb dL_law_371 rfl ?_
          refine lv_goto (tgt := 552) hx hb dL_law_372 (by decide) ?_
          exact at552 tl ni ce sl u202 u217 fo _ _ _ hC hR hP hD hS hl (by omega) (by omega)
        by_cases hsw7 : x0 = 7
        · subst hsw7
          refine lv_tableIn (tgt := 375) (off := 335) hx hb dL_law_40 (by decide) (by decide) (by decide) (by decide) ?_
          refine lv_aload_n hx hb dL_law_375 rfl (lv_at hl 3 rfl) ?_
          refine lv_aload_n hx hb dL_law_376 rfl (lv_at hl 4 rfl) ?_
          refine lv_iload hx hb dL_law_377 (lv_at hl 0 rfl) ?_
          refine lv_iconst (v := 1) hx hb dL_law_379 (by decide) ?_
          refine lv_iadd hx hb dL_law_380 ?_
          refine lv_topi (fun z219 ez220 => ?_)
          obtain rfl : z219 = nI (6 * k + 1) := ez220.trans (nI_add (6 * k) 1)
          refine va_sld hx hb hXs hbl hbA hS (vp_in_nI (by omega) (by omega)) dL_law_381 ?_
          refine lv_topi (fun x221 ex222 => ?_)
          obtain ⟨qr226, fs227, hqr228⟩ := hC.recv
          refine la_V (G := G) (As := [.int x221]) (rest := []) hx hb hml hown hq hE hX pX0_al hP hD hS hA hl.1 (C_input l G q1 a1 tl ni wA x221 hC) (gV pw_2284 pw_2285 pw_2286 pw_1339 pw_1395) hLV_X11_input qr226 8 hqr228 rfl rfl rfl (Nat.le_of_ble_eq_true rfl) dL_law_382 ⟨(by show ce + (0) ≤ 601024; omega), (by show sl + (0) ≤ 7293034; omega)⟩ ⟨Nat.le_of_ble_eq_true rfl, Nat.le_of_ble_eq_true rfl⟩ (fun v229 u230 H locs hw231 hP hD hS => ?_)
          obtain ⟨m223, r224, rfl, hq225, hC⟩ := hw231
          refine W.widen (k := ce) (n := sl) (Nat.le_refl _) (Nat.le_refl _) ?_
          refine W.eq (g2 := F0 m 385 ls [.int r224]) rfl ?_
          refine lv_pop hx hb dL_law_385 rfl ?_
          refine lv_aload_n hx hb dL_law_386 rfl (lv_at hl 2 rfl) ?_
          refine lv_aload_n hx hb dL_law_387 rfl (lv_at hl 4 rfl) ?_
          refine lv_iload hx hb dL_law_388 (lv_at hl 0 rfl) ?_
          refine lv_iconst (v := 1) hx hb dL_law_390 (by decide) ?_
          refine lv_iadd hx hb dL_law_391 ?_
          refine lv_topi (fun z232 ez233 => ?_)
          obtain rfl : z232 = nI (6 * k + 1) := ez233.trans (nI_add (6 * k) 1)
          refine va_sld hx hb hXs hbl hbA hS (vp_in_nI (by omega) (by omega)) dL_law_392 ?_
          refine lv_topi (fun x234 ex235 => ?_)
          obtain rfl : x221 = x234 := ex222.trans ex235.symm
          obtain ⟨qr239, fs240, hqr241⟩ := hR.recv
          refine lm_V (G := G) (As := [.int x221]) (rest := []) hx hb hml hown hq hE hX pX0_al hP hD hS hA hl.1 (M_input l G q2 a2 tl ni wM x221 hR) (gV pw_2287 pw_2288 pw_2289 pw_1523 pw_1960) hLV_X12_input qr239 9 hqr241 rfl rfl rfl (Nat.le_of_ble_eq_true rfl) dL_law_393 ⟨(by show ce + (0) ≤ 601024; omega), (by show sl + (0) ≤ 7293034; omega)⟩ ⟨Nat.le_of_ble_eq_true rfl, Nat.le_of_ble_eq_true rfl⟩ (fun v242 u243 H locs hw244 hP hD hS => ?_)
          obtain ⟨m236, r237, rfl, hq238, hR⟩ := hw244
          refine W.widen (k := ce) (n := sl) (Nat.le_refl _) (Nat.le_refl _) ?_
          refine W.eq (g2 := F0 m 396 ls [.int r237]) rfl ?_
          obtain ⟨rfl, rfl⟩ := InQ.fn hq225 hq238
          refine lv_pop hx hb dL_law_396 rfl ?_
          refine lv_goto (tgt := 552) hx hb dL_law_397 (by decide) ?_
          exact at552 tl m223 ce sl u230 u243 fo _ _ _ hC hR hP hD hS hl (by omega) (by omega)
        by_cases hsw8 : x0 = 8
        · subst hsw8
          refine lv_tableIn (tgt := 400) (off := 360) hx hb dL_law_40 (by decide) (by decide) (by decide) (by decide) ?_
          refine lv_aload_n hx hb dL_law_400 rfl (lv_at hl 3 rfl) ?_
          obtain ⟨qr246, fs247, hqr248⟩ := hC.recv
          refine la_V (G := G) (As := []) (rest := []) hx hb hml hown hq hE hX pX0_al hP hD hS hA hl.1 (C_forget l G q1 a1 tl ni wA hC) (gV pw_2290 pw_2291 pw_2292 pw_1339 pw_1399) hLV_X11_forget qr246 8 hqr248 rfl rfl rfl (Nat.le_of_ble_eq_true rfl) dL_law_401 ⟨(by show ce + (0) ≤ 601024; omega), (by show sl + (0) ≤ 7293034; omega)⟩ ⟨Nat.le_of_ble_eq_true rfl, Nat.le_of_ble_eq_true rfl⟩ (fun v249 u250 H locs hw251 hP hD hS => ?_)
          obtain ⟨rfl, hC⟩ := hw251
          refine W.widen (k := ce) (n := sl) (Nat.le_refl _) (Nat.le_refl _) ?_
          refine W.eq (g2 := F0 m 404 ls []) rfl ?_
          refine lv_aload_n hx hb dL_law_404 rfl (lv_at hl 2 rfl) ?_
          obtain ⟨qr253, fs254, hqr255⟩ := hR.recv
          refine lm_V (G := G) (As := []) (rest := []) hx hb hml hown hq hE hX pX0_al hP hD hS hA hl.1 (M_forget l G q2 a2 tl ni wM hR) (gV pw_2293 pw_2294 pw_2295 pw_1523 pw_1962) hLV_X12_forget qr253 9 hqr255 rfl rfl rfl (Nat.le_of_ble_eq_true rfl) dL_law_405 ⟨(by show ce + (0) ≤ 601024; omega), (by show sl + (0) ≤ 7293034; omega)⟩ ⟨Nat.le_of_ble_eq_true rfl, Nat.le_of_ble_eq_true rfl⟩ (fun v256 u257 H locs hw258 hP hD hS => ?_)
          obtain ⟨rfl, hR⟩ := hw258
          refine W.widen (k := ce) (n := sl) (Nat.le_refl _) (Nat.le_refl _) ?_
          refine W.eq (g2 := F0 m 408 ls []) rfl ?_
          refine lv_goto (tgt := 552) hx hb dL_law_408 (by decide) ?_
          exact at552 tl 0 ce sl u250 u257 fo _ _ _ hC hR hP hD hS hl (by omega) (by omega)
        by_cases hsw9 : x0 = 9
        · subst hsw9
          refine lv_tableIn (tgt := 411) (off := 371) hx hb dL_law_40 (by decide) (by decide) (by decide) (by decide) ?_
          refine lv_aload_n hx hb dL_law_411 rfl (lv_at hl 3 rfl) ?_
          refine lv_aload_n hx hb dL_law_412 rfl (lv_at hl 4 rfl) ?_
          refine lv_iload hx hb dL_law_413 (lv_at hl 0 rfl) ?_
          refine lv_iconst (v := 1) hx hb dL_law_415 (by decide) ?_
          refine lv_iadd hx hb dL_law_416 ?_
          refine lv_topi (fun z259 ez260 => ?_)
          obtain rfl : z259 = nI (6 * k + 1) := ez260.trans (nI_add (6 * k) 1)
          refine va_sld hx hb hXs hbl hbA hS (vp_in_nI (by omega) (by omega)) dL_law_417 ?_
          refine lv_topi (fun x261 ex262 => ?_)
          refine lv_aload_n hx hb dL_law_418 rfl (lv_at hl 4 rfl) ?_
          refine lv_iload hx hb dL_law_419 (lv_at hl 0 rfl) ?_
          refine lv_iconst (v := 2) hx hb dL_law_421 (by decide) ?_
          refine lv_iadd hx hb dL_law_422 ?_
          refine lv_topi (fun z263 ez264 => ?_)
          obtain rfl : z263 = nI (6 * k + 2) := ez264.trans (nI_add (6 * k) 2)
          refine va_sld hx hb hXs hbl hbA hS (vp_in_nI (by omega) (by omega)) dL_law_423 ?_
          refine lv_topi (fun x265 ex266 => ?_)
          refine lv_aload_n hx hb dL_law_424 rfl (lv_at hl 1 rfl) ?_
          refine lo_SW (G := G) (As := [.ref q1, .int x261, .int x265, .ref o]) (rest := []) hx hb hml hown hq hE hX pX0_al hP hD hS hA hl.1 (C_Lrun l G q1 a1 tl ni wA x261 x265 o fo hC hl0) (gS pw_2296 pw_2297 pw_2298 pw_2233) hLS_L_run rfl (Nat.le_of_ble_eq_true rfl) dL_law_425 ⟨(by show ce + 1 ≤ 601024; omega), (by show sl + 6 ≤ 7293034; omega)⟩ ⟨Nat.le_of_ble_eq_true rfl, Nat.le_of_ble_eq_true rfl⟩ (fun v269 u268 H locs hw270 hP hD hS => ?_)
          obtain ⟨wB, fp⟩ := u268
          obtain ⟨⟨r267, rfl⟩, hC⟩ := hw270
          refine W.widen (k := (ce + 1)) (n := (sl + 6)) (Nat.le_refl _) (Nat.le_refl _) ?_
          have hP : va_P G.1 pCl ((wB ++ [(o, .inl (G.2.1 2, 1, .inr (.inl fp)))]) ++ wM) H := hP
          have hD : va_D A ((wB ++ [(o, .inl (G.2.1 2, 1, .inr (.inl fp)))]) ++ wM) := hD
          refine W.eq (g2 := F0 m 428 ls [.int r267]) rfl ?_
          refine lv_istore (lv' := [(5, .int r267), (4, .int (nI (6 * k))), (3, .ref o), (2, .ref q2), (1, .ref q1), (0, .ref b)]) hx hb dL_law_428 hl (by decide) rfl (fun ls hl => ?_)
          refine lv_aload_n hx hb dL_law_430 rfl (lv_at hl 3 rfl) ?_
          refine lv_aload_n hx hb dL_law_431 rfl (lv_at hl 5 rfl) ?_
          refine lv_iload hx hb dL_law_432 (lv_at hl 1 rfl) ?_
          refine lv_iconst (v := 1) hx hb dL_law_434 (by decide) ?_
          refine lv_iadd hx hb dL_law_435 ?_
          refine lv_topi (fun z271 ez272 => ?_)
          obtain rfl : z271 = nI (6 * k + 1) := ez272.trans (nI_add (6 * k) 1)
          refine va_sld hx hb hXs hbl hbA hS (vp_in_nI (by omega) (by omega)) dL_law_436 ?_
          refine lv_topi (fun x273 ex274 => ?_)
          obtain rfl : x261 = x273 := ex262.trans ex274.symm
          refine lv_aload_n hx hb dL_law_437 rfl (lv_at hl 5 rfl) ?_
          refine lv_iload hx hb dL_law_438 (lv_at hl 1 rfl) ?_
          refine lv_iconst (v := 2) hx hb dL_law_440 (by decide) ?_
          refine lv_iadd hx hb dL_law_441 ?_
          refine lv_topi (fun z275 ez276 => ?_)
          obtain rfl : z275 = nI (6 * k + 2) := ez276.trans (nI_add (6 * k) 2)
          refine va_sld hx hb hXs hbl hbA hS (vp_in_nI (by omega) (by omega)) dL_law_442 ?_
          refine lv_topi (fun x277 ex278 => ?_)
          obtain rfl : x265 = x277 := ex266.trans ex278.symm
          obtain ⟨qr280, fs281, hqr282⟩ := hR.recv
          refine lm_V (G := G) (As := [.int x261, .int x265]) (rest := []) hx hb hml hown hq hE hX pX0_al hP hD hS hA hl.1 (M_run l G q2 a2 tl ni wM x261 x265 hR) (gV pw_2299 pw_2300 pw_2301 pw_1523 pw_2138) hLV_X12_run qr280 9 hqr282 rfl rfl rfl (Nat.le_of_ble_eq_true rfl) dL_law_443 ⟨(by show (ce + 1) + (0) ≤ 601024; omega), (by show (sl + 6) + (0) ≤ 7293034; omega)⟩ ⟨Nat.le_of_ble_eq_true rfl, Nat.le_of_ble_eq_true rfl⟩ (fun v283 u284 H locs hw285 hP hD hS => ?_)
          obtain ⟨r279, rfl, hR⟩ := hw285
          refine W.widen (k := (ce + 1)) (n := (sl + 6)) (Nat.le_refl _) (Nat.le_refl _) ?_
          refine W.eq (g2 := F0 m 446 ls [.int r279]) rfl ?_
          refine lv_istore (lv' := [(6, .int r279), (5, .int r267), (4, .int (nI (6 * k))), (3, .ref o), (2, .ref q2), (1, .ref q1), (0, .ref b)]) hx hb dL_law_446 hl (by decide) rfl (fun ls hl => ?_)
          refine lv_goto (tgt := 552) hx hb dL_law_448 (by decide) ?_
          exact at552 tl ni (ce + 1) (sl + 6) wB u284 fp _ _ _ hC hR hP hD hS (lv_sub hl [2, 3, 4, 5, 6] rfl) (by omega) (by omega)
        by_cases hsw10 : x0 = 10
        · subst hsw10
          refine lv_tableIn (tgt := 451) (off := 411) hx hb dL_law_40 (by decide) (by decide) (by decide) (by decide) ?_
          refine lv_aload_n hx hb dL_law_451 rfl (lv_at hl 3 rfl) ?_
          obtain ⟨qr287, fs288, hqr289⟩ := hC.recv
          refine la_V (G := G) (As := []) (rest := []) hx hb hml hown hq hE hX pX0_al hP hD hS hA hl.1 (C_result l G q1 a1 tl ni wA hC) (gV pw_2302 pw_2303 pw_2304 pw_1339 pw_1410) hLV_X11_result qr287 8 hqr289 rfl rfl rfl (Nat.le_of_ble_eq_true rfl) dL_law_452 ⟨(by show ce + (0) ≤ 601024; omega), (by show sl + (0) ≤ 7293034; omega)⟩ ⟨Nat.le_of_ble_eq_true rfl, Nat.le_of_ble_eq_true rfl⟩ (fun v290 u291 H locs hw292 hP hD hS => ?_)
          obtain ⟨r286, rfl, hC⟩ := hw292
          refine W.widen (k := ce) (n := sl) (Nat.le_refl _) (Nat.le_refl _) ?_
          refine W.eq (g2 := F0 m 455 ls [.int r286]) rfl ?_
          refine lv_pop hx hb dL_law_455 rfl ?_
          refine lv_aload_n hx hb dL_law_456 rfl (lv_at hl 2 rfl) ?_
          obtain ⟨qr294, fs295, hqr296⟩ := hR.recv
          refine lm_V (G := G) (As := []) (rest := []) hx hb hml hown hq hE hX pX0_al hP hD hS hA hl.1 (M_result l G q2 a2 tl ni wM hR) (gV pw_2305 pw_2306 pw_2307 pw_1523 pw_2139) hLV_X12_result qr294 9 hqr296 rfl rfl rfl (Nat.le_of_ble_eq_true rfl) dL_law_457 ⟨(by show ce + (0) ≤ 601024; omega), (by show sl + (0) ≤ 7293034; omega)⟩ ⟨Nat.le_of_ble_eq_true rfl, Nat.le_of_ble_eq_true rfl⟩ (fun v297 u298 H locs hw299 hP hD hS => ?_)
          obtain ⟨r293, rfl, hR⟩ := hw299
          refine W.widen (k := ce) (n := sl) (Nat.le_refl _) (Nat.le_refl _) ?_
          refine W.eq (g2 := F0 m 460 ls [.int r293]) rfl ?_
          refine lv_pop hx hb dL_law_460 rfl ?_
          refine lv_goto (tgt := 552) hx hb dL_law_461 (by decide) ?_
          exact at552 tl ni ce sl u291 u298 fo _ _ _ hC hR hP hD hS hl (by omega) (by omega)
        by_cases hsw11 : x0 = 11
        · subst hsw11
          refine lv_tableIn (tgt := 464) (off := 424) hx hb dL_law_40 (by decide) (by decide) (by decide) (by decide) ?_
          refine lv_aload_n hx hb dL_law_464 rfl (lv_at hl 3 rfl) ?_
          refine lv_aload_n hx hb dL_law_465 rfl (lv_at hl 4 rfl) ?_
          refine lv_iload hx hb dL_law_466 (lv_at hl 0 rfl) ?_
          refine lv_iconst (v := 1) hx hb dL_law_468 (by decide) ?_
          refine lv_iadd hx hb dL_law_469 ?_
          refine lv_topi (fun z300 ez301 => ?_)
          obtain rfl : z300 = nI (6 * k + 1) := ez301.trans (nI_add (6 * k) 1)
          refine va_sld hx hb hXs hbl hbA hS (vp_in_nI (by omega) (by omega)) dL_law_470 ?_
          refine lv_topi (fun x302 ex303 => ?_)
          obtain ⟨qr305, fs306, hqr307⟩ := hC.recv
          refine la_V (G := G) (As := [.int x302]) (rest := []) hx hb hml hown hq hE hX pX0_al hP hD hS hA hl.1 (C_output l G q1 a1 tl ni wA x302 hC) (gV pw_2308 pw_2309 pw_2310 pw_1339 pw_1412) hLV_X11_output qr305 8 hqr307 rfl rfl rfl (Nat.le_of_ble_eq_true rfl) dL_law_471 ⟨(by show ce + (0) ≤ 601024; omega), (by show sl + (0) ≤ 7293034; omega)⟩ ⟨Nat.le_of_ble_eq_true rfl, Nat.le_of_ble_eq_true rfl⟩ (fun v308 u309 H locs hw310 hP hD hS => ?_)
          obtain ⟨r304, rfl, hC⟩ := hw310
          refine W.widen (k := ce) (n := sl) (Nat.le_refl _) (Nat.le_refl _) ?_
          refine W.eq (g2 := F0 m 474 ls [.int r304]) rfl ?_
          refine lv_pop hx hb dL_law_474 rfl ?_
          refine lv_aload_n hx hb dL_law_475 rfl (lv_at hl 2 rfl) ?_
          refine lv_aload_n hx hb dL_law_476 rfl (lv_at hl 4 rfl) ?_
          refine lv_iload hx hb dL_law_477 (lv_at hl 0 rfl) ?_
          refine lv_iconst (v := 1) hx hb dL_law_479 (by decide) ?_
          refine lv_iadd hx hb dL_law_480 ?_
          refine lv_topi (fun z311 ez312 => ?_)
          obtain rfl : z311 = nI (6 * k + 1) := ez312.trans (nI_add (6 * k) 1)
          refine va_sld hx hb hXs hbl hbA hS (vp_in_nI (by omega) (by omega)) dL_law_481 ?_
          refine lv_topi (fun x313 ex314 => ?_)
          obtain rfl : x302 = x313 := ex303.trans ex314.symm
          obtain ⟨qr316, fs317, hqr318⟩ := hR.recv
          refine lm_V (G := G) (As := [.int x302]) (rest := []) hx hb hml hown hq hE hX pX0_al hP hD hS hA hl.1 (M_output l G q2 a2 tl ni wM x302 hR) (gV pw_2311 pw_2312 pw_2313 pw_1523 pw_2140) hLV_X12_output qr316 9 hqr318 rfl rfl rfl (Nat.le_of_ble_eq_true rfl) dL_law_482 ⟨(by show ce + (0) ≤ 601024; omega), (by show sl + (0) ≤ 7293034; omega)⟩ ⟨Nat.le_of_ble_eq_true rfl, Nat.le_of_ble_eq_true rfl⟩ (fun v319 u320 H locs hw321 hP hD hS => ?_)
          obtain ⟨r315, rfl, hR⟩ := hw321
          refine W.widen (k := ce) (n := sl) (Nat.le_refl _) (Nat.le_refl _) ?_
          refine W.eq (g2 := F0 m 485 ls [.int r315]) rfl ?_
          refine lv_pop hx hb dL_law_485 rfl ?_
          refine lv_goto (tgt := 552) hx hb dL_law_486 (by decide) ?_
          exact at552 tl ni ce sl u309 u320 fo _ _ _ hC hR hP hD hS hl (by omega) (by omega)
        by_cases hsw12 : x0 = 12
        · subst hsw12
          refine lv_tableIn (tgt := 489) (off := 449) hx hb dL_law_40 (by decide) (by decide) (by decide) (by decide) ?_
          refine lv_aload_n hx hb dL_law_489 rfl (lv_at hl 3 rfl) ?_
          refine lv_aload_n hx hb dL_law_490 rfl (lv_at hl 4 rfl) ?_
          refine lv_iload hx hb dL_law_491 (lv_at hl 0 rfl) ?_
          refine lv_iconst (v := 1) hx hb dL_law_493 (by decide) ?_
          refine lv_iadd hx hb dL_law_494 ?_
          refine lv_topi (fun z322 ez323 => ?_)
          obtain rfl : z322 = nI (6 * k + 1) := ez323.trans (nI_add (6 * k) 1)
          refine va_sld hx hb hXs hbl hbA hS (vp_in_nI (by omega) (by omega)) dL_law_495 ?_
          refine lv_topi (fun x324 ex325 => ?_)
          obtain ⟨qr327, fs328, hqr329⟩ := hC.recv
          refine la_V (G := G) (As := [.int x324]) (rest := []) hx hb hml hown hq hE hX pX0_al hP hD hS hA hl.1 (C_thrown l G q1 a1 tl ni wA x324 hC) (gV pw_2314 pw_2315 pw_2316 pw_1339 pw_1419) hLV_X11_thrown qr327 8 hqr329 rfl rfl rfl (Nat.le_of_ble_eq_true rfl) dL_law_496 ⟨(by show ce + (0) ≤ 601024; omega), (by show sl + (0) ≤ 7293034; omega)⟩ ⟨Nat.le_of_ble_eq_true rfl, Nat.le_of_ble_eq_true rfl⟩ (fun v330 u331 H locs hw332 hP hD hS => ?_)
          obtain ⟨r326, rfl, hC⟩ := hw332
          refine W.widen (k := ce) (n := sl) (Nat.le_refl _) (Nat.le_refl _) ?_
          refine W.eq (g2 := F0 m 499 ls [.int r326]) rfl ?_
          refine lv_pop hx hb dL_law_499 rfl ?_
          refine lv_aload_n hx hb dL_law_500 rfl (lv_at hl 2 rfl) ?_
          refine lv_aload_n hx hb dL_law_501 rfl (lv_at hl 4 rfl) ?_
          refine lv_iload hx hb dL_law_502 (lv_at hl 0 rfl) ?_
          refine lv_iconst (v := 1) hx hb dL_law_504 (by decide) ?_
          refine lv_iadd hx hb dL_law_505 ?_
          refine lv_topi (fun z333 ez334 => ?_)
          obtain rfl : z333 = nI (6 * k + 1) := ez334.trans (nI_add (6 * k) 1)
          refine va_sld hx hb hXs hbl hbA hS (vp_in_nI (by omega) (by omega)) dL_law_506 ?_
          refine lv_topi (fun x335 ex336 => ?_)
          obtain rfl : x324 = x335 := ex325.trans ex336.symm
          obtain ⟨qr338, fs339, hqr340⟩ := hR.recv
          refine lm_V (G := G) (As := [.int x324]) (rest := []) hx hb hml hown hq hE hX pX0_al hP hD hS hA hl.1 (M_thrown l G q2 a2 tl ni wM x324 hR) (gV pw_2317 pw_2318 pw_2319 pw_1523 pw_2141) hLV_X12_thrown qr338 9 hqr340 rfl rfl rfl (Nat.le_of_ble_eq_true rfl) dL_law_507 ⟨(by show ce + (0) ≤ 601024; omega), (by show sl + (0) ≤ 7293034; omega)⟩ ⟨Nat.le_of_ble_eq_true rfl, Nat.le_of_ble_eq_true rfl⟩ (fun v341 u342 H locs hw343 hP hD hS => ?_)
          obtain ⟨r337, rfl, hR⟩ := hw343
          refine W.widen (k := ce) (n := sl) (Nat.le_refl _) (Nat.le_refl _) ?_
          refine W.eq (g2 := F0 m 510 ls [.int r337]) rfl ?_
          refine lv_pop hx hb dL_law_510 rfl ?_
          refine lv_goto (tgt := 552) hx hb dL_law_511 (by decide) ?_
          exact at552 tl ni ce sl u331 u342 fo _ _ _ hC hR hP hD hS hl (by omega) (by omega)
        by_cases hsw13 : x0 = 13
        · subst hsw13
          refine lv_tableIn (tgt := 514) (off := 474) hx hb dL_law_40 (by decide) (by decide) (by decide) (by decide) ?_
          refine lv_aload_n hx hb dL_law_514 rfl (lv_at hl 3 rfl) ?_
          refine lv_aload_n hx hb dL_law_515 rfl (lv_at hl 4 rfl) ?_
          refine lv_iload hx hb dL_law_516 (lv_at hl 0 rfl) ?_
          refine lv_iconst (v := 1) hx hb dL_law_518 (by decide) ?_
          refine lv_iadd hx hb dL_law_519 ?_
          refine lv_topi (fun z344 ez345 => ?_)
          obtain rfl : z344 = nI (6 * k + 1) := ez345.trans (nI_add (6 * k) 1)
          refine va_sld hx hb hXs hbl hbA hS (vp_in_nI (by omega) (by omega)) dL_law_520 ?_
          refine lv_topi (fun x346 ex347 => ?_)
          obtain ⟨qr349, fs350, hqr351⟩ := hC.recv
          refine la_V (G := G) (As := [.int x346]) (rest := []) hx hb hml hown hq hE hX pX0_al hP hD hS hA hl.1 (C_count l G q1 a1 tl ni wA x346 hC) (gV pw_2320 pw_2321 pw_2322 pw_1339 pw_1420) hLV_X11_count qr349 8 hqr351 rfl rfl rfl (Nat.le_of_ble_eq_true rfl) dL_law_521 ⟨(by show ce + (0) ≤ 601024; omega), (by show sl + (0) ≤ 7293034; omega)⟩ ⟨Nat.le_of_ble_eq_true rfl, Nat.le_of_ble_eq_true rfl⟩ (fun v352 u353 H locs hw354 hP hD hS => ?_)
          obtain ⟨r348, rfl, hC⟩ := hw354
          refine W.widen (k := ce) (n := sl) (Nat.le_refl _) (Nat.le_refl _) ?_
          refine W.eq (g2 := F0 m 524 ls [.int r348]) rfl ?_
          refine lv_pop hx hb dL_law_524 rfl ?_
          refine lv_aload_n hx hb dL_law_525 rfl (lv_at hl 2 rfl) ?_
          refine lv_aload_n hx hb dL_law_526 rfl (lv_at hl 4 rfl) ?_
          refine lv_iload hx hb dL_law_527 (lv_at hl 0 rfl) ?_
          refine lv_iconst (v := 1) hx hb dL_law_529 (by decide) ?_
          refine lv_iadd hx hb dL_law_530 ?_
          refine lv_topi (fun z355 ez356 => ?_)
          obtain rfl : z355 = nI (6 * k + 1) := ez356.trans (nI_add (6 * k) 1)
          refine va_sld hx hb hXs hbl hbA hS (vp_in_nI (by omega) (by omega)) dL_law_531 ?_
          refine lv_topi (fun x357 ex358 => ?_)
          obtain rfl : x346 = x357 := ex347.trans ex358.symm
          obtain ⟨qr360, fs361, hqr362⟩ := hR.recv
          refine lm_V (G := G) (As := [.int x346]) (rest := []) hx hb hml hown hq hE hX pX0_al hP hD hS hA hl.1 (M_count l G q2 a2 tl ni wM x346 hR) (gV pw_2323 pw_2324 pw_2325 pw_1523 pw_2142) hLV_X12_count qr360 9 hqr362 rfl rfl rfl (Nat.le_of_ble_eq_true rfl) dL_law_532 ⟨(by show ce + (0) ≤ 601024; omega), (by show sl + (0) ≤ 7293034; omega)⟩ ⟨Nat.le_of_ble_eq_true rfl, Nat.le_of_ble_eq_true rfl⟩ (fun v363 u364 H locs hw365 hP hD hS => ?_)
          obtain ⟨r359, rfl, hR⟩ := hw365
          refine W.widen (k := ce) (n := sl) (Nat.le_refl _) (Nat.le_refl _) ?_
          refine W.eq (g2 := F0 m 535 ls [.int r359]) rfl ?_
          refine lv_pop hx hb dL_law_535 rfl ?_
          refine lv_goto (tgt := 552) hx hb dL_law_536 (by decide) ?_
          exact at552 tl ni ce sl u353 u364 fo _ _ _ hC hR hP hD hS hl (by omega) (by omega)
        by_cases hsw14 : x0 = 14
        · subst hsw14
          refine lv_tableIn (tgt := 539) (off := 499) hx hb dL_law_40 (by decide) (by decide) (by decide) (by decide) ?_
          refine lv_aload_n hx hb dL_law_539 rfl (lv_at hl 3 rfl) ?_
          obtain ⟨qr366, fs367, hqr368⟩ := hC.recv
          refine la_V (G := G) (As := []) (rest := []) hx hb hml hown hq hE hX pX0_al hP hD hS hA hl.1 (C_refusals l G q1 a1 tl ni wA hC) (gV pw_2326 pw_2327 pw_2328 pw_1339 pw_1427) hLV_X11_refusals qr366 8 hqr368 rfl rfl rfl (Nat.le_of_ble_eq_true rfl) dL_law_540 ⟨(by show ce + (0) ≤ 601024; omega), (by show sl + (0) ≤ 7293034; omega)⟩ ⟨Nat.le_of_ble_eq_true rfl, Nat.le_of_ble_eq_true rfl⟩ (fun v369 u370 H locs hw371 hP hD hS => ?_)
          obtain ⟨rfl, hC⟩ := hw371
          refine W.widen (k := ce) (n := sl) (Nat.le_refl _) (Nat.le_refl _) ?_
          refine W.eq (g2 := F0 m 543 ls [.int 0]) rfl ?_
          refine lv_aload_n hx hb dL_law_543 rfl (lv_at hl 2 rfl) ?_
          obtain ⟨qr372, fs373, hqr374⟩ := hR.recv
          refine lm_V (G := G) (As := []) (rest := [.int 0]) hx hb hml hown hq hE hX pX0_al hP hD hS hA hl.1 (M_refusals l G q2 a2 tl ni wM hR) (gV pw_2329 pw_2330 pw_2331 pw_1523 pw_2143) hLV_X12_refusals qr372 9 hqr374 rfl rfl rfl (Nat.le_of_ble_eq_true rfl) dL_law_544 ⟨(by show ce + (0) ≤ 601024; omega), (by show sl + (0) ≤ 7293034; omega)⟩ ⟨Nat.le_of_ble_eq_true rfl, Nat.le_of_ble_eq_true rfl⟩ (fun v375 u376 H locs hw377 hP hD hS => ?_)
          obtain ⟨rfl, hR⟩ := hw377
          refine W.widen (k := ce) (n := sl) (Nat.le_refl _) (Nat.le_refl _) ?_
          refine W.eq (g2 := F0 m 547 ls [.int 0, .int 0]) rfl ?_
          refine lv_icmp_eq (tgt := 552) hx hb dL_law_547 (by decide) (fun _ => ?_) (fun c9 => absurd rfl c9)
          exact at552 tl ni ce sl u370 u376 fo _ _ _ hC hR hP hD hS hl (by omega) (by omega)
        refine lv_tableOut (tgt := 552) hx hb dL_law_40 (sw_law hsw0 hsw1 hsw2 hsw3 hsw4 hsw5 hsw6 hsw7 hsw8 hsw9 hsw10 hsw11 hsw12 hsw13 hsw14) (by decide) ?_
        exact at552 tl ni ce sl wA wM fo _ _ _ hC hR hP hD hS hl (by omega) (by omega)
  refine va_new (ci := 8) (fs := [.null, .int 0, .null, .null, .null, .null, .null, .null]) (C := RX11) (T := TX11) (N := 8) hx hb hq pin_wsX110 tyX11 tyX11_ok hown (hq _ pw_2234) (hq _ pw_2235) (hq _ pw_1339) hE.1.1 hP hD hS hA rfl nw_X11 (Nat.le_of_ble_eq_true rfl) (Nat.le_of_ble_eq_true rfl) dL_law_0 (fun q1 H hP hD hS => ?_)
  refine W.widen (k := 1) (n := 8) (Nat.le_of_ble_eq_true rfl) (Nat.le_of_ble_eq_true rfl) ?_
  refine lv_dup hx hb dL_law_3 rfl ?_
  refine pc_I (G := G) (As := []) (rest := [.ref q1]) (wr := []) hx hb hml hown hq hE hX pX0_al hP hD hS hA hl.1 (c_JT_initX l G q1) pw_2238 pw_2239 pw_1339 pw_1332 rfl hLS_X11_init [0] [] rfl rfl (by decide) (by decide) (by decide) rfl (Nat.le_of_ble_eq_true rfl) dL_law_4 ⟨Nat.le_of_ble_eq_true rfl, Nat.le_of_ble_eq_true rfl⟩ ⟨Nat.le_of_ble_eq_true rfl, Nat.le_of_ble_eq_true rfl⟩ (fun v9 u9 H locs hw9 hP hD hS => ?_)
  obtain ⟨hw9, hLo⟩ := hw9
  obtain rfl : v9 = none := hw9
  have hP : va_P G.1 pCl (sgl0 G q1 u9.1 (u9.2.1 0) (u9.2.2 0) (u9.2.2 1)) H := hP
  have hD : va_D A (sgl0 G q1 u9.1 (u9.2.1 0) (u9.2.2 0) (u9.2.2 1)) := hD
  have hC := InC.init hD hLo
  clear hLo
  generalize u9.1 = a1 at hP hD hC
  generalize u9.2.1 0 = bt at hP hD hC
  generalize u9.2.2 0 = j0 at hP hD hC
  generalize u9.2.2 1 = j1 at hP hD hC
  generalize sgl0 G q1 a1 bt j0 j1 = wA at hP hD hC
  refine W.widen (k := 37) (n := 125317) (Nat.le_of_ble_eq_true rfl) (Nat.le_of_ble_eq_true rfl) ?_
  refine W.eq (g2 := F0 m 7 ls [.ref q1]) rfl ?_
  refine lv_astore_n (lv' := [(1, .ref q1), (0, .ref b)]) hx hb dL_law_7 rfl hl (by decide) rfl (fun ls hl => ?_)
  refine va_new (ci := 9) (fs := [.int 0, .null, .int 0, .null, .int 0, .null, .null, .null, .null, .int 0, .null, .null, .null, .int 0, .int 0, .int 0, .int 0, .null, .null, .null, .null, .null, .null, .null, .null, .null, .null, .int 0, .null, .null, .null, .int 0, .null, .null, .int 0, .int 0, .null, .null, .null, .null, .null, .null, .null, .null, .int 0, .null, .null, .null, .null, .int 0, .null, .null, .null, .null, .null, .null, .null, .null, .null, .int 0, .int 0, .null, .null, .null, .int 0, .int 0, .int 0, .int 0, .int 0, .int 0, .int 0, .null, .null, .int 0, .int 0, .int 0, .int 0, .int 0, .int 0, .int 0, .int 0, .int 0, .int 0, .int 0, .null, .int 0, .null, .int 0, .null, .null, .null, .null, .null, .null, .null, .null, .null, .int 0, .int 0, .int 0, .null, .int 0, .int 0, .null, .null, .null, .null, .null, .null, .null, .null, .int 0, .null, .null, .null, .int 0, .int 0, .int 0, .int 0, .int 0, .int 0, .int 0, .int 0, .int 0, .int 0, .int 0, .int 0, .null, .int 0, .null, .int 0, .null, .null, .null]) (C := RX12) (T := TX12) (N := 134) hx hb hq pin_wsX120 tyX12 tyX12_ok hown (hq _ pw_2236) (hq _ pw_2237) (hq _ pw_1523) hE.1.1 hP hD hS hA rfl nw_X12 (Nat.le_of_ble_eq_true rfl) (Nat.le_of_ble_eq_true rfl) dL_law_8 (fun q2 H hP hD hS => ?_)
  refine W.widen (k := 38) (n := 125451) (Nat.le_of_ble_eq_true rfl) (Nat.le_of_ble_eq_true rfl) ?_
  refine lv_dup hx hb dL_law_11 rfl ?_
  refine lw_I (G := G) (As := []) (rest := [.ref q2]) (wc := [(q2, .inr (9, [.int 0, .null, .int 0, .null, .int 0, .null, .null, .null, .null, .int 0, .null, .null, .null, .int 0, .int 0, .int 0, .int 0, .null, .null, .null, .null, .null, .null, .null, .null, .null, .null, .int 0, .null, .null, .null, .int 0, .null, .null, .int 0, .int 0, .null, .null, .null, .null, .null, .null, .null, .null, .int 0, .null, .null, .null, .null, .int 0, .null, .null, .null, .null, .null, .null, .null, .null, .null, .int 0, .int 0, .null, .null, .null, .int 0, .int 0, .int 0, .int 0, .int 0, .int 0, .int 0, .null, .null, .int 0, .int 0, .int 0, .int 0, .int 0, .int 0, .int 0, .int 0, .int 0, .int 0, .int 0, .null, .int 0, .null, .int 0, .null, .null, .null, .null, .null, .null, .null, .null, .null, .int 0, .int 0, .int 0, .null, .int 0, .int 0, .null, .null, .null, .null, .null, .null, .null, .null, .int 0, .null, .null, .null, .int 0, .int 0, .int 0, .int 0, .int 0, .int 0, .int 0, .int 0, .int 0, .int 0, .int 0, .int 0, .null, .int 0, .null, .int 0, .null, .null, .null]))]) (wr := wA) hx hb hml hown hq hE hX pX0_al (sw_P hP) (sw_D hD) hS hA hl.1 (c_Model_init l G q2) pw_2240 pw_2241 pw_1523 pw_1512 rfl hLS_X12_init rfl (Nat.le_of_ble_eq_true rfl) dL_law_12 ⟨Nat.le_of_ble_eq_true rfl, Nat.le_of_ble_eq_true rfl⟩ ⟨Nat.le_of_ble_eq_true rfl, Nat.le_of_ble_eq_true rfl⟩ (fun v8 a2 H locs hw8 hP hD hS => ?_)
  obtain rfl : v8 = none := hw8
  have hP : va_P G.1 pCl ((mW G q2 a2 (upd (fun _ => 0) 116 (-1)) (fun _ _ => 0)) ++ wA) H := hP
  have hD : va_D A ((mW G q2 a2 (upd (fun _ => 0) 116 (-1)) (fun _ _ => 0)) ++ wA) := hD
  have hR : InR G q2 a2 0 0 (mW G q2 a2 (upd (fun _ => 0) 116 (-1)) (fun _ _ => 0)) := InR.init
  generalize (mW G q2 a2 (upd (fun _ => 0) 116 (-1)) (fun _ _ => 0)) = wM at hP hD hR
  refine W.widen (k := 116) (n := 703975) (Nat.le_of_ble_eq_true rfl) (Nat.le_of_ble_eq_true rfl) ?_
  refine W.eq (g2 := F0 m 15 ls [.ref q2]) rfl ?_
  refine lv_astore_n (lv' := [(2, .ref q2), (1, .ref q1), (0, .ref b)]) hx hb dL_law_15 rfl hl (by decide) rfl (fun ls hl => ?_)
  refine lv_iconst (v := 1) hx hb dL_law_16 (by decide) ?_
  refine pn_newa (G := G) (atype := .long) (a0 := (1, .inr (.inl (fun _ => 0)))) (N' := 1) hx hb (hq _ pw_414) rfl hE.1.2.2.2.1 hP hD hS hA (fun _ => rfl) (by decide) (by decide) (by decide) (Nat.le_of_ble_eq_true rfl) (Nat.le_of_ble_eq_true rfl) dL_law_17 (fun o H hP hD hS => ?_)
  refine W.widen (k := 117) (n := 703976) (Nat.le_of_ble_eq_true rfl) (Nat.le_of_ble_eq_true rfl) ?_
  rw [List.append_assoc] at hP hD
  refine lv_astore_n (lv' := [(3, .ref o), (2, .ref q2), (1, .ref q1), (0, .ref b)]) hx hb dL_law_19 rfl hl (by decide) rfl (fun ls hl => ?_)
  refine lv_iconst (v := 0) hx hb dL_law_20 (by decide) ?_
  refine lv_istore (lv' := [(4, .int 0), (3, .ref o), (2, .ref q2), (1, .ref q1), (0, .ref b)]) hx hb dL_law_21 hl (by decide) rfl (fun ls hl => ?_)
  exact loop (L + 1) 0 0 0 117 703976 q1 q2 o a1 a2 wA wM (fun _ => 0) H locs ls hC hR (sw_P hP) (sw_D hD) hS hl (by omega) (by omega) (by omega) (by omega)
