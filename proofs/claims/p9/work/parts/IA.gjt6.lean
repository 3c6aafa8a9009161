/-- a method that returns, or throws an IllegalStateException or an IllegalArgumentException -/
def pXY {S2 : Type} (G : pT) (A : Nat → Prop) (Qx : S2 → Prop) (w2 : S2 → va_W) : String → State → State → Prop := vx_X Qx (fun E u t => (E = eIS ∨ E = eIA) ∧ va_P G.1 pCl (w2 u) t.heap ∧ va_D A (w2 u)) A
def PY (l : Launch) (G : pT) (X : State → Prop) (y : MethodName) (cc : ByteArray) (n : Nat) (ret : Option FieldType) (rm : Room) (av : List Value) (w : va_W) {S S2 : Type} (Q : Option Value → S → Prop) (w1 : S → va_W) (Qx : S2 → Prop) (w2 : S2 → va_W) : Prop :=
  ∀ sz : Nat, vx_Met l y (Cond.code y cc n ret :: pw) rm (pPc G X av w sz) (pQ G (va_A w sz) Q w1) (pXY G (va_A w sz) Qx w2) rm.cells rm.slots (va_A w sz)
section PYS
variable {p : Program} {l : Launch} {e : Env} {R : Room} {s : State} {m : MethodId} {args : Array Value} {below : List Frame} {meth : Method} {c : Code} {H : Heap} {locs : List Loc} {cells slots : Nat} {Qg : State → Prop}
variable {cc bytes : ByteArray} {pc nL maxL mc ms idx n : Nat} {ls : Array Slot} {st0 rest As : List Value} {A0 : Nat → Prop} {ws : va_W} {G : pT} {X : State → Prop} {own C : String} {y : MethodName} {ret : Option FieldType} {rm : Room} {b : Nat}
theorem py_throw {S2 : Type} {E0 : String} (hE0 : E0 = eIS ∨ E0 = eIA) {text : String} {Qx : S2 → Prop} {w2 : S2 → va_W} {Qc : Array Value → State → Outcome → State → Prop} {ik is ic sa : Nat} (u : S2) (hu : Qx u) (hx : p.tables.exec = Jvm.exec) (hb : c.code = cc) (hl0 : l.stackTraces = false) (hown : s.vm.findClass own = some m.cls) (hq : ∀ w ∈ pw, w.before args s = true) (hE : pE G A0 s s.heap)
    (hf : Bundle.fit E0 = true ∧ ∀ n ∈ xNm, Bundle.fit n = true) (hk : Cond.classLink own ik E0 ∈ pw) (hini : Cond.initialized E0 ∈ pw) (hstr : vk_R own is text sa s) (hat : ∀ w ∈ (vx_atS own ic E0 xNm).filter goodWord, w ∈ pw) (hbad : ∀ w ∈ (vx_atS own ic E0 xNm).filter (fun w => !goodWord w), w ∈ xBd E0) (hca : pCa E0 E0 s)
    (hgood : ∀ w ∈ Cond.classLink own ik E0 :: Cond.initialized E0 :: vx_atS own ic E0 xNm, vx_ot w = true) (hnt : ∀ x ∈ c.exceptionTable.toList, False) (hlocks : meth.locks = false) (hml : c.maxLocals = nL) (hl : ls.size = nL)
    (hP : va_P G.1 pCl (w2 u) H) (hD : va_D A0 (w2 u)) (hS : va_S A0 s.heap H locs)
    (d0 : decode cc pc = .ok (.new ik, 3)) (d3 : decode cc (pc + 3) = .ok (.dup, 1)) (d4 : decode cc (pc + 4) = .ok (.ldc is, 2)) (d6 : decode cc (pc + 6) = .ok (.invokespecial ic, 3)) (d9 : decode cc (pc + 9) = .ok (.athrow, 1))
    (hRf : 6 ≤ R.frames) (hRl : (rest.map fun v => v.category).sum + 82 ≤ R.locals) (hRc : cells + 1 ≤ R.cells) (hRs : slots + 6 ≤ R.slots) (hc : cells + 1 ≤ mc) (hs : slots + 6 ≤ ms) :
    W p l e R s m args below meth c H locs cells slots (vx_MQ below Qc (pXY G A0 Qx w2) args s mc ms A0) (F0 m pc ls rest) := by
  refine vx_throwS (names := xNm) (text := text) (sa := sa) hx hb hl0 hown hf.1 hf.2 (hq _ hk) (hq _ hini) hstr (vx_hat (fun w hw => hq _ (hat w hw)) hbad (vx_c hca.use (vx_c (pDc_moved (Vm.Alike.refl _) hE.pc.2.2.2.2.1.1) (vx_c (pDc_moved (Vm.Alike.refl _) hE.pc.2.2.2.2.1.2.1) (vx_c (pDc_moved (Vm.Alike.refl _) hE.pc.2.2.2.2.1.2.2) vx_n))))) hgood hE.th.1 hE.th.2 hS (by rw [hml]; exact hl) d0 d3 d4 d6 d9 (fun x hx => (hnt x hx).elim) hRf hRl hRc hRs hlocks (fun t _ hz hk9 => ?_) hS.2.2 hc hs
  have hk1 : ∀ (k : Nat) (x : Nat × va_E), (w2 u)[k]? = some x → t.heap[x.1]? = H[x.1]? := fun k x hx => hk9 x.1 ((hP k x hx).lt)
  exact ⟨u, hu, ⟨hE0, hP.kept hk1, hD⟩, Nat.le_trans hS.1 hz, fun q h1 h2 => by rw [hk9 q (Nat.lt_of_lt_of_le h1 hS.1)]; exact hS.2.1 q h1 h2⟩
end PYS
theorem lt10_nn {x : Int32} (h : ¬ x < 10) : ¬ x < 0 := fun q => h (by
  rw [Int32.lt_iff_toInt_lt] at q ⊢
  have z1 : (0 : Int32).toInt = 0 := by decide
  have z2 : (10 : Int32).toInt = 10 := by decide
  omega)
theorem dX11_run_0 : decode cX11_run 0 = .ok (.iload_n 1, 1) := by decide +kernel
theorem dX11_run_1 : decode cX11_run 1 = .ok (.ifCond .lt 23, 3) := by decide +kernel
theorem dX11_run_24 : decode cX11_run 24 = .ok (.new 166, 3) := by decide +kernel
theorem dX11_run_27 : decode cX11_run 27 = .ok (.dup, 1) := by decide +kernel
theorem dX11_run_28 : decode cX11_run 28 = .ok (.ldc 168, 2) := by decide +kernel
theorem dX11_run_30 : decode cX11_run 30 = .ok (.invokespecial 170, 3) := by decide +kernel
theorem dX11_run_33 : decode cX11_run 33 = .ok (.athrow, 1) := by decide +kernel
theorem dX11_run_4 : decode cX11_run 4 = .ok (.iload_n 1, 1) := by decide +kernel
theorem dX11_run_5 : decode cX11_run 5 = .ok (.sipush 20000, 3) := by decide +kernel
theorem dX11_run_8 : decode cX11_run 8 = .ok (.if_icmp .gt 16, 3) := by decide +kernel
theorem dX11_run_11 : decode cX11_run 11 = .ok (.iload_n 2, 1) := by decide +kernel
theorem dX11_run_12 : decode cX11_run 12 = .ok (.bipush 10, 2) := by decide +kernel
theorem dX11_run_14 : decode cX11_run 14 = .ok (.if_icmp .lt 10, 3) := by decide +kernel
theorem dX11_run_17 : decode cX11_run 17 = .ok (.iload_n 2, 1) := by decide +kernel
theorem dX11_run_18 : decode cX11_run 18 = .ok (.sipush 3000, 3) := by decide +kernel
theorem dX11_run_21 : decode cX11_run 21 = .ok (.if_icmp .le 13, 3) := by decide +kernel
theorem dX11_run_34 : decode cX11_run 34 = .ok (.aload_n 0, 1) := by decide +kernel
theorem dX11_run_35 : decode cX11_run 35 = .ok (.getfield 69, 3) := by decide +kernel
theorem dX11_run_38 : decode cX11_run 38 = .ok (.ifnonnull 13, 3) := by decide +kernel
theorem dX11_run_41 : decode cX11_run 41 = .ok (.new 86, 3) := by decide +kernel
theorem dX11_run_44 : decode cX11_run 44 = .ok (.dup, 1) := by decide +kernel
theorem dX11_run_45 : decode cX11_run 45 = .ok (.ldc 173, 2) := by decide +kernel
theorem dX11_run_47 : decode cX11_run 47 = .ok (.invokespecial 175, 3) := by decide +kernel
theorem dX11_run_50 : decode cX11_run 50 = .ok (.athrow, 1) := by decide +kernel
set_option maxHeartbeats 2000000 in
set_option maxRecDepth 100000 in
theorem J_runN (l : Launch) (G : pT) (h0 : Nat) (a : Nat → Nat) (F : Nat → Int32) (R : Nat → Value) (Z : Int64) (B : Nat → Nat → Int32) (J : Nat → Nat → Int64) (T : Nat → Nat) (Pi : Nat → va_E → Prop) (w : va_W) (x : Int32) (y : Int32) (hO : OKW G h0 a F (updR R 0 (.null)) Z B J T Pi w) (hl0 : l.stackTraces = false) : PY l G pX0 yX11_run cX11_run 3 (some .int) ({ frames := 6, cells := 1, slots := 6, locals := 100 }) [.ref h0, .int x, .int y] w (fun (v : Option Value) (u : va_W × (Unit)) => False) (fun u => u.1) (fun (u : va_W) => u = w) (fun u => u) := by
  intro sz
  refine vx_ofW (cc := cX11_run) (maxL := 3) (ret := (some .int)) (by decide) rfl ?_
  intro p e s m args below meth c s₁ B9 hml hnt hv
  obtain ⟨rfl, hsz, hP, hD0, hE, hX⟩ := hv
  have hx := B9.exec
  have hb := B9.bytes
  have hr := B9.returns
  have hts := atoms_spec (ws := Cond.code yX11_run cX11_run 3 (some .int) :: pw) B9.pre
  have hq : ∀ w ∈ pw, w.before _ s = true := fun w h => hts w (List.mem_cons_of_mem _ h)
  have hown : s.vm.findClass RX11 = some m.cls := findClass_of_methodNamed B9.named
  have hlocks := B9.notSynchronized
  subst hsz
  have hD := hD0.self (sz := s.heap.size)
  have hA : ∀ q : Nat, s.heap.size ≤ q → va_A w s.heap.size q := fun q h => Or.inr h
  generalize va_A w s.heap.size = A at hD hE hA ⊢
  have hS : va_S A s.heap s.heap [] := va_S.rf
  have hl := lv_entry ([.ref h0, .int x, .int y]) (n := 3) (Nat.le_of_ble_eq_true rfl)
  rw [lg_entry_eq]
  generalize (lg_sl ([.ref h0, .int x, .int y]) ++ List.replicate (3 - (lg_sl ([.ref h0, .int x, .int y])).length) Slot.unset).toArray = ls at hl ⊢
  have hl : lv_has ls 3 [(0, .ref h0), (1, .int x), (2, .int y)] := hl
  refine lv_iload_n hx hb dX11_run_0 rfl (lv_at hl 1 rfl) ?_
  refine lv_if_lt (tgt := 24) hx hb dX11_run_1 (by decide) (fun c1 => ?_) (fun c1 => ?_)
  · exact py_throw (Or.inr rfl) w rfl hx hb hl0 hown hq hE xf_IA pw_1401 pw_1402 (hE.2.2.1 13 (by decide)) xw_2 xb_2 hE.pc.2.1 xg_2 hnt hlocks hml hl.1 hP hD hS dX11_run_24 dX11_run_27 dX11_run_28 dX11_run_30 dX11_run_33 (Nat.le_of_ble_eq_true rfl) (Nat.le_of_ble_eq_true rfl) (by show 0 + 1 ≤ 1; omega) (by show 0 + 6 ≤ 6; omega) (by show 0 + 1 ≤ 1; omega) (by show 0 + 6 ≤ 6; omega)
  · refine lv_iload_n hx hb dX11_run_4 rfl (lv_at hl 1 rfl) ?_
    refine lv_sipush (v := 20000) hx hb dX11_run_5 (by decide) ?_
    refine lv_icmp_gt (tgt := 24) hx hb dX11_run_8 (by decide) (fun c2 => ?_) (fun c2 => ?_)
    · exact py_throw (Or.inr rfl) w rfl hx hb hl0 hown hq hE xf_IA pw_1401 pw_1402 (hE.2.2.1 13 (by decide)) xw_2 xb_2 hE.pc.2.1 xg_2 hnt hlocks hml hl.1 hP hD hS dX11_run_24 dX11_run_27 dX11_run_28 dX11_run_30 dX11_run_33 (Nat.le_of_ble_eq_true rfl) (Nat.le_of_ble_eq_true rfl) (by show 0 + 1 ≤ 1; omega) (by show 0 + 6 ≤ 6; omega) (by show 0 + 1 ≤ 1; omega) (by show 0 + 6 ≤ 6; omega)
    · refine lv_iload_n hx hb dX11_run_11 rfl (lv_at hl 2 rfl) ?_
      refine lv_bipush (v := 10) hx hb dX11_run_12 (by decide) ?_
      refine lv_icmp_lt (tgt := 24) hx hb dX11_run_14 (by decide) (fun c3 => ?_) (fun c3 => ?_)
      · exact py_throw (Or.inr rfl) w rfl hx hb hl0 hown hq hE xf_IA pw_1401 pw_1402 (hE.2.2.1 13 (by decide)) xw_2 xb_2 hE.pc.2.1 xg_2 hnt hlocks hml hl.1 hP hD hS dX11_run_24 dX11_run_27 dX11_run_28 dX11_run_30 dX11_run_33 (Nat.le_of_ble_eq_true rfl) (Nat.le_of_ble_eq_true rfl) (by show 0 + 1 ≤ 1; omega) (by show 0 + 6 ≤ 6; omega) (by show 0 + 1 ≤ 1; omega) (by show 0 + 6 ≤ 6; omega)
      · refine lv_iload_n hx hb dX11_run_17 rfl (lv_at hl 2 rfl) ?_
        refine lv_sipush (v := 3000) hx hb dX11_run_18 (by decide) ?_
        refine lv_icmp_le (tgt := 34) hx hb dX11_run_21 (by decide) (fun c4 => ?_) (fun c4 => ?_)
        · refine lv_aload_n hx hb dX11_run_34 rfl (lv_at hl 0 rfl) ?_
          refine c_get (v := .null) (C := RX11) (Tc := TX11) (N := 8) (ci := 8) hx hb hq pin_wsX110 hown hE hP hO 0 (sg_0 G h0 a _ _ _ _ _) rfl 7 (by decide) (hq _ pw_1342) (fun _ h9 => h9) rfl dX11_run_35 ?_
          refine lv_ifnonnullN hx hb dX11_run_38 ?_
          exact py_throw (Or.inl rfl) w rfl hx hb hl0 hown hq hE xf_IS pw_1341 pw_45 (hE.2.2.1 14 (by decide)) xw_3 xb_3 hE.pc.1 xg_3 hnt hlocks hml hl.1 hP hD hS dX11_run_41 dX11_run_44 dX11_run_45 dX11_run_47 dX11_run_50 (Nat.le_of_ble_eq_true rfl) (Nat.le_of_ble_eq_true rfl) (by show 0 + 1 ≤ 1; omega) (by show 0 + 6 ≤ 6; omega) (by show 0 + 1 ≤ 1; omega) (by show 0 + 6 ≤ 6; omega)
        · exact py_throw (Or.inr rfl) w rfl hx hb hl0 hown hq hE xf_IA pw_1401 pw_1402 (hE.2.2.1 13 (by decide)) xw_2 xb_2 hE.pc.2.1 xg_2 hnt hlocks hml hl.1 hP hD hS dX11_run_24 dX11_run_27 dX11_run_28 dX11_run_30 dX11_run_33 (Nat.le_of_ble_eq_true rfl) (Nat.le_of_ble_eq_true rfl) (by show 0 + 1 ≤ 1; omega) (by show 0 + 6 ≤ 6; omega) (by show 0 + 1 ≤ 1; omega) (by show 0 + 6 ≤ 6; omega)
theorem dX11_run_51 : decode cX11_run 51 = .ok (.aload_n 0, 1) := by decide +kernel
theorem dX11_run_52 : decode cX11_run 52 = .ok (.getfield 50, 3) := by decide +kernel
theorem dX11_run_55 : decode cX11_run 55 = .ok (.aload_n 0, 1) := by decide +kernel
theorem dX11_run_56 : decode cX11_run 56 = .ok (.getfield 69, 3) := by decide +kernel
theorem dX11_run_59 : decode cX11_run 59 = .ok (.iload_n 1, 1) := by decide +kernel
theorem dX11_run_60 : decode cX11_run 60 = .ok (.iload_n 2, 1) := by decide +kernel
theorem dX11_run_61 : decode cX11_run 61 = .ok (.invokevirtual 176, 3) := by decide +kernel
theorem dX11_run_64 : decode cX11_run 64 = .ok (.aload_n 0, 1) := by decide +kernel
theorem dX11_run_65 : decode cX11_run 65 = .ok (.getfield 50, 3) := by decide +kernel
theorem dX11_run_68 : decode cX11_run 68 = .ok (.invokevirtual 180, 3) := by decide +kernel
theorem dX11_run_71 : decode cX11_run 71 = .ok (.ireturn, 1) := by decide +kernel
theorem hV_X5_start : yX5_start.cls = RX5 ∧ yX5_start.cls ≠ "java/lang/invoke/MethodHandle" ∧ yX5_start.cls ≠ "java/lang/invoke/VarHandle" ∧ (parseMethodDescriptor yX5_start.desc).map (fun d => d.parameters.length) = some 3 := by decide +kernel
theorem hV_X5_work : yX5_work.cls = RX5 ∧ yX5_work.cls ≠ "java/lang/invoke/MethodHandle" ∧ yX5_work.cls ≠ "java/lang/invoke/VarHandle" ∧ (parseMethodDescriptor yX5_work.desc).map (fun d => d.parameters.length) = some 0 := by decide +kernel
set_option maxHeartbeats 30000000 in
set_option maxRecDepth 100000 in
theorem J_run (l : Launch) (G : pT) (h0 : Nat) (a : Nat → Nat) (F : Nat → Int32) (R : Nat → Value) (Z : Int64) (B : Nat → Nat → Int32) (J : Nat → Nat → Int64) (K : PK) (w : va_W) (x : Int32) (y : Int32) (sp : Nat) (op : Nat) (ht : Nat) (pq : Nat) (dr : Nat) (ml : Nat) (nd : Nat) (nm : Nat) (cp : Nat) (it : Nat → Nat) (s9 : Nat) (g : Nat → Nat → Nat) (rk : Nat → Nat) (cs : Nat) (rg : Nat) (hsp : (sp = 34 ∧ op = 35) ∨ (sp = 35 ∧ op = 34)) (hht : 8 ≤ ht ∧ ht ≤ 3008) (hwp : WPr G K g) (hps : PgT G K g (a 1) pq dr ml nd nm cp it s9) (hrk : RkO K rk) (hcs : cs ≤ 10000) (hrg : rg ≤ 625) (hng : Nng (B 18)) (hO : OKP G h0 a (upd (upd (upd F 5 (nI cs)) 6 (nI rg)) 26 (nI ht)) (updR (updR (updR R 0 (.ref pq)) 7 (.ref (a sp))) 8 (.ref (a op))) Z B J K w) (hl0 : l.stackTraces = false) : PY l G pX0 yX11_run cX11_run 3 (some .int) ({ frames := 12, cells := 1, slots := 6, locals := 281 }) [.ref h0, .int x, .int y] w (fun (v : Option Value) (u : va_W × (Int32 × Int32 × Nat × Int32 × Int32 × Int32 × Int32 × Int32 × (Nat → Nat → Int64) × Int64 × (Nat → Int32) × (Nat → Int32) × Nat × Nat × Nat × Int32 × Nat × Nat × Option Nat × (Nat → Int32))) => v = some (.int u.2.1) ∧ (u.2.2.2.1 ≤ 32000) ∧ (8 ≤ u.2.2.2.2.2.2.2.2.2.2.2.2.2.2.2.1 ∧ u.2.2.2.2.2.2.2.2.2.2.2.2.2.2.2.1 ≤ 3008) ∧ ((u.2.2.2.2.2.2.2.2.2.2.2.2.2.1 = 34 ∧ u.2.2.2.2.2.2.2.2.2.2.2.2.2.2.1 = 35) ∨ (u.2.2.2.2.2.2.2.2.2.2.2.2.2.1 = 35 ∧ u.2.2.2.2.2.2.2.2.2.2.2.2.2.2.1 = 34)) ∧ (u.2.2.2.2.2.2.2.2.2.2.2.2.2.2.2.2.2.1 ≤ 32000 ∧ u.2.2.2.2.2.2.2.2.2.2.2.2.2.2.2.2.2.2.1 ≤ 100) ∧ (MsO K u.2.2.2.2.2.2.2.2.2.2.2.2.2.2.2.2.2.2.2.1 u.2.2.2.2.2.2.2.2.2.2.2.2.2.2.2.2.2.1) ∧ (FrO K nm it u.2.2.2.2.2.2.2.2.2.2.2.2.2.2.2.2.2.2.2.2 u.2.2.2.2.2.2.2.2.2.2.2.2.2.2.2.2.2.2.1) ∧ (OKP G h0 a (upd (upd (upd (upd (upd (upd (upd (upd (upd (upd (upd (upd (upd F 5 (nI cs)) 6 (nI rg)) 18 (nI u.2.2.2.2.2.2.2.2.2.2.2.2.2.2.2.2.2.1)) 19 (nI u.2.2.2.1)) 20 u.2.2.2.2.2.2.2.1) 21 u.2.2.2.2.2.2.1) 22 (nI u.2.2.2.2.2.2.2.2.2.2.2.2.2.2.2.2.2.2.1)) 23 u.2.2.2.2.1) 24 u.2.2.2.2.2.2.2.2.1) 25 u.2.2.2.2.2.1) 26 (nI u.2.2.2.2.2.2.2.2.2.2.2.2.2.2.2.1)) 27 u.2.2.2.2.2.2.2.2.2.2.2.2.2.2.2.2.1) 28 u.2.2.1) (updR (updR (updR (updR (updR R 0 (.ref pq)) 5 (.ref pq)) 6 (va_rf u.2.2.2.2.2.2.2.2.2.2.2.2.2.2.2.2.2.2.2.1)) 7 (.ref (a u.2.2.2.2.2.2.2.2.2.2.2.2.2.1))) 8 (.ref (a u.2.2.2.2.2.2.2.2.2.2.2.2.2.2.1))) u.2.2.2.2.2.2.2.2.2.2.1 (updA (updA (updA B 30 u.2.2.2.2.2.2.2.2.2.2.2.2.2.2.2.2.2.2.2.2) 32 u.2.2.2.2.2.2.2.2.2.2.2.2.1) 33 u.2.2.2.2.2.2.2.2.2.2.2.1) u.2.2.2.2.2.2.2.2.2.1 K u.1)) (fun u => u.1) (fun (u : va_W) => u = w) (fun u => u) := by
  intro sz
  refine vx_ofW (cc := cX11_run) (maxL := 3) (ret := (some .int)) (by decide) rfl ?_
  intro p e s m args below meth c s₁ B9 hml hnt hv
  obtain ⟨rfl, hsz, hP, hD0, hE, hX⟩ := hv
  have hx := B9.exec
  have hb := B9.bytes
  have hr := B9.returns
  have hts := atoms_spec (ws := Cond.code yX11_run cX11_run 3 (some .int) :: pw) B9.pre
  have hq : ∀ w ∈ pw, w.before _ s = true := fun w h => hts w (List.mem_cons_of_mem _ h)
  have hown : s.vm.findClass RX11 = some m.cls := findClass_of_methodNamed B9.named
  have hlocks := B9.notSynchronized
  subst hsz
  have hD := hD0.self (sz := s.heap.size)
  have hA : ∀ q : Nat, s.heap.size ≤ q → va_A w s.heap.size q := fun q h => Or.inr h
  generalize va_A w s.heap.size = A at hD hE hA ⊢
  have hS : va_S A s.heap s.heap [] := va_S.rf
  have hl := lv_entry ([.ref h0, .int x, .int y]) (n := 3) (Nat.le_of_ble_eq_true rfl)
  rw [lg_entry_eq]
  generalize (lg_sl ([.ref h0, .int x, .int y]) ++ List.replicate (3 - (lg_sl ([.ref h0, .int x, .int y])).length) Slot.unset).toArray = ls at hl ⊢
  have hl : lv_has ls 3 [(0, .ref h0), (1, .int x), (2, .int y)] := hl
  have hpg := hps.1
  have hp1 := hpg.1
  have hp2 := hpg.2.1
  have hp3 := hpg.2.2.1
  have hp4 := hpg.2.2.2.1
  have hp5 := hpg.2.2.2.2.1
  have hp6 := hpg.2.2.2.2.2.1
  have hp8 := hpg.2.2.2.2.2.2.2.1
  have hp9 := hpg.2.2.2.2.2.2.2.2
  refine lv_iload_n hx hb dX11_run_0 rfl (lv_at hl 1 rfl) ?_
  refine lv_if_lt (tgt := 24) hx hb dX11_run_1 (by decide) (fun c1 => ?_) (fun c1 => ?_)
  · exact py_throw (Or.inr rfl) w rfl hx hb hl0 hown hq hE xf_IA pw_1401 pw_1402 (hE.2.2.1 13 (by decide)) xw_2 xb_2 hE.pc.2.1 xg_2 hnt hlocks hml hl.1 hP hD hS dX11_run_24 dX11_run_27 dX11_run_28 dX11_run_30 dX11_run_33 (Nat.le_of_ble_eq_true rfl) (Nat.le_of_ble_eq_true rfl) (by show 0 + 1 ≤ 1; omega) (by show 0 + 6 ≤ 6; omega) (by show 0 + 1 ≤ 1; omega) (by show 0 + 6 ≤ 6; omega)
  · refine lv_iload_n hx hb dX11_run_4 rfl (lv_at hl 1 rfl) ?_
    refine lv_sipush (v := 20000) hx hb dX11_run_5 (by decide) ?_
    refine lv_icmp_gt (tgt := 24) hx hb dX11_run_8 (by decide) (fun c2 => ?_) (fun c2 => ?_)
    · exact py_throw (Or.inr rfl) w rfl hx hb hl0 hown hq hE xf_IA pw_1401 pw_1402 (hE.2.2.1 13 (by decide)) xw_2 xb_2 hE.pc.2.1 xg_2 hnt hlocks hml hl.1 hP hD hS dX11_run_24 dX11_run_27 dX11_run_28 dX11_run_30 dX11_run_33 (Nat.le_of_ble_eq_true rfl) (Nat.le_of_ble_eq_true rfl) (by show 0 + 1 ≤ 1; omega) (by show 0 + 6 ≤ 6; omega) (by show 0 + 1 ≤ 1; omega) (by show 0 + 6 ≤ 6; omega)
    · refine lv_iload_n hx hb dX11_run_11 rfl (lv_at hl 2 rfl) ?_
      refine lv_bipush (v := 10) hx hb dX11_run_12 (by decide) ?_
      refine lv_icmp_lt (tgt := 24) hx hb dX11_run_14 (by decide) (fun c3 => ?_) (fun c3 => ?_)
      · exact py_throw (Or.inr rfl) w rfl hx hb hl0 hown hq hE xf_IA pw_1401 pw_1402 (hE.2.2.1 13 (by decide)) xw_2 xb_2 hE.pc.2.1 xg_2 hnt hlocks hml hl.1 hP hD hS dX11_run_24 dX11_run_27 dX11_run_28 dX11_run_30 dX11_run_33 (Nat.le_of_ble_eq_true rfl) (Nat.le_of_ble_eq_true rfl) (by show 0 + 1 ≤ 1; omega) (by show 0 + 6 ≤ 6; omega) (by show 0 + 1 ≤ 1; omega) (by show 0 + 6 ≤ 6; omega)
      · obtain ⟨c9, hc91, hc92⟩ := nI_nn2 (lt10_nn c3)
        rw [hc91] at hl
        refine lv_iload_n hx hb dX11_run_17 rfl (lv_at hl 2 rfl) ?_
        refine lv_sipush (v := 3000) hx hb dX11_run_18 (by decide) ?_
        refine lv_icmp_le (tgt := 34) hx hb dX11_run_21 (by decide) (fun c4 => ?_) (fun c4 => ?_)
        · have n5 : c9 ≤ 3000 := (nI_leI (a := c9) (b := 3000) (by omega) (by omega)).mp c4
          refine lv_aload_n hx hb dX11_run_34 rfl (lv_at hl 0 rfl) ?_
          refine c_get (v := .ref pq) (C := RX11) (Tc := TX11) (N := 8) (ci := 8) hx hb hq pin_wsX110 hown hE hP hO 0 (sg_0 G h0 a _ _ _ _ _) rfl 7 (by decide) (hq _ pw_1342) (fun _ h9 => h9) rfl dX11_run_35 ?_
          refine lv_ifnonnull (tgt := 51) hx hb dX11_run_38 (by decide) ?_
          refine lv_aload_n hx hb dX11_run_51 rfl (lv_at hl 0 rfl) ?_
          refine c_get (v := .ref (a 5)) (C := RX11) (Tc := TX11) (N := 8) (ci := 8) hx hb hq pin_wsX110 hown hE hP hO 0 (sg_0 G h0 a _ _ _ _ _) rfl 6 (by decide) (hq _ pw_1321) (fun _ h9 => h9) rfl dX11_run_52 ?_
          refine lv_aload_n hx hb dX11_run_55 rfl (lv_at hl 0 rfl) ?_
          refine c_get (v := .ref pq) (C := RX11) (Tc := TX11) (N := 8) (ci := 8) hx hb hq pin_wsX110 hown hE hP hO 0 (sg_0 G h0 a _ _ _ _ _) rfl 7 (by decide) (hq _ pw_1342) (fun _ h9 => h9) rfl dX11_run_56 ?_
          refine lv_iload_n hx hb dX11_run_59 rfl (lv_at hl 1 rfl) ?_
          refine lv_iload_n hx hb dX11_run_60 rfl (lv_at hl 2 rfl) ?_
          have hO : OKP G h0 a (upd (upd (upd (upd (upd F 5 (nI cs)) 6 (nI rg)) 26 (nI ht)) 5 (nI cs)) 26 (nI ht)) (updR (updR (updR (updR (updR R 0 (.ref pq)) 7 (.ref (a sp))) 8 (.ref (a op))) 7 (.ref (a sp))) 8 (.ref (a op))) Z B J K w := hO.to rfl
          obtain ⟨_, qr9, hqr10⟩ := hO.2.1 28 _ (sg_28 G h0 a _ _ _ _ _)
          refine pc_V0 (G := G) (As := [.ref pq, .int x, .int (nI c9)]) (rest := []) hx hb hml hown hq hE hX pX0_al hP hD hS hA hl.1 (M_start l G h0 a (upd (upd (upd F 5 (nI cs)) 6 (nI rg)) 26 (nI ht)) (updR (updR (updR R 0 (.ref pq)) 7 (.ref (a sp))) 8 (.ref (a op))) Z B J K w x c9 sp op ht pq dr ml nd nm cp it s9 g rk cs hsp (by omega) hwp hps hrk (by omega) (by omega) hO) (gV pw_1403 pw_1404 pw_1405 pw_539 pw_593) hV_X5_start qr9 4 hqr10 rfl rfl rfl (Nat.le_of_ble_eq_true rfl) dX11_run_61 ⟨(by show 0 + 0 ≤ 1; omega), (by show 0 + 0 ≤ 6; omega)⟩ ⟨Nat.le_of_ble_eq_true rfl, Nat.le_of_ble_eq_true rfl⟩ (fun v8 u6 H locs hw7 hP hD hS => ?_)
          obtain ⟨w, tp11, en12, rf13, nx14, pc15, rs16, J17, z18, ta19, sp20, op21, ht22, ot23, ba24, on25, mo26, fr27⟩ := u6
          obtain ⟨hw7, h28, h29, h30, h31, h32, h33, hO⟩ := hw7
          have h28 : tp11 ≤ 32000 := h28
          have h29 : 8 ≤ ht22 ∧ ht22 ≤ 3008 := h29
          have h30 : (sp20 = 34 ∧ op21 = 35) ∨ (sp20 = 35 ∧ op21 = 34) := h30
          have h31 : ba24 ≤ 32000 ∧ on25 ≤ 100 := h31
          have h32 : MsO K mo26 ba24 := h32
          have h33 : FrO K nm it fr27 on25 := h33
          obtain rfl : v8 = none := hw7
          have hO : OKP G h0 a (upd (upd (upd (upd (upd (upd (upd (upd (upd (upd (upd (upd (upd F 5 (nI cs)) 6 (nI rg)) 18 (nI ba24)) 19 (nI tp11)) 20 pc15) 21 nx14) 22 (nI on25)) 23 en12) 24 rs16) 25 rf13) 26 (nI ht22)) 27 ot23) 28 (nI (8 + c9))) (updR (updR (updR (updR (updR R 0 (.ref pq)) 5 (.ref pq)) 6 (va_rf mo26)) 7 (.ref (a sp20))) 8 (.ref (a op21))) z18 (updA (updA B 30 fr27) 33 ta19) J17 K w := hO.to rfl
          refine W.widen (k := 0) (n := 0) (Nat.le_of_ble_eq_true rfl) (Nat.le_of_ble_eq_true rfl) ?_
          refine W.eq (g2 := F0 m 64 ls []) rfl ?_
          refine lv_aload_n hx hb dX11_run_64 rfl (lv_at hl 0 rfl) ?_
          refine c_get (v := .ref (a 5)) (C := RX11) (Tc := TX11) (N := 8) (ci := 8) hx hb hq pin_wsX110 hown hE hP hO 0 (sg_0 G h0 a _ _ _ _ _) rfl 6 (by decide) (hq _ pw_1321) (fun _ h9 => h9) rfl dX11_run_65 ?_
          have hO : OKP G h0 a (upd (upd (upd (upd (upd (upd (upd (upd (upd (upd (upd (upd (upd (upd (upd (upd (upd (upd (upd F 5 (nI cs)) 6 (nI rg)) 18 (nI ba24)) 19 (nI tp11)) 20 pc15) 21 nx14) 22 (nI on25)) 23 en12) 24 rs16) 25 rf13) 26 (nI ht22)) 27 ot23) 28 (nI (8 + c9))) 5 (nI cs)) 6 (nI rg)) 18 (nI ba24)) 19 (nI tp11)) 22 (nI on25)) 26 (nI ht22)) (updR (updR (updR (updR (updR (updR (updR (updR (updR R 0 (.ref pq)) 5 (.ref pq)) 6 (va_rf mo26)) 7 (.ref (a sp20))) 8 (.ref (a op21))) 5 (.ref pq)) 6 (va_rf mo26)) 7 (.ref (a sp20))) 8 (.ref (a op21))) z18 (updA (updA B 30 fr27) 33 ta19) J17 K w := hO.to rfl
          obtain ⟨_, qr37, hqr38⟩ := hO.2.1 28 _ (sg_28 G h0 a _ _ _ _ _)
          refine pc_V0 (G := G) (As := []) (rest := []) hx hb hml hown hq hE hX pX0_al hP hD hS hA hl.1 (M_work l G h0 a (upd (upd (upd (upd (upd (upd (upd (upd (upd (upd (upd (upd (upd F 5 (nI cs)) 6 (nI rg)) 18 (nI ba24)) 19 (nI tp11)) 20 pc15) 21 nx14) 22 (nI on25)) 23 en12) 24 rs16) 25 rf13) 26 (nI ht22)) 27 ot23) 28 (nI (8 + c9))) (updR (updR (updR (updR (updR R 0 (.ref pq)) 5 (.ref pq)) 6 (va_rf mo26)) 7 (.ref (a sp20))) 8 (.ref (a op21))) z18 (updA (updA B 30 fr27) 33 ta19) J17 K w tp11 sp20 op21 ht22 pq dr ml nd nm cp it s9 g rk ba24 on25 mo26 cs rg (by omega) h30 (by omega) hwp hps hrk (by omega) (by omega) h32 h33 (by omega) (by omega) hng hO) (gV pw_1406 pw_1407 pw_1408 pw_539 pw_754) hV_X5_work qr37 4 hqr38 rfl rfl rfl (Nat.le_of_ble_eq_true rfl) dX11_run_68 ⟨(by show 0 + 0 ≤ 1; omega), (by show 0 + 0 ≤ 6; omega)⟩ ⟨Nat.le_of_ble_eq_true rfl, Nat.le_of_ble_eq_true rfl⟩ (fun v36 u34 H locs hw35 hP hD hS => ?_)
          obtain ⟨w, r39, tp40, en41, rf42, nx43, pc44, rs45, J46, z47, ta48, ou49, sp50, op51, ht52, ot53, ba54, on55, mo56, fr57⟩ := u34
          obtain ⟨hw35, h58, h59, h60, h61, h62, h63, hO⟩ := hw35
          have h58 : tp40 ≤ 32000 := h58
          have h59 : 8 ≤ ht52 ∧ ht52 ≤ 3008 := h59
          have h60 : (sp50 = 34 ∧ op51 = 35) ∨ (sp50 = 35 ∧ op51 = 34) := h60
          have h61 : ba54 ≤ 32000 ∧ on55 ≤ 100 := h61
          have h62 : MsO K mo56 ba54 := h62
          have h63 : FrO K nm it fr57 on55 := h63
          obtain rfl : v36 = some (.int r39) := hw35
          have hO : OKP G h0 a (upd (upd (upd (upd (upd (upd (upd (upd (upd (upd (upd (upd (upd F 5 (nI cs)) 6 (nI rg)) 18 (nI ba54)) 19 (nI tp40)) 20 pc44) 21 nx43) 22 (nI on55)) 23 en41) 24 rs45) 25 rf42) 26 (nI ht52)) 27 ot53) 28 (nI (8 + c9))) (updR (updR (updR (updR (updR R 0 (.ref pq)) 5 (.ref pq)) 6 (va_rf mo56)) 7 (.ref (a sp50))) 8 (.ref (a op51))) z47 (updA (updA (updA B 30 fr57) 32 ou49) 33 ta48) J46 K w := hO.to rfl
          refine W.widen (k := 0) (n := 0) (Nat.le_of_ble_eq_true rfl) (Nat.le_of_ble_eq_true rfl) ?_
          refine W.eq (g2 := F0 m 71 ls [.int r39]) rfl ?_
          refine vx_ret ?_
          have hz64 : tp40 ≤ 32000 := (by omega)
          have hz65 : 8 ≤ ht52 ∧ ht52 ≤ 3008 := (by omega)
          have hz66 : (sp50 = 34 ∧ op51 = 35) ∨ (sp50 = 35 ∧ op51 = 34) := (by omega)
          have hz67 : ba54 ≤ 32000 ∧ on55 ≤ 100 := (by omega)
          have hz68 : MsO K mo56 ba54 := h62
          have hz69 : FrO K nm it fr57 on55 := h63
          have hO : OKP G h0 a (upd (upd (upd (upd (upd (upd (upd (upd (upd (upd (upd (upd (upd F 5 (nI cs)) 6 (nI rg)) 18 (nI ba54)) 19 (nI tp40)) 20 pc44) 21 nx43) 22 (nI on55)) 23 en41) 24 rs45) 25 rf42) 26 (nI ht52)) 27 ot53) 28 (nI (8 + c9))) (updR (updR (updR (updR (updR R 0 (.ref pq)) 5 (.ref pq)) 6 (va_rf mo56)) 7 (.ref (a sp50))) 8 (.ref (a op51))) z47 (updA (updA (updA B 30 fr57) 32 ou49) 33 ta48) J46 K w := hO.to rfl
          refine W.widen (k := 1) (n := 6) (by omega) (by omega) ?_
          exact W.iret (v := r39) hx hb hr (fun t99 ht99 hW99 => ⟨⟨_, (w, (r39, (nI (8 + c9)), tp40, en41, rf42, nx43, pc44, rs45, J46, z47, ta48, ou49, sp50, op51, ht52, ot53, ba54, on55, mo56, fr57)), rfl, ⟨rfl, hz64, hz65, hz66, hz67, hz68, hz69, hO⟩, by rw [ht99]; exact hP, hD⟩, hS.F ht99⟩) hS.2.2 dX11_run_71
        · have n70 : ¬ (c9 ≤ 3000) := fun h9 => c4 ((nI_leI (a := c9) (b := 3000) (by omega) (by omega)).mpr h9)
          exact py_throw (Or.inr rfl) w rfl hx hb hl0 hown hq hE xf_IA pw_1401 pw_1402 (hE.2.2.1 13 (by decide)) xw_2 xb_2 hE.pc.2.1 xg_2 hnt hlocks hml hl.1 hP hD hS dX11_run_24 dX11_run_27 dX11_run_28 dX11_run_30 dX11_run_33 (Nat.le_of_ble_eq_true rfl) (Nat.le_of_ble_eq_true rfl) (by show 0 + 1 ≤ 1; omega) (by show 0 + 6 ≤ 6; omega) (by show 0 + 1 ≤ 1; omega) (by show 0 + 6 ≤ 6; omega)
