def ExB (K K1 : PK) (q : Nat) : Prop := ∀ p : Nat, ¬ K.1 p = 0 → ¬ p = q → Sm K K1 p
def GrQ (K K1 : PK) (q e1 n m9 : Nat) : Prop := K1.2.2.1 13 q = some e1 ∧ K1.1 e1 = 6 ∧ K1.2.2.1 17 e1 = some q ∧ K1.2.2.2.2.2 e1 = m9 ∧ n < m9 ∧ ExB K K1 q ∧ K1.1 q = 5 ∧ (∀ f : Nat, K1.2.1 f q = K.2.1 f q) ∧ ∀ f : Nat, ¬ f = 13 → K1.2.2.1 f q = K.2.2.1 f q
theorem Sm.put {K K2 : PK} {p q e1 : Nat} {x y : Option Nat} (h : Sm K K2 p) (h1 : ¬ p = q) (h2 : ¬ p = e1) : Sm K (kC (kC K2 13 q x) 17 e1 y) p := by
  obtain ⟨a1, a2, a3, a4, a5, a6⟩ := h
  exact ⟨a1, a2, fun f => (kC_ne h2).trans ((kC_ne h1).trans (a3 f)), a4, a5, a6⟩
theorem grow_ok {G : pT} {K K2 : PK} {q e1 es n m9 : Nat} {it : Nat → Nat} (hls : LsI G K q es n it) (hn : n < m9) (hm : 10 ≤ m9 ∧ m9 ≤ 200000) (h0 : K.1 e1 = 0) (h1 : K2.1 e1 = 6) (h2 : K2.2.2.2.2.2 e1 = m9) (hx : Ext K K2) (hel : ∀ i : Nat, i < n → K2.2.2.2.2.1 e1 i = some (it i)) (hit : ∀ i : Nat, i < n → K.1 (it i) = es) (hes : ¬ es = 0) : LsI G (kC (kC K2 13 q (some e1)) 17 e1 (some q)) q es n it ∧ GrQ K (kC (kC K2 13 q (some e1)) 17 e1 (some q)) q e1 n m9 := by
  obtain ⟨l1, l2, l3, l4⟩ := hls
  have hq : ¬ K.1 q = 0 := by rw [l1]; decide
  have hqe : ¬ q = e1 := fun z => hq (by rw [z]; exact h0)
  obtain ⟨b1, b2, b3, b4, b5, b6⟩ := hx q hq
  have c13 : (kC (kC K2 13 q (some e1)) 17 e1 (some q)).2.2.1 13 q = some e1 := (kC_of (by decide)).trans kC_eq
  have c17 : (kC (kC K2 13 q (some e1)) 17 e1 (some q)).2.2.1 17 e1 = some q := kC_eq
  refine ⟨⟨b1.trans l1, (b2 23).trans l2, l3, Or.inr ⟨e1, c13, h1, c17, by show 10 ≤ K2.2.2.2.2.2 e1; omega, by show n ≤ K2.2.2.2.2.2 e1; omega, by show K2.2.2.2.2.2 e1 ≤ _; omega, fun i hi => ⟨hel i hi, ?_⟩⟩⟩, c13, h1, c17, h2, hn, fun p hp hpq => ?_, b1.trans l1, b2, fun f hf => ?_⟩
  · have z := hit i hi
    exact (hx (it i) (by rw [z]; exact hes)).1.trans z
  · exact Sm.put (hx p hp) hpq (fun z => hp (by rw [z]; exact h0))
  · exact (kC_ne hqe).trans ((kC_of hf).trans (b3 f))
theorem kN_ext {K : PK} {q s n : Nat} (h : K.1 q = 0) : Ext K (kN K q s n) := fun p hp => by
  have hn : ¬ p = q := fun z => hp (by rw [z]; exact h)
  exact ⟨if_neg hn, fun _ => if_neg hn, fun _ => if_neg hn, if_neg hn, if_neg hn, if_neg hn⟩
theorem LsI.full {G : pT} {K : PK} {q es n e9 : Nat} {it : Nat → Nat} (h : LsI G K q es n it) (he : K.2.2.1 13 q = some e9) (hne : ¬ n = 0) : K.1 e9 = 6 ∧ K.2.2.1 17 e9 = some q ∧ 10 ≤ K.2.2.2.2.2 e9 ∧ n ≤ K.2.2.2.2.2 e9 ∧ K.2.2.2.2.2 e9 ≤ 200000 ∧ ∀ i : Nat, i < n → K.2.2.2.2.1 e9 i = some (it i) ∧ K.1 (it i) = es := by
  rcases h.2.2.2 with ⟨_, h5⟩ | ⟨e, h5, h6⟩
  · exact absurd h5 hne
  · rw [he] at h5
    cases h5
    exact h6
theorem dJ7_copyOf_1904c_0 : decode cJ7_copyOf_1904c 0 = .ok (.aload_n 0, 1) := by decide +kernel
theorem dJ7_copyOf_1904c_1 : decode cJ7_copyOf_1904c 1 = .ok (.iload_n 1, 1) := by decide +kernel
theorem dJ7_copyOf_1904c_2 : decode cJ7_copyOf_1904c 2 = .ok (.aload_n 0, 1) := by decide +kernel
theorem dJ7_copyOf_1904c_3 : decode cJ7_copyOf_1904c 3 = .ok (.invokevirtual 86, 3) := by decide +kernel
theorem dJ7_copyOf_1904c_6 : decode cJ7_copyOf_1904c 6 = .ok (.invokestatic 300, 3) := by decide +kernel
theorem dJ7_copyOf_1904c_9 : decode cJ7_copyOf_1904c 9 = .ok (.areturn, 1) := by decide +kernel
theorem hS_J7_copyOf_6403c : yJ7_copyOf_6403c.cls ≠ "java/lang/invoke/MethodHandle" ∧ yJ7_copyOf_6403c.cls ≠ "java/lang/invoke/VarHandle" ∧ (parseMethodDescriptor yJ7_copyOf_6403c.desc).map (fun d => d.parameters.length) = some 3 := by decide +kernel
set_option maxHeartbeats 2000000 in
set_option maxRecDepth 100000 in
theorem L_copy1 (l : Launch) (G : pT) (h0 : Nat) (a : Nat → Nat) (F : Nat → Int32) (R : Nat → Value) (Z : Int64) (B : Nat → Nat → Int32) (J : Nat → Nat → Int64) (K : PK) (w : va_W) (q1 : Nat) (m9 : Nat) (es : Nat) (hq1 : K.1 q1 = 6) (hln : K.2.2.2.2.2 q1 ≤ m9) (hm9 : m9 ≤ 200000) (hel : ∀ i y : Nat, i < K.2.2.2.2.2 q1 → K.2.2.2.2.1 q1 i = some y → K.1 y = es) (hes : es = 1 ∨ es = 3) (hO : OKP G h0 a F R Z B J K w) : PM l G pX0 yJ7_copyOf_1904c cJ7_copyOf_1904c 2 (some (.array (.object "java/lang/Object"))) ({ frames := 3, cells := 1, slots := m9, locals := 83 }) [.ref q1, .int (nI m9)] w (fun (v : Option Value) (u : va_W × (Nat × PK)) => v = some (.ref u.2.1) ∧ (K.1 u.2.1 = 0 ∧ u.2.2.1 u.2.1 = 6 ∧ u.2.2.2.2.2.2.2 u.2.1 = m9) ∧ (Ext K u.2.2) ∧ (∀ i : Nat, i < K.2.2.2.2.2 q1 → u.2.2.2.2.2.2.1 u.2.1 i = K.2.2.2.2.1 q1 i) ∧ (N6 K u.2.2) ∧ (OKP G h0 a F R Z B J u.2.2 u.1)) (fun u => u.1) := by
  intro sz
  refine Met.ofW (cc := cJ7_copyOf_1904c) (maxL := 2) (ret := (some (.array (.object "java/lang/Object")))) (by decide) rfl ?_
  intro p e s m args below meth c s₁ B9 hml hv
  obtain ⟨rfl, hsz, hP, hD0, hE, hX⟩ := hv
  have hx := B9.exec
  have hb := B9.bytes
  have hr := B9.returns
  have hts := atoms_spec (ws := Cond.code yJ7_copyOf_1904c cJ7_copyOf_1904c 2 (some (.array (.object "java/lang/Object"))) :: pw) B9.pre
  have hq : ∀ w ∈ pw, w.before _ s = true := fun w h => hts w (List.mem_cons_of_mem _ h)
  have hown : s.vm.findClass RJ7 = some m.cls := findClass_of_methodNamed B9.named
  have hlocks := B9.notSynchronized
  subst hsz
  have hD := hD0.self (sz := s.heap.size)
  have hA : ∀ q : Nat, s.heap.size ≤ q → va_A w s.heap.size q := fun q h => Or.inr h
  generalize va_A w s.heap.size = A at hD hE hA ⊢
  have hS : va_S A s.heap s.heap [] := va_S.rf
  have hl := lv_entry ([.ref q1, .int (nI m9)]) (n := 2) (Nat.le_of_ble_eq_true rfl)
  rw [lg_entry_eq]
  generalize (lg_sl ([.ref q1, .int (nI m9)]) ++ List.replicate (2 - (lg_sl ([.ref q1, .int (nI m9)])).length) Slot.unset).toArray = ls at hl ⊢
  have hl : lv_has ls 2 [(0, .ref q1), (1, .int (nI m9))] := hl
  refine lv_aload_n hx hb dJ7_copyOf_1904c_0 rfl (lv_at hl 0 rfl) ?_
  refine lv_iload_n hx hb dJ7_copyOf_1904c_1 rfl (lv_at hl 1 rfl) ?_
  refine lv_aload_n hx hb dJ7_copyOf_1904c_2 rfl (lv_at hl 0 rfl) ?_
  obtain ⟨⟨mi, hmi⟩, hdc⟩ := hE.2.2.2.2.2.2.2.2.2.2
  refine va_getC (mi := mi) (C := "[Ljava/lang/Object;") hx hb (by rw [hml]; exact hl.1.symm) hown (hq _ pw_842) hdc.use (hq _ pw_843) (hq _ pw_844) (hq _ pw_845) hmi (p_acell hE hP hO hq1) (Nat.le_of_ble_eq_true rfl) (Nat.le_of_ble_eq_true rfl) dJ7_copyOf_1904c_3 ?_
  have hO : OKP G h0 a F R Z B J K w := hO.to rfl
  refine pc_S0 (G := G) (As := [.ref q1, .int (nI m9), .ref mi]) (rest := []) hx hb hml hown hq hE hmi pXmi_al hP hD hS hA hl.1 (L_copy2 l G h0 a F R Z B J K w q1 m9 mi es hq1 hln hm9 hel hes hO) (gS pw_846 pw_847 pw_433 pw_836) hS_J7_copyOf_6403c rfl (Nat.le_of_ble_eq_true rfl) dJ7_copyOf_1904c_6 ⟨(by show 0 + 1 ≤ 1; omega), (by show 0 + m9 ≤ m9; omega)⟩ ⟨Nat.le_of_ble_eq_true rfl, Nat.le_of_ble_eq_true rfl⟩ (fun v3 u1 H locs hw2 hP hD hS => ?_)
  obtain ⟨w, q4, K5⟩ := u1
  obtain ⟨hw2, h6, h7, h8, h9, hO⟩ := hw2
  have h6 : K.1 q4 = 0 ∧ K5.1 q4 = 6 ∧ K5.2.2.2.2.2 q4 = m9 := h6
  have h7 : Ext K K5 := h7
  have h8 : ∀ i : Nat, i < K.2.2.2.2.2 q1 → K5.2.2.2.2.1 q4 i = K.2.2.2.2.1 q1 i := h8
  have h9 : N6 K K5 := h9
  obtain rfl : v3 = some (.ref q4) := hw2
  have hO : OKP G h0 a F R Z B J K5 w := hO.to rfl
  refine W.widen (k := 1) (n := m9) (by show 0 + 1 ≤ 1; omega) (by show 0 + m9 ≤ m9; omega) ?_
  refine W.eq (g2 := F0 m 9 ls [.ref q4]) rfl ?_
  have hz10 : K.1 q4 = 0 ∧ K5.1 q4 = 6 ∧ K5.2.2.2.2.2 q4 = m9 := h6
  have hz11 : Ext K K5 := h7
  have hz12 : ∀ i : Nat, i < K.2.2.2.2.2 q1 → K5.2.2.2.2.1 q4 i = K.2.2.2.2.1 q1 i := h8
  have hz13 : N6 K K5 := h9
  have hO : OKP G h0 a F R Z B J K5 w := hO.to rfl
  refine W.widen (k := 1) (n := m9) (by omega) (by omega) ?_
  exact W.aret (v := .ref q4) hx hb hr (Or.inr ⟨_, rfl⟩) (Or.inr ⟨_, rfl⟩) (fun t99 ht99 hW99 => ⟨⟨_, (w, (q4, K5)), rfl, ⟨rfl, hz10, hz11, hz12, hz13, hO⟩, by rw [ht99]; exact hP, hD⟩, hS.F ht99⟩) hS.2.2 dJ7_copyOf_1904c_9
