section IV
variable {K K1 : PK} {g : Nat → Nat → Nat} {q x o n t f : Nat} {ob : Option Nat}
theorem NdO.it (h : NdO K g q) : rS (g 2 q) ≤ rM (g 2 q) ∧ rM (g 2 q) ≤ rN (g 2 q) ∧ rN (g 2 q) ≤ rE (g 2 q) := h.2.2.2.1.2
theorem NdO.kv (h : NdO K g q) (hf : f ≤ 3) (e : K.2.2.1 f q = some x) : Kiv (K.2.1 0 q) f (g 2 q) (g 2 x) := (h.2.1 f x hf e).2.2.2.2.2.2.2
theorem NdO.iv25b (h : NdO K g q) (hk : K.2.1 0 q = 25) (e : K.2.2.1 1 q = some x) : rS (g 2 q) ≤ rS (g 2 x) ∧ rE (g 2 x) ≤ rM (g 2 q) := (h.kv (by decide) e).1 hk rfl
theorem NdO.iv25c (h : NdO K g q) (hk : K.2.1 0 q = 25) (e : K.2.2.1 2 q = some x) : rM (g 2 q) ≤ rS (g 2 x) ∧ rE (g 2 x) ≤ rE (g 2 q) := (h.kv (by decide) e).2.1 hk rfl
def LpK (x : Int32) : Prop := x = 26 ∨ x = 27
theorem NdO.iv26a (h : NdO K g q) (hk : LpK (K.2.1 0 q)) (e : K.2.2.1 0 q = some x) : rS (g 2 q) + 1 ≤ rS (g 2 x) ∧ rE (g 2 x) ≤ rM (g 2 q) := (h.kv (by decide) e).2.2.1 hk rfl
theorem NdO.iv26c (h : NdO K g q) (hk : LpK (K.2.1 0 q)) (e : K.2.2.1 2 q = some x) : rM (g 2 q) ≤ rS (g 2 x) ∧ rE (g 2 x) ≤ rN (g 2 q) := (h.kv (by decide) e).2.2.2.1 hk rfl
theorem NdO.iv26d (h : NdO K g q) (hk : LpK (K.2.1 0 q)) (e : K.2.2.1 3 q = some x) : rN (g 2 q) ≤ rS (g 2 x) ∧ rE (g 2 x) ≤ rE (g 2 q) ∧ rS (g 2 q) + 1 ≤ rM (g 2 q) := (h.kv (by decide) e).2.2.2.2.1 hk rfl
theorem NdO.iv32a (h : NdO K g q) (hk : K.2.1 0 q = 32) (e : K.2.2.1 0 q = some x) : rS (g 2 q) ≤ rS (g 2 x) ∧ rE (g 2 x) ≤ rM (g 2 q) := (h.kv (by decide) e).2.2.2.2.2.1 hk rfl
theorem NdO.iv32c (h : NdO K g q) (hk : K.2.1 0 q = 32) (e : K.2.2.1 2 q = some x) : rN (g 2 q) ≤ rS (g 2 x) ∧ rE (g 2 x) ≤ rE (g 2 q) := (h.kv (by decide) e).2.2.2.2.2.2.1 hk rfl
theorem NdO.iv35a (h : NdO K g q) (hk : K.2.1 0 q = 35) (e : K.2.2.1 0 q = some x) : rS (g 2 q) ≤ rS (g 2 x) ∧ rE (g 2 x) ≤ rE (g 2 q) := (h.kv (by decide) e).2.2.2.2.2.2.2 hk rfl
theorem NdO.k32 (h : NdO K g q) (hk : K.2.1 0 q = 32) (hf : f ≤ 3) (h1 : ¬ f = 1) (e : K.2.2.1 f q = some x) : K.2.1 0 x = 21 := (h.2.1 f x hf e).2.2.2.2.1 hk h1
theorem NdO.k35 (h : NdO K g q) (hk : K.2.1 0 q = 35) (hf : f ≤ 3) (e : K.2.2.1 f q = some x) : K.2.1 0 x = 21 := (h.2.1 f x hf e).2.2.2.2.2.1 hk
theorem NdO.k23 (h : NdO K g q) (hk : K.2.1 0 q = 23) (e : K.2.2.1 0 q = some x) : PlK (K.2.1 0 x) := (h.2.1 0 x (by decide) e).2.2.2.2.2.2.1 hk rfl
/-- an E, or nothing -/
def KvO (K : PK) (g : Nat → Nat → Nat) (o : Option Nat) (n : Nat) : Prop := ∀ x : Nat, o = some x → K.1 x = 1 ∧ 1 ≤ g 0 x ∧ g 0 x ≤ n
theorem KvO.of (h : NdO K g q) (hf : f ≤ 3) (e : K.2.2.1 f q = ob) (hn : g 0 q ≤ n) : KvO K g ob n := fun x hx => by
  obtain ⟨h1, h2, h3, h4⟩ := h.2.1 f x hf (e.trans hx)
  exact ⟨h1, h2, by omega⟩
/-- the next member of q's list, or nothing: it begins at t or later -/
def MmO (K : PK) (g : Nat → Nat → Nat) (q : Nat) (o : Option Nat) (t k : Nat) : Prop := ∀ x : Nat, o = some x → K.1 x = 1 ∧ 1 ≤ g 0 x ∧ g 0 x + 1 ≤ g 0 q ∧ g 1 x = q + 1 ∧ t ≤ rS (g 2 x) ∧ k ≤ g 2 x
theorem MmO.first21 (h : WN K g) (hT : K.1 q = 1) (hl : 1 ≤ g 0 q) (hk : K.2.1 0 q = 21) (ho : K.2.2.1 0 q = ob) : MmO K g q ob (rS (g 2 q) + 1) 0 := fun x hx => by
  obtain ⟨h1, h2, h3, h4, h5⟩ := (h q hT hl).2.1 0 x (by decide) (ho.trans hx)
  have e := h4 (Or.inl ⟨hk, rfl⟩)
  exact ⟨h1, h2, h3, e, (((h x h1 h2).2.2.2.2 q e).2.2.2 hl).1 hk |>.1, Nat.zero_le _⟩
theorem MmO.first32 (h : WN K g) (hT : K.1 q = 1) (hl : 1 ≤ g 0 q) (hk : K.2.1 0 q = 32) (ho : K.2.2.1 1 q = ob) : MmO K g q ob (rM (g 2 q)) 0 := fun x hx => by
  obtain ⟨h1, h2, h3, h4, h5⟩ := (h q hT hl).2.1 1 x (by decide) (ho.trans hx)
  have e := h4 (Or.inr ⟨Or.inr (Or.inr hk), rfl⟩)
  exact ⟨h1, h2, h3, e, (((h x h1 h2).2.2.2.2 q e).2.2.2 hl).2 hk |>.1, Nat.zero_le _⟩
theorem MmO.next (h : WN K g) (hl : 1 ≤ g 0 q) (hT : K.1 x = 1) (h1 : 1 ≤ g 0 x) (hg : g 1 x = q + 1) (ho : K.2.2.1 4 x = ob) : MmO K g q ob (rE (g 2 x)) (g 2 x + 1) := fun y hy => by
  obtain ⟨k1, k2, k3, k4, k5, k6⟩ := (h x hT h1).2.2.1 y (ho.trans hy)
  have e : g 1 y = q + 1 := k3.trans hg
  exact ⟨k1, k2, ((h y k1 k2).2.2.2.2 q e).2.1 hl, e, k6, k4⟩
/-- where a member ends, and how late it is -/
theorem MmO.end21 (h : WN K g) (hl : 1 ≤ g 0 q) (hk : K.2.1 0 q = 21) (hT : K.1 x = 1) (h1 : 1 ≤ g 0 x) (hg : g 1 x = q + 1) : rE (g 2 x) + 1 ≤ rE (g 2 q) ∧ rS (g 2 x) ≤ rE (g 2 x) ∧ g 2 x ≤ 100000000000000000000 := by
  have a := (h x hT h1).2.2.2
  have b := (((a.2 q hg).2.2.2 hl).1 hk).2
  have c := a.1
  exact ⟨b, by have z := c.2; omega, c.1⟩
theorem MmO.end32 (h : WN K g) (hl : 1 ≤ g 0 q) (hk : K.2.1 0 q = 32) (hT : K.1 x = 1) (h1 : 1 ≤ g 0 x) (hg : g 1 x = q + 1) : rE (g 2 x) ≤ rN (g 2 q) ∧ rS (g 2 x) ≤ rE (g 2 x) ∧ g 2 x ≤ 100000000000000000000 ∧ K.2.1 0 x = 35 := by
  have a := (h x hT h1).2.2.2
  have b := (((a.2 q hg).2.2.2 hl).2 hk).2
  have c := a.1
  exact ⟨b, by have z := c.2; omega, c.1, (a.2 q hg).2.2.1 hk⟩
theorem BdE.loop {x1 : Int32} (hq : K.1 q = 0) : BdE K (_root_.Jvm.Pilot.@@N@@.kI (_root_.Jvm.Pilot.@@N@@.kI (_root_.Jvm.Pilot.@@N@@.kI (_root_.Jvm.Pilot.@@N@@.kI (_root_.Jvm.Pilot.@@N@@.kI (kC (kN K q 9 0) 16 q ob) 26 q x1) 27 q (-1)) 28 q (-1)) 29 q (-1)) 30 q (-1)) := ⟨fun p hp => by
  have hn : ¬ p = q := fun z => hp (by rw [z]; exact hq)
  exact ⟨if_neg hn, fun f _ => (kI_ne hn).trans ((kI_ne hn).trans ((kI_ne hn).trans ((kI_ne hn).trans ((kI_ne hn).trans (if_neg hn))))), fun f => (kC_ne hn).trans (if_neg hn), if_neg hn, if_neg hn, if_neg hn⟩, fun p hp => by
  by_cases e : p = q
  · exact Or.inr (if_pos e)
  · exact Or.inl ((if_neg e).trans hp)⟩
end IV
def PSa (l : Launch) (G : pT) (n : Nat) : Prop := ∀ (h0 : Nat) (a : Nat → Nat) (F : Nat → Int32) (R : Nat → Value) (Z : Int64) (B : Nat → Nat → Int32) (J : Nat → Nat → Int64) (K : PK) (w : va_W) (pq : Nat) (dr : Nat) (ml : Nat) (nd : Nat) (nm : Nat) (cp : Nat) (it : Nat → Nat) (s9 : Nat) (q : Nat) (mq : Nat) (cs : Nat) (vr : Nat) (sz : Nat) (tf : Nat) (hd : Nat) (dp : Nat) (rg : Nat) (ls9 : Int32) (lo : Option Nat) (g : Nat → Nat → Nat) (rk : Nat → Nat), (sz ≤ 5000) → (WPr G K g) → (PgT G K g (a 1) pq dr ml nd nm cp it s9) → (RkO K rk) → (cs ≤ 10000) → (vr ≤ 30) → (Nng (B 18)) → (K.1 mq = 3) → (K.1 q = 1) → (1 ≤ g 0 q ∧ g 0 q ≤ n) → (dp ≤ 1000) → (rg ≤ 625) → (hd + 2 * n + 30 ≤ 900 + vr) → (LpO K lo) → (tf ≤ 1) → (OKP G h0 a (upd (upd (upd (upd (upd (upd (upd F 2 (nI sz)) 5 (nI cs)) 6 (nI rg)) 7 (nI hd)) 8 (nI dp)) 12 (nI vr)) 16 ls9) (updR (updR (updR R 2 (.ref pq)) 3 (.ref mq)) 4 (va_rf lo)) Z B J K w) → (l.stackTraces = false) → PBn l G pX0 yX0_statement cX0_statement 3 none ({ frames := (5 * n + 50), cells := ((rE (g 2 q) - rS (g 2 q)) + 1), slots := (6 * (rE (g 2 q) - rS (g 2 q)) + 6), locals := (200 * n + 1200) }) [.ref (a 4), .ref q, .int (nI tf)] w (fun (v : Option Value) (u : va_W × (PK × (Nat → Nat → Int32) × Nat × Int32 × Int32 × Int32 × Nat × Nat × Nat × Nat × Int32)) => v = none ∧ (BdE K u.2.1) ∧ (Bth B u.2.2.1) ∧ (u.2.2.2.1 ≤ 10000 ∧ u.2.2.2.2.2.2.2.2.2.2.1 ≤ 625 ∧ u.2.2.2.2.2.2.2.2.2.1 ≤ 1000) ∧ (vr ≤ u.2.2.2.2.2.2.2.1 ∧ u.2.2.2.2.2.2.2.1 ≤ 30 ∧ u.2.2.2.2.2.2.2.2.1 + vr = hd + u.2.2.2.2.2.2.2.1) ∧ (OKP G h0 a (upd (upd (upd (upd (upd (upd (upd (upd (upd (upd F 2 (nI sz)) 5 (nI u.2.2.2.1)) 6 (nI u.2.2.2.2.2.2.2.2.2.2.1)) 7 (nI u.2.2.2.2.2.2.2.2.1)) 8 (nI u.2.2.2.2.2.2.2.2.2.1)) 12 (nI u.2.2.2.2.2.2.2.1)) 13 u.2.2.2.2.1) 14 u.2.2.2.2.2.1) 15 u.2.2.2.2.2.2.1) 16 u.2.2.2.2.2.2.2.2.2.2.2) (updR (updR (updR R 2 (.ref pq)) 3 (.ref mq)) 4 (va_rf lo)) Z u.2.2.1 J u.2.1 u.1)) (fun u => u.1) (fun (u : va_W × (PK × (Nat → Nat → Int32) × Nat × Int32 × Int32 × Int32 × Nat × Nat × Nat × Nat × Int32)) => (rE (g 2 q) - rS (g 2 q))) (fun (u : va_W × (PK × (Nat → Nat → Int32) × Nat × Int32 × Int32 × Int32 × Nat × Nat × Nat × Nat × Int32)) => (6 * (rE (g 2 q) - rS (g 2 q)))) (fun (u : va_W × (Nat → Int32) × (Nat → Value) × (Nat → Nat → Int32)) => ThQ G h0 a (upd (upd (upd (upd (upd (upd (upd F 2 (nI sz)) 5 (nI cs)) 6 (nI rg)) 7 (nI hd)) 8 (nI dp)) 12 (nI vr)) 16 ls9) (updR (updR (updR R 2 (.ref pq)) 3 (.ref mq)) 4 (va_rf lo)) Z B J u) (fun u => u.1)
def IhT (l : Launch) (G : pT) (n : Nat) : Prop := ∀ m : Nat, m < n → PSa l G m
theorem IhT.lo {l : Launch} {G : pT} {n : Nat} (h : IhT l G n) : IhT l G (n - 1) := fun m hm => h m (by omega)
theorem dX0_block_0 : decode cX0_block 0 = .ok (.aload_n 0, 1) := by decide +kernel
theorem dX0_block_1 : decode cX0_block 1 = .ok (.getfield 91, 3) := by decide +kernel
theorem dX0_block_4 : decode cX0_block 4 = .ok (.istore_n 2, 1) := by decide +kernel
theorem dX0_block_5 : decode cX0_block 5 = .ok (.aload_n 0, 1) := by decide +kernel
theorem dX0_block_6 : decode cX0_block 6 = .ok (.getfield 15, 3) := by decide +kernel
theorem dX0_block_9 : decode cX0_block 9 = .ok (.getfield 158, 3) := by decide +kernel
theorem dX0_block_12 : decode cX0_block 12 = .ok (.istore_n 3, 1) := by decide +kernel
theorem dX0_block_19 : decode cX0_block 19 = .ok (.aload 4, 2) := by decide +kernel
theorem dX0_block_21 : decode cX0_block 21 = .ok (.ifnull 20, 3) := by decide +kernel
theorem dX0_block_41 : decode cX0_block 41 = .ok (.aload_n 0, 1) := by decide +kernel
theorem dX0_block_42 : decode cX0_block 42 = .ok (.iload_n 2, 1) := by decide +kernel
theorem dX0_block_43 : decode cX0_block 43 = .ok (.iload_n 3, 1) := by decide +kernel
theorem dX0_block_44 : decode cX0_block 44 = .ok (.invokevirtual 175, 3) := by decide +kernel
theorem dX0_block_47 : decode cX0_block 47 = .ok (.return_, 1) := by decide +kernel
theorem dX0_block_24 : decode cX0_block 24 = .ok (.aload_n 0, 1) := by decide +kernel
theorem dX0_block_25 : decode cX0_block 25 = .ok (.aload 4, 2) := by decide +kernel
theorem dX0_block_27 : decode cX0_block 27 = .ok (.iconst 1, 1) := by decide +kernel
theorem dX0_block_28 : decode cX0_block 28 = .ok (.invokevirtual 168, 3) := by decide +kernel
theorem dX0_block_31 : decode cX0_block 31 = .ok (.aload 4, 2) := by decide +kernel
theorem dX0_block_33 : decode cX0_block 33 = .ok (.getfield 172, 3) := by decide +kernel
theorem dX0_block_36 : decode cX0_block 36 = .ok (.astore 4, 2) := by decide +kernel
theorem dX0_block_38 : decode cX0_block 38 = .ok (.goto (-19), 3) := by decide +kernel
theorem dX0_block_13 : decode cX0_block 13 = .ok (.aload_n 1, 1) := by decide +kernel
theorem dX0_block_14 : decode cX0_block 14 = .ok (.getfield 165, 3) := by decide +kernel
theorem dX0_block_17 : decode cX0_block 17 = .ok (.astore 4, 2) := by decide +kernel
theorem hV_X0_endScope : yX0_endScope.cls = RX0 ∧ yX0_endScope.cls ≠ "java/lang/invoke/MethodHandle" ∧ yX0_endScope.cls ≠ "java/lang/invoke/VarHandle" ∧ (parseMethodDescriptor yX0_endScope.desc).map (fun d => d.parameters.length) = some 2 := by decide +kernel
theorem hV_X0_statement : yX0_statement.cls = RX0 ∧ yX0_statement.cls ≠ "java/lang/invoke/MethodHandle" ∧ yX0_statement.cls ≠ "java/lang/invoke/VarHandle" ∧ (parseMethodDescriptor yX0_statement.desc).map (fun d => d.parameters.length) = some 2 := by decide +kernel
set_option maxHeartbeats 40000000 in
set_option maxRecDepth 100000 in
theorem B_block (l : Launch) (G : pT) (h0 : Nat) (a : Nat → Nat) (F : Nat → Int32) (R : Nat → Value) (Z : Int64) (B : Nat → Nat → Int32) (J : Nat → Nat → Int64) (K : PK) (w : va_W) (pq : Nat) (dr : Nat) (ml : Nat) (nd : Nat) (nm : Nat) (cp : Nat) (it : Nat → Nat) (s9 : Nat) (q : Nat) (mq : Nat) (cs : Nat) (vr : Nat) (sz : Nat) (n : Nat) (hd : Nat) (dp : Nat) (rg : Nat) (ls9 : Int32) (lo : Option Nat) (g : Nat → Nat → Nat) (rk : Nat → Nat) (hsz : sz ≤ 5000) (hwp : WPr G K g) (hps : PgT G K g (a 1) pq dr ml nd nm cp it s9) (hrk : RkO K rk) (hcs : cs ≤ 10000) (hvr : vr ≤ 30) (hng : Nng (B 18)) (hmq : K.1 mq = 3) (hqT : K.1 q = 1) (hqL : 1 ≤ g 0 q ∧ g 0 q ≤ n) (hdp : dp ≤ 1000) (hrg : rg ≤ 625) (hhd : hd + 2 * n + 30 ≤ 900 + vr) (hlo : LpO K lo) (hkd : K.2.1 0 q = 21) (ist : IhT l G n) (ihv : IhV l G n) (hO : OKP G h0 a (upd (upd (upd (upd (upd (upd (upd F 2 (nI sz)) 5 (nI cs)) 6 (nI rg)) 7 (nI hd)) 8 (nI dp)) 12 (nI vr)) 16 ls9) (updR (updR (updR R 2 (.ref pq)) 3 (.ref mq)) 4 (va_rf lo)) Z B J K w) (hl0 : l.stackTraces = false) : PBn l G pX0 yX0_block cX0_block 5 none ({ frames := (5 * n + 46), cells := ((rE (g 2 q) - rS (g 2 q) - 2) + 1), slots := (6 * (rE (g 2 q) - rS (g 2 q) - 2) + 6), locals := (200 * n + 1120) }) [.ref (a 4), .ref q] w (fun (v : Option Value) (u : va_W × (PK × (Nat → Nat → Int32) × Nat × Int32 × Int32 × Int32 × Nat × Nat × Int32)) => v = none ∧ (BdE K u.2.1) ∧ (Bth B u.2.2.1) ∧ (u.2.2.2.1 ≤ 10000 ∧ u.2.2.2.2.2.2.2.2.1 ≤ 625 ∧ u.2.2.2.2.2.2.2.1 ≤ 1000) ∧ (OKP G h0 a (upd (upd (upd (upd (upd (upd (upd (upd (upd (upd F 2 (nI sz)) 5 (nI u.2.2.2.1)) 6 (nI u.2.2.2.2.2.2.2.2.1)) 7 (nI hd)) 8 (nI u.2.2.2.2.2.2.2.1)) 12 (nI vr)) 13 u.2.2.2.2.1) 14 u.2.2.2.2.2.1) 15 u.2.2.2.2.2.2.1) 16 u.2.2.2.2.2.2.2.2.2) (updR (updR (updR R 2 (.ref pq)) 3 (.ref mq)) 4 (va_rf lo)) Z u.2.2.1 J u.2.1 u.1)) (fun u => u.1) (fun (u : va_W × (PK × (Nat → Nat → Int32) × Nat × Int32 × Int32 × Int32 × Nat × Nat × Int32)) => (rE (g 2 q) - rS (g 2 q) - 2)) (fun (u : va_W × (PK × (Nat → Nat → Int32) × Nat × Int32 × Int32 × Int32 × Nat × Nat × Int32)) => (6 * (rE (g 2 q) - rS (g 2 q) - 2))) (fun (u : va_W × (Nat → Int32) × (Nat → Value) × (Nat → Nat → Int32)) => ThQ G h0 a (upd (upd (upd (upd (upd (upd (upd F 2 (nI sz)) 5 (nI cs)) 6 (nI rg)) 7 (nI hd)) 8 (nI dp)) 12 (nI vr)) 16 ls9) (updR (updR (updR R 2 (.ref pq)) 3 (.ref mq)) 4 (va_rf lo)) Z B J u) (fun u => u.1) := by
  intro sz
  refine vx_ofW (cc := cX0_block) (maxL := 5) (ret := none) (by decide) rfl ?_
  intro p e s m args below meth c s₁ B9 hml hnt hv
  obtain ⟨rfl, hsz, hP, hD0, hE, hX⟩ := hv
  have hx := B9.exec
  have hb := B9.bytes
  have hr := B9.returns
  have hts := atoms_spec (ws := Cond.code yX0_block cX0_block 5 none :: pw) B9.pre
  have hq : ∀ w ∈ pw, w.before _ s = true := fun w h => hts w (List.mem_cons_of_mem _ h)
  have hown : s.vm.findClass RX0 = some m.cls := findClass_of_methodNamed B9.named
  have hlocks := B9.notSynchronized
  subst hsz
  have hD := hD0.self (sz := s.heap.size)
  have hA : ∀ q : Nat, s.heap.size ≤ q → va_A w s.heap.size q := fun q h => Or.inr h
  generalize va_A w s.heap.size = A at hD hE hA ⊢
  have hS : va_S A s.heap s.heap [] := va_S.rf
  have hl := lv_entry ([.ref (a 4), .ref q]) (n := 5) (Nat.le_of_ble_eq_true rfl)
  rw [lg_entry_eq]
  generalize (lg_sl ([.ref (a 4), .ref q]) ++ List.replicate (5 - (lg_sl ([.ref (a 4), .ref q])).length) Slot.unset).toArray = ls at hl ⊢
  have hl : lv_has ls 5 [(0, .ref (a 4)), (1, .ref q)] := hl
  have hpg := hps.1
  have hp1 := hpg.1
  have hp2 := hpg.2.1
  have hp3 := hpg.2.2.1
  have hp4 := hpg.2.2.2.1
  have hp5 := hpg.2.2.2.2.1
  have hp6 := hpg.2.2.2.2.2.1
  have hp8 := hpg.2.2.2.2.2.2.2.1
  have hp9 := hpg.2.2.2.2.2.2.2.2
  have hnd := hwp.1 q hqT hqL.1
  have hiq := hnd.it
  refine lv_aload_n hx hb dX0_block_0 rfl (lv_at hl 0 rfl) ?_
  refine c_get (v := .int (nI vr)) (C := RX0) (Tc := TX0) (N := 13) (ci := 0) hx hb hq pin_wsX00 hown hE hP hO 24 (sg_24 G h0 a _ _ _ _ _) rfl 5 (by decide) (hq _ pw_42) (fun _ h9 => h9) rfl dX0_block_1 ?_
  refine lv_istore_n (lv' := [(2, .int (nI vr)), (0, .ref (a 4)), (1, .ref q)]) hx hb dX0_block_4 rfl hl (by decide) rfl (fun ls hl => ?_)
  refine lv_aload_n hx hb dX0_block_5 rfl (lv_at hl 1 rfl) ?_
  refine c_get (v := .ref (a 2)) (C := RX0) (Tc := TX0) (N := 13) (ci := 0) hx hb hq pin_wsX00 hown hE hP hO 24 (sg_24 G h0 a _ _ _ _ _) rfl 1 (by decide) (hq _ pw_5) (fun _ h9 => h9) rfl dX0_block_6 ?_
  refine c_get (v := .int (nI hd)) (C := RX1) (Tc := TX1) (N := 13) (ci := 1) hx hb hq pin_wsX10 hown hE hP hO 13 (sg_13 G h0 a _ _ _ _ _) rfl 11 (by decide) (hq _ pw_54) (fun _ h9 => h9) rfl dX0_block_9 ?_
  refine lv_istore_n (lv' := [(3, .int (nI hd)), (2, .int (nI vr)), (0, .ref (a 4)), (1, .ref q)]) hx hb dX0_block_12 rfl hl (by decide) rfl (fun ls hl => ?_)
  have loop_g : ∀ (n_g : Nat) (k2 : Nat) (o2 : Option Nat) (K2 : PK) (B2 : Nat → Nat → Int32) (cs2 : Nat) (as2 : Int32) (wt2 : Int32) (wf2 : Int32) (vr2 : Nat) (hd2 : Nat) (dp2 : Nat) (rg2 : Nat) (ls2 : Int32) (t2 : Nat) (c2 : Nat) (H : Heap) (locs : List Loc) (ls : Array Slot) (w : va_W), k2 ≤ 100000000000000000001 → 100000000000000000001 + 1 ≤ k2 + n_g → (BdE K K2) → (Bth B B2) → (Nng (B2 18)) → (cs2 ≤ 10000 ∧ rg2 ≤ 625 ∧ dp2 ≤ 1000) → (vr ≤ vr2 ∧ vr2 ≤ 30 ∧ hd2 + vr = hd + vr2) → (MmO K2 g q o2 t2 k2) → (c2 + rS (g 2 q) + 1 ≤ t2 ∧ c2 ≤ rE (g 2 q) - rS (g 2 q) - 2) → va_P G.1 pCl w H → va_D A w → va_S A s.heap H locs → OKP G h0 a (upd (upd (upd (upd (upd (upd (upd (upd (upd (upd F 2 (nI sz)) 5 (nI cs2)) 6 (nI rg2)) 7 (nI hd2)) 8 (nI dp2)) 12 (nI vr2)) 13 as2) 14 wt2) 15 wf2) 16 ls2) (updR (updR (updR R 2 (.ref pq)) 3 (.ref mq)) 4 (va_rf lo)) Z B2 J K2 w → lv_has ls 5 [(4, va_rf o2), (3, .int (nI hd)), (2, .int (nI vr)), (1, .ref q), (0, .ref (a 4))] → W p l e (headSpec (Cond.code yX0_block cX0_block 5 none :: pw) ({ frames := (5 * n + 46), cells := ((rE (g 2 q) - rS (g 2 q) - 2) + 1), slots := (6 * (rE (g 2 q) - rS (g 2 q) - 2) + 6), locals := (200 * n + 1120) } : Room)).room s m ([.ref (a 4), .ref q] : List Value).toArray below meth c H locs c2 (6 * c2) (vx_MQ below (pQn G A (fun (v : Option Value) (u : va_W × (PK × (Nat → Nat → Int32) × Nat × Int32 × Int32 × Int32 × Nat × Nat × Int32)) => v = none ∧ (BdE K u.2.1) ∧ (Bth B u.2.2.1) ∧ (u.2.2.2.1 ≤ 10000 ∧ u.2.2.2.2.2.2.2.2.1 ≤ 625 ∧ u.2.2.2.2.2.2.2.1 ≤ 1000) ∧ (OKP G h0 a (upd (upd (upd (upd (upd (upd (upd (upd (upd (upd F 2 (nI sz)) 5 (nI u.2.2.2.1)) 6 (nI u.2.2.2.2.2.2.2.2.1)) 7 (nI hd)) 8 (nI u.2.2.2.2.2.2.2.1)) 12 (nI vr)) 13 u.2.2.2.2.1) 14 u.2.2.2.2.2.1) 15 u.2.2.2.2.2.2.1) 16 u.2.2.2.2.2.2.2.2.2) (updR (updR (updR R 2 (.ref pq)) 3 (.ref mq)) 4 (va_rf lo)) Z u.2.2.1 J u.2.1 u.1)) (fun u => u.1) (fun (u : va_W × (PK × (Nat → Nat → Int32) × Nat × Int32 × Int32 × Int32 × Nat × Nat × Int32)) => (rE (g 2 q) - rS (g 2 q) - 2)) (fun (u : va_W × (PK × (Nat → Nat → Int32) × Nat × Int32 × Int32 × Int32 × Nat × Nat × Int32)) => (6 * (rE (g 2 q) - rS (g 2 q) - 2)))) (pXX G A (fun (u : va_W × (Nat → Int32) × (Nat → Value) × (Nat → Nat → Int32)) => ThQ G h0 a (upd (upd (upd (upd (upd (upd (upd F 2 (nI sz)) 5 (nI cs)) 6 (nI rg)) 7 (nI hd)) 8 (nI dp)) 12 (nI vr)) 16 ls9) (updR (updR (updR R 2 (.ref pq)) 3 (.ref mq)) 4 (va_rf lo)) Z B J u) (fun u => u.1)) ([.ref (a 4), .ref q] : List Value).toArray s ({ frames := (5 * n + 46), cells := ((rE (g 2 q) - rS (g 2 q) - 2) + 1), slots := (6 * (rE (g 2 q) - rS (g 2 q) - 2) + 6), locals := (200 * n + 1120) } : Room).cells ({ frames := (5 * n + 46), cells := ((rE (g 2 q) - rS (g 2 q) - 2) + 1), slots := (6 * (rE (g 2 q) - rS (g 2 q) - 2) + 6), locals := (200 * n + 1120) } : Room).slots A) (F0 m 19 ls []) := by
    intro n_g
    induction n_g with
    | zero => intro k2 o2 K2 B2 cs2 as2 wt2 wf2 vr2 hd2 dp2 rg2 ls2 t2 c2 H locs ls w hk_g hn_g; omega
    | succ n_g ih_g =>
      intro k2 o2 K2 B2 cs2 as2 wt2 wf2 vr2 hd2 dp2 rg2 ls2 t2 c2 H locs ls w hk_g hn_g hbe2 hbb2 hng2 hcs2 hv2 hmm2 hc2 hP hD hS hO hl
      have hf1 : K2.1 pq = 7 := (BdE.T hbe2 hp1 (by decide))
      have hf2 : K2.2.2.1 18 pq = some (a 1) := (BdE.C hbe2 (by rw [hp1]; decide) 18).trans hp2
      have hf3 : K2.2.2.1 14 pq = some dr := (BdE.C hbe2 (by rw [hp1]; decide) 14).trans hp3
      have hf4 : K2.1 dr = 8 := (BdE.T hbe2 hp4 (by decide))
      have hf5 : K2.2.2.1 15 pq = some ml := (BdE.C hbe2 (by rw [hp1]; decide) 15).trans hp5
      have hf6 : K2.1 ml = 5 := (BdE.T hbe2 hp6 (by decide))
      have hf7 : K2.2.1 24 pq = (nI nd) := (BdE.I hbe2 (by rw [hp1]; decide) (by decide) (by decide)).trans hp8
      have hf8 : K2.1 q = 1 := (BdE.T hbe2 hqT (by decide))
      have hf9 : K2.1 mq = 3 := (BdE.T hbe2 hmq (by decide))
      have hf10 : K2.2.1 0 q = 21 := (BdE.I hbe2 (by rw [hqT]; decide) (by decide) (by decide)).trans hkd
      rcases o2 with _ | x9
      · have hl : lv_has ls 5 [(4, .null), (3, .int (nI hd)), (2, .int (nI vr)), (1, .ref q), (0, .ref (a 4))] := hl
        refine W.eq (g2 := F0 m 19 ls []) rfl ?_
        refine lv_aloadN hx hb dX0_block_19 (lv_at hl 0 rfl) ?_
        refine lv_ifnullN (tgt := 41) hx hb dX0_block_21 (by decide) ?_
        refine lv_aload_n hx hb dX0_block_41 rfl (lv_at hl 4 rfl) ?_
        refine lv_iload_n hx hb dX0_block_42 rfl (lv_at hl 2 rfl) ?_
        refine lv_iload_n hx hb dX0_block_43 rfl (lv_at hl 1 rfl) ?_
        have hO : OKW G h0 a (upd (upd (upd (upd (upd (upd (upd (upd (upd (upd F 2 (nI sz)) 5 (nI cs2)) 6 (nI rg2)) 7 (nI hd2)) 8 (nI dp2)) 12 (nI vr2)) 13 as2) 14 wt2) 15 wf2) 16 ls2) (updR (updR (updR R 2 (.ref pq)) 3 (.ref mq)) 4 (va_rf lo)) Z B2 J K2.1 (fun q99 x99 => x99 = rep G a K2 q99) w := hO.to rfl
        obtain ⟨_, qr14, hqr15⟩ := hO.2.1 24 _ (sg_24 G h0 a _ _ _ _ _)
        refine pc_V0 (G := G) (As := [.int (nI vr), .int (nI hd)]) (rest := []) hx hb hml hown hq hE hX pX0_al hP hD hS hA hl.1 (B_endScope l G h0 a (upd (upd (upd (upd (upd (upd (upd (upd (upd (upd F 2 (nI sz)) 5 (nI cs2)) 6 (nI rg2)) 7 (nI hd2)) 8 (nI dp2)) 12 (nI vr2)) 13 as2) 14 wt2) 15 wf2) 16 ls2) (updR (updR (updR R 2 (.ref pq)) 3 (.ref mq)) 4 (va_rf lo)) Z B2 J K2.1 (fun q99 x99 => x99 = rep G a K2 q99) w (nI vr) (nI hd) hO) (gV pw_303 pw_304 pw_305 pw_63 pw_99) hV_X0_endScope qr14 0 hqr15 rfl rfl rfl (Nat.le_of_ble_eq_true rfl) dX0_block_44 ⟨(by show c2 + 0 ≤ ((rE (g 2 q) - rS (g 2 q) - 2) + 1); omega), (by show (6 * c2) + 0 ≤ (6 * (rE (g 2 q) - rS (g 2 q) - 2) + 6); omega)⟩ ⟨(by show 2 + 1 ≤ (5 * n + 46); omega), (by show 8 + (3 + 11) + 60 ≤ (200 * n + 1120); omega)⟩ (fun v13 u11 H locs hw12 hP hD hS => ?_)
        obtain ⟨w, _⟩ := u11
        obtain ⟨hw12, hO⟩ := hw12
        obtain rfl : v13 = none := hw12
        have hO : OKP G h0 a (upd (upd (upd (upd (upd (upd (upd (upd (upd (upd F 2 (nI sz)) 5 (nI cs2)) 6 (nI rg2)) 7 (nI hd)) 8 (nI dp2)) 12 (nI vr)) 13 as2) 14 wt2) 15 wf2) 16 ls2) (updR (updR (updR R 2 (.ref pq)) 3 (.ref mq)) 4 (va_rf lo)) Z B2 J K2 w := hO.to rfl
        refine W.widen (k := c2) (n := (6 * c2)) (by show c2 + 0 ≤ c2; omega) (by show (6 * c2) + 0 ≤ (6 * c2); omega) ?_
        refine W.eq (g2 := F0 m 47 ls []) rfl ?_
        refine W_size (fun hz1 hz2 => ?_)
        refine vx_ret ?_
        have hz16 : BdE K K2 := hbe2
        have hz17 : Bth B B2 := (show Thx (upd (upd (upd (upd (upd (upd (upd F 2 (nI sz)) 5 (nI cs)) 6 (nI rg)) 7 (nI hd)) 8 (nI dp)) 12 (nI vr)) 16 ls9) (upd (upd (upd (upd (upd (upd (upd (upd (upd (upd (upd (upd (upd (upd F 2 (nI sz)) 5 (nI cs)) 6 (nI rg)) 7 (nI hd)) 8 (nI dp)) 12 (nI vr)) 16 ls9) 5 (nI cs2)) 6 (nI rg2)) 8 (nI dp2)) 13 as2) 14 wt2) 15 wf2) 16 ls2) B B2 from (Thx.f (Thx.f (Thx.f (Thx.f (Thx.f (Thx.f (Thx.f (Bth.thx hbb2) (by omega)) (by omega)) (by omega)) (by omega)) (by omega)) (by omega)) (by omega))).2
        have hz18 : cs2 ≤ 10000 ∧ rg2 ≤ 625 ∧ dp2 ≤ 1000 := (by omega)
        have hO : OKP G h0 a (upd (upd (upd (upd (upd (upd (upd (upd (upd (upd F 2 (nI sz)) 5 (nI cs2)) 6 (nI rg2)) 7 (nI hd)) 8 (nI dp2)) 12 (nI vr)) 13 as2) 14 wt2) 15 wf2) 16 ls2) (updR (updR (updR R 2 (.ref pq)) 3 (.ref mq)) 4 (va_rf lo)) Z B2 J K2 w := hO.to rfl
        refine W.widen (k := ((rE (g 2 q) - rS (g 2 q) - 2) + 1)) (n := (6 * (rE (g 2 q) - rS (g 2 q) - 2) + 6)) (by omega) (by omega) ?_
        have hzz1 : H.size ≤ s.heap.size + ((rE (g 2 q) - rS (g 2 q) - 2)) := (by have z : c2 ≤ (rE (g 2 q) - rS (g 2 q) - 2) := (by omega); omega)
        have hzz2 : hSl H ≤ hSl s.heap + ((6 * (rE (g 2 q) - rS (g 2 q) - 2))) := (by have z : (6 * c2) ≤ (6 * (rE (g 2 q) - rS (g 2 q) - 2)) := (by omega); omega)
        exact W.vret hx hb hr (fun t99 ht99 hW99 => ⟨⟨_, (w, (K2, B2, cs2, as2, wt2, wf2, dp2, rg2, ls2)), rfl, ⟨rfl, hz16, hz17, hz18, hO⟩, by rw [ht99]; exact hP, hD, by rw [ht99]; exact hzz1, by rw [ht99]; exact hzz2⟩, hS.F ht99⟩) hS.2.2 dX0_block_47
      · have hl : lv_has ls 5 [(4, .ref x9), (3, .int (nI hd)), (2, .int (nI vr)), (1, .ref q), (0, .ref (a 4))] := hl
        refine W.eq (g2 := F0 m 19 ls []) rfl ?_
        have hxd := hmm2 x9 rfl
        have hxT := hxd.1
        have hxv : 1 ≤ g 0 x9 ∧ g 0 x9 + 1 ≤ n := ⟨hxd.2.1, (by have z := hxd.2.2.1; omega)⟩
        have hxe := MmO.end21 (BdE.wp hbe2 hwp).1 hqL.1 hf10 hxT hxd.2.1 hxd.2.2.2.1
        have hxt := hxd.2.2.2.2
        refine lv_aload hx hb dX0_block_19 (lv_at hl 0 rfl) ?_
        refine lv_ifnull hx hb dX0_block_21 ?_
        refine lv_aload_n hx hb dX0_block_24 rfl (lv_at hl 4 rfl) ?_
        refine lv_aload hx hb dX0_block_25 (lv_at hl 0 rfl) ?_
        refine lv_iconst (v := 1) hx hb dX0_block_27 (by decide) ?_
        have hO : OKP G h0 a (upd (upd (upd (upd (upd (upd (upd (upd (upd (upd (upd (upd (upd (upd (upd (upd (upd (upd (upd (upd (upd (upd (upd F 2 (nI sz)) 5 (nI cs)) 6 (nI rg)) 7 (nI hd)) 8 (nI dp)) 12 (nI vr)) 16 ls9) 5 (nI cs2)) 6 (nI rg2)) 7 (nI hd2)) 8 (nI dp2)) 12 (nI vr2)) 13 as2) 14 wt2) 15 wf2) 16 ls2) 2 (nI sz)) 5 (nI cs2)) 6 (nI rg2)) 7 (nI hd2)) 8 (nI dp2)) 12 (nI vr2)) 16 ls2) (updR (updR (updR (updR (updR (updR R 2 (.ref pq)) 3 (.ref mq)) 4 (va_rf lo)) 2 (.ref pq)) 3 (.ref mq)) 4 (va_rf lo)) Z B2 J K2 w := hO.to rfl
        obtain ⟨_, qr22, hqr23⟩ := hO.2.1 24 _ (sg_24 G h0 a _ _ _ _ _)
        refine pn_V0 (G := G) (As := [.ref x9, .int (nI 1)]) (rest := []) hx hb hml hown hq hE hX pX0_al hP hD hS hA hl.1 ((ist (n - 1) (by omega)) h0 a (upd (upd (upd (upd (upd (upd (upd (upd (upd (upd (upd (upd (upd (upd (upd (upd F 2 (nI sz)) 5 (nI cs)) 6 (nI rg)) 7 (nI hd)) 8 (nI dp)) 12 (nI vr)) 16 ls9) 5 (nI cs2)) 6 (nI rg2)) 7 (nI hd2)) 8 (nI dp2)) 12 (nI vr2)) 13 as2) 14 wt2) 15 wf2) 16 ls2) (updR (updR (updR R 2 (.ref pq)) 3 (.ref mq)) 4 (va_rf lo)) Z B2 J K2 w pq dr ml nd nm cp it s9 x9 mq cs2 vr2 sz 1 hd2 dp2 rg2 ls2 lo g rk (by omega) (BdE.wp hbe2 hwp) (BdE.pt hbe2 hwp hps) (BdE.rko hbe2 hrk) (by omega) (by omega) hng2 hf9 hxT ⟨hxv.1, (by have z9 := hxv; omega)⟩ (by omega) (by omega) (by omega) (LpO.be hbe2 hlo) (by omega) hO hl0) (gV pw_300 pw_301 pw_302 pw_63 pw_323) hV_X0_statement qr22 0 hqr23 rfl rfl rfl (Nat.le_of_ble_eq_true rfl) dX0_block_28 ⟨(by show c2 + ((rE (g 2 x9) - rS (g 2 x9)) + 1) ≤ ((rE (g 2 q) - rS (g 2 q) - 2) + 1); omega), (by show (6 * c2) + (6 * (rE (g 2 x9) - rS (g 2 x9)) + 6) ≤ (6 * (rE (g 2 q) - rS (g 2 q) - 2) + 6); omega)⟩ ⟨(by show (5 * (n - 1) + 50) + 1 ≤ (5 * n + 46); omega), (by show 8 + (3 + 11) + (200 * (n - 1) + 1200) ≤ (200 * n + 1120); omega)⟩ (fun v21 u19 H locs hw20 hP hD hS => ?_) (fun ux ce9 q9 H9 locs9 hux hP9 hD9 hS9 hce hcv hcl => pb_out ux (ThQ.up (Thx.same (Thx.same (Thx.same (Thx.same (Thx.same (Thx.same (Thx.same (Thx.f (Thx.f (Thx.f (Thx.f (Thx.f (Thx.f (Thx.f (Thx.f (Thx.f (Bth.thx hbb2) (by omega)) (by omega)) (by omega)) (by omega)) (by omega)) (by omega)) (by omega)) (by omega)) (by omega)) rfl) rfl) rfl) rfl) rfl) rfl) rfl) (show RhX (updR (updR (updR R 2 (.ref pq)) 3 (.ref mq)) 4 (va_rf lo)) (updR (updR (updR (updR (updR (updR R 2 (.ref pq)) 3 (.ref mq)) 4 (va_rf lo)) 2 (.ref pq)) 3 (.ref mq)) 4 (va_rf lo)) from fun k9 hk9 => by unfold updR; simp only [show ¬ k9 = 1 by omega, show ¬ k9 = 2 by omega, show ¬ k9 = 3 by omega, show ¬ k9 = 4 by omega, if_false]) hux) hnt hlocks hce hcv hcl hP9 hD9 hS9 (by show c2 + ((rE (g 2 x9) - rS (g 2 x9)) + 1) ≤ ((rE (g 2 q) - rS (g 2 q) - 2) + 1); omega) (by show (6 * c2) + (6 * (rE (g 2 x9) - rS (g 2 x9)) + 6) ≤ (6 * (rE (g 2 q) - rS (g 2 q) - 2) + 6); omega))
        obtain ⟨w, K24, B25, cs26, as27, wt28, wf29, vr30, hd31, dp32, rg33, ls34⟩ := u19
        obtain ⟨hw20, h35, h36, h37, h38, hO⟩ := hw20
        have h35 : BdE K2 K24 := h35
        have h36 : Bth B2 B25 := h36
        have h37 : cs26 ≤ 10000 ∧ rg33 ≤ 625 ∧ dp32 ≤ 1000 := h37
        have h38 : vr2 ≤ vr30 ∧ vr30 ≤ 30 ∧ hd31 + vr2 = hd2 + vr30 := h38
        obtain rfl : v21 = none := hw20
        have hf39 : K24.1 pq = 7 := (BdE.T h35 hf1 (by decide))
        have hf40 : K24.2.2.1 18 pq = some (a 1) := (BdE.C h35 (by rw [hf1]; decide) 18).trans hf2
        have hf41 : K24.2.2.1 14 pq = some dr := (BdE.C h35 (by rw [hf1]; decide) 14).trans hf3
        have hf42 : K24.1 dr = 8 := (BdE.T h35 hf4 (by decide))
        have hf43 : K24.2.2.1 15 pq = some ml := (BdE.C h35 (by rw [hf1]; decide) 15).trans hf5
        have hf44 : K24.1 ml = 5 := (BdE.T h35 hf6 (by decide))
        have hf45 : K24.2.1 24 pq = (nI nd) := (BdE.I h35 (by rw [hf1]; decide) (by decide) (by decide)).trans hf7
        have hf46 : K24.1 q = 1 := (BdE.T h35 hf8 (by decide))
        have hf47 : K24.1 mq = 3 := (BdE.T h35 hf9 (by decide))
        have hf48 : K24.2.1 0 q = 21 := (BdE.I h35 (by rw [hf8]; decide) (by decide) (by decide)).trans hf10
        have hf49 : K24.1 x9 = 1 := (BdE.T h35 hxT (by decide))
        have hO : OKP G h0 a (upd (upd (upd (upd (upd (upd (upd (upd (upd (upd F 2 (nI sz)) 5 (nI cs26)) 6 (nI rg33)) 7 (nI hd31)) 8 (nI dp32)) 12 (nI vr30)) 13 as27) 14 wt28) 15 wf29) 16 ls34) (updR (updR (updR R 2 (.ref pq)) 3 (.ref mq)) 4 (va_rf lo)) Z B25 J K24 w := hO.to rfl
        refine W.widen (k := (c2 + (rE (g 2 x9) - rS (g 2 x9)))) (n := ((6 * c2) + (6 * (rE (g 2 x9) - rS (g 2 x9))))) (by show c2 + (rE (g 2 x9) - rS (g 2 x9)) ≤ (c2 + (rE (g 2 x9) - rS (g 2 x9))); omega) (by show (6 * c2) + (6 * (rE (g 2 x9) - rS (g 2 x9))) ≤ ((6 * c2) + (6 * (rE (g 2 x9) - rS (g 2 x9)))); omega) ?_
        refine W.eq (g2 := F0 m 31 ls []) rfl ?_
        have hbe50 := BdE.trans hbe2 h35
        have hbb51 : Bth B B25 := Bth.trans (show Thx (upd (upd (upd (upd (upd (upd (upd F 2 (nI sz)) 5 (nI cs)) 6 (nI rg)) 7 (nI hd)) 8 (nI dp)) 12 (nI vr)) 16 ls9) (upd (upd (upd (upd (upd (upd (upd (upd (upd (upd (upd (upd (upd (upd (upd (upd F 2 (nI sz)) 5 (nI cs)) 6 (nI rg)) 7 (nI hd)) 8 (nI dp)) 12 (nI vr)) 16 ls9) 5 (nI cs2)) 6 (nI rg2)) 7 (nI hd2)) 8 (nI dp2)) 12 (nI vr2)) 13 as2) 14 wt2) 15 wf2) 16 ls2) B B2 from (Thx.f (Thx.f (Thx.f (Thx.f (Thx.f (Thx.f (Thx.f (Thx.f (Thx.f (Bth.thx hbb2) (by omega)) (by omega)) (by omega)) (by omega)) (by omega)) (by omega)) (by omega)) (by omega)) (by omega))).2 h36
        have hng52 : Nng (B25 18) := h36.2 hng2
        refine lv_aload hx hb dX0_block_31 (lv_at hl 0 rfl) ?_
        rcases ho54 : K24.2.2.1 4 x9 with _ | o53
        · skip
          refine p_get (v := .null) (C := RX7) (Tc := TX7) (N := 11) (ci := 13) hx hb hq pin_wsX70 hown hE hP hO (by rw [hf49]; decide) (rep_1 hf49) rfl 10 (by decide) (hq _ pw_170) (fun _ h9 => h9) (congrArg (fun z => some (va_rf z)) ho54) dX0_block_33 ?_
          refine lv_astoreN (lv' := [(4, .null), (3, .int (nI hd)), (2, .int (nI vr)), (1, .ref q), (0, .ref (a 4))]) hx hb dX0_block_36 hl (by decide) rfl (fun ls hl => ?_)
          refine lv_goto (tgt := 19) hx hb dX0_block_38 (by decide) ?_
          refine W.widen (k := (c2 + (rE (g 2 x9) - rS (g 2 x9)))) (n := (6 * (c2 + (rE (g 2 x9) - rS (g 2 x9))))) (by show (c2 + (rE (g 2 x9) - rS (g 2 x9))) ≤ _; omega) (by show ((6 * c2) + (6 * (rE (g 2 x9) - rS (g 2 x9)))) ≤ _; omega) ?_
          have hO : OKP G h0 a (upd (upd (upd (upd (upd (upd (upd (upd (upd (upd F 2 (nI sz)) 5 (nI cs26)) 6 (nI rg33)) 7 (nI hd31)) 8 (nI dp32)) 12 (nI vr30)) 13 as27) 14 wt28) 15 wf29) 16 ls34) (updR (updR (updR R 2 (.ref pq)) 3 (.ref mq)) 4 (va_rf lo)) Z B25 J K24 w := hO.to rfl
          exact ih_g (g 2 x9 + 1) none K24 B25 cs26 as27 wt28 wf29 vr30 hd31 dp32 rg33 ls34 (rE (g 2 x9)) (c2 + (rE (g 2 x9) - rS (g 2 x9))) _ _ _ _ (by omega) (by omega) hbe50 ((show Thx (upd (upd (upd (upd (upd (upd (upd F 2 (nI sz)) 5 (nI cs)) 6 (nI rg)) 7 (nI hd)) 8 (nI dp)) 12 (nI vr)) 16 ls9) (upd (upd (upd (upd (upd (upd (upd (upd (upd (upd (upd (upd (upd (upd (upd (upd F 2 (nI sz)) 5 (nI cs)) 6 (nI rg)) 7 (nI hd)) 8 (nI dp)) 12 (nI vr)) 16 ls9) 5 (nI cs26)) 6 (nI rg33)) 7 (nI hd31)) 8 (nI dp32)) 12 (nI vr30)) 13 as27) 14 wt28) 15 wf29) 16 ls34) B B25 from (Thx.f (Thx.f (Thx.f (Thx.f (Thx.f (Thx.f (Thx.f (Thx.f (Thx.f (Bth.thx hbb51) (by omega)) (by omega)) (by omega)) (by omega)) (by omega)) (by omega)) (by omega)) (by omega)) (by omega))).2) hng52 (by omega) (by omega) (MmO.next (BdE.wp hbe50 hwp).1 hqL.1 hf49 hxd.2.1 hxd.2.2.2.1 ho54) (by omega) hP hD hS hO (lv_sub hl [0, 1, 2, 3, 4] rfl)
        · skip
          refine p_get (v := .ref o53) (C := RX7) (Tc := TX7) (N := 11) (ci := 13) hx hb hq pin_wsX70 hown hE hP hO (by rw [hf49]; decide) (rep_1 hf49) rfl 10 (by decide) (hq _ pw_170) (fun _ h9 => h9) (congrArg (fun z => some (va_rf z)) ho54) dX0_block_33 ?_
          refine lv_astore (lv' := [(4, .ref o53), (3, .int (nI hd)), (2, .int (nI vr)), (1, .ref q), (0, .ref (a 4))]) hx hb dX0_block_36 hl (by decide) rfl (fun ls hl => ?_)
          refine lv_goto (tgt := 19) hx hb dX0_block_38 (by decide) ?_
          refine W.widen (k := (c2 + (rE (g 2 x9) - rS (g 2 x9)))) (n := (6 * (c2 + (rE (g 2 x9) - rS (g 2 x9))))) (by show (c2 + (rE (g 2 x9) - rS (g 2 x9))) ≤ _; omega) (by show ((6 * c2) + (6 * (rE (g 2 x9) - rS (g 2 x9)))) ≤ _; omega) ?_
          have hO : OKP G h0 a (upd (upd (upd (upd (upd (upd (upd (upd (upd (upd F 2 (nI sz)) 5 (nI cs26)) 6 (nI rg33)) 7 (nI hd31)) 8 (nI dp32)) 12 (nI vr30)) 13 as27) 14 wt28) 15 wf29) 16 ls34) (updR (updR (updR R 2 (.ref pq)) 3 (.ref mq)) 4 (va_rf lo)) Z B25 J K24 w := hO.to rfl
          exact ih_g (g 2 x9 + 1) (some o53) K24 B25 cs26 as27 wt28 wf29 vr30 hd31 dp32 rg33 ls34 (rE (g 2 x9)) (c2 + (rE (g 2 x9) - rS (g 2 x9))) _ _ _ _ (by omega) (by omega) hbe50 ((show Thx (upd (upd (upd (upd (upd (upd (upd F 2 (nI sz)) 5 (nI cs)) 6 (nI rg)) 7 (nI hd)) 8 (nI dp)) 12 (nI vr)) 16 ls9) (upd (upd (upd (upd (upd (upd (upd (upd (upd (upd (upd (upd (upd (upd (upd (upd F 2 (nI sz)) 5 (nI cs)) 6 (nI rg)) 7 (nI hd)) 8 (nI dp)) 12 (nI vr)) 16 ls9) 5 (nI cs26)) 6 (nI rg33)) 7 (nI hd31)) 8 (nI dp32)) 12 (nI vr30)) 13 as27) 14 wt28) 15 wf29) 16 ls34) B B25 from (Thx.f (Thx.f (Thx.f (Thx.f (Thx.f (Thx.f (Thx.f (Thx.f (Thx.f (Bth.thx hbb51) (by omega)) (by omega)) (by omega)) (by omega)) (by omega)) (by omega)) (by omega)) (by omega)) (by omega))).2) hng52 (by omega) (by omega) (MmO.next (BdE.wp hbe50 hwp).1 hqL.1 hf49 hxd.2.1 hxd.2.2.2.1 ho54) (by omega) hP hD hS hO (lv_sub hl [0, 1, 2, 3, 4] rfl)
  refine lv_aload_n hx hb dX0_block_13 rfl (lv_at hl 3 rfl) ?_
  rcases ho56 : K.2.2.1 0 q with _ | o55
  · skip
    refine p_get (v := .null) (C := RX7) (Tc := TX7) (N := 11) (ci := 13) hx hb hq pin_wsX70 hown hE hP hO (by rw [hqT]; decide) (rep_1 hqT) rfl 6 (by decide) (hq _ pw_180) (fun _ h9 => h9) (congrArg (fun z => some (va_rf z)) ho56) dX0_block_14 ?_
    refine lv_astoreN (lv' := [(4, .null), (3, .int (nI hd)), (2, .int (nI vr)), (0, .ref (a 4)), (1, .ref q)]) hx hb dX0_block_17 hl (by decide) rfl (fun ls hl => ?_)
    refine W.widen (k := 0) (n := (6 * 0)) (by show 0 ≤ _; omega) (by show 0 ≤ _; omega) ?_
    have hO : OKP G h0 a (upd (upd (upd (upd (upd (upd (upd (upd (upd (upd F 2 (nI sz)) 5 (nI cs)) 6 (nI rg)) 7 (nI hd)) 8 (nI dp)) 12 (nI vr)) 13 (F 13)) 14 (F 14)) 15 (F 15)) 16 ls9) (updR (updR (updR R 2 (.ref pq)) 3 (.ref mq)) 4 (va_rf lo)) Z B J K w := hO.to rfl
    exact loop_g (100000000000000000001 + 1) 0 none K B cs (F 13) (F 14) (F 15) vr hd dp rg ls9 (rS (g 2 q) + 1) 0 _ _ _ _ (by omega) (by omega) BdE.rfl ((show Thx (upd (upd (upd (upd (upd (upd (upd F 2 (nI sz)) 5 (nI cs)) 6 (nI rg)) 7 (nI hd)) 8 (nI dp)) 12 (nI vr)) 16 ls9) (upd (upd (upd (upd (upd (upd (upd F 2 (nI sz)) 5 (nI cs)) 6 (nI rg)) 7 (nI hd)) 8 (nI dp)) 12 (nI vr)) 16 ls9) B B from Thx.rfl).2) hng (by omega) (by omega) (MmO.first21 hwp.1 hqT hqL.1 hkd ho56) (by omega) hP hD hS hO (lv_sub hl [0, 1, 2, 4, 3] rfl)
  · skip
    refine p_get (v := .ref o55) (C := RX7) (Tc := TX7) (N := 11) (ci := 13) hx hb hq pin_wsX70 hown hE hP hO (by rw [hqT]; decide) (rep_1 hqT) rfl 6 (by decide) (hq _ pw_180) (fun _ h9 => h9) (congrArg (fun z => some (va_rf z)) ho56) dX0_block_14 ?_
    refine lv_astore (lv' := [(4, .ref o55), (3, .int (nI hd)), (2, .int (nI vr)), (0, .ref (a 4)), (1, .ref q)]) hx hb dX0_block_17 hl (by decide) rfl (fun ls hl => ?_)
    refine W.widen (k := 0) (n := (6 * 0)) (by show 0 ≤ _; omega) (by show 0 ≤ _; omega) ?_
    have hO : OKP G h0 a (upd (upd (upd (upd (upd (upd (upd (upd (upd (upd F 2 (nI sz)) 5 (nI cs)) 6 (nI rg)) 7 (nI hd)) 8 (nI dp)) 12 (nI vr)) 13 (F 13)) 14 (F 14)) 15 (F 15)) 16 ls9) (updR (updR (updR R 2 (.ref pq)) 3 (.ref mq)) 4 (va_rf lo)) Z B J K w := hO.to rfl
    exact loop_g (100000000000000000001 + 1) 0 (some o55) K B cs (F 13) (F 14) (F 15) vr hd dp rg ls9 (rS (g 2 q) + 1) 0 _ _ _ _ (by omega) (by omega) BdE.rfl ((show Thx (upd (upd (upd (upd (upd (upd (upd F 2 (nI sz)) 5 (nI cs)) 6 (nI rg)) 7 (nI hd)) 8 (nI dp)) 12 (nI vr)) 16 ls9) (upd (upd (upd (upd (upd (upd (upd F 2 (nI sz)) 5 (nI cs)) 6 (nI rg)) 7 (nI hd)) 8 (nI dp)) 12 (nI vr)) 16 ls9) B B from Thx.rfl).2) hng (by omega) (by omega) (MmO.first21 hwp.1 hqT hqL.1 hkd ho56) (by omega) hP hD hS hO (lv_sub hl [0, 1, 2, 4, 3] rfl)
