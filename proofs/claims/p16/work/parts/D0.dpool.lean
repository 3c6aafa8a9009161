abbrev PK : Type := (Nat → Nat) × (Nat → Nat → Int32) × (Nat → Nat → Option Nat) × (Nat → Int64) × (Nat → Nat → Option Nat) × (Nat → Nat)
def fsNode (a : Nat → Nat) (K : PK) (q : Nat) : List Value := [.int (K.2.1 0 q), .int (K.2.1 1 q), .int (K.2.1 2 q), .int (K.2.1 3 q), .int (K.2.1 4 q), .int (K.2.1 5 q), va_rf (K.2.2.1 0 q), va_rf (K.2.2.1 1 q), va_rf (K.2.2.1 2 q), va_rf (K.2.2.1 3 q), va_rf (K.2.2.1 4 q)]
def fsMethod (a : Nat → Nat) (K : PK) (q : Nat) : List Value := [va_rf (K.2.2.1 5 q), .int (K.2.1 6 q), .int (K.2.1 7 q), .int (K.2.1 8 q), va_rf (K.2.2.1 6 q), va_rf (K.2.2.1 7 q), .int (K.2.1 9 q), .int (K.2.1 10 q), .int (K.2.1 11 q), .int (K.2.1 12 q), .int (K.2.1 13 q), .int (K.2.1 14 q)]
def fsDecl (a : Nat → Nat) (K : PK) (q : Nat) : List Value := [.int (K.2.1 15 q), .int (K.2.1 16 q), .int (K.2.1 17 q), .int (K.2.1 18 q), .int (K.2.1 19 q), .int (K.2.1 20 q), .int (K.2.1 21 q), va_rf (K.2.2.1 8 q), va_rf (K.2.2.1 9 q), va_rf (K.2.2.1 10 q), .long (K.2.2.2.1 q), va_rf (K.2.2.1 11 q), va_rf (K.2.2.1 12 q)]
def fsList (a : Nat → Nat) (K : PK) (q : Nat) : List Value := [.int (K.2.1 22 q), va_rf (K.2.2.1 13 q), .int (K.2.1 23 q)]
def fsProgram (a : Nat → Nat) (K : PK) (q : Nat) : List Value := [va_rf (K.2.2.1 18 q), va_rf (K.2.2.1 14 q), .int (K.2.1 24 q), va_rf (K.2.2.1 15 q), .int (K.2.1 25 q)]
def fsLoop (a : Nat → Nat) (K : PK) (q : Nat) : List Value := [va_rf (K.2.2.1 16 q), .int (K.2.1 26 q), .int (K.2.1 27 q), .int (K.2.1 28 q), .int (K.2.1 29 q), .int (K.2.1 30 q)]
def rep (G : pT) (a : Nat → Nat) (K : PK) (q : Nat) : va_E := if K.1 q = 1 then .inr (13, fsNode a K q) else if K.1 q = 3 then .inr (12, fsMethod a K q) else if K.1 q = 4 then .inr (2, fsDecl a K q) else if K.1 q = 5 then .inr (10, fsList a K q) else if K.1 q = 7 then .inr (6, fsProgram a K q) else if K.1 q = 9 then .inr (11, fsLoop a K q) else if K.1 q = 8 then .inl (G.2.1 4, 37, .inr (.inr (.inr (.inr (K.2.2.2.2.1 q))))) else .inl (G.2.1 5, K.2.2.2.2.2 q, .inr (.inr (.inr (.inr (K.2.2.2.2.1 q)))))
theorem rep_1 {G : pT} {a : Nat → Nat} {K : PK} {q : Nat} (h : K.1 q = 1) : rep G a K q = .inr (13, fsNode a K q) := by
  unfold rep
  rw [h]; rfl
theorem rep_3 {G : pT} {a : Nat → Nat} {K : PK} {q : Nat} (h : K.1 q = 3) : rep G a K q = .inr (12, fsMethod a K q) := by
  unfold rep
  rw [h]; rfl
theorem rep_4 {G : pT} {a : Nat → Nat} {K : PK} {q : Nat} (h : K.1 q = 4) : rep G a K q = .inr (2, fsDecl a K q) := by
  unfold rep
  rw [h]; rfl
theorem rep_5 {G : pT} {a : Nat → Nat} {K : PK} {q : Nat} (h : K.1 q = 5) : rep G a K q = .inr (10, fsList a K q) := by
  unfold rep
  rw [h]; rfl
theorem rep_7 {G : pT} {a : Nat → Nat} {K : PK} {q : Nat} (h : K.1 q = 7) : rep G a K q = .inr (6, fsProgram a K q) := by
  unfold rep
  rw [h]; rfl
theorem rep_9 {G : pT} {a : Nat → Nat} {K : PK} {q : Nat} (h : K.1 q = 9) : rep G a K q = .inr (11, fsLoop a K q) := by
  unfold rep
  rw [h]; rfl
theorem rep_8 {G : pT} {a : Nat → Nat} {K : PK} {q : Nat} (h : K.1 q = 8) : rep G a K q = .inl (G.2.1 4, 37, .inr (.inr (.inr (.inr (K.2.2.2.2.1 q))))) := by
  unfold rep
  rw [h]; rfl
theorem rep_6 {G : pT} {a : Nat → Nat} {K : PK} {q : Nat} (h : K.1 q = 6) : rep G a K q = .inl (G.2.1 5, K.2.2.2.2.2 q, .inr (.inr (.inr (.inr (K.2.2.2.2.1 q))))) := by
  unfold rep
  rw [h]; rfl
def updF {α : Type} (I : Nat → Nat → α) (f q : Nat) (v : α) : Nat → Nat → α := fun g p => if g = f then (if p = q then v else I g p) else I g p
def kI (K : PK) (f q : Nat) (v : Int32) : PK := (K.1, updF K.2.1 f q v, K.2.2)
def kC (K : PK) (f q : Nat) (v : Option Nat) : PK := (K.1, K.2.1, updF K.2.2.1 f q v, K.2.2.2)
def kL (K : PK) (q : Nat) (v : Int64) : PK := (K.1, K.2.1, K.2.2.1, (fun p => if p = q then v else K.2.2.2.1 p), K.2.2.2.2)
def kE (K : PK) (q : Nat) (f : Nat → Option Nat) : PK := (K.1, K.2.1, K.2.2.1, K.2.2.2.1, (fun p => if p = q then f else K.2.2.2.2.1 p), K.2.2.2.2.2)
/-- a new one -/
def kN (K : PK) (q s n : Nat) : PK := ((fun p => if p = q then s else K.1 p), (fun f p => if p = q then 0 else K.2.1 f p), (fun f p => if p = q then none else K.2.2.1 f p), (fun p => if p = q then 0 else K.2.2.2.1 p), (fun p => if p = q then (fun _ => none) else K.2.2.2.2.1 p), (fun p => if p = q then n else K.2.2.2.2.2 p))
theorem updF_ne {α : Type} {I : Nat → Nat → α} {f q g p : Nat} {v : α} (h : ¬ p = q) : updF I f q v g p = I g p := by
  unfold updF
  by_cases z : g = f
  · rw [if_pos z, if_neg h]
  · rw [if_neg z]
theorem updF_eq {α : Type} {I : Nat → Nat → α} {f q : Nat} {v : α} : updF I f q v f q = v := by
  unfold updF
  rw [if_pos rfl, if_pos rfl]
theorem updF_of {α : Type} {I : Nat → Nat → α} {f q g p : Nat} {v : α} (h : ¬ g = f) : updF I f q v g p = I g p := by
  unfold updF
  rw [if_neg h]
section RP
variable {G : pT} {a : Nat → Nat} {K : PK} {f q p s n : Nat}
theorem rep_kI {v : Int32} (h : ¬ p = q) : rep G a (kI K f q v) p = rep G a K p := by
  unfold rep kI fsNode fsMethod fsDecl fsList fsProgram fsLoop
  simp only [updF_ne h]
theorem rep_kC {v : Option Nat} (h : ¬ p = q) : rep G a (kC K f q v) p = rep G a K p := by
  unfold rep kC fsNode fsMethod fsDecl fsList fsProgram fsLoop
  simp only [updF_ne h]
theorem rep_kL {v : Int64} (h : ¬ p = q) : rep G a (kL K q v) p = rep G a K p := by
  unfold rep kL fsNode fsMethod fsDecl fsList fsProgram fsLoop
  simp only [if_neg h]
theorem rep_kE {v : Nat → Option Nat} (h : ¬ p = q) : rep G a (kE K q v) p = rep G a K p := by
  unfold rep kE fsNode fsMethod fsDecl fsList fsProgram fsLoop
  simp only [if_neg h]
theorem rep_kN (h : ¬ p = q) : rep G a (kN K q s n) p = rep G a K p := by
  unfold rep kN fsNode fsMethod fsDecl fsList fsProgram fsLoop
  simp only [if_neg h]
end RP
theorem pi_0 {a : Nat → Nat} {K : PK} {q : Nat} {v : Int32} : fsNode a (kI K 0 q v) q = (fsNode a K q).set 0 (.int v) := by
  unfold fsNode kI updF
  simp
theorem pi_1 {a : Nat → Nat} {K : PK} {q : Nat} {v : Int32} : fsNode a (kI K 1 q v) q = (fsNode a K q).set 1 (.int v) := by
  unfold fsNode kI updF
  simp
theorem pi_2 {a : Nat → Nat} {K : PK} {q : Nat} {v : Int32} : fsNode a (kI K 2 q v) q = (fsNode a K q).set 2 (.int v) := by
  unfold fsNode kI updF
  simp
theorem pi_3 {a : Nat → Nat} {K : PK} {q : Nat} {v : Int32} : fsNode a (kI K 3 q v) q = (fsNode a K q).set 3 (.int v) := by
  unfold fsNode kI updF
  simp
theorem pi_4 {a : Nat → Nat} {K : PK} {q : Nat} {v : Int32} : fsNode a (kI K 4 q v) q = (fsNode a K q).set 4 (.int v) := by
  unfold fsNode kI updF
  simp
theorem pi_5 {a : Nat → Nat} {K : PK} {q : Nat} {v : Int32} : fsNode a (kI K 5 q v) q = (fsNode a K q).set 5 (.int v) := by
  unfold fsNode kI updF
  simp
theorem pc_0 {a : Nat → Nat} {K : PK} {q : Nat} {v : Option Nat} : fsNode a (kC K 0 q v) q = (fsNode a K q).set 6 (va_rf v) := by
  unfold fsNode kC updF
  simp
theorem pc_1 {a : Nat → Nat} {K : PK} {q : Nat} {v : Option Nat} : fsNode a (kC K 1 q v) q = (fsNode a K q).set 7 (va_rf v) := by
  unfold fsNode kC updF
  simp
theorem pc_2 {a : Nat → Nat} {K : PK} {q : Nat} {v : Option Nat} : fsNode a (kC K 2 q v) q = (fsNode a K q).set 8 (va_rf v) := by
  unfold fsNode kC updF
  simp
theorem pc_3 {a : Nat → Nat} {K : PK} {q : Nat} {v : Option Nat} : fsNode a (kC K 3 q v) q = (fsNode a K q).set 9 (va_rf v) := by
  unfold fsNode kC updF
  simp
theorem pc_4 {a : Nat → Nat} {K : PK} {q : Nat} {v : Option Nat} : fsNode a (kC K 4 q v) q = (fsNode a K q).set 10 (va_rf v) := by
  unfold fsNode kC updF
  simp
theorem pc_5 {a : Nat → Nat} {K : PK} {q : Nat} {v : Option Nat} : fsMethod a (kC K 5 q v) q = (fsMethod a K q).set 0 (va_rf v) := by
  unfold fsMethod kC updF
  simp
theorem pi_6 {a : Nat → Nat} {K : PK} {q : Nat} {v : Int32} : fsMethod a (kI K 6 q v) q = (fsMethod a K q).set 1 (.int v) := by
  unfold fsMethod kI updF
  simp
theorem pi_7 {a : Nat → Nat} {K : PK} {q : Nat} {v : Int32} : fsMethod a (kI K 7 q v) q = (fsMethod a K q).set 2 (.int v) := by
  unfold fsMethod kI updF
  simp
theorem pi_8 {a : Nat → Nat} {K : PK} {q : Nat} {v : Int32} : fsMethod a (kI K 8 q v) q = (fsMethod a K q).set 3 (.int v) := by
  unfold fsMethod kI updF
  simp
theorem pc_6 {a : Nat → Nat} {K : PK} {q : Nat} {v : Option Nat} : fsMethod a (kC K 6 q v) q = (fsMethod a K q).set 4 (va_rf v) := by
  unfold fsMethod kC updF
  simp
theorem pc_7 {a : Nat → Nat} {K : PK} {q : Nat} {v : Option Nat} : fsMethod a (kC K 7 q v) q = (fsMethod a K q).set 5 (va_rf v) := by
  unfold fsMethod kC updF
  simp
theorem pi_9 {a : Nat → Nat} {K : PK} {q : Nat} {v : Int32} : fsMethod a (kI K 9 q v) q = (fsMethod a K q).set 6 (.int v) := by
  unfold fsMethod kI updF
  simp
theorem pi_10 {a : Nat → Nat} {K : PK} {q : Nat} {v : Int32} : fsMethod a (kI K 10 q v) q = (fsMethod a K q).set 7 (.int v) := by
  unfold fsMethod kI updF
  simp
theorem pi_11 {a : Nat → Nat} {K : PK} {q : Nat} {v : Int32} : fsMethod a (kI K 11 q v) q = (fsMethod a K q).set 8 (.int v) := by
  unfold fsMethod kI updF
  simp
theorem pi_12 {a : Nat → Nat} {K : PK} {q : Nat} {v : Int32} : fsMethod a (kI K 12 q v) q = (fsMethod a K q).set 9 (.int v) := by
  unfold fsMethod kI updF
  simp
theorem pi_13 {a : Nat → Nat} {K : PK} {q : Nat} {v : Int32} : fsMethod a (kI K 13 q v) q = (fsMethod a K q).set 10 (.int v) := by
  unfold fsMethod kI updF
  simp
theorem pi_14 {a : Nat → Nat} {K : PK} {q : Nat} {v : Int32} : fsMethod a (kI K 14 q v) q = (fsMethod a K q).set 11 (.int v) := by
  unfold fsMethod kI updF
  simp
theorem pi_15 {a : Nat → Nat} {K : PK} {q : Nat} {v : Int32} : fsDecl a (kI K 15 q v) q = (fsDecl a K q).set 0 (.int v) := by
  unfold fsDecl kI updF
  simp
theorem pi_16 {a : Nat → Nat} {K : PK} {q : Nat} {v : Int32} : fsDecl a (kI K 16 q v) q = (fsDecl a K q).set 1 (.int v) := by
  unfold fsDecl kI updF
  simp
theorem pi_17 {a : Nat → Nat} {K : PK} {q : Nat} {v : Int32} : fsDecl a (kI K 17 q v) q = (fsDecl a K q).set 2 (.int v) := by
  unfold fsDecl kI updF
  simp
theorem pi_18 {a : Nat → Nat} {K : PK} {q : Nat} {v : Int32} : fsDecl a (kI K 18 q v) q = (fsDecl a K q).set 3 (.int v) := by
  unfold fsDecl kI updF
  simp
theorem pi_19 {a : Nat → Nat} {K : PK} {q : Nat} {v : Int32} : fsDecl a (kI K 19 q v) q = (fsDecl a K q).set 4 (.int v) := by
  unfold fsDecl kI updF
  simp
theorem pi_20 {a : Nat → Nat} {K : PK} {q : Nat} {v : Int32} : fsDecl a (kI K 20 q v) q = (fsDecl a K q).set 5 (.int v) := by
  unfold fsDecl kI updF
  simp
theorem pi_21 {a : Nat → Nat} {K : PK} {q : Nat} {v : Int32} : fsDecl a (kI K 21 q v) q = (fsDecl a K q).set 6 (.int v) := by
  unfold fsDecl kI updF
  simp
theorem pc_8 {a : Nat → Nat} {K : PK} {q : Nat} {v : Option Nat} : fsDecl a (kC K 8 q v) q = (fsDecl a K q).set 7 (va_rf v) := by
  unfold fsDecl kC updF
  simp
theorem pc_9 {a : Nat → Nat} {K : PK} {q : Nat} {v : Option Nat} : fsDecl a (kC K 9 q v) q = (fsDecl a K q).set 8 (va_rf v) := by
  unfold fsDecl kC updF
  simp
theorem pc_10 {a : Nat → Nat} {K : PK} {q : Nat} {v : Option Nat} : fsDecl a (kC K 10 q v) q = (fsDecl a K q).set 9 (va_rf v) := by
  unfold fsDecl kC updF
  simp
theorem pl_0 {a : Nat → Nat} {K : PK} {q : Nat} {v : Int64} : fsDecl a (kL K q v) q = (fsDecl a K q).set 10 (.long v) := by
  unfold fsDecl kL
  simp
theorem pc_11 {a : Nat → Nat} {K : PK} {q : Nat} {v : Option Nat} : fsDecl a (kC K 11 q v) q = (fsDecl a K q).set 11 (va_rf v) := by
  unfold fsDecl kC updF
  simp
theorem pc_12 {a : Nat → Nat} {K : PK} {q : Nat} {v : Option Nat} : fsDecl a (kC K 12 q v) q = (fsDecl a K q).set 12 (va_rf v) := by
  unfold fsDecl kC updF
  simp
theorem pi_22 {a : Nat → Nat} {K : PK} {q : Nat} {v : Int32} : fsList a (kI K 22 q v) q = (fsList a K q).set 0 (.int v) := by
  unfold fsList kI updF
  simp
theorem pc_13 {a : Nat → Nat} {K : PK} {q : Nat} {v : Option Nat} : fsList a (kC K 13 q v) q = (fsList a K q).set 1 (va_rf v) := by
  unfold fsList kC updF
  simp
theorem pi_23 {a : Nat → Nat} {K : PK} {q : Nat} {v : Int32} : fsList a (kI K 23 q v) q = (fsList a K q).set 2 (.int v) := by
  unfold fsList kI updF
  simp
theorem pc_18 {a : Nat → Nat} {K : PK} {q : Nat} {v : Option Nat} : fsProgram a (kC K 18 q v) q = (fsProgram a K q).set 0 (va_rf v) := by
  unfold fsProgram kC updF
  simp
theorem pc_14 {a : Nat → Nat} {K : PK} {q : Nat} {v : Option Nat} : fsProgram a (kC K 14 q v) q = (fsProgram a K q).set 1 (va_rf v) := by
  unfold fsProgram kC updF
  simp
theorem pi_24 {a : Nat → Nat} {K : PK} {q : Nat} {v : Int32} : fsProgram a (kI K 24 q v) q = (fsProgram a K q).set 2 (.int v) := by
  unfold fsProgram kI updF
  simp
theorem pc_15 {a : Nat → Nat} {K : PK} {q : Nat} {v : Option Nat} : fsProgram a (kC K 15 q v) q = (fsProgram a K q).set 3 (va_rf v) := by
  unfold fsProgram kC updF
  simp
theorem pi_25 {a : Nat → Nat} {K : PK} {q : Nat} {v : Int32} : fsProgram a (kI K 25 q v) q = (fsProgram a K q).set 4 (.int v) := by
  unfold fsProgram kI updF
  simp
theorem pc_16 {a : Nat → Nat} {K : PK} {q : Nat} {v : Option Nat} : fsLoop a (kC K 16 q v) q = (fsLoop a K q).set 0 (va_rf v) := by
  unfold fsLoop kC updF
  simp
theorem pi_26 {a : Nat → Nat} {K : PK} {q : Nat} {v : Int32} : fsLoop a (kI K 26 q v) q = (fsLoop a K q).set 1 (.int v) := by
  unfold fsLoop kI updF
  simp
theorem pi_27 {a : Nat → Nat} {K : PK} {q : Nat} {v : Int32} : fsLoop a (kI K 27 q v) q = (fsLoop a K q).set 2 (.int v) := by
  unfold fsLoop kI updF
  simp
theorem pi_28 {a : Nat → Nat} {K : PK} {q : Nat} {v : Int32} : fsLoop a (kI K 28 q v) q = (fsLoop a K q).set 3 (.int v) := by
  unfold fsLoop kI updF
  simp
theorem pi_29 {a : Nat → Nat} {K : PK} {q : Nat} {v : Int32} : fsLoop a (kI K 29 q v) q = (fsLoop a K q).set 4 (.int v) := by
  unfold fsLoop kI updF
  simp
theorem pi_30 {a : Nat → Nat} {K : PK} {q : Nat} {v : Int32} : fsLoop a (kI K 30 q v) q = (fsLoop a K q).set 5 (.int v) := by
  unfold fsLoop kI updF
  simp
