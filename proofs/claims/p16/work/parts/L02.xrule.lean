/-! what an instruction asks of its place and of those that come behind it -/
def ArgL (fi : Nat → Nat → Prop) (pt : Nat → Nat) : List Nat → Prop
  | [] => True
  | t :: l => TL fi t (pt l.length) ∧ ArgL fi pt l
/-- what is known of classes and methods: cls c: it is a class; nr c name: the method that is called; np, pt, rt, ow: of a method how many parameters, their types, its result (63: none), its class -/
abbrev PXm : Type := (Nat → Prop) × (Nat → Int32 → Option Nat) × (Nat → Nat) × (Nat → Nat → Nat) × (Nat → Nat) × (Nat → Nat)
/-- behind a call -/
def Beh (fi : Nat → Nat → Prop) (u : Nat) (os : List Nat) (a b : AS) : Prop := (u = 63 → Go fi (wos os a) b) ∧ (¬ u = 63 → Go fi (wos (u :: os) a) b)
def SgT (l : Int32) (t1 t2 u : Nat) : Prop := ((l = 54 ∨ l = 55 ∨ l = 56 ∨ l = 57 ∨ l = 58 ∨ l = 59) ∧ u = 61) ∨ ((l = 44 ∨ l = 45 ∨ l = 46 ∨ l = 47 ∨ l = 48 ∨ l = 49 ∨ l = 50 ∨ l = 51 ∨ l = 62 ∨ l = 63 ∨ l = 64) ∧ u = 60) ∨ ((l = 49 ∨ l = 50 ∨ l = 51) ∧ BoT t1 ∧ BoT t2 ∧ u = 61)
def flp (t : Nat) : Nat := if t = 161 then 162 else if t = 162 then 161 else t
def PfT (l : Int32) (t u : Nat) : Prop := ((l = 45 ∨ l = 52) ∧ u = 60) ∨ (l = 53 ∧ BoT t ∧ u = flp t)
def IRk (fi : Nat → Nat → Prop) (fdn : Nat → Nat) (fty : Nat → Nat → Nat) (X : PXm) (sg : Int32 → Nat → Nat → Nat → Prop) (pf : Int32 → Nat → Nat → Prop) (fu : Nat → Prop) (pc m sn lim : Nat) (l r : Int32) (a b : AS) (T : Nat → AS) : Nat → Prop
  | 0 => Go fi a b
  | 1 => ∃ t : Nat, (∀ S : Nat → Nat, VT fi S t (nmV l)) ∧ Go fi (psh t a) b
  | 2 => ∃ s : Nat, l = nI s ∧ s < a.2.1 ∧ a.2.2.1 s < 900 ∧ Go fi (psh (a.2.2.1 s) a) b
  | 3 => ∃ (s t : Nat) (os : List Nat), l = nI s ∧ s < a.2.1 ∧ a.2.2.1 s < 900 ∧ a.2.2.2 = t :: os ∧ TL fi t (a.2.2.1 s) ∧ Go fi (wos os a) b
  | 4 => ∃ s t : Nat, l = nI s ∧ s = a.2.1 ∧ s < sn ∧ (t = 60 ∨ t = 61 ∨ RfT t) ∧ Go fi (a.1, s + 1, upM a.2.2.1 s t, a.2.2.2) b
  | 5 => ∃ (t : Nat) (os : List Nat), a.2.2.2 = t :: os ∧ Go fi (wos os a) b
  | 6 => ∃ x : Nat, l = nI x ∧ x ≤ lim ∧ Go fi a (T x) ∧ (pc < x ∨ fu x)
  | 7 => ∃ (x t : Nat) (os : List Nat), l = nI x ∧ x ≤ lim ∧ pc < x ∧ a.2.2.2 = t :: os ∧ BoT t ∧ (maT t → Go fi (wos os a) b) ∧ (maF t → Go fi (wos os a) (T x))
  | 8 => ∃ (x t : Nat) (os : List Nat), l = nI x ∧ x ≤ lim ∧ pc < x ∧ a.2.2.2 = t :: os ∧ BoT t ∧ (maT t → Go fi (wos os a) b) ∧ (maF t → Go fi (wos (162 :: os) a) (T x))
  | 9 => ∃ (x t : Nat) (os : List Nat), l = nI x ∧ x ≤ lim ∧ pc < x ∧ a.2.2.2 = t :: os ∧ BoT t ∧ (maF t → Go fi (wos os a) b) ∧ (maT t → Go fi (wos (161 :: os) a) (T x))
  | 10 => ∃ (t2 t1 u : Nat) (os : List Nat), a.2.2.2 = t2 :: t1 :: os ∧ sg l t1 t2 u ∧ Go fi (wos (u :: os) a) b
  | 11 => ∃ (t u : Nat) (os : List Nat), a.2.2.2 = t :: os ∧ pf l t u ∧ Go fi (wos (u :: os) a) b
  | 12 => Go fi (psh 60 a) b
  | 13 => ∃ (t : Nat) (os : List Nat), a.2.2.2 = t :: os ∧ Go fi (wos os a) b
  | 14 => ∃ (t u : Nat) (os : List Nat), l = nI u ∧ u < 128 ∧ a.2.2.2 = t :: os ∧ RfT t ∧ Go fi (wos (61 :: os) a) b
  | 15 => ∃ (t u : Nat) (os : List Nat), l = nI u ∧ RfT u ∧ a.2.2.2 = t :: os ∧ RfT t ∧ Go fi (wos (u :: os) a) b
  | 16 => ∃ (t : Nat) (os : List Nat), a.2.2.2 = t :: os ∧ RfT t ∧ Go fi (wos (60 :: os) a) b
  | 17 => ∃ (c k : Nat) (os : List Nat), l = nI k ∧ a.2.2.2 = c :: os ∧ c < 60 ∧ k < fdn c ∧ Go fi (wos (fty c k :: os) a) b
  | 18 => ∃ (t c k : Nat) (os : List Nat), l = nI k ∧ a.2.2.2 = t :: c :: os ∧ c < 60 ∧ k < fdn c ∧ TL fi t (fty c k) ∧ Go fi (wos os a) b
  | 19 => ∃ (t c : Nat) (os : List Nat), a.2.2.2 = t :: c :: os ∧ 64 ≤ c ∧ c < 128 ∧ Go fi (wos ((c - 64) :: os) a) b
  | 20 => ∃ (t i c : Nat) (os : List Nat), a.2.2.2 = t :: i :: c :: os ∧ 64 ≤ c ∧ c < 128 ∧ TL fi t (c - 64) ∧ Go fi (wos os a) b
  | 21 => ∃ c : Nat, l = nI c ∧ c < 60 ∧ X.1 c ∧ Go fi (psh c a) b
  | 22 => ∃ (t u : Nat) (os : List Nat), l = nI (64 + u) ∧ u < 62 ∧ a.2.2.2 = t :: os ∧ Go fi (wos ((64 + u) :: os) a) b
  | 23 => ∃ (c u : Nat) (os ar : List Nat), r = nI ar.length ∧ a.2.2.2 = ar ++ c :: os ∧ c < 60 ∧ (∀ d : Nat, (d < 60 → X.1 d) → fi d c → d < 60 ∧ ∃ j : Nat, X.2.1 d l = some j ∧ X.2.2.1 j = ar.length ∧ ArgL fi (X.2.2.2.1 j) ar ∧ X.2.2.2.2.1 j = u ∧ fi d (X.2.2.2.2.2 j)) ∧ Beh fi u os a b
  | 24 => ∃ (c u j : Nat) (os ar : List Nat), l = nI j ∧ r = nI ar.length ∧ a.2.2.2 = ar ++ c :: os ∧ X.2.2.1 j = ar.length ∧ ArgL fi (X.2.2.2.1 j) ar ∧ X.2.2.2.2.1 j = u ∧ TL fi c (X.2.2.2.2.2 j) ∧ (∃ (d : Nat) (x : Int32), X.1 d ∧ X.2.1 d x = some j) ∧ Beh fi u os a b
  | 25 => ∃ (t : Nat) (os : List Nat), a.2.2.2 = t :: os ∧ RfT t
  | 26 => X.2.2.2.2.1 m = 63
  | 27 => ∃ (t : Nat) (os : List Nat), a.2.2.2 = t :: os ∧ TL fi t (X.2.2.2.2.1 m) ∧ ¬ X.2.2.2.2.1 m = 63
  | 28 => ∃ x : Nat, a.2.2.2 = [] ∧ l = nI x ∧ x ≤ lim ∧ pc < x ∧ Go fi (wos [] a) (T x)
  | 29 => ∃ x s : Nat, l = nI x ∧ r = nI s ∧ x ≤ lim ∧ pc < x ∧ s + 2 ≤ sn ∧ s = a.2.1 ∧ Go fi (a.1, s + 2, upM (upM a.2.2.1 s (1001 + 2 * x)) (s + 1) 999, a.2.2.2) (T x)
  | 30 => ∃ s h e : Nat, a.2.2.2 = [] ∧ l = nI s ∧ s + 1 < a.2.1 ∧ e ≤ 1 ∧ h < lim ∧ a.2.2.1 s = 1000 + 2 * h + e ∧ (∀ i : Nat, i < s → a.2.2.1 i = (T h).2.2.1 i) ∧ (e = 1 → Go fi (a.1, s, a.2.2.1, a.2.2.2) b)
  | _ => False
section XR
variable {fi : Nat → Nat → Prop} {fdn : Nat → Nat} {fty : Nat → Nat → Nat} {X : PXm} {sg : Int32 → Nat → Nat → Nat → Prop} {pf : Int32 → Nat → Nat → Prop} {fu fu1 : Nat → Prop} {pc m sn sn1 lim lim1 k s : Nat} {l r : Int32} {a b c : AS} {T T1 : Nat → AS}
theorem TL.trans {t u v : Nat} (h : TL fi t u) (q : TL fi u v) : TL fi t v := fun S x z => q S x (h S x z)
theorem OL.trans : ∀ {x y z : List Nat}, OL fi x y → OL fi y z → OL fi x z
  | [], [], [], _, _ => trivial
  | _ :: _, _ :: _, _ :: _, h, q => ⟨h.1.trans q.1, OL.trans h.2 q.2⟩
  | [], [], _ :: _, _, q => q.elim
  | [], _ :: _, _, h, _ => h.elim
  | _ :: _, [], _, h, _ => h.elim
  | _ :: _, _ :: _, [], _, q => q.elim
theorem Go.trans (h : Go fi a b) (q : Go fi b c) : Go fi a c := ⟨q.1, by have := h.2.1; have := q.2.1; omega, fun s hs => (q.2.2.1 s hs).trans (h.2.2.1 s (by have := q.2.1; omega)), h.2.2.2.trans q.2.2.2⟩
/-- the place behind an instruction, and where it goes to, may be asked for less -/
theorem IRk.up (hb : ∀ z : AS, Go fi z b → Go fi z c) (hT : ∀ (x : Nat) (z : AS), x ≤ lim → Go fi z (T x) → Go fi z (T1 x)) (hs : sn ≤ sn1) (hl : lim ≤ lim1) (hf : ∀ x : Nat, x ≤ lim → fu x → fu1 x) (hE : ∀ x : Nat, x < lim → T1 x = T x) : ∀ {k : Nat}, IRk fi fdn fty X sg pf fu pc m sn lim l r a b T k → IRk fi fdn fty X sg pf fu1 pc m sn1 lim1 l r a c T1 k
  | 0, h => hb _ h
  | 1, ⟨t, h1, h2⟩ => ⟨t, h1, hb _ h2⟩
  | 2, ⟨s, h1, h2, h3, h4⟩ => ⟨s, h1, h2, h3, hb _ h4⟩
  | 3, ⟨s, t, os, h1, h2, h3, h4, h5, h6⟩ => ⟨s, t, os, h1, h2, h3, h4, h5, hb _ h6⟩
  | 4, ⟨s, t, h1, h2, h3, h4, h5⟩ => ⟨s, t, h1, h2, by omega, h4, hb _ h5⟩
  | 5, ⟨t, os, h1, h2⟩ => ⟨t, os, h1, hb _ h2⟩
  | 6, ⟨x, h1, h2, h3, h4⟩ => ⟨x, h1, by omega, hT x _ h2 h3, h4.imp id (hf x h2)⟩
  | 7, ⟨x, t, os, h1, h2, h3, h4, h5, h6, h7⟩ => ⟨x, t, os, h1, by omega, h3, h4, h5, fun z => hb _ (h6 z), fun z => hT x _ h2 (h7 z)⟩
  | 8, ⟨x, t, os, h1, h2, h3, h4, h5, h6, h7⟩ => ⟨x, t, os, h1, by omega, h3, h4, h5, fun z => hb _ (h6 z), fun z => hT x _ h2 (h7 z)⟩
  | 9, ⟨x, t, os, h1, h2, h3, h4, h5, h6, h7⟩ => ⟨x, t, os, h1, by omega, h3, h4, h5, fun z => hb _ (h6 z), fun z => hT x _ h2 (h7 z)⟩
  | 10, ⟨t2, t1, u, os, h1, h2, h3⟩ => ⟨t2, t1, u, os, h1, h2, hb _ h3⟩
  | 11, ⟨t, u, os, h1, h2, h3⟩ => ⟨t, u, os, h1, h2, hb _ h3⟩
  | 12, h => hb _ h
  | 13, ⟨t, os, h1, h2⟩ => ⟨t, os, h1, hb _ h2⟩
  | 14, ⟨t, u, os, h1, h2, h3, h4, h5⟩ => ⟨t, u, os, h1, h2, h3, h4, hb _ h5⟩
  | 15, ⟨t, u, os, h1, h2, h3, h4, h5⟩ => ⟨t, u, os, h1, h2, h3, h4, hb _ h5⟩
  | 16, ⟨t, os, h1, h2, h3⟩ => ⟨t, os, h1, h2, hb _ h3⟩
  | 17, ⟨c, k, os, h1, h2, h3, h4, h5⟩ => ⟨c, k, os, h1, h2, h3, h4, hb _ h5⟩
  | 18, ⟨t, c, k, os, h1, h2, h3, h4, h5, h6⟩ => ⟨t, c, k, os, h1, h2, h3, h4, h5, hb _ h6⟩
  | 19, ⟨t, c, os, h1, h2, h3, h4⟩ => ⟨t, c, os, h1, h2, h3, hb _ h4⟩
  | 20, ⟨t, i, c, os, h1, h2, h3, h4, h5⟩ => ⟨t, i, c, os, h1, h2, h3, h4, hb _ h5⟩
  | 21, ⟨c, h1, h2, h3, h4⟩ => ⟨c, h1, h2, h3, hb _ h4⟩
  | 22, ⟨t, u, os, h1, h2, h3, h4⟩ => ⟨t, u, os, h1, h2, h3, hb _ h4⟩
  | 23, ⟨c, u, os, ar, h1, h2, h3, h4, h5⟩ => ⟨c, u, os, ar, h1, h2, h3, h4, fun z => hb _ (h5.1 z), fun z => hb _ (h5.2 z)⟩
  | 24, ⟨c, u, j, os, ar, h1, h2, h3, h4, h5, h6, h7, h9, h8⟩ => ⟨c, u, j, os, ar, h1, h2, h3, h4, h5, h6, h7, h9, fun z => hb _ (h8.1 z), fun z => hb _ (h8.2 z)⟩
  | 25, h => h
  | 26, h => h
  | 27, h => h
  | 28, ⟨x, h0, h1, h2, h3, h4⟩ => ⟨x, h0, h1, by omega, h3, hT x _ h2 h4⟩
  | 29, ⟨x, s, h1, h2, h3, h4, h5, h6, h7⟩ => ⟨x, s, h1, h2, by omega, h4, by omega, h6, hT x _ h3 h7⟩
  | 30, ⟨s, h, e, h0, h1, h2, h3, h4, h5, h6, h7⟩ => ⟨s, h, e, h0, h1, h2, h3, by omega, h5, fun i hi => by rw [hE h h4]; exact h6 i hi, fun z => hb _ (h7 z)⟩
  | n + 31, h => h.elim
end XR
abbrev upI (f : Nat → Int32) (k : Nat) (v : Int32) : Nat → Int32 := upd f k v
def upS (f : Nat → AS) (k : Nat) (v : AS) : Nat → AS := fun i => if i = k then v else f i
/-- the code from lo to s is right, but for the jumps that are still to be aimed (pd) -/
def CT (fi : Nat → Nat → Prop) (fdn : Nat → Nat) (fty : Nat → Nat → Nat) (X : PXm) (sg : Int32 → Nat → Nat → Nat → Prop) (pf : Int32 → Nat → Nat → Prop) (O L R : Nat → Int32) (A : Nat → AS) (pd : Nat → Prop) (m sn lo s : Nat) : Prop :=
  ∀ pc : Nat, lo ≤ pc → pc < s → (A pc).1 = 1 → ¬ pd pc → ∃ k : Nat, k < 31 ∧ O pc = nI k ∧ IRk fi fdn fty X sg pf (fun x => lo ≤ x ∧ x < s ∧ O x = 0) pc m sn s (L pc) (R pc) (A pc) (A (pc + 1)) A k
section XT
variable {fi : Nat → Nat → Prop} {fdn : Nat → Nat} {fty : Nat → Nat → Nat} {X : PXm} {sg : Int32 → Nat → Nat → Nat → Prop} {pf : Int32 → Nat → Nat → Prop} {pd pd1 : Nat → Prop} {pc m sn sn1 lo k s i : Nat} {l r v : Int32} {O L R L1 f : Nat → Int32} {a b c : AS} {A g : Nat → AS}
theorem upI_eq : upI f k v k = v := if_pos rfl
theorem upI_ne (h : ¬ i = k) : upI f k v i = f i := if_neg h
theorem upS_eq : upS g k a k = a := if_pos rfl
theorem upS_ne (h : ¬ i = k) : upS g k a i = g i := if_neg h
/-- what stands stays right when an instruction comes, whatever it is -/
theorem CT.more (h : CT fi fdn fty X sg pf O L R A pd m sn lo s) (hs : sn ≤ sn1) (hp : ∀ x : Nat, pd x → pd1 x) (hx : pc < s) (h0 : lo ≤ pc) (h1 : (upS A (s + 1) b pc).1 = 1) (h2 : ¬ pd1 pc) :
    ∃ k9 : Nat, k9 < 31 ∧ upI O s v pc = nI k9 ∧ IRk fi fdn fty X sg pf (fun x => lo ≤ x ∧ x < s + 1 ∧ upI O s v x = 0) pc m sn1 (s + 1) (upI L s l pc) (upI R s r pc) (upS A (s + 1) b pc) (upS A (s + 1) b (pc + 1)) (upS A (s + 1) b) k9 := by
  rw [upS_ne (by omega)] at h1
  obtain ⟨k9, a1, a2, a3⟩ := h pc h0 hx h1 (fun z => h2 (hp pc z))
  rw [upI_ne (by omega), upI_ne (by omega), upI_ne (by omega), upS_ne (by omega), upS_ne (by omega)]
  exact ⟨k9, a1, a2, IRk.up (fun _ z => z) (fun x z hx9 hz => by rw [upS_ne (by omega)]; exact hz) hs (by omega) (fun x hx9 hz => ⟨hz.1, by omega, by rw [upI_ne (by omega)]; exact hz.2.2⟩) (fun x hx9 => upS_ne (by omega)) a3⟩
theorem CT.emit (h : CT fi fdn fty X sg pf O L R A pd m sn lo s) (hs : sn ≤ sn1) (hk : (A s).1 = 1 → k < 31 ∧ IRk fi fdn fty X sg pf (fun x => lo ≤ x ∧ x < s + 1 ∧ upI O s (nI k) x = 0) s m sn1 (s + 1) l r (A s) b (upS A (s + 1) b) k) :
    CT fi fdn fty X sg pf (upI O s (nI k)) (upI L s l) (upI R s r) (upS A (s + 1) b) pd m sn1 lo (s + 1) := fun pc h0 hx h1 h2 => by
  by_cases z : pc = s
  · subst z
    rw [upS_ne (by omega)] at h1
    obtain ⟨a1, a2⟩ := hk h1
    refine ⟨k, a1, upI_eq, ?_⟩
    rw [upI_eq, upI_eq, upS_ne (by omega), upS_eq]
    exact a2
  · exact h.more hs (fun _ w => w) (by omega) h0 h1 h2
/-- a jump that is to be aimed later -/
theorem CT.pend (h : CT fi fdn fty X sg pf O L R A pd m sn lo s) (hs : sn ≤ sn1) :
    CT fi fdn fty X sg pf (upI O s v) (upI L s l) (upI R s r) (upS A (s + 1) b) (fun x => pd x ∨ x = s) m sn1 lo (s + 1) := fun pc h0 hx h1 h2 =>
  h.more hs (fun _ w => Or.inl w) (by have : ¬ pc = s := fun z => h2 (Or.inr z); omega) h0 h1 h2
/-- jumps are aimed at what comes next; the place there is asked for less -/
theorem CT.land (h : CT fi fdn fty X sg pf O L R A pd m sn lo s) (hb : (A s).1 = 1 → Go fi (A s) b) (hl : ∀ x : Nat, ¬ pd x → L1 x = L x)
    (hx : ∀ x : Nat, lo ≤ x → x < s → pd x → ¬ pd1 x → (A x).1 = 1 → ∃ k : Nat, k < 31 ∧ O x = nI k ∧ IRk fi fdn fty X sg pf (fun y => lo ≤ y ∧ y < s ∧ O y = 0) x m sn s (L1 x) (R x) (A x) (upS A s b (x + 1)) (upS A s b) k) :
    CT fi fdn fty X sg pf O L1 R (upS A s b) pd1 m sn lo s := fun pc h0 hx9 h1 h2 => by
  rw [upS_ne (by omega)] at h1 ⊢
  by_cases z : pd pc
  · exact hx pc h0 hx9 z h2 h1
  · obtain ⟨k9, a1, a2, a3⟩ := h pc h0 hx9 h1 z
    rw [hl pc z]
    refine ⟨k9, a1, a2, IRk.up (fun y w => ?_) (fun x y hx8 w => ?_) (Nat.le_refl _) (Nat.le_refl _) (fun _ _ w => w) (fun x hx8 => upS_ne (by omega)) a3⟩
    · by_cases e : pc + 1 = s
      · rw [e, upS_eq]
        rw [e] at w
        exact w.trans (hb w.1)
      · rw [upS_ne e]; exact w
    · by_cases e : x = s
      · subst e
        rw [upS_eq]
        exact w.trans (hb w.1)
      · rw [upS_ne e]; exact w
end XT
