theorem chlt {B : Nat → Int32} {sz j : Nat} {r : Int32} (htx : ∀ j : Nat, j < sz → tOk (B j)) (hj : j < sz) (q : r = (-1) ∨ j < sz ∧ r = B j) : r < 256 := by
  rcases q with e | ⟨-, e⟩
  · rw [e]; decide
  · obtain ⟨k, hk, e2⟩ := htx j hj
    rw [e, e2]
    exact nI_lt (b := 256) hk (by decide)
theorem chin {B : Nat → Int32} {sz j : Nat} {r : Int32} (q : r = (-1) ∨ j < sz ∧ r = B j) (h : ¬ r = (-1)) : j < sz := (q.resolve_left h).1
/-- the names' rows lie within the bytes that are used -/
def rNm (nm us : Nat) (f10 f11 : Nat → Int32) : Prop := ∀ n : Nat, n < nm → ∃ p q : Nat, f10 n = nI p ∧ f11 n = nI q ∧ p + q ≤ us
theorem rNm_new {nm us len us1 : Nat} {f10 f11 : Nat → Int32} (h : rNm nm us f10 f11) (hu : us + len ≤ us1) : rNm (nm + 1) us1 (upd f10 nm (nI us)) (upd f11 nm (nI len)) := fun n hn => by
  unfold upd
  by_cases e : n = nm
  · rw [if_pos e, if_pos e]; exact ⟨us, len, rfl, rfl, hu⟩
  · rw [if_neg e, if_neg e]
    obtain ⟨p, q, h1, h2, h3⟩ := h n (by omega)
    exact ⟨p, q, h1, h2, by omega⟩
theorem rNm_0 (us : Nat) (f10 f11 : Nat → Int32) : rNm 0 us f10 f11 := fun n hn => absurd hn (Nat.not_lt_zero _)
theorem dX12_intern_0 : decode cX12_intern 0 = .ok (.iconst 0, 1) := by decide +kernel
theorem dX12_intern_1 : decode cX12_intern 1 = .ok (.istore_n 3, 1) := by decide +kernel
theorem dX12_intern_2 : decode cX12_intern 2 = .ok (.iload_n 3, 1) := by decide +kernel
theorem dX12_intern_3 : decode cX12_intern 3 = .ok (.aload_n 0, 1) := by decide +kernel
theorem dX12_intern_4 : decode cX12_intern 4 = .ok (.getfield 277, 3) := by decide +kernel
theorem dX12_intern_7 : decode cX12_intern 7 = .ok (.if_icmp .ge 90, 3) := by decide +kernel
theorem dX12_intern_97 : decode cX12_intern 97 = .ok (.aload_n 0, 1) := by decide +kernel
theorem dX12_intern_98 : decode cX12_intern 98 = .ok (.getfield 28, 3) := by decide +kernel
theorem dX12_intern_101 : decode cX12_intern 101 = .ok (.aload_n 0, 1) := by decide +kernel
theorem dX12_intern_102 : decode cX12_intern 102 = .ok (.getfield 277, 3) := by decide +kernel
theorem dX12_intern_105 : decode cX12_intern 105 = .ok (.aload_n 0, 1) := by decide +kernel
theorem dX12_intern_106 : decode cX12_intern 106 = .ok (.getfield 280, 3) := by decide +kernel
theorem dX12_intern_109 : decode cX12_intern 109 = .ok (.iastore, 1) := by decide +kernel
theorem dX12_intern_110 : decode cX12_intern 110 = .ok (.aload_n 0, 1) := by decide +kernel
theorem dX12_intern_111 : decode cX12_intern 111 = .ok (.getfield 31, 3) := by decide +kernel
theorem dX12_intern_114 : decode cX12_intern 114 = .ok (.aload_n 0, 1) := by decide +kernel
theorem dX12_intern_115 : decode cX12_intern 115 = .ok (.getfield 277, 3) := by decide +kernel
theorem dX12_intern_118 : decode cX12_intern 118 = .ok (.iload_n 2, 1) := by decide +kernel
theorem dX12_intern_119 : decode cX12_intern 119 = .ok (.iload_n 1, 1) := by decide +kernel
theorem dX12_intern_120 : decode cX12_intern 120 = .ok (.isub, 1) := by decide +kernel
theorem dX12_intern_121 : decode cX12_intern 121 = .ok (.iastore, 1) := by decide +kernel
theorem dX12_intern_122 : decode cX12_intern 122 = .ok (.iload_n 1, 1) := by decide +kernel
theorem dX12_intern_123 : decode cX12_intern 123 = .ok (.istore_n 3, 1) := by decide +kernel
theorem dX12_intern_124 : decode cX12_intern 124 = .ok (.iload_n 3, 1) := by decide +kernel
theorem dX12_intern_125 : decode cX12_intern 125 = .ok (.iload_n 2, 1) := by decide +kernel
theorem dX12_intern_126 : decode cX12_intern 126 = .ok (.if_icmp .ge 35, 3) := by decide +kernel
theorem dX12_intern_161 : decode cX12_intern 161 = .ok (.aload_n 0, 1) := by decide +kernel
theorem dX12_intern_162 : decode cX12_intern 162 = .ok (.dup, 1) := by decide +kernel
theorem dX12_intern_163 : decode cX12_intern 163 = .ok (.getfield 277, 3) := by decide +kernel
theorem dX12_intern_166 : decode cX12_intern 166 = .ok (.iconst 1, 1) := by decide +kernel
theorem dX12_intern_167 : decode cX12_intern 167 = .ok (.iadd, 1) := by decide +kernel
theorem dX12_intern_168 : decode cX12_intern 168 = .ok (.putfield 277, 3) := by decide +kernel
theorem dX12_intern_171 : decode cX12_intern 171 = .ok (.aload_n 0, 1) := by decide +kernel
theorem dX12_intern_172 : decode cX12_intern 172 = .ok (.getfield 277, 3) := by decide +kernel
theorem dX12_intern_175 : decode cX12_intern 175 = .ok (.iconst 1, 1) := by decide +kernel
theorem dX12_intern_176 : decode cX12_intern 176 = .ok (.isub, 1) := by decide +kernel
theorem dX12_intern_177 : decode cX12_intern 177 = .ok (.ireturn, 1) := by decide +kernel
theorem dX12_intern_129 : decode cX12_intern 129 = .ok (.aload_n 0, 1) := by decide +kernel
theorem dX12_intern_130 : decode cX12_intern 130 = .ok (.getfield 34, 3) := by decide +kernel
theorem dX12_intern_133 : decode cX12_intern 133 = .ok (.aload_n 0, 1) := by decide +kernel
theorem dX12_intern_134 : decode cX12_intern 134 = .ok (.getfield 280, 3) := by decide +kernel
theorem dX12_intern_137 : decode cX12_intern 137 = .ok (.aload_n 0, 1) := by decide +kernel
theorem dX12_intern_138 : decode cX12_intern 138 = .ok (.getfield 13, 3) := by decide +kernel
theorem dX12_intern_141 : decode cX12_intern 141 = .ok (.iload_n 3, 1) := by decide +kernel
theorem dX12_intern_142 : decode cX12_intern 142 = .ok (.iaload, 1) := by decide +kernel
theorem dX12_intern_143 : decode cX12_intern 143 = .ok (.i2b, 1) := by decide +kernel
theorem dX12_intern_144 : decode cX12_intern 144 = .ok (.bastore, 1) := by decide +kernel
theorem dX12_intern_145 : decode cX12_intern 145 = .ok (.aload_n 0, 1) := by decide +kernel
theorem dX12_intern_146 : decode cX12_intern 146 = .ok (.dup, 1) := by decide +kernel
theorem dX12_intern_147 : decode cX12_intern 147 = .ok (.getfield 280, 3) := by decide +kernel
theorem dX12_intern_150 : decode cX12_intern 150 = .ok (.iconst 1, 1) := by decide +kernel
theorem dX12_intern_151 : decode cX12_intern 151 = .ok (.iadd, 1) := by decide +kernel
theorem dX12_intern_152 : decode cX12_intern 152 = .ok (.putfield 280, 3) := by decide +kernel
theorem dX12_intern_155 : decode cX12_intern 155 = .ok (.iinc 3 1, 3) := by decide +kernel
theorem dX12_intern_158 : decode cX12_intern 158 = .ok (.goto (-34), 3) := by decide +kernel
theorem dX12_intern_10 : decode cX12_intern 10 = .ok (.aload_n 0, 1) := by decide +kernel
theorem dX12_intern_11 : decode cX12_intern 11 = .ok (.getfield 31, 3) := by decide +kernel
theorem dX12_intern_14 : decode cX12_intern 14 = .ok (.iload_n 3, 1) := by decide +kernel
theorem dX12_intern_15 : decode cX12_intern 15 = .ok (.iaload, 1) := by decide +kernel
theorem dX12_intern_16 : decode cX12_intern 16 = .ok (.iload_n 2, 1) := by decide +kernel
theorem dX12_intern_17 : decode cX12_intern 17 = .ok (.iload_n 1, 1) := by decide +kernel
theorem dX12_intern_18 : decode cX12_intern 18 = .ok (.isub, 1) := by decide +kernel
theorem dX12_intern_19 : decode cX12_intern 19 = .ok (.if_icmp .ne 7, 3) := by decide +kernel
theorem dX12_intern_26 : decode cX12_intern 26 = .ok (.iconst 0, 1) := by decide +kernel
theorem dX12_intern_27 : decode cX12_intern 27 = .ok (.istore 4, 2) := by decide +kernel
theorem dX12_intern_29 : decode cX12_intern 29 = .ok (.iconst 0, 1) := by decide +kernel
theorem dX12_intern_30 : decode cX12_intern 30 = .ok (.istore 5, 2) := by decide +kernel
theorem dX12_intern_32 : decode cX12_intern 32 = .ok (.iload 4, 2) := by decide +kernel
theorem dX12_intern_34 : decode cX12_intern 34 = .ok (.ifCond .eq 50, 3) := by decide +kernel
theorem dX12_intern_84 : decode cX12_intern 84 = .ok (.iload 4, 2) := by decide +kernel
theorem dX12_intern_86 : decode cX12_intern 86 = .ok (.ifCond .eq 5, 3) := by decide +kernel
theorem dX12_intern_91 : decode cX12_intern 91 = .ok (.iinc 3 1, 3) := by decide +kernel
theorem dX12_intern_94 : decode cX12_intern 94 = .ok (.goto (-92), 3) := by decide +kernel
theorem dX12_intern_89 : decode cX12_intern 89 = .ok (.iload_n 3, 1) := by decide +kernel
theorem dX12_intern_90 : decode cX12_intern 90 = .ok (.ireturn, 1) := by decide +kernel
theorem dX12_intern_37 : decode cX12_intern 37 = .ok (.iload 5, 2) := by decide +kernel
theorem dX12_intern_39 : decode cX12_intern 39 = .ok (.iload_n 2, 1) := by decide +kernel
theorem dX12_intern_40 : decode cX12_intern 40 = .ok (.iload_n 1, 1) := by decide +kernel
theorem dX12_intern_41 : decode cX12_intern 41 = .ok (.isub, 1) := by decide +kernel
theorem dX12_intern_42 : decode cX12_intern 42 = .ok (.if_icmp .ge 42, 3) := by decide +kernel
theorem dX12_intern_45 : decode cX12_intern 45 = .ok (.aload_n 0, 1) := by decide +kernel
theorem dX12_intern_46 : decode cX12_intern 46 = .ok (.getfield 34, 3) := by decide +kernel
theorem dX12_intern_49 : decode cX12_intern 49 = .ok (.aload_n 0, 1) := by decide +kernel
theorem dX12_intern_50 : decode cX12_intern 50 = .ok (.getfield 28, 3) := by decide +kernel
theorem dX12_intern_53 : decode cX12_intern 53 = .ok (.iload_n 3, 1) := by decide +kernel
theorem dX12_intern_54 : decode cX12_intern 54 = .ok (.iaload, 1) := by decide +kernel
theorem dX12_intern_55 : decode cX12_intern 55 = .ok (.iload 5, 2) := by decide +kernel
theorem dX12_intern_57 : decode cX12_intern 57 = .ok (.iadd, 1) := by decide +kernel
theorem dX12_intern_58 : decode cX12_intern 58 = .ok (.baload, 1) := by decide +kernel
theorem dX12_intern_59 : decode cX12_intern 59 = .ok (.aload_n 0, 1) := by decide +kernel
theorem dX12_intern_60 : decode cX12_intern 60 = .ok (.getfield 13, 3) := by decide +kernel
theorem dX12_intern_63 : decode cX12_intern 63 = .ok (.iload_n 1, 1) := by decide +kernel
theorem dX12_intern_64 : decode cX12_intern 64 = .ok (.iload 5, 2) := by decide +kernel
theorem dX12_intern_66 : decode cX12_intern 66 = .ok (.iadd, 1) := by decide +kernel
theorem dX12_intern_67 : decode cX12_intern 67 = .ok (.iaload, 1) := by decide +kernel
theorem dX12_intern_68 : decode cX12_intern 68 = .ok (.if_icmp .ne 7, 3) := by decide +kernel
theorem dX12_intern_75 : decode cX12_intern 75 = .ok (.iconst 0, 1) := by decide +kernel
theorem dX12_intern_76 : decode cX12_intern 76 = .ok (.istore 4, 2) := by decide +kernel
theorem dX12_intern_78 : decode cX12_intern 78 = .ok (.iinc 5 1, 3) := by decide +kernel
theorem dX12_intern_81 : decode cX12_intern 81 = .ok (.goto (-49), 3) := by decide +kernel
theorem dX12_intern_71 : decode cX12_intern 71 = .ok (.iconst 1, 1) := by decide +kernel
theorem dX12_intern_72 : decode cX12_intern 72 = .ok (.goto 4, 3) := by decide +kernel
theorem dX12_intern_22 : decode cX12_intern 22 = .ok (.iconst 1, 1) := by decide +kernel
theorem dX12_intern_23 : decode cX12_intern 23 = .ok (.goto 4, 3) := by decide +kernel
set_option maxHeartbeats 2000000 in
set_option maxRecDepth 100000 in
/-- intern(from, to) -/
theorem R_intern (l : Launch) (G : pT) (h0 : Nat) (a : Nat → Nat) (F : Nat → Int32) (B : Nat → Nat → Int32) (fr : Nat) (tt : Nat) (nm : Nat) (us : Nat) (f10 : Nat → Int32) (f11 : Nat → Int32) (f12 : Nat → Int32) (hft : fr ≤ tt) (htt : tt ≤ 5000) (hnm : nm ≤ 9 + fr) (hus : us ≤ 40 + fr) (hR : rNm nm us f10 f11) : PM l G pX0 yX12_intern cX12_intern 6 (some .int) ({ frames := 2, cells := 0, slots := 0, locals := 60 }) [.ref h0, .int (nI fr), .int (nI tt)] (mW G h0 a (upd (upd F 13 (nI us)) 14 (nI nm)) (updA (updA (updA B 6 f10) 7 f11) 8 f12)) (fun (v : Option Value) (u : Nat × Nat × (Nat → Int32) × (Nat → Int32) × (Nat → Int32) × Int32) => v = some (.int u.2.2.2.2.2) ∧ (u.1 ≤ nm + 1) ∧ (u.2.1 ≤ us + (tt - fr)) ∧ (rNm u.1 u.2.1 u.2.2.1 u.2.2.2.1) ∧ (∃ k : Nat, k < u.1 ∧ u.2.2.2.2.2 = nI k) ∧ (nm ≤ u.1)) (fun u => (mW G h0 a (upd (upd F 13 (nI u.2.1)) 14 (nI u.1)) (updA (updA (updA B 6 u.2.2.1) 7 u.2.2.2.1) 8 u.2.2.2.2.1))) := by
  intro sz
  refine Met.ofW (cc := cX12_intern) (maxL := 6) (ret := (some .int)) (by decide) rfl ?_
  intro p e s m args below meth c s₁ B9 hml hv
  obtain ⟨rfl, hsz, hP, hD0, hE, hX⟩ := hv
  have hx := B9.exec
  have hb := B9.bytes
  have hr := B9.returns
  have hts := atoms_spec (ws := Cond.code yX12_intern cX12_intern 6 (some .int) :: pw) B9.pre
  have hq : ∀ w ∈ pw, w.before _ s = true := fun w h => hts w (List.mem_cons_of_mem _ h)
  have hown : s.vm.findClass RX12 = some m.cls := findClass_of_methodNamed B9.named
  have hlocks := B9.notSynchronized
  subst hsz
  have hD := hD0.self (sz := s.heap.size)
  have hA : ∀ q : Nat, s.heap.size ≤ q → va_A (mW G h0 a (upd (upd F 13 (nI us)) 14 (nI nm)) (updA (updA (updA B 6 f10) 7 f11) 8 f12)) s.heap.size q := fun q h => Or.inr h
  have hP : va_P G.1 pCl (mW G h0 a (upd (upd F 13 (nI us)) 14 (nI nm)) (updA (updA (updA B 6 f10) 7 f11) 8 f12)) s.heap := hP
  generalize va_A (mW G h0 a (upd (upd F 13 (nI us)) 14 (nI nm)) (updA (updA (updA B 6 f10) 7 f11) 8 f12)) s.heap.size = A at hD hE hA ⊢
  have hS : va_S A s.heap s.heap [] := va_S.rf
  have hl := lv_entry ([.ref h0, .int (nI fr), .int (nI tt)]) (n := 6) (Nat.le_of_ble_eq_true rfl)
  rw [lg_entry_eq]
  generalize (lg_sl ([.ref h0, .int (nI fr), .int (nI tt)]) ++ List.replicate (6 - (lg_sl ([.ref h0, .int (nI fr), .int (nI tt)])).length) Slot.unset).toArray = ls at hl ⊢
  have hl : lv_has ls 6 [(0, .ref h0), (1, .int (nI fr)), (2, .int (nI tt))] := hl
  refine lv_iconst (v := 0) hx hb dX12_intern_0 (by decide) ?_
  refine lv_istore_n (lv' := [(3, .int 0), (0, .ref h0), (1, .int (nI fr)), (2, .int (nI tt))]) hx hb dX12_intern_1 rfl hl (by decide) rfl (fun ls hl => ?_)
  have loop_o : ∀ (n_o : Nat) (n : Nat) (H : Heap) (locs : List Loc) (ls : Array Slot), n ≤ nm → nm + 1 ≤ n + n_o → va_P G.1 pCl (mW G h0 a (upd (upd F 13 (nI us)) 14 (nI nm)) (updA (updA (updA B 6 f10) 7 f11) 8 f12)) H → va_D A (mW G h0 a (upd (upd F 13 (nI us)) 14 (nI nm)) (updA (updA (updA B 6 f10) 7 f11) 8 f12)) → va_S A s.heap H locs → lv_has ls 6 [(3, .int (nI n)), (0, .ref h0), (1, .int (nI fr)), (2, .int (nI tt))] → W p l e (headSpec (Cond.code yX12_intern cX12_intern 6 (some .int) :: pw) ({ frames := 2, cells := 0, slots := 0, locals := 60 } : Room)).room s m ([.ref h0, .int (nI fr), .int (nI tt)] : List Value).toArray below meth c H locs 0 0 (MQ below (pQ G A (fun (v : Option Value) (u : Nat × Nat × (Nat → Int32) × (Nat → Int32) × (Nat → Int32) × Int32) => v = some (.int u.2.2.2.2.2) ∧ (u.1 ≤ nm + 1) ∧ (u.2.1 ≤ us + (tt - fr)) ∧ (rNm u.1 u.2.1 u.2.2.1 u.2.2.2.1) ∧ (∃ k : Nat, k < u.1 ∧ u.2.2.2.2.2 = nI k) ∧ (nm ≤ u.1)) (fun u => (mW G h0 a (upd (upd F 13 (nI u.2.1)) 14 (nI u.1)) (updA (updA (updA B 6 u.2.2.1) 7 u.2.2.2.1) 8 u.2.2.2.2.1)))) ([.ref h0, .int (nI fr), .int (nI tt)] : List Value).toArray s ({ frames := 2, cells := 0, slots := 0, locals := 60 } : Room).cells ({ frames := 2, cells := 0, slots := 0, locals := 60 } : Room).slots A) (F0 m 2 ls []) := by
    intro n_o
    induction n_o with
    | zero => intro n H locs ls hk_o hn_o; omega
    | succ n_o ih_o =>
      intro n H locs ls hk_o hn_o hP hD hS hl
      refine lv_iload_n hx hb dX12_intern_2 rfl (lv_at hl 0 rfl) ?_
      refine lv_aload_n hx hb dX12_intern_3 rfl (lv_at hl 1 rfl) ?_
      refine r_get (v := .int (nI nm)) hx hb hown hq hE hP 14 277 tFX12_14 (by decide) pw_1529 rfl dX12_intern_4 ?_
      refine lv_icmp_ge (tgt := 97) hx hb dX12_intern_7 (by decide) (fun c1 => ?_) (fun c1 => ?_)
      · have n2 : nm ≤ n := (nI_leI (a := nm) (b := n) (by omega) (by omega)).mp c1
        refine lv_aload_n hx hb dX12_intern_97 rfl (lv_at hl 1 rfl) ?_
        refine r_get (v := .ref (a 6)) hx hb hown hq hE hP 10 28 tFX12_10 (by decide) pw_1436 rfl dX12_intern_98 ?_
        refine lv_aload_n hx hb dX12_intern_101 rfl (lv_at hl 1 rfl) ?_
        refine r_get (v := .int (nI nm)) hx hb hown hq hE hP 14 277 tFX12_14 (by decide) pw_1529 rfl dX12_intern_102 ?_
        refine lv_aload_n hx hb dX12_intern_105 rfl (lv_at hl 1 rfl) ?_
        refine r_get (v := .int (nI us)) hx hb hown hq hE hP 13 280 tFX12_13 (by decide) pw_1530 rfl dX12_intern_106 ?_
        refine r_sti (f := f10) (j := nm) hx hb hE hP hD hS 6 (ma_6 G a _) rfl (mas_6 G a _) (by omega) (by decide) dX12_intern_109 (fun H locs hP hD hS => ?_)
        refine lv_aload_n hx hb dX12_intern_110 rfl (lv_at hl 1 rfl) ?_
        refine r_get (v := .ref (a 7)) hx hb hown hq hE hP 11 31 tFX12_11 (by decide) pw_1437 rfl dX12_intern_111 ?_
        refine lv_aload_n hx hb dX12_intern_114 rfl (lv_at hl 1 rfl) ?_
        refine r_get (v := .int (nI nm)) hx hb hown hq hE hP 14 277 tFX12_14 (by decide) pw_1529 rfl dX12_intern_115 ?_
        refine lv_iload_n hx hb dX12_intern_118 rfl (lv_at hl 3 rfl) ?_
        refine lv_iload_n hx hb dX12_intern_119 rfl (lv_at hl 2 rfl) ?_
        refine lv_isub hx hb dX12_intern_120 ?_
        refine lv_topi (fun x3 e4 => ?_)
        obtain rfl : x3 = nI (tt - fr) := e4.trans (nI_subN (a := fr) (b := tt) (by omega))
        refine r_sti (f := f11) (j := nm) hx hb hE hP hD hS 7 (ma_7 G a _) rfl (mas_7 G a _) (by omega) (by decide) dX12_intern_121 (fun H locs hP hD hS => ?_)
        refine lv_iload_n hx hb dX12_intern_122 rfl (lv_at hl 2 rfl) ?_
        refine lv_istore_n (lv' := [(3, .int (nI fr)), (0, .ref h0), (1, .int (nI fr)), (2, .int (nI tt))]) hx hb dX12_intern_123 rfl hl (by decide) rfl (fun ls hl => ?_)
        have loop_a : ∀ (n_a : Nat) (k2 : Nat) (gl : Nat → Int32) (H : Heap) (locs : List Loc) (ls : Array Slot), k2 ≤ (tt - fr) → (tt - fr) + 1 ≤ k2 + n_a → va_P G.1 pCl (mW G h0 a (upd (upd F 13 (nI (us + k2))) 14 (nI nm)) (updA (updA (updA B 6 (upd f10 nm (nI us))) 7 (upd f11 nm (nI (tt - fr)))) 8 gl)) H → va_D A (mW G h0 a (upd (upd F 13 (nI (us + k2))) 14 (nI nm)) (updA (updA (updA B 6 (upd f10 nm (nI us))) 7 (upd f11 nm (nI (tt - fr)))) 8 gl)) → va_S A s.heap H locs → lv_has ls 6 [(3, .int (nI (fr + k2))), (0, .ref h0), (1, .int (nI fr)), (2, .int (nI tt))] → W p l e (headSpec (Cond.code yX12_intern cX12_intern 6 (some .int) :: pw) ({ frames := 2, cells := 0, slots := 0, locals := 60 } : Room)).room s m ([.ref h0, .int (nI fr), .int (nI tt)] : List Value).toArray below meth c H locs 0 0 (MQ below (pQ G A (fun (v : Option Value) (u : Nat × Nat × (Nat → Int32) × (Nat → Int32) × (Nat → Int32) × Int32) => v = some (.int u.2.2.2.2.2) ∧ (u.1 ≤ nm + 1) ∧ (u.2.1 ≤ us + (tt - fr)) ∧ (rNm u.1 u.2.1 u.2.2.1 u.2.2.2.1) ∧ (∃ k : Nat, k < u.1 ∧ u.2.2.2.2.2 = nI k) ∧ (nm ≤ u.1)) (fun u => (mW G h0 a (upd (upd F 13 (nI u.2.1)) 14 (nI u.1)) (updA (updA (updA B 6 u.2.2.1) 7 u.2.2.2.1) 8 u.2.2.2.2.1)))) ([.ref h0, .int (nI fr), .int (nI tt)] : List Value).toArray s ({ frames := 2, cells := 0, slots := 0, locals := 60 } : Room).cells ({ frames := 2, cells := 0, slots := 0, locals := 60 } : Room).slots A) (F0 m 124 ls []) := by
          intro n_a
          induction n_a with
          | zero => intro k2 gl H locs ls hk_a hn_a; omega
          | succ n_a ih_a =>
            intro k2 gl H locs ls hk_a hn_a hP hD hS hl
            refine lv_iload_n hx hb dX12_intern_124 rfl (lv_at hl 0 rfl) ?_
            refine lv_iload_n hx hb dX12_intern_125 rfl (lv_at hl 3 rfl) ?_
            refine lv_icmp_ge (tgt := 161) hx hb dX12_intern_126 (by decide) (fun c5 => ?_) (fun c5 => ?_)
            · have n6 : tt ≤ (fr + k2) := (nI_leI (a := tt) (b := (fr + k2)) (by omega) (by omega)).mp c5
              refine lv_aload_n hx hb dX12_intern_161 rfl (lv_at hl 1 rfl) ?_
              refine lv_dup hx hb dX12_intern_162 rfl ?_
              refine r_get (v := .int (nI nm)) hx hb hown hq hE hP 14 277 tFX12_14 (by decide) pw_1529 rfl dX12_intern_163 ?_
              refine lv_iconst (v := 1) hx hb dX12_intern_166 (by decide) ?_
              refine lv_iadd hx hb dX12_intern_167 ?_
              refine lv_topi (fun x7 e8 => ?_)
              obtain rfl : x7 = nI (nm + 1) := e8.trans (nI_add (nm) (1))
              refine r_put (v := (nI (nm + 1))) (ty := .int) hx hb hown hq hE hP hD hS 14 277 tFX12_14 (by decide) pw_1529 (by decide) rfl rfl (ms_14 a _ _) dX12_intern_168 (fun H locs hP hD hS => ?_)
              refine lv_aload_n hx hb dX12_intern_171 rfl (lv_at hl 1 rfl) ?_
              refine r_get (v := .int (nI (nm + 1))) hx hb hown hq hE hP 14 277 tFX12_14 (by decide) pw_1529 rfl dX12_intern_172 ?_
              refine lv_iconst (v := 1) hx hb dX12_intern_175 (by decide) ?_
              refine lv_isub hx hb dX12_intern_176 ?_
              refine lv_topi (fun x9 e10 => ?_)
              obtain rfl : x9 = nI ((nm + 1) - 1) := e10.trans (nI_subN (a := 1) (b := (nm + 1)) (by omega))
              have hz11 : (nm + 1) ≤ nm + 1 := (by omega)
              have hz12 : (us + k2) ≤ us + (tt - fr) := (by omega)
              have hz13 : rNm (nm + 1) (us + k2) (upd f10 nm (nI us)) (upd f11 nm (nI (tt - fr))) := (rNm_new hR (by omega))
              have hz14 : ∃ k : Nat, k < (nm + 1) ∧ (nI ((nm + 1) - 1)) = nI k := ⟨nm, by omega, rfl⟩
              have hz15 : nm ≤ (nm + 1) := (by omega)
              have hP : va_P G.1 pCl (mW G h0 a (upd (upd F 13 (nI (us + k2))) 14 (nI (nm + 1))) (updA (updA (updA B 6 (upd f10 nm (nI us))) 7 (upd f11 nm (nI (tt - fr)))) 8 gl)) _ := mW_to (F := F) (l1 := [(13, (nI (us + k2))), (14, (nI nm)), (14, (nI (nm + 1)))]) (l2 := [(13, (nI (us + k2))), (14, (nI (nm + 1)))]) (V := [(nI (us + k2)), (nI (nm + 1)), (nI (nm + 1)), (nI (us + k2)), (nI (nm + 1))]) rfl rfl rfl hP
              have hD : va_D A (mW G h0 a (upd (upd F 13 (nI (us + k2))) 14 (nI (nm + 1))) (updA (updA (updA B 6 (upd f10 nm (nI us))) 7 (upd f11 nm (nI (tt - fr)))) 8 gl)) := mW_D hD
              exact W.iret (v := (nI ((nm + 1) - 1))) hx hb hr (fun t9 ht9 hW9 => ⟨⟨_, ((nm + 1), (us + k2), (upd f10 nm (nI us)), (upd f11 nm (nI (tt - fr))), gl, (nI ((nm + 1) - 1))), rfl, ⟨rfl, hz11, hz12, hz13, hz14, hz15⟩, by rw [ht9]; exact hP, hD⟩, hS.F ht9⟩) hS.2.2 dX12_intern_177
            · have n16 : ¬ (tt ≤ (fr + k2)) := fun h9 => c5 ((nI_leI (a := tt) (b := (fr + k2)) (by omega) (by omega)).mpr h9)
              refine lv_aload_n hx hb dX12_intern_129 rfl (lv_at hl 1 rfl) ?_
              refine r_get (v := .ref (a 8)) hx hb hown hq hE hP 12 34 tFX12_12 (by decide) pw_1438 rfl dX12_intern_130 ?_
              refine lv_aload_n hx hb dX12_intern_133 rfl (lv_at hl 1 rfl) ?_
              refine r_get (v := .int (nI (us + k2))) hx hb hown hq hE hP 13 280 tFX12_13 (by decide) pw_1530 rfl dX12_intern_134 ?_
              refine lv_aload_n hx hb dX12_intern_137 rfl (lv_at hl 1 rfl) ?_
              refine r_get (v := .ref (a 1)) hx hb hown hq hE hP 3 13 tFX12_3 (by decide) pw_1431 rfl dX12_intern_138 ?_
              refine lv_iload_n hx hb dX12_intern_141 rfl (lv_at hl 0 rfl) ?_
              refine r_ldi (f := (B 1)) (j := (fr + k2)) hx hb hE hP 1 (ma_1 G a _) rfl (by omega) (by decide) dX12_intern_142 ?_
              refine lv_topi (fun x17 e18 => ?_)
              refine lv_i2b hx hb dX12_intern_143 rfl ?_
              refine lv_topi (fun x19 e20 => ?_)
              refine r_stb (f := gl) (j := (us + k2)) hx hb hE hP hD hS 8 (ma_8 G a _) rfl (mas_8 G a _) (by omega) (by decide) dX12_intern_144 (fun H locs hP hD hS => ?_)
              have hP : va_P G.1 pCl (mW G h0 a (upd (upd F 13 (nI (us + k2))) 14 (nI nm)) (updA (updA (updA B 6 (upd f10 nm (nI us))) 7 (upd f11 nm (nI (tt - fr)))) 8 (upd gl (us + k2) (vp_nar .byte x19)))) _ := mW_to (F := F) (l1 := [(13, (nI (us + k2))), (14, (nI nm))]) (l2 := [(13, (nI (us + k2))), (14, (nI nm))]) (V := [(nI (us + k2)), (nI nm), (nI (us + k2)), (nI nm)]) rfl rfl (show (updA (updA (updA (updA B 6 (upd f10 nm (nI us))) 7 (upd f11 nm (nI (tt - fr)))) 8 gl) 8 (upd gl (us + k2) (vp_nar .byte x19))) = (updA (updA (updA B 6 (upd f10 nm (nI us))) 7 (upd f11 nm (nI (tt - fr)))) 8 (upd gl (us + k2) (vp_nar .byte x19))) from updsA_eq2 (F := B) (l1 := [(6, (upd f10 nm (nI us))), (7, (upd f11 nm (nI (tt - fr)))), (8, gl), (8, (upd gl (us + k2) (vp_nar .byte x19)))]) (l2 := [(6, (upd f10 nm (nI us))), (7, (upd f11 nm (nI (tt - fr)))), (8, (upd gl (us + k2) (vp_nar .byte x19)))]) (V := [(upd f10 nm (nI us)), (upd f11 nm (nI (tt - fr))), (upd gl (us + k2) (vp_nar .byte x19)), (upd gl (us + k2) (vp_nar .byte x19)), (upd f10 nm (nI us)), (upd f11 nm (nI (tt - fr))), (upd gl (us + k2) (vp_nar .byte x19))]) rfl rfl) hP
              have hD : va_D A (mW G h0 a (upd (upd F 13 (nI (us + k2))) 14 (nI nm)) (updA (updA (updA B 6 (upd f10 nm (nI us))) 7 (upd f11 nm (nI (tt - fr)))) 8 (upd gl (us + k2) (vp_nar .byte x19)))) := mW_D hD
              generalize (upd gl (us + k2) (vp_nar .byte x19)) = f21 at hP hD
              refine lv_aload_n hx hb dX12_intern_145 rfl (lv_at hl 1 rfl) ?_
              refine lv_dup hx hb dX12_intern_146 rfl ?_
              refine r_get (v := .int (nI (us + k2))) hx hb hown hq hE hP 13 280 tFX12_13 (by decide) pw_1530 rfl dX12_intern_147 ?_
              refine lv_iconst (v := 1) hx hb dX12_intern_150 (by decide) ?_
              refine lv_iadd hx hb dX12_intern_151 ?_
              refine lv_topi (fun x22 e23 => ?_)
              obtain rfl : x22 = nI ((us + k2) + 1) := e23.trans (nI_add ((us + k2)) (1))
              refine r_put (v := (nI ((us + k2) + 1))) (ty := .int) hx hb hown hq hE hP hD hS 13 280 tFX12_13 (by decide) pw_1530 (by decide) rfl rfl (ms_13 a _ _) dX12_intern_152 (fun H locs hP hD hS => ?_)
              refine lv_iinc (v := (nI ((fr + k2) + 1))) (lv' := [(3, .int (nI ((fr + k2) + 1))), (0, .ref h0), (1, .int (nI fr)), (2, .int (nI tt))]) hx hb dX12_intern_155 hl (k := 0) rfl (nI_1 (fr + k2)) (by decide) rfl (fun ls hl => ?_)
              refine lv_goto (tgt := 124) hx hb dX12_intern_158 (by decide) ?_
              have hP : va_P G.1 pCl (mW G h0 a (upd (upd F 13 (nI (us + (k2 + 1)))) 14 (nI nm)) (updA (updA (updA B 6 (upd f10 nm (nI us))) 7 (upd f11 nm (nI (tt - fr)))) 8 f21)) _ := hP
              have hD : va_D A (mW G h0 a (upd (upd F 13 (nI (us + (k2 + 1)))) 14 (nI nm)) (updA (updA (updA B 6 (upd f10 nm (nI us))) 7 (upd f11 nm (nI (tt - fr)))) 8 f21)) := mW_D hD
              exact ih_a (k2 + 1) f21 _ _ _ (by omega) (by omega) hP hD hS (lv_sub hl [0, 1, 2, 3] rfl)
        have hP : va_P G.1 pCl (mW G h0 a (upd (upd F 13 (nI (us + 0))) 14 (nI nm)) (updA (updA (updA B 6 (upd f10 nm (nI us))) 7 (upd f11 nm (nI (tt - fr)))) 8 f12)) _ := mW_to (F := F) (l1 := [(13, (nI us)), (14, (nI nm))]) (l2 := [(13, (nI (us + 0))), (14, (nI nm))]) (V := [(nI (us + 0)), (nI nm), (nI (us + 0)), (nI nm)]) rfl rfl (show (updA (updA (updA (updA (updA B 6 f10) 7 f11) 8 f12) 6 (upd f10 nm (nI us))) 7 (upd f11 nm (nI (tt - fr)))) = (updA (updA (updA B 6 (upd f10 nm (nI us))) 7 (upd f11 nm (nI (tt - fr)))) 8 f12) from updsA_eq2 (F := B) (l1 := [(6, f10), (7, f11), (8, f12), (6, (upd f10 nm (nI us))), (7, (upd f11 nm (nI (tt - fr))))]) (l2 := [(6, (upd f10 nm (nI us))), (7, (upd f11 nm (nI (tt - fr)))), (8, f12)]) (V := [(upd f10 nm (nI us)), (upd f11 nm (nI (tt - fr))), f12, (upd f10 nm (nI us)), (upd f11 nm (nI (tt - fr))), (upd f10 nm (nI us)), (upd f11 nm (nI (tt - fr))), f12]) rfl rfl) hP
        have hD : va_D A (mW G h0 a (upd (upd F 13 (nI (us + 0))) 14 (nI nm)) (updA (updA (updA B 6 (upd f10 nm (nI us))) 7 (upd f11 nm (nI (tt - fr)))) 8 f12)) := mW_D hD
        exact loop_a ((tt - fr) + 1) 0 f12 _ _ _ (by omega) (by omega) hP hD hS (lv_sub hl [0, 1, 2, 3] rfl)
      · have n24 : ¬ (nm ≤ n) := fun h9 => c1 ((nI_leI (a := nm) (b := n) (by omega) (by omega)).mpr h9)
        refine lv_aload_n hx hb dX12_intern_10 rfl (lv_at hl 1 rfl) ?_
        refine r_get (v := .ref (a 7)) hx hb hown hq hE hP 11 31 tFX12_11 (by decide) pw_1437 rfl dX12_intern_11 ?_
        refine lv_iload_n hx hb dX12_intern_14 rfl (lv_at hl 0 rfl) ?_
        refine r_ldi (f := f11) (j := n) hx hb hE hP 7 (ma_7 G a _) rfl (by omega) (by decide) dX12_intern_15 ?_
        obtain ⟨p9, q9, e10, e11, h9⟩ := hR n (by omega)
        refine lv_topi (fun x25 e26 => ?_)
        obtain rfl : x25 = nI q9 := e26.trans e11
        refine lv_iload_n hx hb dX12_intern_16 rfl (lv_at hl 3 rfl) ?_
        refine lv_iload_n hx hb dX12_intern_17 rfl (lv_at hl 2 rfl) ?_
        refine lv_isub hx hb dX12_intern_18 ?_
        refine lv_topi (fun x27 e28 => ?_)
        obtain rfl : x27 = nI (tt - fr) := e28.trans (nI_subN (a := fr) (b := tt) (by omega))
        refine lv_icmp_ne (tgt := 26) hx hb dX12_intern_19 (by decide) (fun c29 => ?_) (fun c29 => ?_)
        · have n30 : ¬ (q9 = (tt - fr)) := fun h9 => c29 ((nI_eq (a := q9) (b := (tt - fr)) (by omega) (by omega)).mpr h9)
          refine lv_iconst (v := 0) hx hb dX12_intern_26 (by decide) ?_
          refine lv_istore (lv' := [(4, .int 0), (3, .int (nI n)), (0, .ref h0), (1, .int (nI fr)), (2, .int (nI tt))]) hx hb dX12_intern_27 hl (by decide) rfl (fun ls hl => ?_)
          refine lv_iconst (v := 0) hx hb dX12_intern_29 (by decide) ?_
          refine lv_istore (lv' := [(5, .int 0), (4, .int 0), (3, .int (nI n)), (0, .ref h0), (1, .int (nI fr)), (2, .int (nI tt))]) hx hb dX12_intern_30 hl (by decide) rfl (fun ls hl => ?_)
          have loop_k : ∀ (n_k : Nat) (k : Nat) (sm : Int32) (H : Heap) (locs : List Loc) (ls : Array Slot), k ≤ (tt - fr) → (tt - fr) + 1 ≤ k + n_k → (sm = 0 ∨ q9 = tt - fr) → va_P G.1 pCl (mW G h0 a (upd (upd F 13 (nI us)) 14 (nI nm)) (updA (updA (updA B 6 f10) 7 f11) 8 f12)) H → va_D A (mW G h0 a (upd (upd F 13 (nI us)) 14 (nI nm)) (updA (updA (updA B 6 f10) 7 f11) 8 f12)) → va_S A s.heap H locs → lv_has ls 6 [(5, .int (nI k)), (4, .int sm), (3, .int (nI n)), (0, .ref h0), (1, .int (nI fr)), (2, .int (nI tt))] → W p l e (headSpec (Cond.code yX12_intern cX12_intern 6 (some .int) :: pw) ({ frames := 2, cells := 0, slots := 0, locals := 60 } : Room)).room s m ([.ref h0, .int (nI fr), .int (nI tt)] : List Value).toArray below meth c H locs 0 0 (MQ below (pQ G A (fun (v : Option Value) (u : Nat × Nat × (Nat → Int32) × (Nat → Int32) × (Nat → Int32) × Int32) => v = some (.int u.2.2.2.2.2) ∧ (u.1 ≤ nm + 1) ∧ (u.2.1 ≤ us + (tt - fr)) ∧ (rNm u.1 u.2.1 u.2.2.1 u.2.2.2.1) ∧ (∃ k : Nat, k < u.1 ∧ u.2.2.2.2.2 = nI k) ∧ (nm ≤ u.1)) (fun u => (mW G h0 a (upd (upd F 13 (nI u.2.1)) 14 (nI u.1)) (updA (updA (updA B 6 u.2.2.1) 7 u.2.2.2.1) 8 u.2.2.2.2.1)))) ([.ref h0, .int (nI fr), .int (nI tt)] : List Value).toArray s ({ frames := 2, cells := 0, slots := 0, locals := 60 } : Room).cells ({ frames := 2, cells := 0, slots := 0, locals := 60 } : Room).slots A) (F0 m 32 ls []) := by
            intro n_k
            induction n_k with
            | zero => intro k sm H locs ls hk_k hn_k; omega
            | succ n_k ih_k =>
              intro k sm H locs ls hk_k hn_k hsm hP hD hS hl
              refine lv_iload hx hb dX12_intern_32 (lv_at hl 1 rfl) ?_
              refine lv_if_eq (tgt := 84) hx hb dX12_intern_34 (by decide) (fun c31 => ?_) (fun c31 => ?_)
              · refine lv_iload hx hb dX12_intern_84 (lv_at hl 1 rfl) ?_
                refine lv_if_eq (tgt := 91) hx hb dX12_intern_86 (by decide) (fun c32 => ?_) (fun c32 => ?_)
                · refine lv_iinc (v := (nI (n + 1))) (lv' := [(3, .int (nI (n + 1))), (5, .int (nI k)), (4, .int sm), (0, .ref h0), (1, .int (nI fr)), (2, .int (nI tt))]) hx hb dX12_intern_91 hl (k := 2) rfl (nI_1 n) (by decide) rfl (fun ls hl => ?_)
                  refine lv_goto (tgt := 2) hx hb dX12_intern_94 (by decide) ?_
                  have hP : va_P G.1 pCl (mW G h0 a (upd (upd F 13 (nI us)) 14 (nI nm)) (updA (updA (updA B 6 f10) 7 f11) 8 f12)) _ := hP
                  have hD : va_D A (mW G h0 a (upd (upd F 13 (nI us)) 14 (nI nm)) (updA (updA (updA B 6 f10) 7 f11) 8 f12)) := mW_D hD
                  exact ih_o (n + 1) _ _ _ (by omega) (by omega) hP hD hS (lv_sub hl [0, 3, 4, 5] rfl)
                · refine lv_iload_n hx hb dX12_intern_89 rfl (lv_at hl 2 rfl) ?_
                  have hz33 : nm ≤ nm + 1 := (by omega)
                  have hz34 : us ≤ us + (tt - fr) := (by omega)
                  have hz35 : rNm nm us f10 f11 := hR
                  have hz36 : ∃ k : Nat, k < nm ∧ (nI n) = nI k := ⟨n, by omega, rfl⟩
                  have hz37 : nm ≤ nm := (by omega)
                  have hP : va_P G.1 pCl (mW G h0 a (upd (upd F 13 (nI us)) 14 (nI nm)) (updA (updA (updA B 6 f10) 7 f11) 8 f12)) _ := hP
                  have hD : va_D A (mW G h0 a (upd (upd F 13 (nI us)) 14 (nI nm)) (updA (updA (updA B 6 f10) 7 f11) 8 f12)) := mW_D hD
                  exact W.iret (v := (nI n)) hx hb hr (fun t9 ht9 hW9 => ⟨⟨_, (nm, us, f10, f11, f12, (nI n)), rfl, ⟨rfl, hz33, hz34, hz35, hz36, hz37⟩, by rw [ht9]; exact hP, hD⟩, hS.F ht9⟩) hS.2.2 dX12_intern_90
              · have hq9 : q9 = tt - fr := hsm.resolve_left c31
                refine lv_iload hx hb dX12_intern_37 (lv_at hl 0 rfl) ?_
                refine lv_iload_n hx hb dX12_intern_39 rfl (lv_at hl 5 rfl) ?_
                refine lv_iload_n hx hb dX12_intern_40 rfl (lv_at hl 4 rfl) ?_
                refine lv_isub hx hb dX12_intern_41 ?_
                refine lv_topi (fun x38 e39 => ?_)
                obtain rfl : x38 = nI (tt - fr) := e39.trans (nI_subN (a := fr) (b := tt) (by omega))
                refine lv_icmp_ge (tgt := 84) hx hb dX12_intern_42 (by decide) (fun c40 => ?_) (fun c40 => ?_)
                · have n41 : (tt - fr) ≤ k := (nI_leI (a := (tt - fr)) (b := k) (by omega) (by omega)).mp c40
                  refine lv_iload hx hb dX12_intern_84 (lv_at hl 1 rfl) ?_
                  refine lv_if_eq (tgt := 91) hx hb dX12_intern_86 (by decide) (fun c42 => ?_) (fun c42 => ?_)
                  · refine lv_iinc (v := (nI (n + 1))) (lv' := [(3, .int (nI (n + 1))), (5, .int (nI k)), (4, .int sm), (0, .ref h0), (1, .int (nI fr)), (2, .int (nI tt))]) hx hb dX12_intern_91 hl (k := 2) rfl (nI_1 n) (by decide) rfl (fun ls hl => ?_)
                    refine lv_goto (tgt := 2) hx hb dX12_intern_94 (by decide) ?_
                    have hP : va_P G.1 pCl (mW G h0 a (upd (upd F 13 (nI us)) 14 (nI nm)) (updA (updA (updA B 6 f10) 7 f11) 8 f12)) _ := hP
                    have hD : va_D A (mW G h0 a (upd (upd F 13 (nI us)) 14 (nI nm)) (updA (updA (updA B 6 f10) 7 f11) 8 f12)) := mW_D hD
                    exact ih_o (n + 1) _ _ _ (by omega) (by omega) hP hD hS (lv_sub hl [0, 3, 4, 5] rfl)
                  · refine lv_iload_n hx hb dX12_intern_89 rfl (lv_at hl 2 rfl) ?_
                    have hz43 : nm ≤ nm + 1 := (by omega)
                    have hz44 : us ≤ us + (tt - fr) := (by omega)
                    have hz45 : rNm nm us f10 f11 := hR
                    have hz46 : ∃ k : Nat, k < nm ∧ (nI n) = nI k := ⟨n, by omega, rfl⟩
                    have hz47 : nm ≤ nm := (by omega)
                    have hP : va_P G.1 pCl (mW G h0 a (upd (upd F 13 (nI us)) 14 (nI nm)) (updA (updA (updA B 6 f10) 7 f11) 8 f12)) _ := hP
                    have hD : va_D A (mW G h0 a (upd (upd F 13 (nI us)) 14 (nI nm)) (updA (updA (updA B 6 f10) 7 f11) 8 f12)) := mW_D hD
                    exact W.iret (v := (nI n)) hx hb hr (fun t9 ht9 hW9 => ⟨⟨_, (nm, us, f10, f11, f12, (nI n)), rfl, ⟨rfl, hz43, hz44, hz45, hz46, hz47⟩, by rw [ht9]; exact hP, hD⟩, hS.F ht9⟩) hS.2.2 dX12_intern_90
                · have n48 : ¬ ((tt - fr) ≤ k) := fun h9 => c40 ((nI_leI (a := (tt - fr)) (b := k) (by omega) (by omega)).mpr h9)
                  refine lv_aload_n hx hb dX12_intern_45 rfl (lv_at hl 3 rfl) ?_
                  refine r_get (v := .ref (a 8)) hx hb hown hq hE hP 12 34 tFX12_12 (by decide) pw_1438 rfl dX12_intern_46 ?_
                  refine lv_aload_n hx hb dX12_intern_49 rfl (lv_at hl 3 rfl) ?_
                  refine r_get (v := .ref (a 6)) hx hb hown hq hE hP 10 28 tFX12_10 (by decide) pw_1436 rfl dX12_intern_50 ?_
                  refine lv_iload_n hx hb dX12_intern_53 rfl (lv_at hl 2 rfl) ?_
                  refine r_ldi (f := f10) (j := n) hx hb hE hP 6 (ma_6 G a _) rfl (by omega) (by decide) dX12_intern_54 ?_
                  refine lv_topi (fun x49 e50 => ?_)
                  obtain rfl : x49 = nI p9 := e50.trans e10
                  refine lv_iload hx hb dX12_intern_55 (lv_at hl 0 rfl) ?_
                  refine lv_iadd hx hb dX12_intern_57 ?_
                  refine lv_topi (fun x51 e52 => ?_)
                  obtain rfl : x51 = nI (p9 + k) := e52.trans (nI_add (p9) (k))
                  refine r_ldb (f := f12) (j := (p9 + k)) hx hb hE hP 8 (ma_8 G a _) rfl (by omega) (by decide) dX12_intern_58 ?_
                  refine lv_topi (fun x53 e54 => ?_)
                  refine lv_aload_n hx hb dX12_intern_59 rfl (lv_at hl 3 rfl) ?_
                  refine r_get (v := .ref (a 1)) hx hb hown hq hE hP 3 13 tFX12_3 (by decide) pw_1431 rfl dX12_intern_60 ?_
                  refine lv_iload_n hx hb dX12_intern_63 rfl (lv_at hl 4 rfl) ?_
                  refine lv_iload hx hb dX12_intern_64 (lv_at hl 0 rfl) ?_
                  refine lv_iadd hx hb dX12_intern_66 ?_
                  refine lv_topi (fun x55 e56 => ?_)
                  obtain rfl : x55 = nI (fr + k) := e56.trans (nI_add (fr) (k))
                  refine r_ldi (f := (B 1)) (j := (fr + k)) hx hb hE hP 1 (ma_1 G a _) rfl (by omega) (by decide) dX12_intern_67 ?_
                  refine lv_topi (fun x57 e58 => ?_)
                  refine lv_icmp_ne (tgt := 75) hx hb dX12_intern_68 (by decide) (fun c59 => ?_) (fun c59 => ?_)
                  · refine lv_iconst (v := 0) hx hb dX12_intern_75 (by decide) ?_
                    refine lv_istore (lv' := [(4, .int 0), (5, .int (nI k)), (3, .int (nI n)), (0, .ref h0), (1, .int (nI fr)), (2, .int (nI tt))]) hx hb dX12_intern_76 hl (by decide) rfl (fun ls hl => ?_)
                    refine lv_iinc (v := (nI (k + 1))) (lv' := [(5, .int (nI (k + 1))), (4, .int 0), (3, .int (nI n)), (0, .ref h0), (1, .int (nI fr)), (2, .int (nI tt))]) hx hb dX12_intern_78 hl (k := 1) rfl (nI_1 k) (by decide) rfl (fun ls hl => ?_)
                    refine lv_goto (tgt := 32) hx hb dX12_intern_81 (by decide) ?_
                    have hP : va_P G.1 pCl (mW G h0 a (upd (upd F 13 (nI us)) 14 (nI nm)) (updA (updA (updA B 6 f10) 7 f11) 8 f12)) _ := hP
                    have hD : va_D A (mW G h0 a (upd (upd F 13 (nI us)) 14 (nI nm)) (updA (updA (updA B 6 f10) 7 f11) 8 f12)) := mW_D hD
                    exact ih_k (k + 1) 0 _ _ _ (by omega) (by omega) (Or.inl rfl) hP hD hS (lv_sub hl [0, 1, 2, 3, 4, 5] rfl)
                  · refine lv_iconst (v := 1) hx hb dX12_intern_71 (by decide) ?_
                    refine lv_goto (tgt := 76) hx hb dX12_intern_72 (by decide) ?_
                    refine lv_istore (lv' := [(4, .int 1), (5, .int (nI k)), (3, .int (nI n)), (0, .ref h0), (1, .int (nI fr)), (2, .int (nI tt))]) hx hb dX12_intern_76 hl (by decide) rfl (fun ls hl => ?_)
                    refine lv_iinc (v := (nI (k + 1))) (lv' := [(5, .int (nI (k + 1))), (4, .int 1), (3, .int (nI n)), (0, .ref h0), (1, .int (nI fr)), (2, .int (nI tt))]) hx hb dX12_intern_78 hl (k := 1) rfl (nI_1 k) (by decide) rfl (fun ls hl => ?_)
                    refine lv_goto (tgt := 32) hx hb dX12_intern_81 (by decide) ?_
                    have hP : va_P G.1 pCl (mW G h0 a (upd (upd F 13 (nI us)) 14 (nI nm)) (updA (updA (updA B 6 f10) 7 f11) 8 f12)) _ := hP
                    have hD : va_D A (mW G h0 a (upd (upd F 13 (nI us)) 14 (nI nm)) (updA (updA (updA B 6 f10) 7 f11) 8 f12)) := mW_D hD
                    exact ih_k (k + 1) 1 _ _ _ (by omega) (by omega) (Or.inr hq9) hP hD hS (lv_sub hl [0, 1, 2, 3, 4, 5] rfl)
          have hP : va_P G.1 pCl (mW G h0 a (upd (upd F 13 (nI us)) 14 (nI nm)) (updA (updA (updA B 6 f10) 7 f11) 8 f12)) _ := hP
          have hD : va_D A (mW G h0 a (upd (upd F 13 (nI us)) 14 (nI nm)) (updA (updA (updA B 6 f10) 7 f11) 8 f12)) := mW_D hD
          exact loop_k ((tt - fr) + 1) 0 0 _ _ _ (by omega) (by omega) (Or.inl rfl) hP hD hS (lv_sub hl [0, 1, 2, 3, 4, 5] rfl)
        · have n60 : q9 = (tt - fr) := (nI_eq (a := q9) (b := (tt - fr)) (by omega) (by omega)).mp c29
          refine lv_iconst (v := 1) hx hb dX12_intern_22 (by decide) ?_
          refine lv_goto (tgt := 27) hx hb dX12_intern_23 (by decide) ?_
          refine lv_istore (lv' := [(4, .int 1), (3, .int (nI n)), (0, .ref h0), (1, .int (nI fr)), (2, .int (nI tt))]) hx hb dX12_intern_27 hl (by decide) rfl (fun ls hl => ?_)
          refine lv_iconst (v := 0) hx hb dX12_intern_29 (by decide) ?_
          refine lv_istore (lv' := [(5, .int 0), (4, .int 1), (3, .int (nI n)), (0, .ref h0), (1, .int (nI fr)), (2, .int (nI tt))]) hx hb dX12_intern_30 hl (by decide) rfl (fun ls hl => ?_)
          have loop_k : ∀ (n_k : Nat) (k : Nat) (sm : Int32) (H : Heap) (locs : List Loc) (ls : Array Slot), k ≤ (tt - fr) → (tt - fr) + 1 ≤ k + n_k → (sm = 0 ∨ q9 = tt - fr) → va_P G.1 pCl (mW G h0 a (upd (upd F 13 (nI us)) 14 (nI nm)) (updA (updA (updA B 6 f10) 7 f11) 8 f12)) H → va_D A (mW G h0 a (upd (upd F 13 (nI us)) 14 (nI nm)) (updA (updA (updA B 6 f10) 7 f11) 8 f12)) → va_S A s.heap H locs → lv_has ls 6 [(5, .int (nI k)), (4, .int sm), (3, .int (nI n)), (0, .ref h0), (1, .int (nI fr)), (2, .int (nI tt))] → W p l e (headSpec (Cond.code yX12_intern cX12_intern 6 (some .int) :: pw) ({ frames := 2, cells := 0, slots := 0, locals := 60 } : Room)).room s m ([.ref h0, .int (nI fr), .int (nI tt)] : List Value).toArray below meth c H locs 0 0 (MQ below (pQ G A (fun (v : Option Value) (u : Nat × Nat × (Nat → Int32) × (Nat → Int32) × (Nat → Int32) × Int32) => v = some (.int u.2.2.2.2.2) ∧ (u.1 ≤ nm + 1) ∧ (u.2.1 ≤ us + (tt - fr)) ∧ (rNm u.1 u.2.1 u.2.2.1 u.2.2.2.1) ∧ (∃ k : Nat, k < u.1 ∧ u.2.2.2.2.2 = nI k) ∧ (nm ≤ u.1)) (fun u => (mW G h0 a (upd (upd F 13 (nI u.2.1)) 14 (nI u.1)) (updA (updA (updA B 6 u.2.2.1) 7 u.2.2.2.1) 8 u.2.2.2.2.1)))) ([.ref h0, .int (nI fr), .int (nI tt)] : List Value).toArray s ({ frames := 2, cells := 0, slots := 0, locals := 60 } : Room).cells ({ frames := 2, cells := 0, slots := 0, locals := 60 } : Room).slots A) (F0 m 32 ls []) := by
            intro n_k
            induction n_k with
            | zero => intro k sm H locs ls hk_k hn_k; omega
            | succ n_k ih_k =>
              intro k sm H locs ls hk_k hn_k hsm hP hD hS hl
              refine lv_iload hx hb dX12_intern_32 (lv_at hl 1 rfl) ?_
              refine lv_if_eq (tgt := 84) hx hb dX12_intern_34 (by decide) (fun c61 => ?_) (fun c61 => ?_)
              · refine lv_iload hx hb dX12_intern_84 (lv_at hl 1 rfl) ?_
                refine lv_if_eq (tgt := 91) hx hb dX12_intern_86 (by decide) (fun c62 => ?_) (fun c62 => ?_)
                · refine lv_iinc (v := (nI (n + 1))) (lv' := [(3, .int (nI (n + 1))), (5, .int (nI k)), (4, .int sm), (0, .ref h0), (1, .int (nI fr)), (2, .int (nI tt))]) hx hb dX12_intern_91 hl (k := 2) rfl (nI_1 n) (by decide) rfl (fun ls hl => ?_)
                  refine lv_goto (tgt := 2) hx hb dX12_intern_94 (by decide) ?_
                  have hP : va_P G.1 pCl (mW G h0 a (upd (upd F 13 (nI us)) 14 (nI nm)) (updA (updA (updA B 6 f10) 7 f11) 8 f12)) _ := hP
                  have hD : va_D A (mW G h0 a (upd (upd F 13 (nI us)) 14 (nI nm)) (updA (updA (updA B 6 f10) 7 f11) 8 f12)) := mW_D hD
                  exact ih_o (n + 1) _ _ _ (by omega) (by omega) hP hD hS (lv_sub hl [0, 3, 4, 5] rfl)
                · refine lv_iload_n hx hb dX12_intern_89 rfl (lv_at hl 2 rfl) ?_
                  have hz63 : nm ≤ nm + 1 := (by omega)
                  have hz64 : us ≤ us + (tt - fr) := (by omega)
                  have hz65 : rNm nm us f10 f11 := hR
                  have hz66 : ∃ k : Nat, k < nm ∧ (nI n) = nI k := ⟨n, by omega, rfl⟩
                  have hz67 : nm ≤ nm := (by omega)
                  have hP : va_P G.1 pCl (mW G h0 a (upd (upd F 13 (nI us)) 14 (nI nm)) (updA (updA (updA B 6 f10) 7 f11) 8 f12)) _ := hP
                  have hD : va_D A (mW G h0 a (upd (upd F 13 (nI us)) 14 (nI nm)) (updA (updA (updA B 6 f10) 7 f11) 8 f12)) := mW_D hD
                  exact W.iret (v := (nI n)) hx hb hr (fun t9 ht9 hW9 => ⟨⟨_, (nm, us, f10, f11, f12, (nI n)), rfl, ⟨rfl, hz63, hz64, hz65, hz66, hz67⟩, by rw [ht9]; exact hP, hD⟩, hS.F ht9⟩) hS.2.2 dX12_intern_90
              · have hq9 : q9 = tt - fr := hsm.resolve_left c61
                refine lv_iload hx hb dX12_intern_37 (lv_at hl 0 rfl) ?_
                refine lv_iload_n hx hb dX12_intern_39 rfl (lv_at hl 5 rfl) ?_
                refine lv_iload_n hx hb dX12_intern_40 rfl (lv_at hl 4 rfl) ?_
                refine lv_isub hx hb dX12_intern_41 ?_
                refine lv_topi (fun x68 e69 => ?_)
                obtain rfl : x68 = nI (tt - fr) := e69.trans (nI_subN (a := fr) (b := tt) (by omega))
                refine lv_icmp_ge (tgt := 84) hx hb dX12_intern_42 (by decide) (fun c70 => ?_) (fun c70 => ?_)
                · have n71 : (tt - fr) ≤ k := (nI_leI (a := (tt - fr)) (b := k) (by omega) (by omega)).mp c70
                  refine lv_iload hx hb dX12_intern_84 (lv_at hl 1 rfl) ?_
                  refine lv_if_eq (tgt := 91) hx hb dX12_intern_86 (by decide) (fun c72 => ?_) (fun c72 => ?_)
                  · refine lv_iinc (v := (nI (n + 1))) (lv' := [(3, .int (nI (n + 1))), (5, .int (nI k)), (4, .int sm), (0, .ref h0), (1, .int (nI fr)), (2, .int (nI tt))]) hx hb dX12_intern_91 hl (k := 2) rfl (nI_1 n) (by decide) rfl (fun ls hl => ?_)
                    refine lv_goto (tgt := 2) hx hb dX12_intern_94 (by decide) ?_
                    have hP : va_P G.1 pCl (mW G h0 a (upd (upd F 13 (nI us)) 14 (nI nm)) (updA (updA (updA B 6 f10) 7 f11) 8 f12)) _ := hP
                    have hD : va_D A (mW G h0 a (upd (upd F 13 (nI us)) 14 (nI nm)) (updA (updA (updA B 6 f10) 7 f11) 8 f12)) := mW_D hD
                    exact ih_o (n + 1) _ _ _ (by omega) (by omega) hP hD hS (lv_sub hl [0, 3, 4, 5] rfl)
                  · refine lv_iload_n hx hb dX12_intern_89 rfl (lv_at hl 2 rfl) ?_
                    have hz73 : nm ≤ nm + 1 := (by omega)
                    have hz74 : us ≤ us + (tt - fr) := (by omega)
                    have hz75 : rNm nm us f10 f11 := hR
                    have hz76 : ∃ k : Nat, k < nm ∧ (nI n) = nI k := ⟨n, by omega, rfl⟩
                    have hz77 : nm ≤ nm := (by omega)
                    have hP : va_P G.1 pCl (mW G h0 a (upd (upd F 13 (nI us)) 14 (nI nm)) (updA (updA (updA B 6 f10) 7 f11) 8 f12)) _ := hP
                    have hD : va_D A (mW G h0 a (upd (upd F 13 (nI us)) 14 (nI nm)) (updA (updA (updA B 6 f10) 7 f11) 8 f12)) := mW_D hD
                    exact W.iret (v := (nI n)) hx hb hr (fun t9 ht9 hW9 => ⟨⟨_, (nm, us, f10, f11, f12, (nI n)), rfl, ⟨rfl, hz73, hz74, hz75, hz76, hz77⟩, by rw [ht9]; exact hP, hD⟩, hS.F ht9⟩) hS.2.2 dX12_intern_90
                · have n78 : ¬ ((tt - fr) ≤ k) := fun h9 => c70 ((nI_leI (a := (tt - fr)) (b := k) (by omega) (by omega)).mpr h9)
                  refine lv_aload_n hx hb dX12_intern_45 rfl (lv_at hl 3 rfl) ?_
                  refine r_get (v := .ref (a 8)) hx hb hown hq hE hP 12 34 tFX12_12 (by decide) pw_1438 rfl dX12_intern_46 ?_
                  refine lv_aload_n hx hb dX12_intern_49 rfl (lv_at hl 3 rfl) ?_
                  refine r_get (v := .ref (a 6)) hx hb hown hq hE hP 10 28 tFX12_10 (by decide) pw_1436 rfl dX12_intern_50 ?_
                  refine lv_iload_n hx hb dX12_intern_53 rfl (lv_at hl 2 rfl) ?_
                  refine r_ldi (f := f10) (j := n) hx hb hE hP 6 (ma_6 G a _) rfl (by omega) (by decide) dX12_intern_54 ?_
                  refine lv_topi (fun x79 e80 => ?_)
                  obtain rfl : x79 = nI p9 := e80.trans e10
                  refine lv_iload hx hb dX12_intern_55 (lv_at hl 0 rfl) ?_
                  refine lv_iadd hx hb dX12_intern_57 ?_
                  refine lv_topi (fun x81 e82 => ?_)
                  obtain rfl : x81 = nI (p9 + k) := e82.trans (nI_add (p9) (k))
                  refine r_ldb (f := f12) (j := (p9 + k)) hx hb hE hP 8 (ma_8 G a _) rfl (by omega) (by decide) dX12_intern_58 ?_
                  refine lv_topi (fun x83 e84 => ?_)
                  refine lv_aload_n hx hb dX12_intern_59 rfl (lv_at hl 3 rfl) ?_
                  refine r_get (v := .ref (a 1)) hx hb hown hq hE hP 3 13 tFX12_3 (by decide) pw_1431 rfl dX12_intern_60 ?_
                  refine lv_iload_n hx hb dX12_intern_63 rfl (lv_at hl 4 rfl) ?_
                  refine lv_iload hx hb dX12_intern_64 (lv_at hl 0 rfl) ?_
                  refine lv_iadd hx hb dX12_intern_66 ?_
                  refine lv_topi (fun x85 e86 => ?_)
                  obtain rfl : x85 = nI (fr + k) := e86.trans (nI_add (fr) (k))
                  refine r_ldi (f := (B 1)) (j := (fr + k)) hx hb hE hP 1 (ma_1 G a _) rfl (by omega) (by decide) dX12_intern_67 ?_
                  refine lv_topi (fun x87 e88 => ?_)
                  refine lv_icmp_ne (tgt := 75) hx hb dX12_intern_68 (by decide) (fun c89 => ?_) (fun c89 => ?_)
                  · refine lv_iconst (v := 0) hx hb dX12_intern_75 (by decide) ?_
                    refine lv_istore (lv' := [(4, .int 0), (5, .int (nI k)), (3, .int (nI n)), (0, .ref h0), (1, .int (nI fr)), (2, .int (nI tt))]) hx hb dX12_intern_76 hl (by decide) rfl (fun ls hl => ?_)
                    refine lv_iinc (v := (nI (k + 1))) (lv' := [(5, .int (nI (k + 1))), (4, .int 0), (3, .int (nI n)), (0, .ref h0), (1, .int (nI fr)), (2, .int (nI tt))]) hx hb dX12_intern_78 hl (k := 1) rfl (nI_1 k) (by decide) rfl (fun ls hl => ?_)
                    refine lv_goto (tgt := 32) hx hb dX12_intern_81 (by decide) ?_
                    have hP : va_P G.1 pCl (mW G h0 a (upd (upd F 13 (nI us)) 14 (nI nm)) (updA (updA (updA B 6 f10) 7 f11) 8 f12)) _ := hP
                    have hD : va_D A (mW G h0 a (upd (upd F 13 (nI us)) 14 (nI nm)) (updA (updA (updA B 6 f10) 7 f11) 8 f12)) := mW_D hD
                    exact ih_k (k + 1) 0 _ _ _ (by omega) (by omega) (Or.inl rfl) hP hD hS (lv_sub hl [0, 1, 2, 3, 4, 5] rfl)
                  · refine lv_iconst (v := 1) hx hb dX12_intern_71 (by decide) ?_
                    refine lv_goto (tgt := 76) hx hb dX12_intern_72 (by decide) ?_
                    refine lv_istore (lv' := [(4, .int 1), (5, .int (nI k)), (3, .int (nI n)), (0, .ref h0), (1, .int (nI fr)), (2, .int (nI tt))]) hx hb dX12_intern_76 hl (by decide) rfl (fun ls hl => ?_)
                    refine lv_iinc (v := (nI (k + 1))) (lv' := [(5, .int (nI (k + 1))), (4, .int 1), (3, .int (nI n)), (0, .ref h0), (1, .int (nI fr)), (2, .int (nI tt))]) hx hb dX12_intern_78 hl (k := 1) rfl (nI_1 k) (by decide) rfl (fun ls hl => ?_)
                    refine lv_goto (tgt := 32) hx hb dX12_intern_81 (by decide) ?_
                    have hP : va_P G.1 pCl (mW G h0 a (upd (upd F 13 (nI us)) 14 (nI nm)) (updA (updA (updA B 6 f10) 7 f11) 8 f12)) _ := hP
                    have hD : va_D A (mW G h0 a (upd (upd F 13 (nI us)) 14 (nI nm)) (updA (updA (updA B 6 f10) 7 f11) 8 f12)) := mW_D hD
                    exact ih_k (k + 1) 1 _ _ _ (by omega) (by omega) (Or.inr hq9) hP hD hS (lv_sub hl [0, 1, 2, 3, 4, 5] rfl)
          have hP : va_P G.1 pCl (mW G h0 a (upd (upd F 13 (nI us)) 14 (nI nm)) (updA (updA (updA B 6 f10) 7 f11) 8 f12)) _ := hP
          have hD : va_D A (mW G h0 a (upd (upd F 13 (nI us)) 14 (nI nm)) (updA (updA (updA B 6 f10) 7 f11) 8 f12)) := mW_D hD
          exact loop_k ((tt - fr) + 1) 0 1 _ _ _ (by omega) (by omega) (Or.inr (by omega)) hP hD hS (lv_sub hl [0, 1, 2, 3, 4, 5] rfl)
  have hP : va_P G.1 pCl (mW G h0 a (upd (upd F 13 (nI us)) 14 (nI nm)) (updA (updA (updA B 6 f10) 7 f11) 8 f12)) _ := hP
  have hD : va_D A (mW G h0 a (upd (upd F 13 (nI us)) 14 (nI nm)) (updA (updA (updA B 6 f10) 7 f11) 8 f12)) := mW_D hD
  exact loop_o (nm + 1) 0 _ _ _ (by omega) (by omega) hP hD hS (lv_sub hl [0, 1, 2, 3] rfl)
