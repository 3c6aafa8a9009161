def ChL (K : PK) (rk : Nat → Nat) (er : Nat → Option Nat) (f8 : Nat → Nat) (nd nl i : Nat) (o : Option Nat) : Prop := (∀ h : Nat, o = some h → K.1 h = 4 ∧ (i = 0 ∨ rk h + i ≤ 100) ∧ nl ≤ sumGt f8 (rkx rk er) (rk h) nd ∧ ∃ j : Nat, j < nd ∧ er j = some h) ∧ (o = none → nl ≤ sumN f8 nd)
section LYC
variable {G : pT} {K K1 : PK} {g : Nat → Nat → Nat} {p q d f d0 x ax pq dr ml nd nm cp s n cap k j i nl es v9 : Nat} {it rk f8 f9 it9 : Nat → Nat} {er : Nat → Option Nat} {o : Option Nat} {v : Int32}
theorem ChL.up (hrk : RkO K rk) (hA : DcA K dr nd) (her : K.2.2.2.2.1 dr = er) (hd : K.1 d = 4) (hi : i = 0 ∨ rk d + i ≤ 100) (hn : nl ≤ sumGt f8 (rkx rk er) (rk d) nd + f8 j) (hj : j < nd) (he : er j = some d) (ho : K.2.2.1 10 d = o) : ChL K rk er f8 nd nl (i + 1) o := by
  have hr : rkx rk er j = rk d := by unfold rkx; rw [he]
  refine ⟨fun h hh => ?_, fun hh => ?_⟩
  · subst hh
    obtain ⟨h1, h2, h3⟩ := hrk d h hd ho
    obtain ⟨j2, hj2, e2⟩ := hA h h1
    have z := sumGt_in (ff := f8) hj hr h2
    exact ⟨h1, Or.inr (by omega), by omega, j2, hj2, by rw [← her]; exact e2⟩
  · have z := sumGt_all (ff := f8) hj hr
    omega
theorem LyB.sum (h : LyB G K g rk f8 f9 er ax pq dr ml nd nm cp it s k) : 2 * sumN f8 nd + 5 * sumN f9 nd ≤ s := by
  have h1 := h.2.1.2.2.2.2.1
  have h2 : sumN f8 nd ≤ sumN (fz K dr 8) nd := sumN_le (fun j hj => Nat.le_of_eq (h.2.2.2.1 j hj).1.symm)
  have h3 : sumN f9 nd ≤ sumN (fz K dr 9) nd := sumN_le (fun j hj => Nat.le_of_eq (h.2.2.2.1 j hj).2.symm)
  omega
theorem sumN_term {ff : Nat → Nat} (hj : j < n) : ff j ≤ sumN ff n := by
  induction n with
  | zero => omega
  | succ n ih =>
    show ff j ≤ sumN ff n + ff n
    by_cases e : j = n
    · subst e; omega
    · have a := ih (by omega); omega
theorem LyB.n8 (h : LyB G K g rk f8 f9 er ax pq dr ml nd nm cp it s k) (hj : j < nd) (he : er j = some d) (hl : K.2.2.1 8 d = some x) (hc : LsC G K x es n it9 cap) : n = f8 j := by
  have h1 := (h.2.2.2.1 j hj).1
  unfold fz at h1
  rw [h.2.2.2.2.1, he] at h1
  have h2 : lsz K (K.2.2.1 8 d) = f8 j := h1
  rw [hl] at h2
  exact (szL_of hc).symm.trans h2
theorem LyB.n9 (h : LyB G K g rk f8 f9 er ax pq dr ml nd nm cp it s k) (hj : j < nd) (he : er j = some d) (hl : K.2.2.1 9 d = some x) (hc : LsC G K x es n it9 cap) : n = f9 j := by
  have h1 := (h.2.2.2.1 j hj).2
  unfold fz at h1
  rw [h.2.2.2.2.1, he] at h1
  have h2 : lsz K (K.2.2.1 9 d) = f9 j := h1
  rw [hl] at h2
  exact (szL_of hc).symm.trans h2
theorem LsC.other (ha : AdQ K K1 f) (hf : K.1 f = 5) (hes : ¬ es = 0) (hx : ¬ x = f) (h : LsC G K x es n it9 cap) : LsC G K1 x es n it9 cap := LsC.wx (fun p hp => (ha.1 p hp).1) hes (ha.sm (by rw [h.1]; decide) hx (by rw [h.1]; decide)) (fun e he h17 => ha.2 e (by rw [he]; decide) (fun z => by rw [z, hf] at he; exact absurd he (by decide)) (fun z => hx (Option.some.inj (h17.symm.trans z.2)))) h
theorem LsC.kI {f : Nat} (hf : ¬ 23 = f) (h : LsC G K x es n it9 cap) : LsC G (_root_.Jvm.Pilot.@@N@@.kI K f q v) x es n it9 cap := ⟨h.1, (kI_of hf).trans h.2.1, h.2.2⟩
end LYC
theorem dec_up {m t : Nat} (h : m = t) : nI m + -1 = nI t - 1 := by subst h; exact (Int32.sub_eq_add_neg _ _).symm
theorem dX9_layFields_0 : decode cX9_layFields 0 = .ok (.aload_n 1, 1) := by decide +kernel
theorem dX9_layFields_1 : decode cX9_layFields 1 = .ok (.astore_n 2, 1) := by decide +kernel
theorem dX9_layFields_2 : decode cX9_layFields 2 = .ok (.aload_n 2, 1) := by decide +kernel
theorem dX9_layFields_3 : decode cX9_layFields 3 = .ok (.ifnull 50, 3) := by decide +kernel
theorem dX9_layFields_53 : decode cX9_layFields 53 = .ok (.iconst 0, 1) := by decide +kernel
theorem dX9_layFields_54 : decode cX9_layFields 54 = .ok (.istore_n 2, 1) := by decide +kernel
theorem dX9_layFields_55 : decode cX9_layFields 55 = .ok (.iload_n 2, 1) := by decide +kernel
theorem dX9_layFields_56 : decode cX9_layFields 56 = .ok (.aload_n 1, 1) := by decide +kernel
theorem dX9_layFields_57 : decode cX9_layFields 57 = .ok (.getfield 218, 3) := by decide +kernel
theorem dX9_layFields_60 : decode cX9_layFields 60 = .ok (.invokevirtual 45, 3) := by decide +kernel
theorem dX9_layFields_63 : decode cX9_layFields 63 = .ok (.if_icmp .ge 24, 3) := by decide +kernel
theorem dX9_layFields_87 : decode cX9_layFields 87 = .ok (.return_, 1) := by decide +kernel
theorem dX9_layFields_66 : decode cX9_layFields 66 = .ok (.aload_n 1, 1) := by decide +kernel
theorem dX9_layFields_67 : decode cX9_layFields 67 = .ok (.getfield 218, 3) := by decide +kernel
theorem dX9_layFields_70 : decode cX9_layFields 70 = .ok (.iload_n 2, 1) := by decide +kernel
theorem dX9_layFields_71 : decode cX9_layFields 71 = .ok (.invokevirtual 48, 3) := by decide +kernel
theorem dX9_layFields_74 : decode cX9_layFields 74 = .ok (.checkcast 137, 3) := by decide +kernel
theorem dX9_layFields_77 : decode cX9_layFields 77 = .ok (.iload_n 2, 1) := by decide +kernel
theorem dX9_layFields_78 : decode cX9_layFields 78 = .ok (.putfield 225, 3) := by decide +kernel
theorem dX9_layFields_81 : decode cX9_layFields 81 = .ok (.iinc 2 1, 3) := by decide +kernel
theorem dX9_layFields_84 : decode cX9_layFields 84 = .ok (.goto (-29), 3) := by decide +kernel
theorem dX9_layFields_6 : decode cX9_layFields 6 = .ok (.aload_n 2, 1) := by decide +kernel
theorem dX9_layFields_7 : decode cX9_layFields 7 = .ok (.getfield 134, 3) := by decide +kernel
theorem dX9_layFields_10 : decode cX9_layFields 10 = .ok (.invokevirtual 45, 3) := by decide +kernel
theorem dX9_layFields_13 : decode cX9_layFields 13 = .ok (.iconst 1, 1) := by decide +kernel
theorem dX9_layFields_14 : decode cX9_layFields 14 = .ok (.isub, 1) := by decide +kernel
theorem dX9_layFields_15 : decode cX9_layFields 15 = .ok (.istore_n 3, 1) := by decide +kernel
theorem dX9_layFields_16 : decode cX9_layFields 16 = .ok (.iload_n 3, 1) := by decide +kernel
theorem dX9_layFields_17 : decode cX9_layFields 17 = .ok (.ifCond .lt 28, 3) := by decide +kernel
theorem dX9_layFields_45 : decode cX9_layFields 45 = .ok (.aload_n 2, 1) := by decide +kernel
theorem dX9_layFields_46 : decode cX9_layFields 46 = .ok (.getfield 174, 3) := by decide +kernel
theorem dX9_layFields_49 : decode cX9_layFields 49 = .ok (.astore_n 2, 1) := by decide +kernel
theorem dX9_layFields_50 : decode cX9_layFields 50 = .ok (.goto (-48), 3) := by decide +kernel
theorem dX9_layFields_20 : decode cX9_layFields 20 = .ok (.aload_n 1, 1) := by decide +kernel
theorem dX9_layFields_21 : decode cX9_layFields 21 = .ok (.getfield 218, 3) := by decide +kernel
theorem dX9_layFields_24 : decode cX9_layFields 24 = .ok (.iconst 0, 1) := by decide +kernel
theorem dX9_layFields_25 : decode cX9_layFields 25 = .ok (.aload_n 2, 1) := by decide +kernel
theorem dX9_layFields_26 : decode cX9_layFields 26 = .ok (.getfield 134, 3) := by decide +kernel
theorem dX9_layFields_29 : decode cX9_layFields 29 = .ok (.iload_n 3, 1) := by decide +kernel
theorem dX9_layFields_30 : decode cX9_layFields 30 = .ok (.invokevirtual 48, 3) := by decide +kernel
theorem dX9_layFields_33 : decode cX9_layFields 33 = .ok (.checkcast 137, 3) := by decide +kernel
theorem dX9_layFields_36 : decode cX9_layFields 36 = .ok (.invokevirtual 221, 3) := by decide +kernel
theorem dX9_layFields_39 : decode cX9_layFields 39 = .ok (.iinc 3 (-1), 3) := by decide +kernel
theorem dX9_layFields_42 : decode cX9_layFields 42 = .ok (.goto (-26), 3) := by decide +kernel
theorem hV_Jx4a65c_add_7a177 : yJx4a65c_add_7a177.cls = RJx4a65c ∧ yJx4a65c_add_7a177.cls ≠ "java/lang/invoke/MethodHandle" ∧ yJx4a65c_add_7a177.cls ≠ "java/lang/invoke/VarHandle" ∧ (parseMethodDescriptor yJx4a65c_add_7a177.desc).map (fun d => d.parameters.length) = some 2 := by decide +kernel