theorem LyB.lists {G : pT} {K : PK} {g : Nat → Nat → Nat} {rk f8 f9 it : Nat → Nat} {er : Nat → Option Nat} {ax pq dr ml nd nm cp s k d : Nat} (h : LyB G K g rk f8 f9 er ax pq dr ml nd nm cp it s k) (hk : k < nd) (he : er k = some d) (hd : K.1 d = 4) : ∃ (ll lk cl ck : Nat) (il ik : Nat → Nat), K.2.2.1 11 d = some ll ∧ g 3 ll = 4 ∧ g 4 ll = d ∧ LsC G K ll 1 0 il cl ∧ cl ≤ 10 ∧ K.2.2.1 12 d = some lk ∧ g 3 lk = 5 ∧ g 4 lk = d ∧ LsC G K lk 3 0 ik ck ∧ ck ≤ 10 := by
  obtain ⟨_, _, ⟨x, x1, x2, x3, x4⟩, ⟨y, y1, y2, y3, y4⟩, _⟩ := h.1.2.2.1 d hd
  obtain ⟨z1, z2⟩ := h.2.2.2.2.2 k hk (Nat.le_refl _) d (by rw [h.2.2.2.2.1]; exact he)
  rw [x1] at z1
  rw [y1] at z2
  obtain ⟨n1, i1, c1, a1, _, a3⟩ := h.1.2.1 x x2
  obtain ⟨n2, i2, c2, b1, _, b3⟩ := h.1.2.1 y y2
  have e1 : n1 = 0 := (szL_of a1).symm.trans z1
  have e2 : n2 = 0 := (szL_of b1).symm.trans z2
  subst e1; subst e2
  rw [x3] at a1
  rw [y3] at b1
  exact ⟨x, y, c1, c2, i1, i2, x1, x3, x4, a1, by omega, y1, y3, y4, b1, by omega⟩
theorem sumN_pre {ff : Nat → Nat} {n k : Nat} (hk : k ≤ n) : sumN ff k ≤ sumN ff n := by
  induction n with
  | zero => have e : k = 0 := by omega
            rw [e]; exact Nat.le_refl _
  | succ n ih =>
    by_cases e : k = n + 1
    · rw [e]; exact Nat.le_refl _
    · have a := ih (by omega)
      show sumN ff k ≤ sumN ff n + ff n
      omega
theorem LyB.cast {G : pT} {K : PK} {g : Nat → Nat → Nat} {rk f8 f9 it : Nat → Nat} {er : Nat → Option Nat} {ax pq dr ml nd nm cp s k k2 : Nat} (hk : k = k2) (h : LyB G K g rk f8 f9 er ax pq dr ml nd nm cp it s k) : LyB G K g rk f8 f9 er ax pq dr ml nd nm cp it s k2 := by subst hk; exact h
theorem dX9_layOut_0 : decode cX9_layOut 0 = .ok (.iconst 0, 1) := by decide +kernel
theorem dX9_layOut_1 : decode cX9_layOut 1 = .ok (.istore_n 1, 1) := by decide +kernel
theorem dX9_layOut_2 : decode cX9_layOut 2 = .ok (.iload_n 1, 1) := by decide +kernel
theorem dX9_layOut_3 : decode cX9_layOut 3 = .ok (.aload_n 0, 1) := by decide +kernel
theorem dX9_layOut_4 : decode cX9_layOut 4 = .ok (.getfield 33, 3) := by decide +kernel
theorem dX9_layOut_7 : decode cX9_layOut 7 = .ok (.if_icmp .ge 117, 3) := by decide +kernel
theorem dX9_layOut_124 : decode cX9_layOut 124 = .ok (.return_, 1) := by decide +kernel
theorem dX9_layOut_10 : decode cX9_layOut 10 = .ok (.aload_n 0, 1) := by decide +kernel
theorem dX9_layOut_11 : decode cX9_layOut 11 = .ok (.getfield 17, 3) := by decide +kernel
theorem dX9_layOut_14 : decode cX9_layOut 14 = .ok (.iload_n 1, 1) := by decide +kernel
theorem dX9_layOut_15 : decode cX9_layOut 15 = .ok (.aaload, 1) := by decide +kernel
theorem dX9_layOut_16 : decode cX9_layOut 16 = .ok (.astore_n 2, 1) := by decide +kernel
theorem dX9_layOut_17 : decode cX9_layOut 17 = .ok (.aload_n 0, 1) := by decide +kernel
theorem dX9_layOut_18 : decode cX9_layOut 18 = .ok (.aload_n 2, 1) := by decide +kernel
theorem dX9_layOut_19 : decode cX9_layOut 19 = .ok (.invokevirtual 209, 3) := by decide +kernel
theorem dX9_layOut_22 : decode cX9_layOut 22 = .ok (.aload_n 0, 1) := by decide +kernel
theorem dX9_layOut_23 : decode cX9_layOut 23 = .ok (.aload_n 2, 1) := by decide +kernel
theorem dX9_layOut_24 : decode cX9_layOut 24 = .ok (.aload_n 2, 1) := by decide +kernel
theorem dX9_layOut_25 : decode cX9_layOut 25 = .ok (.invokevirtual 212, 3) := by decide +kernel
theorem dX9_layOut_28 : decode cX9_layOut 28 = .ok (.iconst 0, 1) := by decide +kernel
theorem dX9_layOut_29 : decode cX9_layOut 29 = .ok (.istore_n 3, 1) := by decide +kernel
theorem dX9_layOut_30 : decode cX9_layOut 30 = .ok (.iload_n 3, 1) := by decide +kernel
theorem dX9_layOut_31 : decode cX9_layOut 31 = .ok (.aload_n 0, 1) := by decide +kernel
theorem dX9_layOut_32 : decode cX9_layOut 32 = .ok (.getfield 33, 3) := by decide +kernel
theorem dX9_layOut_35 : decode cX9_layOut 35 = .ok (.if_icmp .ge 29, 3) := by decide +kernel
theorem dX9_layOut_64 : decode cX9_layOut 64 = .ok (.iconst 0, 1) := by decide +kernel
theorem dX9_layOut_65 : decode cX9_layOut 65 = .ok (.istore_n 3, 1) := by decide +kernel
theorem dX9_layOut_66 : decode cX9_layOut 66 = .ok (.iload_n 3, 1) := by decide +kernel
theorem dX9_layOut_67 : decode cX9_layOut 67 = .ok (.aload_n 2, 1) := by decide +kernel
theorem dX9_layOut_68 : decode cX9_layOut 68 = .ok (.getfield 141, 3) := by decide +kernel
theorem dX9_layOut_71 : decode cX9_layOut 71 = .ok (.invokevirtual 45, 3) := by decide +kernel
theorem dX9_layOut_74 : decode cX9_layOut 74 = .ok (.if_icmp .ge 44, 3) := by decide +kernel
theorem dX9_layOut_118 : decode cX9_layOut 118 = .ok (.iinc 1 1, 3) := by decide +kernel
theorem dX9_layOut_121 : decode cX9_layOut 121 = .ok (.goto (-119), 3) := by decide +kernel
theorem dX9_layOut_77 : decode cX9_layOut 77 = .ok (.aload_n 2, 1) := by decide +kernel
theorem dX9_layOut_78 : decode cX9_layOut 78 = .ok (.getfield 141, 3) := by decide +kernel
theorem dX9_layOut_81 : decode cX9_layOut 81 = .ok (.iload_n 3, 1) := by decide +kernel
theorem dX9_layOut_82 : decode cX9_layOut 82 = .ok (.invokevirtual 48, 3) := by decide +kernel
theorem dX9_layOut_85 : decode cX9_layOut 85 = .ok (.checkcast 52, 3) := by decide +kernel
theorem dX9_layOut_88 : decode cX9_layOut 88 = .ok (.aload_n 0, 1) := by decide +kernel
theorem dX9_layOut_89 : decode cX9_layOut 89 = .ok (.getfield 9, 3) := by decide +kernel
theorem dX9_layOut_92 : decode cX9_layOut 92 = .ok (.aload_n 2, 1) := by decide +kernel
theorem dX9_layOut_93 : decode cX9_layOut 93 = .ok (.getfield 141, 3) := by decide +kernel
theorem dX9_layOut_96 : decode cX9_layOut 96 = .ok (.iload_n 3, 1) := by decide +kernel
theorem dX9_layOut_97 : decode cX9_layOut 97 = .ok (.invokevirtual 48, 3) := by decide +kernel
theorem dX9_layOut_100 : decode cX9_layOut 100 = .ok (.checkcast 52, 3) := by decide +kernel
theorem dX9_layOut_103 : decode cX9_layOut 103 = .ok (.getfield 191, 3) := by decide +kernel
theorem dX9_layOut_106 : decode cX9_layOut 106 = .ok (.invokevirtual 194, 3) := by decide +kernel
theorem dX9_layOut_109 : decode cX9_layOut 109 = .ok (.putfield 215, 3) := by decide +kernel
theorem dX9_layOut_112 : decode cX9_layOut 112 = .ok (.iinc 3 1, 3) := by decide +kernel
theorem dX9_layOut_115 : decode cX9_layOut 115 = .ok (.goto (-49), 3) := by decide +kernel
theorem dX9_layOut_38 : decode cX9_layOut 38 = .ok (.aload_n 0, 1) := by decide +kernel
theorem dX9_layOut_39 : decode cX9_layOut 39 = .ok (.iload_n 3, 1) := by decide +kernel
theorem dX9_layOut_40 : decode cX9_layOut 40 = .ok (.iload_n 1, 1) := by decide +kernel
theorem dX9_layOut_41 : decode cX9_layOut 41 = .ok (.invokevirtual 65, 3) := by decide +kernel
theorem dX9_layOut_44 : decode cX9_layOut 44 = .ok (.ifCond .eq 14, 3) := by decide +kernel
theorem dX9_layOut_58 : decode cX9_layOut 58 = .ok (.iinc 3 1, 3) := by decide +kernel
theorem dX9_layOut_61 : decode cX9_layOut 61 = .ok (.goto (-31), 3) := by decide +kernel
theorem dX9_layOut_47 : decode cX9_layOut 47 = .ok (.aload_n 0, 1) := by decide +kernel
theorem dX9_layOut_48 : decode cX9_layOut 48 = .ok (.aload_n 2, 1) := by decide +kernel
theorem dX9_layOut_49 : decode cX9_layOut 49 = .ok (.aload_n 0, 1) := by decide +kernel
theorem dX9_layOut_50 : decode cX9_layOut 50 = .ok (.getfield 17, 3) := by decide +kernel
theorem dX9_layOut_53 : decode cX9_layOut 53 = .ok (.iload_n 3, 1) := by decide +kernel
theorem dX9_layOut_54 : decode cX9_layOut 54 = .ok (.aaload, 1) := by decide +kernel
theorem dX9_layOut_55 : decode cX9_layOut 55 = .ok (.invokevirtual 212, 3) := by decide +kernel
theorem hV_X9_layFields : yX9_layFields.cls = RX9 ∧ yX9_layFields.cls ≠ "java/lang/invoke/MethodHandle" ∧ yX9_layFields.cls ≠ "java/lang/invoke/VarHandle" ∧ (parseMethodDescriptor yX9_layFields.desc).map (fun d => d.parameters.length) = some 1 := by decide +kernel
theorem hV_X9_learnMethods : yX9_learnMethods.cls = RX9 ∧ yX9_learnMethods.cls ≠ "java/lang/invoke/MethodHandle" ∧ yX9_learnMethods.cls ≠ "java/lang/invoke/VarHandle" ∧ (parseMethodDescriptor yX9_learnMethods.desc).map (fun d => d.parameters.length) = some 2 := by decide +kernel