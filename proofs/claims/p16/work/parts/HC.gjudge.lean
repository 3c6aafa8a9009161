def RgQ (K : PK) (pq : Nat) (ab : Nat → Int64) (i : Nat) : Prop := K.2.1 25 pq = 2147483647 → ∀ k : Nat, 7 ≤ k → k < i → ¬ bitL (ab k) k
section JN
variable {G : pT} {K K1 K2 : PK} {g : Nat → Nat → Nat} {ax pq dr ml nd nm cp s k i d : Nat} {it rk : Nat → Nat} {ab : Nat → Int64} {v : Int32}
theorem LgK.pss (h : LgK K K1 pq) (hw : PgS G K g ax pq dr ml nd nm cp it s) : PgS G K1 g ax pq dr ml nd nm cp it s := by
  obtain ⟨v, e⟩ := h
  rw [e]; exact PgS.kI hw (by decide)
theorem LyN.start (h : PaN K dr nd) : LyN K dr nd 0 := fun j hj _ d he => (h j hj d he).2
theorem LyN.lk (h : LyN K dr nd k) (hx : LkX K K1) : LyN K1 dr nd k := fun j hj hkj d he => by
  obtain ⟨h1, h2, h3, h4, h5⟩ := hx
  rw [h4] at he
  have lz : ∀ o : Option Nat, lsz K1 o = lsz K o := fun o => by
    cases o with
    | none => rfl
    | some x => show szL K1 x = szL K x; unfold szL; rw [h2]
  rw [h3 11 d (by decide), h3 12 d (by decide), lz, lz]
  exact h j hj hkj d he
theorem LyN.lg (h : LyN K dr nd k) (hx : LgK K K1 pq) : LyN K1 dr nd k := fun j hj hkj d he => by
  obtain ⟨v, e⟩ := hx
  subst e
  rw [lsz_kI (by decide), lsz_kI (by decide)]
  exact h j hj hkj d he
end JN
theorem dX9_judgeNames_0 : decode cX9_judgeNames 0 = .ok (.aload_n 0, 1) := by decide +kernel
theorem dX9_judgeNames_1 : decode cX9_judgeNames 1 = .ok (.invokevirtual 72, 3) := by decide +kernel
theorem dX9_judgeNames_4 : decode cX9_judgeNames 4 = .ok (.aload_n 0, 1) := by decide +kernel
theorem dX9_judgeNames_5 : decode cX9_judgeNames 5 = .ok (.invokevirtual 75, 3) := by decide +kernel
theorem dX9_judgeNames_8 : decode cX9_judgeNames 8 = .ok (.aload_n 0, 1) := by decide +kernel
theorem dX9_judgeNames_9 : decode cX9_judgeNames 9 = .ok (.invokevirtual 78, 3) := by decide +kernel
theorem dX9_judgeNames_12 : decode cX9_judgeNames 12 = .ok (.aload_n 0, 1) := by decide +kernel
theorem dX9_judgeNames_13 : decode cX9_judgeNames 13 = .ok (.invokevirtual 81, 3) := by decide +kernel
theorem dX9_judgeNames_16 : decode cX9_judgeNames 16 = .ok (.bipush 7, 2) := by decide +kernel
theorem dX9_judgeNames_18 : decode cX9_judgeNames 18 = .ok (.istore_n 1, 1) := by decide +kernel
theorem dX9_judgeNames_19 : decode cX9_judgeNames 19 = .ok (.iload_n 1, 1) := by decide +kernel
theorem dX9_judgeNames_20 : decode cX9_judgeNames 20 = .ok (.aload_n 0, 1) := by decide +kernel
theorem dX9_judgeNames_21 : decode cX9_judgeNames 21 = .ok (.getfield 33, 3) := by decide +kernel
theorem dX9_judgeNames_24 : decode cX9_judgeNames 24 = .ok (.if_icmp .ge 33, 3) := by decide +kernel
theorem dX9_judgeNames_57 : decode cX9_judgeNames 57 = .ok (.aload_n 0, 1) := by decide +kernel
theorem dX9_judgeNames_58 : decode cX9_judgeNames 58 = .ok (.invokevirtual 75, 3) := by decide +kernel
theorem dX9_judgeNames_61 : decode cX9_judgeNames 61 = .ok (.aload_n 0, 1) := by decide +kernel
theorem dX9_judgeNames_62 : decode cX9_judgeNames 62 = .ok (.invokevirtual 91, 3) := by decide +kernel
theorem dX9_judgeNames_65 : decode cX9_judgeNames 65 = .ok (.aload_n 0, 1) := by decide +kernel
theorem dX9_judgeNames_66 : decode cX9_judgeNames 66 = .ok (.invokevirtual 75, 3) := by decide +kernel
theorem dX9_judgeNames_69 : decode cX9_judgeNames 69 = .ok (.aload_n 0, 1) := by decide +kernel
theorem dX9_judgeNames_70 : decode cX9_judgeNames 70 = .ok (.invokevirtual 94, 3) := by decide +kernel
theorem dX9_judgeNames_73 : decode cX9_judgeNames 73 = .ok (.return_, 1) := by decide +kernel
theorem dX9_judgeNames_27 : decode cX9_judgeNames 27 = .ok (.aload_n 0, 1) := by decide +kernel
theorem dX9_judgeNames_28 : decode cX9_judgeNames 28 = .ok (.iload_n 1, 1) := by decide +kernel
theorem dX9_judgeNames_29 : decode cX9_judgeNames 29 = .ok (.iload_n 1, 1) := by decide +kernel
theorem dX9_judgeNames_30 : decode cX9_judgeNames 30 = .ok (.invokevirtual 65, 3) := by decide +kernel
theorem dX9_judgeNames_33 : decode cX9_judgeNames 33 = .ok (.ifCond .eq 18, 3) := by decide +kernel
theorem dX9_judgeNames_51 : decode cX9_judgeNames 51 = .ok (.iinc 1 1, 3) := by decide +kernel
theorem dX9_judgeNames_54 : decode cX9_judgeNames 54 = .ok (.goto (-35), 3) := by decide +kernel
theorem dX9_judgeNames_36 : decode cX9_judgeNames 36 = .ok (.aload_n 0, 1) := by decide +kernel
theorem dX9_judgeNames_37 : decode cX9_judgeNames 37 = .ok (.bipush 6, 2) := by decide +kernel
theorem dX9_judgeNames_39 : decode cX9_judgeNames 39 = .ok (.aload_n 0, 1) := by decide +kernel
theorem dX9_judgeNames_40 : decode cX9_judgeNames 40 = .ok (.getfield 17, 3) := by decide +kernel
theorem dX9_judgeNames_43 : decode cX9_judgeNames 43 = .ok (.iload_n 1, 1) := by decide +kernel
theorem dX9_judgeNames_44 : decode cX9_judgeNames 44 = .ok (.aaload, 1) := by decide +kernel
theorem dX9_judgeNames_45 : decode cX9_judgeNames 45 = .ok (.getfield 84, 3) := by decide +kernel
theorem dX9_judgeNames_48 : decode cX9_judgeNames 48 = .ok (.invokevirtual 87, 3) := by decide +kernel
theorem hV_X9_firstRound : yX9_firstRound.cls = RX9 ∧ yX9_firstRound.cls ≠ "java/lang/invoke/MethodHandle" ∧ yX9_firstRound.cls ≠ "java/lang/invoke/VarHandle" ∧ (parseMethodDescriptor yX9_firstRound.desc).map (fun d => d.parameters.length) = some 0 := by decide +kernel
theorem hV_X9_settle : yX9_settle.cls = RX9 ∧ yX9_settle.cls ≠ "java/lang/invoke/MethodHandle" ∧ yX9_settle.cls ≠ "java/lang/invoke/VarHandle" ∧ (parseMethodDescriptor yX9_settle.desc).map (fun d => d.parameters.length) = some 0 := by decide +kernel
theorem hV_X9_resolveTypes : yX9_resolveTypes.cls = RX9 ∧ yX9_resolveTypes.cls ≠ "java/lang/invoke/MethodHandle" ∧ yX9_resolveTypes.cls ≠ "java/lang/invoke/VarHandle" ∧ (parseMethodDescriptor yX9_resolveTypes.desc).map (fun d => d.parameters.length) = some 0 := by decide +kernel
theorem hV_X9_link : yX9_link.cls = RX9 ∧ yX9_link.cls ≠ "java/lang/invoke/MethodHandle" ∧ yX9_link.cls ≠ "java/lang/invoke/VarHandle" ∧ (parseMethodDescriptor yX9_link.desc).map (fun d => d.parameters.length) = some 0 := by decide +kernel
theorem hV_X9_thirdRound : yX9_thirdRound.cls = RX9 ∧ yX9_thirdRound.cls ≠ "java/lang/invoke/MethodHandle" ∧ yX9_thirdRound.cls ≠ "java/lang/invoke/VarHandle" ∧ (parseMethodDescriptor yX9_thirdRound.desc).map (fun d => d.parameters.length) = some 0 := by decide +kernel
theorem hV_X9_layOut : yX9_layOut.cls = RX9 ∧ yX9_layOut.cls ≠ "java/lang/invoke/MethodHandle" ∧ yX9_layOut.cls ≠ "java/lang/invoke/VarHandle" ∧ (parseMethodDescriptor yX9_layOut.desc).map (fun d => d.parameters.length) = some 0 := by decide +kernel