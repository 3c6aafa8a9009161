theorem dX9_learnMethods_0 : decode cX9_learnMethods 0 = .ok (.iconst 0, 1) := by decide +kernel
theorem dX9_learnMethods_1 : decode cX9_learnMethods 1 = .ok (.istore_n 3, 1) := by decide +kernel
theorem dX9_learnMethods_2 : decode cX9_learnMethods 2 = .ok (.iload_n 3, 1) := by decide +kernel
theorem dX9_learnMethods_3 : decode cX9_learnMethods 3 = .ok (.aload_n 2, 1) := by decide +kernel
theorem dX9_learnMethods_4 : decode cX9_learnMethods 4 = .ok (.getfield 141, 3) := by decide +kernel
theorem dX9_learnMethods_7 : decode cX9_learnMethods 7 = .ok (.invokevirtual 45, 3) := by decide +kernel
theorem dX9_learnMethods_10 : decode cX9_learnMethods 10 = .ok (.if_icmp .ge 49, 3) := by decide +kernel
theorem dX9_learnMethods_59 : decode cX9_learnMethods 59 = .ok (.return_, 1) := by decide +kernel
theorem dX9_learnMethods_13 : decode cX9_learnMethods 13 = .ok (.aload_n 1, 1) := by decide +kernel
theorem dX9_learnMethods_14 : decode cX9_learnMethods 14 = .ok (.aload_n 2, 1) := by decide +kernel
theorem dX9_learnMethods_15 : decode cX9_learnMethods 15 = .ok (.getfield 141, 3) := by decide +kernel
theorem dX9_learnMethods_18 : decode cX9_learnMethods 18 = .ok (.iload_n 3, 1) := by decide +kernel
theorem dX9_learnMethods_19 : decode cX9_learnMethods 19 = .ok (.invokevirtual 48, 3) := by decide +kernel
theorem dX9_learnMethods_22 : decode cX9_learnMethods 22 = .ok (.checkcast 52, 3) := by decide +kernel
theorem dX9_learnMethods_25 : decode cX9_learnMethods 25 = .ok (.getfield 142, 3) := by decide +kernel
theorem dX9_learnMethods_28 : decode cX9_learnMethods 28 = .ok (.invokevirtual 228, 3) := by decide +kernel
theorem dX9_learnMethods_31 : decode cX9_learnMethods 31 = .ok (.ifnonnull 22, 3) := by decide +kernel
theorem dX9_learnMethods_34 : decode cX9_learnMethods 34 = .ok (.aload_n 1, 1) := by decide +kernel
theorem dX9_learnMethods_35 : decode cX9_learnMethods 35 = .ok (.getfield 231, 3) := by decide +kernel
theorem dX9_learnMethods_38 : decode cX9_learnMethods 38 = .ok (.aload_n 2, 1) := by decide +kernel
theorem dX9_learnMethods_39 : decode cX9_learnMethods 39 = .ok (.getfield 141, 3) := by decide +kernel
theorem dX9_learnMethods_42 : decode cX9_learnMethods 42 = .ok (.iload_n 3, 1) := by decide +kernel
theorem dX9_learnMethods_43 : decode cX9_learnMethods 43 = .ok (.invokevirtual 48, 3) := by decide +kernel
theorem dX9_learnMethods_46 : decode cX9_learnMethods 46 = .ok (.checkcast 52, 3) := by decide +kernel
theorem dX9_learnMethods_49 : decode cX9_learnMethods 49 = .ok (.invokevirtual 234, 3) := by decide +kernel
theorem dX9_learnMethods_52 : decode cX9_learnMethods 52 = .ok (.pop, 1) := by decide +kernel
theorem dX9_learnMethods_53 : decode cX9_learnMethods 53 = .ok (.iinc 3 1, 3) := by decide +kernel
theorem dX9_learnMethods_56 : decode cX9_learnMethods 56 = .ok (.goto (-54), 3) := by decide +kernel
theorem hV_X2_methodOf : yX2_methodOf.cls = RX2 ∧ yX2_methodOf.cls ≠ "java/lang/invoke/MethodHandle" ∧ yX2_methodOf.cls ≠ "java/lang/invoke/VarHandle" ∧ (parseMethodDescriptor yX2_methodOf.desc).map (fun d => d.parameters.length) = some 1 := by decide +kernel