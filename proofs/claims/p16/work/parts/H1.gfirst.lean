theorem i32_cases (x : Int32) : x < 0 ∨ ∃ k : Nat, x = nI k ∧ k < 2147483648 := by
  by_cases h : x < 0
  · exact Or.inl h
  · exact Or.inr (nI_nn2 h)
theorem dX9_judgeAboveName_0 : decode cX9_judgeAboveName 0 = .ok (.aload_n 0, 1) := by decide +kernel
theorem dX9_judgeAboveName_1 : decode cX9_judgeAboveName 1 = .ok (.aload_n 0, 1) := by decide +kernel
theorem dX9_judgeAboveName_2 : decode cX9_judgeAboveName 2 = .ok (.aload_n 0, 1) := by decide +kernel
theorem dX9_judgeAboveName_3 : decode cX9_judgeAboveName 3 = .ok (.getfield 9, 3) := by decide +kernel
theorem dX9_judgeAboveName_6 : decode cX9_judgeAboveName 6 = .ok (.iload_n 1, 1) := by decide +kernel
theorem dX9_judgeAboveName_7 : decode cX9_judgeAboveName 7 = .ok (.invokevirtual 41, 3) := by decide +kernel
theorem dX9_judgeAboveName_10 : decode cX9_judgeAboveName 10 = .ok (.invokevirtual 116, 3) := by decide +kernel
theorem dX9_judgeAboveName_13 : decode cX9_judgeAboveName 13 = .ok (.invokevirtual 160, 3) := by decide +kernel
theorem dX9_judgeAboveName_16 : decode cX9_judgeAboveName 16 = .ok (.astore_n 3, 1) := by decide +kernel
theorem dX9_judgeAboveName_17 : decode cX9_judgeAboveName 17 = .ok (.aload_n 3, 1) := by decide +kernel
theorem dX9_judgeAboveName_18 : decode cX9_judgeAboveName 18 = .ok (.ifnonnull 12, 3) := by decide +kernel
theorem dX9_judgeAboveName_21 : decode cX9_judgeAboveName 21 = .ok (.aload_n 0, 1) := by decide +kernel
theorem dX9_judgeAboveName_22 : decode cX9_judgeAboveName 22 = .ok (.iconst 4, 1) := by decide +kernel
theorem dX9_judgeAboveName_23 : decode cX9_judgeAboveName 23 = .ok (.iload_n 1, 1) := by decide +kernel
theorem dX9_judgeAboveName_24 : decode cX9_judgeAboveName 24 = .ok (.invokevirtual 87, 3) := by decide +kernel
theorem dX9_judgeAboveName_27 : decode cX9_judgeAboveName 27 = .ok (.goto 17, 3) := by decide +kernel
theorem dX9_judgeAboveName_44 : decode cX9_judgeAboveName 44 = .ok (.return_, 1) := by decide +kernel
theorem dX9_judgeAboveName_30 : decode cX9_judgeAboveName 30 = .ok (.aload_n 3, 1) := by decide +kernel
theorem dX9_judgeAboveName_31 : decode cX9_judgeAboveName 31 = .ok (.getfield 164, 3) := by decide +kernel
theorem dX9_judgeAboveName_34 : decode cX9_judgeAboveName 34 = .ok (.iload_n 2, 1) := by decide +kernel
theorem dX9_judgeAboveName_35 : decode cX9_judgeAboveName 35 = .ok (.if_icmp .eq 9, 3) := by decide +kernel
theorem dX9_judgeAboveName_38 : decode cX9_judgeAboveName 38 = .ok (.aload_n 0, 1) := by decide +kernel
theorem dX9_judgeAboveName_39 : decode cX9_judgeAboveName 39 = .ok (.iconst 5, 1) := by decide +kernel
theorem dX9_judgeAboveName_40 : decode cX9_judgeAboveName 40 = .ok (.iload_n 1, 1) := by decide +kernel
theorem dX9_judgeAboveName_41 : decode cX9_judgeAboveName 41 = .ok (.invokevirtual 87, 3) := by decide +kernel
theorem hV_X9_find : yX9_find.cls = RX9 ∧ yX9_find.cls ≠ "java/lang/invoke/MethodHandle" ∧ yX9_find.cls ≠ "java/lang/invoke/VarHandle" ∧ (parseMethodDescriptor yX9_find.desc).map (fun d => d.parameters.length) = some 1 := by decide +kernel
theorem hV_X9_decl : yX9_decl.cls = RX9 ∧ yX9_decl.cls ≠ "java/lang/invoke/MethodHandle" ∧ yX9_decl.cls ≠ "java/lang/invoke/VarHandle" ∧ (parseMethodDescriptor yX9_decl.desc).map (fun d => d.parameters.length) = some 1 := by decide +kernel
theorem dX9_judgeTypeName_0 : decode cX9_judgeTypeName 0 = .ok (.aload_n 0, 1) := by decide +kernel
theorem dX9_judgeTypeName_1 : decode cX9_judgeTypeName 1 = .ok (.aload_n 0, 1) := by decide +kernel
theorem dX9_judgeTypeName_2 : decode cX9_judgeTypeName 2 = .ok (.aload_n 0, 1) := by decide +kernel
theorem dX9_judgeTypeName_3 : decode cX9_judgeTypeName 3 = .ok (.getfield 9, 3) := by decide +kernel
theorem dX9_judgeTypeName_6 : decode cX9_judgeTypeName 6 = .ok (.iload_n 1, 1) := by decide +kernel
theorem dX9_judgeTypeName_7 : decode cX9_judgeTypeName 7 = .ok (.invokevirtual 41, 3) := by decide +kernel
theorem dX9_judgeTypeName_10 : decode cX9_judgeTypeName 10 = .ok (.invokevirtual 116, 3) := by decide +kernel
theorem dX9_judgeTypeName_13 : decode cX9_judgeTypeName 13 = .ok (.invokevirtual 160, 3) := by decide +kernel
theorem dX9_judgeTypeName_16 : decode cX9_judgeTypeName 16 = .ok (.astore_n 3, 1) := by decide +kernel
theorem dX9_judgeTypeName_17 : decode cX9_judgeTypeName 17 = .ok (.aload_n 3, 1) := by decide +kernel
theorem dX9_judgeTypeName_18 : decode cX9_judgeTypeName 18 = .ok (.ifnonnull 12, 3) := by decide +kernel
theorem dX9_judgeTypeName_21 : decode cX9_judgeTypeName 21 = .ok (.aload_n 0, 1) := by decide +kernel
theorem dX9_judgeTypeName_22 : decode cX9_judgeTypeName 22 = .ok (.iconst 4, 1) := by decide +kernel
theorem dX9_judgeTypeName_23 : decode cX9_judgeTypeName 23 = .ok (.iload_n 1, 1) := by decide +kernel
theorem dX9_judgeTypeName_24 : decode cX9_judgeTypeName 24 = .ok (.invokevirtual 87, 3) := by decide +kernel
theorem dX9_judgeTypeName_27 : decode cX9_judgeTypeName 27 = .ok (.goto 20, 3) := by decide +kernel
theorem dX9_judgeTypeName_47 : decode cX9_judgeTypeName 47 = .ok (.return_, 1) := by decide +kernel
theorem dX9_judgeTypeName_30 : decode cX9_judgeTypeName 30 = .ok (.aload_n 3, 1) := by decide +kernel
theorem dX9_judgeTypeName_31 : decode cX9_judgeTypeName 31 = .ok (.getfield 164, 3) := by decide +kernel
theorem dX9_judgeTypeName_34 : decode cX9_judgeTypeName 34 = .ok (.ifCond .eq 13, 3) := by decide +kernel
theorem dX9_judgeTypeName_37 : decode cX9_judgeTypeName 37 = .ok (.iload_n 2, 1) := by decide +kernel
theorem dX9_judgeTypeName_38 : decode cX9_judgeTypeName 38 = .ok (.ifCond .ne 9, 3) := by decide +kernel
theorem dX9_judgeTypeName_41 : decode cX9_judgeTypeName 41 = .ok (.aload_n 0, 1) := by decide +kernel
theorem dX9_judgeTypeName_42 : decode cX9_judgeTypeName 42 = .ok (.iconst 5, 1) := by decide +kernel
theorem dX9_judgeTypeName_43 : decode cX9_judgeTypeName 43 = .ok (.iload_n 1, 1) := by decide +kernel
theorem dX9_judgeTypeName_44 : decode cX9_judgeTypeName 44 = .ok (.invokevirtual 87, 3) := by decide +kernel
theorem dX9_judgeHead_0 : decode cX9_judgeHead 0 = .ok (.aload_n 1, 1) := by decide +kernel
theorem dX9_judgeHead_1 : decode cX9_judgeHead 1 = .ok (.getfield 148, 3) := by decide +kernel
theorem dX9_judgeHead_4 : decode cX9_judgeHead 4 = .ok (.iconst (-1), 1) := by decide +kernel
theorem dX9_judgeHead_5 : decode cX9_judgeHead 5 = .ok (.if_icmp .eq 12, 3) := by decide +kernel
theorem dX9_judgeHead_17 : decode cX9_judgeHead 17 = .ok (.iconst 0, 1) := by decide +kernel
theorem dX9_judgeHead_18 : decode cX9_judgeHead 18 = .ok (.istore_n 2, 1) := by decide +kernel
theorem dX9_judgeHead_19 : decode cX9_judgeHead 19 = .ok (.iload_n 2, 1) := by decide +kernel
theorem dX9_judgeHead_20 : decode cX9_judgeHead 20 = .ok (.aload_n 1, 1) := by decide +kernel
theorem dX9_judgeHead_21 : decode cX9_judgeHead 21 = .ok (.getfield 154, 3) := by decide +kernel
theorem dX9_judgeHead_24 : decode cX9_judgeHead 24 = .ok (.if_icmp .ge 72, 3) := by decide +kernel
theorem dX9_judgeHead_96 : decode cX9_judgeHead 96 = .ok (.return_, 1) := by decide +kernel
theorem dX9_judgeHead_27 : decode cX9_judgeHead 27 = .ok (.aload_n 1, 1) := by decide +kernel
theorem dX9_judgeHead_28 : decode cX9_judgeHead 28 = .ok (.getfield 157, 3) := by decide +kernel
theorem dX9_judgeHead_31 : decode cX9_judgeHead 31 = .ok (.iconst 2, 1) := by decide +kernel
theorem dX9_judgeHead_32 : decode cX9_judgeHead 32 = .ok (.iload_n 2, 1) := by decide +kernel
theorem dX9_judgeHead_33 : decode cX9_judgeHead 33 = .ok (.imul, 1) := by decide +kernel
theorem dX9_judgeHead_34 : decode cX9_judgeHead 34 = .ok (.iadd, 1) := by decide +kernel
theorem dX9_judgeHead_35 : decode cX9_judgeHead 35 = .ok (.istore_n 3, 1) := by decide +kernel
theorem dX9_judgeHead_36 : decode cX9_judgeHead 36 = .ok (.aload_n 0, 1) := by decide +kernel
theorem dX9_judgeHead_37 : decode cX9_judgeHead 37 = .ok (.iload_n 3, 1) := by decide +kernel
theorem dX9_judgeHead_38 : decode cX9_judgeHead 38 = .ok (.iconst 1, 1) := by decide +kernel
theorem dX9_judgeHead_39 : decode cX9_judgeHead 39 = .ok (.invokevirtual 151, 3) := by decide +kernel
theorem dX9_judgeHead_42 : decode cX9_judgeHead 42 = .ok (.iconst 0, 1) := by decide +kernel
theorem dX9_judgeHead_43 : decode cX9_judgeHead 43 = .ok (.istore 4, 2) := by decide +kernel
theorem dX9_judgeHead_45 : decode cX9_judgeHead 45 = .ok (.iload 4, 2) := by decide +kernel
theorem dX9_judgeHead_47 : decode cX9_judgeHead 47 = .ok (.iload_n 2, 1) := by decide +kernel
theorem dX9_judgeHead_48 : decode cX9_judgeHead 48 = .ok (.if_icmp .ge 42, 3) := by decide +kernel
theorem dX9_judgeHead_90 : decode cX9_judgeHead 90 = .ok (.iinc 2 1, 3) := by decide +kernel
theorem dX9_judgeHead_93 : decode cX9_judgeHead 93 = .ok (.goto (-74), 3) := by decide +kernel
theorem dX9_judgeHead_51 : decode cX9_judgeHead 51 = .ok (.aload_n 0, 1) := by decide +kernel
theorem dX9_judgeHead_52 : decode cX9_judgeHead 52 = .ok (.getfield 9, 3) := by decide +kernel
theorem dX9_judgeHead_55 : decode cX9_judgeHead 55 = .ok (.aload_n 1, 1) := by decide +kernel
theorem dX9_judgeHead_56 : decode cX9_judgeHead 56 = .ok (.getfield 157, 3) := by decide +kernel
theorem dX9_judgeHead_59 : decode cX9_judgeHead 59 = .ok (.iconst 2, 1) := by decide +kernel
theorem dX9_judgeHead_60 : decode cX9_judgeHead 60 = .ok (.iload 4, 2) := by decide +kernel
theorem dX9_judgeHead_62 : decode cX9_judgeHead 62 = .ok (.imul, 1) := by decide +kernel
theorem dX9_judgeHead_63 : decode cX9_judgeHead 63 = .ok (.iadd, 1) := by decide +kernel
theorem dX9_judgeHead_64 : decode cX9_judgeHead 64 = .ok (.invokevirtual 41, 3) := by decide +kernel
theorem dX9_judgeHead_67 : decode cX9_judgeHead 67 = .ok (.aload_n 0, 1) := by decide +kernel
theorem dX9_judgeHead_68 : decode cX9_judgeHead 68 = .ok (.getfield 9, 3) := by decide +kernel
theorem dX9_judgeHead_71 : decode cX9_judgeHead 71 = .ok (.iload_n 3, 1) := by decide +kernel
theorem dX9_judgeHead_72 : decode cX9_judgeHead 72 = .ok (.invokevirtual 41, 3) := by decide +kernel
theorem dX9_judgeHead_75 : decode cX9_judgeHead 75 = .ok (.if_icmp .ne 9, 3) := by decide +kernel
theorem dX9_judgeHead_84 : decode cX9_judgeHead 84 = .ok (.iinc 4 1, 3) := by decide +kernel
theorem dX9_judgeHead_87 : decode cX9_judgeHead 87 = .ok (.goto (-42), 3) := by decide +kernel
theorem dX9_judgeHead_78 : decode cX9_judgeHead 78 = .ok (.aload_n 0, 1) := by decide +kernel
theorem dX9_judgeHead_79 : decode cX9_judgeHead 79 = .ok (.iconst 5, 1) := by decide +kernel
theorem dX9_judgeHead_80 : decode cX9_judgeHead 80 = .ok (.iload_n 3, 1) := by decide +kernel
theorem dX9_judgeHead_81 : decode cX9_judgeHead 81 = .ok (.invokevirtual 87, 3) := by decide +kernel
theorem dX9_judgeHead_8 : decode cX9_judgeHead 8 = .ok (.aload_n 0, 1) := by decide +kernel
theorem dX9_judgeHead_9 : decode cX9_judgeHead 9 = .ok (.aload_n 1, 1) := by decide +kernel
theorem dX9_judgeHead_10 : decode cX9_judgeHead 10 = .ok (.getfield 148, 3) := by decide +kernel
theorem dX9_judgeHead_13 : decode cX9_judgeHead 13 = .ok (.iconst 0, 1) := by decide +kernel
theorem dX9_judgeHead_14 : decode cX9_judgeHead 14 = .ok (.invokevirtual 151, 3) := by decide +kernel
theorem hV_X9_judgeAboveName : yX9_judgeAboveName.cls = RX9 ∧ yX9_judgeAboveName.cls ≠ "java/lang/invoke/MethodHandle" ∧ yX9_judgeAboveName.cls ≠ "java/lang/invoke/VarHandle" ∧ (parseMethodDescriptor yX9_judgeAboveName.desc).map (fun d => d.parameters.length) = some 2 := by decide +kernel
theorem dX9_firstRound_0 : decode cX9_firstRound 0 = .ok (.bipush 7, 2) := by decide +kernel
theorem dX9_firstRound_2 : decode cX9_firstRound 2 = .ok (.istore_n 1, 1) := by decide +kernel
theorem dX9_firstRound_3 : decode cX9_firstRound 3 = .ok (.iload_n 1, 1) := by decide +kernel
theorem dX9_firstRound_4 : decode cX9_firstRound 4 = .ok (.aload_n 0, 1) := by decide +kernel
theorem dX9_firstRound_5 : decode cX9_firstRound 5 = .ok (.getfield 33, 3) := by decide +kernel
theorem dX9_firstRound_8 : decode cX9_firstRound 8 = .ok (.if_icmp .ge 47, 3) := by decide +kernel
theorem dX9_firstRound_55 : decode cX9_firstRound 55 = .ok (.iconst 0, 1) := by decide +kernel
theorem dX9_firstRound_56 : decode cX9_firstRound 56 = .ok (.istore_n 1, 1) := by decide +kernel
theorem dX9_firstRound_57 : decode cX9_firstRound 57 = .ok (.iload_n 1, 1) := by decide +kernel
theorem dX9_firstRound_58 : decode cX9_firstRound 58 = .ok (.aload_n 0, 1) := by decide +kernel
theorem dX9_firstRound_59 : decode cX9_firstRound 59 = .ok (.getfield 9, 3) := by decide +kernel
theorem dX9_firstRound_62 : decode cX9_firstRound 62 = .ok (.getfield 126, 3) := by decide +kernel
theorem dX9_firstRound_65 : decode cX9_firstRound 65 = .ok (.if_icmp .ge 37, 3) := by decide +kernel
theorem dX9_firstRound_102 : decode cX9_firstRound 102 = .ok (.return_, 1) := by decide +kernel
theorem dX9_firstRound_68 : decode cX9_firstRound 68 = .ok (.aload_n 0, 1) := by decide +kernel
theorem dX9_firstRound_69 : decode cX9_firstRound 69 = .ok (.getfield 9, 3) := by decide +kernel
theorem dX9_firstRound_72 : decode cX9_firstRound 72 = .ok (.iload_n 1, 1) := by decide +kernel
theorem dX9_firstRound_73 : decode cX9_firstRound 73 = .ok (.invokevirtual 127, 3) := by decide +kernel
theorem dX9_firstRound_76 : decode cX9_firstRound 76 = .ok (.istore_n 2, 1) := by decide +kernel
theorem dX9_firstRound_77 : decode cX9_firstRound 77 = .ok (.iload_n 2, 1) := by decide +kernel
theorem dX9_firstRound_78 : decode cX9_firstRound 78 = .ok (.ifCond .eq 18, 3) := by decide +kernel
theorem dX9_firstRound_96 : decode cX9_firstRound 96 = .ok (.iinc 1 1, 3) := by decide +kernel
theorem dX9_firstRound_99 : decode cX9_firstRound 99 = .ok (.goto (-42), 3) := by decide +kernel
theorem dX9_firstRound_81 : decode cX9_firstRound 81 = .ok (.aload_n 0, 1) := by decide +kernel
theorem dX9_firstRound_82 : decode cX9_firstRound 82 = .ok (.iload_n 1, 1) := by decide +kernel
theorem dX9_firstRound_83 : decode cX9_firstRound 83 = .ok (.iload_n 2, 1) := by decide +kernel
theorem dX9_firstRound_84 : decode cX9_firstRound 84 = .ok (.iconst 1, 1) := by decide +kernel
theorem dX9_firstRound_85 : decode cX9_firstRound 85 = .ok (.if_icmp .ne 7, 3) := by decide +kernel
theorem dX9_firstRound_92 : decode cX9_firstRound 92 = .ok (.iconst 0, 1) := by decide +kernel
theorem dX9_firstRound_93 : decode cX9_firstRound 93 = .ok (.invokevirtual 130, 3) := by decide +kernel
theorem dX9_firstRound_88 : decode cX9_firstRound 88 = .ok (.iconst 1, 1) := by decide +kernel
theorem dX9_firstRound_89 : decode cX9_firstRound 89 = .ok (.goto 4, 3) := by decide +kernel
theorem dX9_firstRound_11 : decode cX9_firstRound 11 = .ok (.aload_n 0, 1) := by decide +kernel
theorem dX9_firstRound_12 : decode cX9_firstRound 12 = .ok (.getfield 17, 3) := by decide +kernel
theorem dX9_firstRound_15 : decode cX9_firstRound 15 = .ok (.iload_n 1, 1) := by decide +kernel
theorem dX9_firstRound_16 : decode cX9_firstRound 16 = .ok (.aaload, 1) := by decide +kernel
theorem dX9_firstRound_17 : decode cX9_firstRound 17 = .ok (.astore_n 2, 1) := by decide +kernel
theorem dX9_firstRound_18 : decode cX9_firstRound 18 = .ok (.aload_n 0, 1) := by decide +kernel
theorem dX9_firstRound_19 : decode cX9_firstRound 19 = .ok (.aload_n 2, 1) := by decide +kernel
theorem dX9_firstRound_20 : decode cX9_firstRound 20 = .ok (.getfield 54, 3) := by decide +kernel
theorem dX9_firstRound_23 : decode cX9_firstRound 23 = .ok (.invokevirtual 116, 3) := by decide +kernel
theorem dX9_firstRound_26 : decode cX9_firstRound 26 = .ok (.iload_n 1, 1) := by decide +kernel
theorem dX9_firstRound_27 : decode cX9_firstRound 27 = .ok (.if_icmp .ge 12, 3) := by decide +kernel
theorem dX9_firstRound_39 : decode cX9_firstRound 39 = .ok (.aload_n 0, 1) := by decide +kernel
theorem dX9_firstRound_40 : decode cX9_firstRound 40 = .ok (.aload_n 2, 1) := by decide +kernel
theorem dX9_firstRound_41 : decode cX9_firstRound 41 = .ok (.invokevirtual 119, 3) := by decide +kernel
theorem dX9_firstRound_44 : decode cX9_firstRound 44 = .ok (.aload_n 0, 1) := by decide +kernel
theorem dX9_firstRound_45 : decode cX9_firstRound 45 = .ok (.aload_n 2, 1) := by decide +kernel
theorem dX9_firstRound_46 : decode cX9_firstRound 46 = .ok (.invokevirtual 123, 3) := by decide +kernel
theorem dX9_firstRound_49 : decode cX9_firstRound 49 = .ok (.iinc 1 1, 3) := by decide +kernel
theorem dX9_firstRound_52 : decode cX9_firstRound 52 = .ok (.goto (-49), 3) := by decide +kernel
theorem dX9_firstRound_30 : decode cX9_firstRound 30 = .ok (.aload_n 0, 1) := by decide +kernel
theorem dX9_firstRound_31 : decode cX9_firstRound 31 = .ok (.iconst 3, 1) := by decide +kernel
theorem dX9_firstRound_32 : decode cX9_firstRound 32 = .ok (.aload_n 2, 1) := by decide +kernel
theorem dX9_firstRound_33 : decode cX9_firstRound 33 = .ok (.getfield 84, 3) := by decide +kernel
theorem dX9_firstRound_36 : decode cX9_firstRound 36 = .ok (.invokevirtual 87, 3) := by decide +kernel
theorem hV_X10_roleAt : yX10_roleAt.cls = RX10 ∧ yX10_roleAt.cls ≠ "java/lang/invoke/MethodHandle" ∧ yX10_roleAt.cls ≠ "java/lang/invoke/VarHandle" ∧ (parseMethodDescriptor yX10_roleAt.desc).map (fun d => d.parameters.length) = some 1 := by decide +kernel
theorem hV_X9_judgeTypeName : yX9_judgeTypeName.cls = RX9 ∧ yX9_judgeTypeName.cls ≠ "java/lang/invoke/MethodHandle" ∧ yX9_judgeTypeName.cls ≠ "java/lang/invoke/VarHandle" ∧ (parseMethodDescriptor yX9_judgeTypeName.desc).map (fun d => d.parameters.length) = some 2 := by decide +kernel
theorem hV_X9_judgeMembers : yX9_judgeMembers.cls = RX9 ∧ yX9_judgeMembers.cls ≠ "java/lang/invoke/MethodHandle" ∧ yX9_judgeMembers.cls ≠ "java/lang/invoke/VarHandle" ∧ (parseMethodDescriptor yX9_judgeMembers.desc).map (fun d => d.parameters.length) = some 1 := by decide +kernel
theorem hV_X9_judgeHead : yX9_judgeHead.cls = RX9 ∧ yX9_judgeHead.cls ≠ "java/lang/invoke/MethodHandle" ∧ yX9_judgeHead.cls ≠ "java/lang/invoke/VarHandle" ∧ (parseMethodDescriptor yX9_judgeHead.desc).map (fun d => d.parameters.length) = some 1 := by decide +kernel