theorem dX9_firstFromAbove_0 : decode cX9_firstFromAbove 0 = .ok (.iconst 0, 1) := by decide +kernel
theorem dX9_firstFromAbove_1 : decode cX9_firstFromAbove 1 = .ok (.istore_n 3, 1) := by decide +kernel
theorem dX9_firstFromAbove_2 : decode cX9_firstFromAbove 2 = .ok (.iload_n 3, 1) := by decide +kernel
theorem dX9_firstFromAbove_3 : decode cX9_firstFromAbove 3 = .ok (.aload_n 0, 1) := by decide +kernel
theorem dX9_firstFromAbove_4 : decode cX9_firstFromAbove 4 = .ok (.getfield 33, 3) := by decide +kernel
theorem dX9_firstFromAbove_7 : decode cX9_firstFromAbove 7 = .ok (.if_icmp .ge 45, 3) := by decide +kernel
theorem dX9_firstFromAbove_52 : decode cX9_firstFromAbove 52 = .ok (.aconst_null, 1) := by decide +kernel
theorem dX9_firstFromAbove_53 : decode cX9_firstFromAbove 53 = .ok (.areturn, 1) := by decide +kernel
theorem dX9_firstFromAbove_10 : decode cX9_firstFromAbove 10 = .ok (.aload_n 0, 1) := by decide +kernel
theorem dX9_firstFromAbove_11 : decode cX9_firstFromAbove 11 = .ok (.iload_n 3, 1) := by decide +kernel
theorem dX9_firstFromAbove_12 : decode cX9_firstFromAbove 12 = .ok (.aload_n 1, 1) := by decide +kernel
theorem dX9_firstFromAbove_13 : decode cX9_firstFromAbove 13 = .ok (.getfield 178, 3) := by decide +kernel
theorem dX9_firstFromAbove_16 : decode cX9_firstFromAbove 16 = .ok (.invokevirtual 65, 3) := by decide +kernel
theorem dX9_firstFromAbove_19 : decode cX9_firstFromAbove 19 = .ok (.ifCond .eq 16, 3) := by decide +kernel
theorem dX9_firstFromAbove_35 : decode cX9_firstFromAbove 35 = .ok (.aconst_null, 1) := by decide +kernel
theorem dX9_firstFromAbove_36 : decode cX9_firstFromAbove 36 = .ok (.astore 4, 2) := by decide +kernel
theorem dX9_firstFromAbove_38 : decode cX9_firstFromAbove 38 = .ok (.aload 4, 2) := by decide +kernel
theorem dX9_firstFromAbove_40 : decode cX9_firstFromAbove 40 = .ok (.ifnull 6, 3) := by decide +kernel
theorem dX9_firstFromAbove_46 : decode cX9_firstFromAbove 46 = .ok (.iinc 3 1, 3) := by decide +kernel
theorem dX9_firstFromAbove_49 : decode cX9_firstFromAbove 49 = .ok (.goto (-47), 3) := by decide +kernel
theorem dX9_firstFromAbove_22 : decode cX9_firstFromAbove 22 = .ok (.aload_n 0, 1) := by decide +kernel
theorem dX9_firstFromAbove_23 : decode cX9_firstFromAbove 23 = .ok (.getfield 17, 3) := by decide +kernel
theorem dX9_firstFromAbove_26 : decode cX9_firstFromAbove 26 = .ok (.iload_n 3, 1) := by decide +kernel
theorem dX9_firstFromAbove_27 : decode cX9_firstFromAbove 27 = .ok (.aaload, 1) := by decide +kernel
theorem dX9_firstFromAbove_28 : decode cX9_firstFromAbove 28 = .ok (.iload_n 2, 1) := by decide +kernel
theorem dX9_firstFromAbove_29 : decode cX9_firstFromAbove 29 = .ok (.invokevirtual 143, 3) := by decide +kernel
theorem dX9_firstFromAbove_32 : decode cX9_firstFromAbove 32 = .ok (.goto 4, 3) := by decide +kernel
theorem dX9_firstFromAbove_43 : decode cX9_firstFromAbove 43 = .ok (.aload 4, 2) := by decide +kernel
theorem dX9_firstFromAbove_45 : decode cX9_firstFromAbove 45 = .ok (.areturn, 1) := by decide +kernel
theorem dX9_haveOneSignature_0 : decode cX9_haveOneSignature 0 = .ok (.aload_n 2, 1) := by decide +kernel
theorem dX9_haveOneSignature_1 : decode cX9_haveOneSignature 1 = .ok (.ifnull 45, 3) := by decide +kernel
theorem dX9_haveOneSignature_46 : decode cX9_haveOneSignature 46 = .ok (.iconst 0, 1) := by decide +kernel
theorem dX9_haveOneSignature_47 : decode cX9_haveOneSignature 47 = .ok (.ireturn, 1) := by decide +kernel
theorem dX9_haveOneSignature_4 : decode cX9_haveOneSignature 4 = .ok (.aload_n 0, 1) := by decide +kernel
theorem dX9_haveOneSignature_5 : decode cX9_haveOneSignature 5 = .ok (.getfield 9, 3) := by decide +kernel
theorem dX9_haveOneSignature_8 : decode cX9_haveOneSignature 8 = .ok (.aload_n 1, 1) := by decide +kernel
theorem dX9_haveOneSignature_9 : decode cX9_haveOneSignature 9 = .ok (.getfield 191, 3) := by decide +kernel
theorem dX9_haveOneSignature_12 : decode cX9_haveOneSignature 12 = .ok (.invokevirtual 194, 3) := by decide +kernel
theorem dX9_haveOneSignature_15 : decode cX9_haveOneSignature 15 = .ok (.aload_n 0, 1) := by decide +kernel
theorem dX9_haveOneSignature_16 : decode cX9_haveOneSignature 16 = .ok (.getfield 9, 3) := by decide +kernel
theorem dX9_haveOneSignature_19 : decode cX9_haveOneSignature 19 = .ok (.aload_n 2, 1) := by decide +kernel
theorem dX9_haveOneSignature_20 : decode cX9_haveOneSignature 20 = .ok (.getfield 191, 3) := by decide +kernel
theorem dX9_haveOneSignature_23 : decode cX9_haveOneSignature 23 = .ok (.invokevirtual 194, 3) := by decide +kernel
theorem dX9_haveOneSignature_26 : decode cX9_haveOneSignature 26 = .ok (.if_icmp .ne 20, 3) := by decide +kernel
theorem dX9_haveOneSignature_29 : decode cX9_haveOneSignature 29 = .ok (.aload_n 1, 1) := by decide +kernel
theorem dX9_haveOneSignature_30 : decode cX9_haveOneSignature 30 = .ok (.getfield 197, 3) := by decide +kernel
theorem dX9_haveOneSignature_33 : decode cX9_haveOneSignature 33 = .ok (.invokevirtual 45, 3) := by decide +kernel
theorem dX9_haveOneSignature_36 : decode cX9_haveOneSignature 36 = .ok (.aload_n 2, 1) := by decide +kernel
theorem dX9_haveOneSignature_37 : decode cX9_haveOneSignature 37 = .ok (.getfield 197, 3) := by decide +kernel
theorem dX9_haveOneSignature_40 : decode cX9_haveOneSignature 40 = .ok (.invokevirtual 45, 3) := by decide +kernel
theorem dX9_haveOneSignature_43 : decode cX9_haveOneSignature 43 = .ok (.if_icmp .eq 5, 3) := by decide +kernel
theorem dX9_haveOneSignature_48 : decode cX9_haveOneSignature 48 = .ok (.iconst 0, 1) := by decide +kernel
theorem dX9_haveOneSignature_49 : decode cX9_haveOneSignature 49 = .ok (.istore_n 3, 1) := by decide +kernel
theorem dX9_haveOneSignature_50 : decode cX9_haveOneSignature 50 = .ok (.iload_n 3, 1) := by decide +kernel
theorem dX9_haveOneSignature_51 : decode cX9_haveOneSignature 51 = .ok (.aload_n 1, 1) := by decide +kernel
theorem dX9_haveOneSignature_52 : decode cX9_haveOneSignature 52 = .ok (.getfield 197, 3) := by decide +kernel
theorem dX9_haveOneSignature_55 : decode cX9_haveOneSignature 55 = .ok (.invokevirtual 45, 3) := by decide +kernel
theorem dX9_haveOneSignature_58 : decode cX9_haveOneSignature 58 = .ok (.if_icmp .ge 56, 3) := by decide +kernel
theorem dX9_haveOneSignature_114 : decode cX9_haveOneSignature 114 = .ok (.iconst 1, 1) := by decide +kernel
theorem dX9_haveOneSignature_115 : decode cX9_haveOneSignature 115 = .ok (.ireturn, 1) := by decide +kernel
theorem dX9_haveOneSignature_61 : decode cX9_haveOneSignature 61 = .ok (.aload_n 0, 1) := by decide +kernel
theorem dX9_haveOneSignature_62 : decode cX9_haveOneSignature 62 = .ok (.getfield 9, 3) := by decide +kernel
theorem dX9_haveOneSignature_65 : decode cX9_haveOneSignature 65 = .ok (.aload_n 1, 1) := by decide +kernel
theorem dX9_haveOneSignature_66 : decode cX9_haveOneSignature 66 = .ok (.getfield 197, 3) := by decide +kernel
theorem dX9_haveOneSignature_69 : decode cX9_haveOneSignature 69 = .ok (.iload_n 3, 1) := by decide +kernel
theorem dX9_haveOneSignature_70 : decode cX9_haveOneSignature 70 = .ok (.invokevirtual 48, 3) := by decide +kernel
theorem dX9_haveOneSignature_73 : decode cX9_haveOneSignature 73 = .ok (.checkcast 137, 3) := by decide +kernel
theorem dX9_haveOneSignature_76 : decode cX9_haveOneSignature 76 = .ok (.getfield 208, 3) := by decide +kernel
theorem dX9_haveOneSignature_79 : decode cX9_haveOneSignature 79 = .ok (.invokevirtual 194, 3) := by decide +kernel
theorem dX9_haveOneSignature_82 : decode cX9_haveOneSignature 82 = .ok (.aload_n 0, 1) := by decide +kernel
theorem dX9_haveOneSignature_83 : decode cX9_haveOneSignature 83 = .ok (.getfield 9, 3) := by decide +kernel
theorem dX9_haveOneSignature_86 : decode cX9_haveOneSignature 86 = .ok (.aload_n 2, 1) := by decide +kernel
theorem dX9_haveOneSignature_87 : decode cX9_haveOneSignature 87 = .ok (.getfield 197, 3) := by decide +kernel
theorem dX9_haveOneSignature_90 : decode cX9_haveOneSignature 90 = .ok (.iload_n 3, 1) := by decide +kernel
theorem dX9_haveOneSignature_91 : decode cX9_haveOneSignature 91 = .ok (.invokevirtual 48, 3) := by decide +kernel
theorem dX9_haveOneSignature_94 : decode cX9_haveOneSignature 94 = .ok (.checkcast 137, 3) := by decide +kernel
theorem dX9_haveOneSignature_97 : decode cX9_haveOneSignature 97 = .ok (.getfield 208, 3) := by decide +kernel
theorem dX9_haveOneSignature_100 : decode cX9_haveOneSignature 100 = .ok (.invokevirtual 194, 3) := by decide +kernel
theorem dX9_haveOneSignature_103 : decode cX9_haveOneSignature 103 = .ok (.if_icmp .eq 5, 3) := by decide +kernel
theorem dX9_haveOneSignature_108 : decode cX9_haveOneSignature 108 = .ok (.iinc 3 1, 3) := by decide +kernel
theorem dX9_haveOneSignature_111 : decode cX9_haveOneSignature 111 = .ok (.goto (-61), 3) := by decide +kernel
theorem dX9_haveOneSignature_106 : decode cX9_haveOneSignature 106 = .ok (.iconst 0, 1) := by decide +kernel
theorem dX9_haveOneSignature_107 : decode cX9_haveOneSignature 107 = .ok (.ireturn, 1) := by decide +kernel
theorem hV_X10_typeAt : yX10_typeAt.cls = RX10 ∧ yX10_typeAt.cls ≠ "java/lang/invoke/MethodHandle" ∧ yX10_typeAt.cls ≠ "java/lang/invoke/VarHandle" ∧ (parseMethodDescriptor yX10_typeAt.desc).map (fun d => d.parameters.length) = some 1 := by decide +kernel