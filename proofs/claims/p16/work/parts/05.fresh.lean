theorem nw_X0 : ∀ j, j < 13 → defaultValue (tyX0 j) = vp_V [.null, .null, .null, .null, .null, .int 0, .null, .null, .int 0, .int 0, .int 0, .null, .int 0] j := by decide +kernel
theorem nw_X1 : ∀ j, j < 13 → defaultValue (tyX1 j) = vp_V [.null, .null, .null, .null, .int 0, .null, .null, .null, .null, .null, .int 0, .int 0, .int 0] j := by decide +kernel
theorem nw_X2 : ∀ j, j < 13 → defaultValue (tyX2 j) = vp_V [.int 0, .int 0, .int 0, .int 0, .int 0, .int 0, .int 0, .null, .null, .null, .long 0, .null, .null] j := by decide +kernel
theorem nw_X3 : ∀ j, j < 5 → defaultValue (tyX3 j) = vp_V [.null, .null, .int 0, .int 0, .int 0] j := by decide +kernel
theorem nw_X5 : ∀ j, j < 19 → defaultValue (tyX5 j) = vp_V [.null, .null, .null, .null, .null, .int 0, .null, .null, .null, .null, .int 0, .int 0, .int 0, .int 0, .long 0, .int 0, .int 0, .int 0, .int 0] j := by decide +kernel
theorem nw_X8 : ∀ j, j < 5 → defaultValue (tyX8 j) = vp_V [.null, .null, .int 0, .int 0, .int 0] j := by decide +kernel
theorem nw_X9 : ∀ j, j < 5 → defaultValue (tyX9 j) = vp_V [.null, .null, .int 0, .null, .int 0] j := by decide +kernel
theorem nw_X10 : ∀ j, j < 15 → defaultValue (tyX10 j) = vp_V [.null, .int 0, .int 0, .null, .null, .null, .null, .null, .int 0, .null, .null, .null, .null, .int 0, .int 0] j := by decide +kernel
theorem nw_X11 : ∀ j, j < 8 → defaultValue (tyX11 j) = vp_V [.null, .int 0, .null, .null, .null, .null, .null, .null] j := by decide +kernel
theorem nw_X12 : ∀ j, j < 134 → defaultValue (tyX12 j) = vp_V [.int 0, .null, .int 0, .null, .int 0, .null, .null, .null, .null, .int 0, .null, .null, .null, .int 0, .int 0, .int 0, .int 0, .null, .null, .null, .null, .null, .null, .null, .null, .null, .null, .int 0, .null, .null, .null, .int 0, .null, .null, .int 0, .int 0, .null, .null, .null, .null, .null, .null, .null, .null, .int 0, .null, .null, .null, .null, .int 0, .null, .null, .null, .null, .null, .null, .null, .null, .null, .int 0, .int 0, .null, .null, .null, .int 0, .int 0, .int 0, .int 0, .int 0, .int 0, .int 0, .null, .null, .int 0, .int 0, .int 0, .int 0, .int 0, .int 0, .int 0, .int 0, .int 0, .int 0, .int 0, .null, .int 0, .null, .int 0, .null, .null, .null, .null, .null, .null, .null, .null, .null, .int 0, .int 0, .int 0, .null, .int 0, .int 0, .null, .null, .null, .null, .null, .null, .null, .null, .int 0, .null, .null, .null, .int 0, .int 0, .int 0, .int 0, .int 0, .int 0, .int 0, .int 0, .int 0, .int 0, .int 0, .int 0, .null, .int 0, .null, .int 0, .null, .null, .null] j := by decide +kernel
theorem nw_Jx4a65c : ∀ j, j < 3 → defaultValue (tyJx4a65c j) = vp_V [.int 0, .null, .int 0] j := by decide +kernel
theorem nw_X4 : ∀ j, j < 6 → defaultValue (tyX4 j) = vp_V [.null, .int 0, .int 0, .int 0, .int 0, .int 0] j := by decide +kernel
theorem nw_X6 : ∀ j, j < 12 → defaultValue (tyX6 j) = vp_V [.null, .int 0, .int 0, .int 0, .null, .null, .int 0, .int 0, .int 0, .int 0, .int 0, .int 0] j := by decide +kernel
theorem nw_X7 : ∀ j, j < 11 → defaultValue (tyX7 j) = vp_V [.int 0, .int 0, .int 0, .int 0, .int 0, .int 0, .null, .null, .null, .null, .null] j := by decide +kernel
theorem tFX12_0 : TX12 0 = ("JinjaTongueModel", "thrown", "I", false) := by decide +kernel
theorem tFX12_1 : TX12 1 = ("JinjaTongueModel", "tape", "[I", true) := by decide +kernel
theorem tFX12_2 : TX12 2 = ("JinjaTongueModel", "taped", "I", false) := by decide +kernel
theorem tFX12_3 : TX12 3 = ("JinjaTongueModel", "text", "[I", true) := by decide +kernel
theorem tFX12_4 : TX12 4 = ("JinjaTongueModel", "size", "I", false) := by decide +kernel
theorem tFX12_5 : TX12 5 = ("JinjaTongueModel", "tKind", "[I", true) := by decide +kernel
theorem tFX12_6 : TX12 6 = ("JinjaTongueModel", "tFrom", "[I", true) := by decide +kernel
theorem tFX12_7 : TX12 7 = ("JinjaTongueModel", "tTo", "[I", true) := by decide +kernel
theorem tFX12_8 : TX12 8 = ("JinjaTongueModel", "tValue", "[I", true) := by decide +kernel
theorem tFX12_9 : TX12 9 = ("JinjaTongueModel", "tokens", "I", false) := by decide +kernel
theorem tFX12_10 : TX12 10 = ("JinjaTongueModel", "nameAt", "[I", true) := by decide +kernel
theorem tFX12_11 : TX12 11 = ("JinjaTongueModel", "nameSize", "[I", true) := by decide +kernel
theorem tFX12_12 : TX12 12 = ("JinjaTongueModel", "nameBytes", "[B", true) := by decide +kernel
theorem tFX12_13 : TX12 13 = ("JinjaTongueModel", "nameUsed", "I", false) := by decide +kernel
theorem tFX12_14 : TX12 14 = ("JinjaTongueModel", "names", "I", false) := by decide +kernel
theorem tFX12_15 : TX12 15 = ("JinjaTongueModel", "fault", "I", false) := by decide +kernel
theorem tFX12_16 : TX12 16 = ("JinjaTongueModel", "faultPlace", "I", false) := by decide +kernel
theorem tFX12_17 : TX12 17 = ("JinjaTongueModel", "nKind", "[I", true) := by decide +kernel
theorem tFX12_18 : TX12 18 = ("JinjaTongueModel", "nFirst", "[I", true) := by decide +kernel
theorem tFX12_19 : TX12 19 = ("JinjaTongueModel", "nToken", "[I", true) := by decide +kernel
theorem tFX12_20 : TX12 20 = ("JinjaTongueModel", "nA", "[I", true) := by decide +kernel
theorem tFX12_21 : TX12 21 = ("JinjaTongueModel", "nB", "[I", true) := by decide +kernel
theorem tFX12_22 : TX12 22 = ("JinjaTongueModel", "nC", "[I", true) := by decide +kernel
theorem tFX12_23 : TX12 23 = ("JinjaTongueModel", "nD", "[I", true) := by decide +kernel
theorem tFX12_24 : TX12 24 = ("JinjaTongueModel", "nNext", "[I", true) := by decide +kernel
theorem tFX12_25 : TX12 25 = ("JinjaTongueModel", "nType", "[I", true) := by decide +kernel
theorem tFX12_26 : TX12 26 = ("JinjaTongueModel", "nMeans", "[I", true) := by decide +kernel
theorem tFX12_27 : TX12 27 = ("JinjaTongueModel", "nodes", "I", false) := by decide +kernel
theorem tFX12_28 : TX12 28 = ("JinjaTongueModel", "yToken", "[I", true) := by decide +kernel
theorem tFX12_29 : TX12 29 = ("JinjaTongueModel", "yRow", "[Z", true) := by decide +kernel
theorem tFX12_30 : TX12 30 = ("JinjaTongueModel", "yCode", "[I", true) := by decide +kernel
theorem tFX12_31 : TX12 31 = ("JinjaTongueModel", "written", "I", false) := by decide +kernel
theorem tFX12_32 : TX12 32 = ("JinjaTongueModel", "lToken", "[I", true) := by decide +kernel
theorem tFX12_33 : TX12 33 = ("JinjaTongueModel", "lNext", "[I", true) := by decide +kernel
theorem tFX12_34 : TX12 34 = ("JinjaTongueModel", "listed", "I", false) := by decide +kernel
theorem tFX12_35 : TX12 35 = ("JinjaTongueModel", "decls", "I", false) := by decide +kernel
theorem tFX12_36 : TX12 36 = ("JinjaTongueModel", "dName", "[I", true) := by decide +kernel
theorem tFX12_37 : TX12 37 = ("JinjaTongueModel", "dToken", "[I", true) := by decide +kernel
theorem tFX12_38 : TX12 38 = ("JinjaTongueModel", "dIsInterface", "[Z", true) := by decide +kernel
theorem tFX12_39 : TX12 39 = ("JinjaTongueModel", "dExtends", "[I", true) := by decide +kernel
theorem tFX12_40 : TX12 40 = ("JinjaTongueModel", "dImplements", "[I", true) := by decide +kernel
theorem tFX12_41 : TX12 41 = ("JinjaTongueModel", "dSuper", "[I", true) := by decide +kernel
theorem tFX12_42 : TX12 42 = ("JinjaTongueModel", "dCells", "[I", true) := by decide +kernel
theorem tFX12_43 : TX12 43 = ("JinjaTongueModel", "dAbove", "[Z", true) := by decide +kernel
theorem tFX12_44 : TX12 44 = ("JinjaTongueModel", "fields", "I", false) := by decide +kernel
theorem tFX12_45 : TX12 45 = ("JinjaTongueModel", "fOf", "[I", true) := by decide +kernel
theorem tFX12_46 : TX12 46 = ("JinjaTongueModel", "fName", "[I", true) := by decide +kernel
theorem tFX12_47 : TX12 47 = ("JinjaTongueModel", "fToken", "[I", true) := by decide +kernel
theorem tFX12_48 : TX12 48 = ("JinjaTongueModel", "fType", "[I", true) := by decide +kernel
theorem tFX12_49 : TX12 49 = ("JinjaTongueModel", "methods", "I", false) := by decide +kernel
theorem tFX12_50 : TX12 50 = ("JinjaTongueModel", "mOf", "[I", true) := by decide +kernel
theorem tFX12_51 : TX12 51 = ("JinjaTongueModel", "mName", "[I", true) := by decide +kernel
theorem tFX12_52 : TX12 52 = ("JinjaTongueModel", "mToken", "[I", true) := by decide +kernel
theorem tFX12_53 : TX12 53 = ("JinjaTongueModel", "mResult", "[I", true) := by decide +kernel
theorem tFX12_54 : TX12 54 = ("JinjaTongueModel", "mFirst", "[I", true) := by decide +kernel
theorem tFX12_55 : TX12 55 = ("JinjaTongueModel", "mMany", "[I", true) := by decide +kernel
theorem tFX12_56 : TX12 56 = ("JinjaTongueModel", "mBlock", "[I", true) := by decide +kernel
theorem tFX12_57 : TX12 57 = ("JinjaTongueModel", "mEnd", "[I", true) := by decide +kernel
theorem tFX12_58 : TX12 58 = ("JinjaTongueModel", "mNumber", "[I", true) := by decide +kernel
theorem tFX12_59 : TX12 59 = ("JinjaTongueModel", "blocks", "I", false) := by decide +kernel
theorem tFX12_60 : TX12 60 = ("JinjaTongueModel", "parameters", "I", false) := by decide +kernel
theorem tFX12_61 : TX12 61 = ("JinjaTongueModel", "pName", "[I", true) := by decide +kernel
theorem tFX12_62 : TX12 62 = ("JinjaTongueModel", "pToken", "[I", true) := by decide +kernel
theorem tFX12_63 : TX12 63 = ("JinjaTongueModel", "pType", "[I", true) := by decide +kernel
theorem tFX12_64 : TX12 64 = ("JinjaTongueModel", "at", "I", false) := by decide +kernel
theorem tFX12_65 : TX12 65 = ("JinjaTongueModel", "nest", "I", false) := by decide +kernel
theorem tFX12_66 : TX12 66 = ("JinjaTongueModel", "links", "I", false) := by decide +kernel
theorem tFX12_67 : TX12 67 = ("JinjaTongueModel", "manyFields", "I", false) := by decide +kernel
theorem tFX12_68 : TX12 68 = ("JinjaTongueModel", "manyMethods", "I", false) := by decide +kernel
theorem tFX12_69 : TX12 69 = ("JinjaTongueModel", "roundAt", "I", false) := by decide +kernel
theorem tFX12_70 : TX12 70 = ("JinjaTongueModel", "roundWhat", "I", false) := by decide +kernel
theorem tFX12_71 : TX12 71 = ("JinjaTongueModel", "vName", "[I", true) := by decide +kernel
theorem tFX12_72 : TX12 72 = ("JinjaTongueModel", "vType", "[I", true) := by decide +kernel
theorem tFX12_73 : TX12 73 = ("JinjaTongueModel", "scope", "I", false) := by decide +kernel
theorem tFX12_74 : TX12 74 = ("JinjaTongueModel", "bodyOf", "I", false) := by decide +kernel
theorem tFX12_75 : TX12 75 = ("JinjaTongueModel", "bodyResult", "I", false) := by decide +kernel
theorem tFX12_76 : TX12 76 = ("JinjaTongueModel", "inLoops", "I", false) := by decide +kernel
theorem tFX12_77 : TX12 77 = ("JinjaTongueModel", "done", "I", false) := by decide +kernel
theorem tFX12_78 : TX12 78 = ("JinjaTongueModel", "whenTrue", "I", false) := by decide +kernel
theorem tFX12_79 : TX12 79 = ("JinjaTongueModel", "whenFalse", "I", false) := by decide +kernel
theorem tFX12_80 : TX12 80 = ("JinjaTongueModel", "atBreaks", "I", false) := by decide +kernel
theorem tFX12_81 : TX12 81 = ("JinjaTongueModel", "atContinues", "I", false) := by decide +kernel
theorem tFX12_82 : TX12 82 = ("JinjaTongueModel", "hasProgram", "Z", false) := by decide +kernel
theorem tFX12_83 : TX12 83 = ("JinjaTongueModel", "hasRun", "Z", false) := by decide +kernel
theorem tFX12_84 : TX12 84 = ("JinjaTongueModel", "inputs", "[I", true) := by decide +kernel
theorem tFX12_85 : TX12 85 = ("JinjaTongueModel", "inputMany", "I", false) := by decide +kernel
theorem tFX12_86 : TX12 86 = ("JinjaTongueModel", "output", "[I", true) := by decide +kernel
theorem tFX12_87 : TX12 87 = ("JinjaTongueModel", "outputs", "I", false) := by decide +kernel
theorem tFX12_88 : TX12 88 = ("JinjaTongueModel", "nUp", "[I", true) := by decide +kernel
theorem tFX12_89 : TX12 89 = ("JinjaTongueModel", "fPlace", "[I", true) := by decide +kernel
theorem tFX12_90 : TX12 90 = ("JinjaTongueModel", "choiceOf", "[I", true) := by decide +kernel
theorem tFX12_91 : TX12 91 = ("JinjaTongueModel", "oClass", "[I", true) := by decide +kernel
theorem tFX12_92 : TX12 92 = ("JinjaTongueModel", "oSort", "[I", true) := by decide +kernel
theorem tFX12_93 : TX12 93 = ("JinjaTongueModel", "oMany", "[I", true) := by decide +kernel
theorem tFX12_94 : TX12 94 = ("JinjaTongueModel", "oAt", "[I", true) := by decide +kernel
theorem tFX12_95 : TX12 95 = ("JinjaTongueModel", "oSeen", "[Z", true) := by decide +kernel
theorem tFX12_96 : TX12 96 = ("JinjaTongueModel", "cells", "[I", true) := by decide +kernel
theorem tFX12_97 : TX12 97 = ("JinjaTongueModel", "cellTop", "I", false) := by decide +kernel
theorem tFX12_98 : TX12 98 = ("JinjaTongueModel", "filled", "I", false) := by decide +kernel
theorem tFX12_99 : TX12 99 = ("JinjaTongueModel", "room", "I", false) := by decide +kernel
theorem tFX12_100 : TX12 100 = ("JinjaTongueModel", "todo", "[I", true) := by decide +kernel
theorem tFX12_101 : TX12 101 = ("JinjaTongueModel", "todos", "I", false) := by decide +kernel
theorem tFX12_102 : TX12 102 = ("JinjaTongueModel", "open", "I", false) := by decide +kernel
theorem tFX12_103 : TX12 103 = ("JinjaTongueModel", "cThis", "[I", true) := by decide +kernel
theorem tFX12_104 : TX12 104 = ("JinjaTongueModel", "cScope", "[I", true) := by decide +kernel
theorem tFX12_105 : TX12 105 = ("JinjaTongueModel", "cValues", "[I", true) := by decide +kernel
theorem tFX12_106 : TX12 106 = ("JinjaTongueModel", "cNode", "[I", true) := by decide +kernel
theorem tFX12_107 : TX12 107 = ("JinjaTongueModel", "variable", "[I", true) := by decide +kernel
theorem tFX12_108 : TX12 108 = ("JinjaTongueModel", "variableRefers", "[Z", true) := by decide +kernel
theorem tFX12_109 : TX12 109 = ("JinjaTongueModel", "stack", "[I", true) := by decide +kernel
theorem tFX12_110 : TX12 110 = ("JinjaTongueModel", "refers", "[Z", true) := by decide +kernel
theorem tFX12_111 : TX12 111 = ("JinjaTongueModel", "top", "I", false) := by decide +kernel
theorem tFX12_112 : TX12 112 = ("JinjaTongueModel", "waitKind", "[I", true) := by decide +kernel
theorem tFX12_113 : TX12 113 = ("JinjaTongueModel", "waitValue", "[I", true) := by decide +kernel
theorem tFX12_114 : TX12 114 = ("JinjaTongueModel", "waitRefers", "[Z", true) := by decide +kernel
theorem tFX12_115 : TX12 115 = ("JinjaTongueModel", "waits", "I", false) := by decide +kernel
theorem tFX12_116 : TX12 116 = ("JinjaTongueModel", "ended", "I", false) := by decide +kernel
theorem tFX12_117 : TX12 117 = ("JinjaTongueModel", "fuel", "I", false) := by decide +kernel
theorem tFX12_118 : TX12 118 = ("JinjaTongueModel", "result", "I", false) := by decide +kernel
theorem tFX12_119 : TX12 119 = ("JinjaTongueModel", "uncaught", "I", false) := by decide +kernel
theorem tFX12_120 : TX12 120 = ("JinjaTongueModel", "readMany", "I", false) := by decide +kernel
theorem tFX12_121 : TX12 121 = ("JinjaTongueModel", "made", "I", false) := by decide +kernel
theorem tFX12_122 : TX12 122 = ("JinjaTongueModel", "madeCells", "I", false) := by decide +kernel
theorem tFX12_123 : TX12 123 = ("JinjaTongueModel", "calls", "I", false) := by decide +kernel
theorem tFX12_124 : TX12 124 = ("JinjaTongueModel", "mostOpen", "I", false) := by decide +kernel
theorem tFX12_125 : TX12 125 = ("JinjaTongueModel", "now", "I", false) := by decide +kernel
theorem tFX12_126 : TX12 126 = ("JinjaTongueModel", "isNew", "Z", false) := by decide +kernel
theorem tFX12_127 : TX12 127 = ("JinjaTongueModel", "order", "[I", true) := by decide +kernel
theorem tFX12_128 : TX12 128 = ("JinjaTongueModel", "orders", "I", false) := by decide +kernel
theorem tFX12_129 : TX12 129 = ("JinjaTongueModel", "idle", "[I", true) := by decide +kernel
theorem tFX12_130 : TX12 130 = ("JinjaTongueModel", "idles", "I", false) := by decide +kernel
theorem tFX12_131 : TX12 131 = ("JinjaTongueModel", "refFrom", "[I", true) := by decide +kernel
theorem tFX12_132 : TX12 132 = ("JinjaTongueModel", "refMany", "[I", true) := by decide +kernel
theorem tFX12_133 : TX12 133 = ("JinjaTongueModel", "refPlace", "[I", true) := by decide +kernel
