/-- the reference's fields -/
def mfs (a : Nat → Nat) (F : Nat → Int32) : List Value := [.int (F 0), .ref (a 0), .int (F 2), .ref (a 1), .int (F 4), .ref (a 2), .ref (a 3), .ref (a 4), .ref (a 5), .int (F 9), .ref (a 6), .ref (a 7), .ref (a 8), .int (F 13), .int (F 14), .int (F 15), .int (F 16), .ref (a 9), .ref (a 10), .ref (a 11), .ref (a 12), .ref (a 13), .ref (a 14), .ref (a 15), .ref (a 16), .ref (a 17), .ref (a 18), .int (F 27), .ref (a 19), .ref (a 20), .ref (a 21), .int (F 31), .ref (a 22), .ref (a 23), .int (F 34), .int (F 35), .ref (a 24), .ref (a 25), .ref (a 26), .ref (a 27), .ref (a 28), .ref (a 29), .ref (a 30), .ref (a 31), .int (F 44), .ref (a 32), .ref (a 33), .ref (a 34), .ref (a 35), .int (F 49), .ref (a 36), .ref (a 37), .ref (a 38), .ref (a 39), .ref (a 40), .ref (a 41), .ref (a 42), .ref (a 43), .ref (a 44), .int (F 59), .int (F 60), .ref (a 45), .ref (a 46), .ref (a 47), .int (F 64), .int (F 65), .int (F 66), .int (F 67), .int (F 68), .int (F 69), .int (F 70), .ref (a 48), .ref (a 49), .int (F 73), .int (F 74), .int (F 75), .int (F 76), .int (F 77), .int (F 78), .int (F 79), .int (F 80), .int (F 81), .int (F 82), .int (F 83), .ref (a 50), .int (F 85), .ref (a 51), .int (F 87), .ref (a 52), .ref (a 53), .ref (a 54), .ref (a 55), .ref (a 56), .ref (a 57), .ref (a 58), .ref (a 59), .ref (a 60), .int (F 97), .int (F 98), .int (F 99), .ref (a 61), .int (F 101), .int (F 102), .ref (a 62), .ref (a 63), .ref (a 64), .ref (a 65), .ref (a 66), .ref (a 67), .ref (a 68), .ref (a 69), .int (F 111), .ref (a 70), .ref (a 71), .ref (a 72), .int (F 115), .int (F 116), .int (F 117), .int (F 118), .int (F 119), .int (F 120), .int (F 121), .int (F 122), .int (F 123), .int (F 124), .int (F 125), .int (F 126), .ref (a 73), .int (F 128), .ref (a 74), .int (F 130), .ref (a 75), .ref (a 76), .ref (a 77)]
/-- its rows -/
def mar (G : pT) (a : Nat → Nat) (B : Nat → Nat → Int32) : va_W := [(a 0, .inl (G.2.1 0, 5000, .inl (B 0))), (a 1, .inl (G.2.1 0, 5000, .inl (B 1))), (a 2, .inl (G.2.1 0, 5001, .inl (B 2))), (a 3, .inl (G.2.1 0, 5001, .inl (B 3))), (a 4, .inl (G.2.1 0, 5001, .inl (B 4))), (a 5, .inl (G.2.1 0, 5001, .inl (B 5))), (a 6, .inl (G.2.1 0, 5100, .inl (B 6))), (a 7, .inl (G.2.1 0, 5100, .inl (B 7))), (a 8, .inl (G.2.1 1, 5100, .inl (B 8))), (a 9, .inl (G.2.1 0, 12000, .inl (B 9))), (a 10, .inl (G.2.1 0, 12000, .inl (B 10))), (a 11, .inl (G.2.1 0, 12000, .inl (B 11))), (a 12, .inl (G.2.1 0, 12000, .inl (B 12))), (a 13, .inl (G.2.1 0, 12000, .inl (B 13))), (a 14, .inl (G.2.1 0, 12000, .inl (B 14))), (a 15, .inl (G.2.1 0, 12000, .inl (B 15))), (a 16, .inl (G.2.1 0, 12000, .inl (B 16))), (a 17, .inl (G.2.1 0, 12000, .inl (B 17))), (a 18, .inl (G.2.1 0, 12000, .inl (B 18))), (a 19, .inl (G.2.1 0, 5000, .inl (B 19))), (a 20, .inl (G.2.1 3, 5000, .inl (B 20))), (a 21, .inl (G.2.1 0, 5000, .inl (B 21))), (a 22, .inl (G.2.1 0, 5000, .inl (B 22))), (a 23, .inl (G.2.1 0, 5000, .inl (B 23))), (a 24, .inl (G.2.1 0, 40, .inl (B 24))), (a 25, .inl (G.2.1 0, 40, .inl (B 25))), (a 26, .inl (G.2.1 3, 40, .inl (B 26))), (a 27, .inl (G.2.1 0, 40, .inl (B 27))), (a 28, .inl (G.2.1 0, 40, .inl (B 28))), (a 29, .inl (G.2.1 0, 40, .inl (B 29))), (a 30, .inl (G.2.1 0, 40, .inl (B 30))), (a 31, .inl (G.2.1 3, 1600, .inl (B 31))), (a 32, .inl (G.2.1 0, 620, .inl (B 32))), (a 33, .inl (G.2.1 0, 620, .inl (B 33))), (a 34, .inl (G.2.1 0, 620, .inl (B 34))), (a 35, .inl (G.2.1 0, 620, .inl (B 35))), (a 36, .inl (G.2.1 0, 920, .inl (B 36))), (a 37, .inl (G.2.1 0, 920, .inl (B 37))), (a 38, .inl (G.2.1 0, 920, .inl (B 38))), (a 39, .inl (G.2.1 0, 920, .inl (B 39))), (a 40, .inl (G.2.1 0, 920, .inl (B 40))), (a 41, .inl (G.2.1 0, 920, .inl (B 41))), (a 42, .inl (G.2.1 0, 920, .inl (B 42))), (a 43, .inl (G.2.1 0, 920, .inl (B 43))), (a 44, .inl (G.2.1 0, 920, .inl (B 44))), (a 45, .inl (G.2.1 0, 5000, .inl (B 45))), (a 46, .inl (G.2.1 0, 5000, .inl (B 46))), (a 47, .inl (G.2.1 0, 5000, .inl (B 47))), (a 48, .inl (G.2.1 0, 40, .inl (B 48))), (a 49, .inl (G.2.1 0, 40, .inl (B 49))), (a 50, .inl (G.2.1 0, 200, .inl (B 50))), (a 51, .inl (G.2.1 0, 400, .inl (B 51))), (a 52, .inl (G.2.1 0, 12000, .inl (B 52))), (a 53, .inl (G.2.1 0, 620, .inl (B 53))), (a 54, .inl (G.2.1 0, 204000, .inl (B 54))), (a 55, .inl (G.2.1 0, 3000, .inl (B 55))), (a 56, .inl (G.2.1 0, 3000, .inl (B 56))), (a 57, .inl (G.2.1 0, 3000, .inl (B 57))), (a 58, .inl (G.2.1 0, 3000, .inl (B 58))), (a 59, .inl (G.2.1 3, 3000, .inl (B 59))), (a 60, .inl (G.2.1 0, 3100, .inl (B 60))), (a 61, .inl (G.2.1 0, 3000, .inl (B 61))), (a 62, .inl (G.2.1 0, 100, .inl (B 62))), (a 63, .inl (G.2.1 0, 100, .inl (B 63))), (a 64, .inl (G.2.1 0, 100, .inl (B 64))), (a 65, .inl (G.2.1 0, 100, .inl (B 65))), (a 66, .inl (G.2.1 0, 3200, .inl (B 66))), (a 67, .inl (G.2.1 3, 3200, .inl (B 67))), (a 68, .inl (G.2.1 0, 40000, .inl (B 68))), (a 69, .inl (G.2.1 3, 40000, .inl (B 69))), (a 70, .inl (G.2.1 0, 2100, .inl (B 70))), (a 71, .inl (G.2.1 0, 2100, .inl (B 71))), (a 72, .inl (G.2.1 3, 2100, .inl (B 72))), (a 73, .inl (G.2.1 0, 3000, .inl (B 73))), (a 74, .inl (G.2.1 0, 3000, .inl (B 74))), (a 75, .inl (G.2.1 0, 40, .inl (B 75))), (a 76, .inl (G.2.1 0, 40, .inl (B 76))), (a 77, .inl (G.2.1 0, 23000, .inl (B 77)))]
def mW (G : pT) (h0 : Nat) (a : Nat → Nat) (F : Nat → Int32) (B : Nat → Nat → Int32) : va_W := (h0, .inr (9, mfs a F)) :: mar G a B
set_option maxRecDepth 100000 in
theorem mfs_len (a : Nat → Nat) (F : Nat → Int32) : (mfs a F).length = 134 := rfl
set_option maxRecDepth 100000 in
theorem ms_0 (a : Nat → Nat) (F : Nat → Int32) (v : Int32) : (mfs a F).set 0 (.int v) = mfs a (upd F 0 v) := rfl
set_option maxRecDepth 100000 in
theorem ms_2 (a : Nat → Nat) (F : Nat → Int32) (v : Int32) : (mfs a F).set 2 (.int v) = mfs a (upd F 2 v) := rfl
set_option maxRecDepth 100000 in
theorem ms_4 (a : Nat → Nat) (F : Nat → Int32) (v : Int32) : (mfs a F).set 4 (.int v) = mfs a (upd F 4 v) := rfl
set_option maxRecDepth 100000 in
theorem ms_9 (a : Nat → Nat) (F : Nat → Int32) (v : Int32) : (mfs a F).set 9 (.int v) = mfs a (upd F 9 v) := rfl
set_option maxRecDepth 100000 in
theorem ms_13 (a : Nat → Nat) (F : Nat → Int32) (v : Int32) : (mfs a F).set 13 (.int v) = mfs a (upd F 13 v) := rfl
set_option maxRecDepth 100000 in
theorem ms_14 (a : Nat → Nat) (F : Nat → Int32) (v : Int32) : (mfs a F).set 14 (.int v) = mfs a (upd F 14 v) := rfl
set_option maxRecDepth 100000 in
theorem ms_15 (a : Nat → Nat) (F : Nat → Int32) (v : Int32) : (mfs a F).set 15 (.int v) = mfs a (upd F 15 v) := rfl
set_option maxRecDepth 100000 in
theorem ms_16 (a : Nat → Nat) (F : Nat → Int32) (v : Int32) : (mfs a F).set 16 (.int v) = mfs a (upd F 16 v) := rfl
set_option maxRecDepth 100000 in
theorem ms_27 (a : Nat → Nat) (F : Nat → Int32) (v : Int32) : (mfs a F).set 27 (.int v) = mfs a (upd F 27 v) := rfl
set_option maxRecDepth 100000 in
theorem ms_31 (a : Nat → Nat) (F : Nat → Int32) (v : Int32) : (mfs a F).set 31 (.int v) = mfs a (upd F 31 v) := rfl
set_option maxRecDepth 100000 in
theorem ms_34 (a : Nat → Nat) (F : Nat → Int32) (v : Int32) : (mfs a F).set 34 (.int v) = mfs a (upd F 34 v) := rfl
set_option maxRecDepth 100000 in
theorem ms_35 (a : Nat → Nat) (F : Nat → Int32) (v : Int32) : (mfs a F).set 35 (.int v) = mfs a (upd F 35 v) := rfl
set_option maxRecDepth 100000 in
theorem ms_44 (a : Nat → Nat) (F : Nat → Int32) (v : Int32) : (mfs a F).set 44 (.int v) = mfs a (upd F 44 v) := rfl
set_option maxRecDepth 100000 in
theorem ms_49 (a : Nat → Nat) (F : Nat → Int32) (v : Int32) : (mfs a F).set 49 (.int v) = mfs a (upd F 49 v) := rfl
set_option maxRecDepth 100000 in
theorem ms_59 (a : Nat → Nat) (F : Nat → Int32) (v : Int32) : (mfs a F).set 59 (.int v) = mfs a (upd F 59 v) := rfl
set_option maxRecDepth 100000 in
theorem ms_60 (a : Nat → Nat) (F : Nat → Int32) (v : Int32) : (mfs a F).set 60 (.int v) = mfs a (upd F 60 v) := rfl
set_option maxRecDepth 100000 in
theorem ms_64 (a : Nat → Nat) (F : Nat → Int32) (v : Int32) : (mfs a F).set 64 (.int v) = mfs a (upd F 64 v) := rfl
set_option maxRecDepth 100000 in
theorem ms_65 (a : Nat → Nat) (F : Nat → Int32) (v : Int32) : (mfs a F).set 65 (.int v) = mfs a (upd F 65 v) := rfl
set_option maxRecDepth 100000 in
theorem ms_66 (a : Nat → Nat) (F : Nat → Int32) (v : Int32) : (mfs a F).set 66 (.int v) = mfs a (upd F 66 v) := rfl
set_option maxRecDepth 100000 in
theorem ms_67 (a : Nat → Nat) (F : Nat → Int32) (v : Int32) : (mfs a F).set 67 (.int v) = mfs a (upd F 67 v) := rfl
set_option maxRecDepth 100000 in
theorem ms_68 (a : Nat → Nat) (F : Nat → Int32) (v : Int32) : (mfs a F).set 68 (.int v) = mfs a (upd F 68 v) := rfl
set_option maxRecDepth 100000 in
theorem ms_69 (a : Nat → Nat) (F : Nat → Int32) (v : Int32) : (mfs a F).set 69 (.int v) = mfs a (upd F 69 v) := rfl
set_option maxRecDepth 100000 in
theorem ms_70 (a : Nat → Nat) (F : Nat → Int32) (v : Int32) : (mfs a F).set 70 (.int v) = mfs a (upd F 70 v) := rfl
set_option maxRecDepth 100000 in
theorem ms_73 (a : Nat → Nat) (F : Nat → Int32) (v : Int32) : (mfs a F).set 73 (.int v) = mfs a (upd F 73 v) := rfl
set_option maxRecDepth 100000 in
theorem ms_74 (a : Nat → Nat) (F : Nat → Int32) (v : Int32) : (mfs a F).set 74 (.int v) = mfs a (upd F 74 v) := rfl
set_option maxRecDepth 100000 in
theorem ms_75 (a : Nat → Nat) (F : Nat → Int32) (v : Int32) : (mfs a F).set 75 (.int v) = mfs a (upd F 75 v) := rfl
set_option maxRecDepth 100000 in
theorem ms_76 (a : Nat → Nat) (F : Nat → Int32) (v : Int32) : (mfs a F).set 76 (.int v) = mfs a (upd F 76 v) := rfl
set_option maxRecDepth 100000 in
theorem ms_77 (a : Nat → Nat) (F : Nat → Int32) (v : Int32) : (mfs a F).set 77 (.int v) = mfs a (upd F 77 v) := rfl
set_option maxRecDepth 100000 in
theorem ms_78 (a : Nat → Nat) (F : Nat → Int32) (v : Int32) : (mfs a F).set 78 (.int v) = mfs a (upd F 78 v) := rfl
set_option maxRecDepth 100000 in
theorem ms_79 (a : Nat → Nat) (F : Nat → Int32) (v : Int32) : (mfs a F).set 79 (.int v) = mfs a (upd F 79 v) := rfl
set_option maxRecDepth 100000 in
theorem ms_80 (a : Nat → Nat) (F : Nat → Int32) (v : Int32) : (mfs a F).set 80 (.int v) = mfs a (upd F 80 v) := rfl
set_option maxRecDepth 100000 in
theorem ms_81 (a : Nat → Nat) (F : Nat → Int32) (v : Int32) : (mfs a F).set 81 (.int v) = mfs a (upd F 81 v) := rfl
set_option maxRecDepth 100000 in
theorem ms_82 (a : Nat → Nat) (F : Nat → Int32) (v : Int32) : (mfs a F).set 82 (.int v) = mfs a (upd F 82 v) := rfl
set_option maxRecDepth 100000 in
theorem ms_83 (a : Nat → Nat) (F : Nat → Int32) (v : Int32) : (mfs a F).set 83 (.int v) = mfs a (upd F 83 v) := rfl
set_option maxRecDepth 100000 in
theorem ms_85 (a : Nat → Nat) (F : Nat → Int32) (v : Int32) : (mfs a F).set 85 (.int v) = mfs a (upd F 85 v) := rfl
set_option maxRecDepth 100000 in
theorem ms_87 (a : Nat → Nat) (F : Nat → Int32) (v : Int32) : (mfs a F).set 87 (.int v) = mfs a (upd F 87 v) := rfl
set_option maxRecDepth 100000 in
theorem ms_97 (a : Nat → Nat) (F : Nat → Int32) (v : Int32) : (mfs a F).set 97 (.int v) = mfs a (upd F 97 v) := rfl
set_option maxRecDepth 100000 in
theorem ms_98 (a : Nat → Nat) (F : Nat → Int32) (v : Int32) : (mfs a F).set 98 (.int v) = mfs a (upd F 98 v) := rfl
set_option maxRecDepth 100000 in
theorem ms_99 (a : Nat → Nat) (F : Nat → Int32) (v : Int32) : (mfs a F).set 99 (.int v) = mfs a (upd F 99 v) := rfl
set_option maxRecDepth 100000 in
theorem ms_101 (a : Nat → Nat) (F : Nat → Int32) (v : Int32) : (mfs a F).set 101 (.int v) = mfs a (upd F 101 v) := rfl
set_option maxRecDepth 100000 in
theorem ms_102 (a : Nat → Nat) (F : Nat → Int32) (v : Int32) : (mfs a F).set 102 (.int v) = mfs a (upd F 102 v) := rfl
set_option maxRecDepth 100000 in
theorem ms_111 (a : Nat → Nat) (F : Nat → Int32) (v : Int32) : (mfs a F).set 111 (.int v) = mfs a (upd F 111 v) := rfl
set_option maxRecDepth 100000 in
theorem ms_115 (a : Nat → Nat) (F : Nat → Int32) (v : Int32) : (mfs a F).set 115 (.int v) = mfs a (upd F 115 v) := rfl
set_option maxRecDepth 100000 in
theorem ms_116 (a : Nat → Nat) (F : Nat → Int32) (v : Int32) : (mfs a F).set 116 (.int v) = mfs a (upd F 116 v) := rfl
set_option maxRecDepth 100000 in
theorem ms_117 (a : Nat → Nat) (F : Nat → Int32) (v : Int32) : (mfs a F).set 117 (.int v) = mfs a (upd F 117 v) := rfl
set_option maxRecDepth 100000 in
theorem ms_118 (a : Nat → Nat) (F : Nat → Int32) (v : Int32) : (mfs a F).set 118 (.int v) = mfs a (upd F 118 v) := rfl
set_option maxRecDepth 100000 in
theorem ms_119 (a : Nat → Nat) (F : Nat → Int32) (v : Int32) : (mfs a F).set 119 (.int v) = mfs a (upd F 119 v) := rfl
set_option maxRecDepth 100000 in
theorem ms_120 (a : Nat → Nat) (F : Nat → Int32) (v : Int32) : (mfs a F).set 120 (.int v) = mfs a (upd F 120 v) := rfl
set_option maxRecDepth 100000 in
theorem ms_121 (a : Nat → Nat) (F : Nat → Int32) (v : Int32) : (mfs a F).set 121 (.int v) = mfs a (upd F 121 v) := rfl
set_option maxRecDepth 100000 in
theorem ms_122 (a : Nat → Nat) (F : Nat → Int32) (v : Int32) : (mfs a F).set 122 (.int v) = mfs a (upd F 122 v) := rfl
set_option maxRecDepth 100000 in
theorem ms_123 (a : Nat → Nat) (F : Nat → Int32) (v : Int32) : (mfs a F).set 123 (.int v) = mfs a (upd F 123 v) := rfl
set_option maxRecDepth 100000 in
theorem ms_124 (a : Nat → Nat) (F : Nat → Int32) (v : Int32) : (mfs a F).set 124 (.int v) = mfs a (upd F 124 v) := rfl
set_option maxRecDepth 100000 in
theorem ms_125 (a : Nat → Nat) (F : Nat → Int32) (v : Int32) : (mfs a F).set 125 (.int v) = mfs a (upd F 125 v) := rfl
set_option maxRecDepth 100000 in
theorem ms_126 (a : Nat → Nat) (F : Nat → Int32) (v : Int32) : (mfs a F).set 126 (.int v) = mfs a (upd F 126 v) := rfl
set_option maxRecDepth 100000 in
theorem ms_128 (a : Nat → Nat) (F : Nat → Int32) (v : Int32) : (mfs a F).set 128 (.int v) = mfs a (upd F 128 v) := rfl
set_option maxRecDepth 100000 in
theorem ms_130 (a : Nat → Nat) (F : Nat → Int32) (v : Int32) : (mfs a F).set 130 (.int v) = mfs a (upd F 130 v) := rfl
theorem ma_0 (G : pT) (a : Nat → Nat) (B : Nat → Nat → Int32) : (mar G a B)[0]? = some (a 0, .inl (G.2.1 0, 5000, .inl (B 0))) := rfl
theorem mas_0 (G : pT) (a : Nat → Nat) (B : Nat → Nat → Int32) (f : Nat → Int32) : (mar G a B).set 0 (a 0, .inl (G.2.1 0, 5000, .inl f)) = mar G a (updA B 0 f) := rfl
theorem ma_1 (G : pT) (a : Nat → Nat) (B : Nat → Nat → Int32) : (mar G a B)[1]? = some (a 1, .inl (G.2.1 0, 5000, .inl (B 1))) := rfl
theorem mas_1 (G : pT) (a : Nat → Nat) (B : Nat → Nat → Int32) (f : Nat → Int32) : (mar G a B).set 1 (a 1, .inl (G.2.1 0, 5000, .inl f)) = mar G a (updA B 1 f) := rfl
theorem ma_2 (G : pT) (a : Nat → Nat) (B : Nat → Nat → Int32) : (mar G a B)[2]? = some (a 2, .inl (G.2.1 0, 5001, .inl (B 2))) := rfl
theorem mas_2 (G : pT) (a : Nat → Nat) (B : Nat → Nat → Int32) (f : Nat → Int32) : (mar G a B).set 2 (a 2, .inl (G.2.1 0, 5001, .inl f)) = mar G a (updA B 2 f) := rfl
theorem ma_3 (G : pT) (a : Nat → Nat) (B : Nat → Nat → Int32) : (mar G a B)[3]? = some (a 3, .inl (G.2.1 0, 5001, .inl (B 3))) := rfl
theorem mas_3 (G : pT) (a : Nat → Nat) (B : Nat → Nat → Int32) (f : Nat → Int32) : (mar G a B).set 3 (a 3, .inl (G.2.1 0, 5001, .inl f)) = mar G a (updA B 3 f) := rfl
theorem ma_4 (G : pT) (a : Nat → Nat) (B : Nat → Nat → Int32) : (mar G a B)[4]? = some (a 4, .inl (G.2.1 0, 5001, .inl (B 4))) := rfl
theorem mas_4 (G : pT) (a : Nat → Nat) (B : Nat → Nat → Int32) (f : Nat → Int32) : (mar G a B).set 4 (a 4, .inl (G.2.1 0, 5001, .inl f)) = mar G a (updA B 4 f) := rfl
theorem ma_5 (G : pT) (a : Nat → Nat) (B : Nat → Nat → Int32) : (mar G a B)[5]? = some (a 5, .inl (G.2.1 0, 5001, .inl (B 5))) := rfl
theorem mas_5 (G : pT) (a : Nat → Nat) (B : Nat → Nat → Int32) (f : Nat → Int32) : (mar G a B).set 5 (a 5, .inl (G.2.1 0, 5001, .inl f)) = mar G a (updA B 5 f) := rfl
theorem ma_6 (G : pT) (a : Nat → Nat) (B : Nat → Nat → Int32) : (mar G a B)[6]? = some (a 6, .inl (G.2.1 0, 5100, .inl (B 6))) := rfl
theorem mas_6 (G : pT) (a : Nat → Nat) (B : Nat → Nat → Int32) (f : Nat → Int32) : (mar G a B).set 6 (a 6, .inl (G.2.1 0, 5100, .inl f)) = mar G a (updA B 6 f) := rfl
theorem ma_7 (G : pT) (a : Nat → Nat) (B : Nat → Nat → Int32) : (mar G a B)[7]? = some (a 7, .inl (G.2.1 0, 5100, .inl (B 7))) := rfl
theorem mas_7 (G : pT) (a : Nat → Nat) (B : Nat → Nat → Int32) (f : Nat → Int32) : (mar G a B).set 7 (a 7, .inl (G.2.1 0, 5100, .inl f)) = mar G a (updA B 7 f) := rfl
theorem ma_8 (G : pT) (a : Nat → Nat) (B : Nat → Nat → Int32) : (mar G a B)[8]? = some (a 8, .inl (G.2.1 1, 5100, .inl (B 8))) := rfl
theorem mas_8 (G : pT) (a : Nat → Nat) (B : Nat → Nat → Int32) (f : Nat → Int32) : (mar G a B).set 8 (a 8, .inl (G.2.1 1, 5100, .inl f)) = mar G a (updA B 8 f) := rfl
theorem ma_9 (G : pT) (a : Nat → Nat) (B : Nat → Nat → Int32) : (mar G a B)[9]? = some (a 9, .inl (G.2.1 0, 12000, .inl (B 9))) := rfl
theorem mas_9 (G : pT) (a : Nat → Nat) (B : Nat → Nat → Int32) (f : Nat → Int32) : (mar G a B).set 9 (a 9, .inl (G.2.1 0, 12000, .inl f)) = mar G a (updA B 9 f) := rfl
theorem ma_10 (G : pT) (a : Nat → Nat) (B : Nat → Nat → Int32) : (mar G a B)[10]? = some (a 10, .inl (G.2.1 0, 12000, .inl (B 10))) := rfl
theorem mas_10 (G : pT) (a : Nat → Nat) (B : Nat → Nat → Int32) (f : Nat → Int32) : (mar G a B).set 10 (a 10, .inl (G.2.1 0, 12000, .inl f)) = mar G a (updA B 10 f) := rfl
theorem ma_11 (G : pT) (a : Nat → Nat) (B : Nat → Nat → Int32) : (mar G a B)[11]? = some (a 11, .inl (G.2.1 0, 12000, .inl (B 11))) := rfl
theorem mas_11 (G : pT) (a : Nat → Nat) (B : Nat → Nat → Int32) (f : Nat → Int32) : (mar G a B).set 11 (a 11, .inl (G.2.1 0, 12000, .inl f)) = mar G a (updA B 11 f) := rfl
theorem ma_12 (G : pT) (a : Nat → Nat) (B : Nat → Nat → Int32) : (mar G a B)[12]? = some (a 12, .inl (G.2.1 0, 12000, .inl (B 12))) := rfl
theorem mas_12 (G : pT) (a : Nat → Nat) (B : Nat → Nat → Int32) (f : Nat → Int32) : (mar G a B).set 12 (a 12, .inl (G.2.1 0, 12000, .inl f)) = mar G a (updA B 12 f) := rfl
theorem ma_13 (G : pT) (a : Nat → Nat) (B : Nat → Nat → Int32) : (mar G a B)[13]? = some (a 13, .inl (G.2.1 0, 12000, .inl (B 13))) := rfl
theorem mas_13 (G : pT) (a : Nat → Nat) (B : Nat → Nat → Int32) (f : Nat → Int32) : (mar G a B).set 13 (a 13, .inl (G.2.1 0, 12000, .inl f)) = mar G a (updA B 13 f) := rfl
theorem ma_14 (G : pT) (a : Nat → Nat) (B : Nat → Nat → Int32) : (mar G a B)[14]? = some (a 14, .inl (G.2.1 0, 12000, .inl (B 14))) := rfl
theorem mas_14 (G : pT) (a : Nat → Nat) (B : Nat → Nat → Int32) (f : Nat → Int32) : (mar G a B).set 14 (a 14, .inl (G.2.1 0, 12000, .inl f)) = mar G a (updA B 14 f) := rfl
theorem ma_15 (G : pT) (a : Nat → Nat) (B : Nat → Nat → Int32) : (mar G a B)[15]? = some (a 15, .inl (G.2.1 0, 12000, .inl (B 15))) := rfl
theorem mas_15 (G : pT) (a : Nat → Nat) (B : Nat → Nat → Int32) (f : Nat → Int32) : (mar G a B).set 15 (a 15, .inl (G.2.1 0, 12000, .inl f)) = mar G a (updA B 15 f) := rfl
theorem ma_16 (G : pT) (a : Nat → Nat) (B : Nat → Nat → Int32) : (mar G a B)[16]? = some (a 16, .inl (G.2.1 0, 12000, .inl (B 16))) := rfl
theorem mas_16 (G : pT) (a : Nat → Nat) (B : Nat → Nat → Int32) (f : Nat → Int32) : (mar G a B).set 16 (a 16, .inl (G.2.1 0, 12000, .inl f)) = mar G a (updA B 16 f) := rfl
theorem ma_17 (G : pT) (a : Nat → Nat) (B : Nat → Nat → Int32) : (mar G a B)[17]? = some (a 17, .inl (G.2.1 0, 12000, .inl (B 17))) := rfl
theorem mas_17 (G : pT) (a : Nat → Nat) (B : Nat → Nat → Int32) (f : Nat → Int32) : (mar G a B).set 17 (a 17, .inl (G.2.1 0, 12000, .inl f)) = mar G a (updA B 17 f) := rfl
theorem ma_18 (G : pT) (a : Nat → Nat) (B : Nat → Nat → Int32) : (mar G a B)[18]? = some (a 18, .inl (G.2.1 0, 12000, .inl (B 18))) := rfl
theorem mas_18 (G : pT) (a : Nat → Nat) (B : Nat → Nat → Int32) (f : Nat → Int32) : (mar G a B).set 18 (a 18, .inl (G.2.1 0, 12000, .inl f)) = mar G a (updA B 18 f) := rfl
theorem ma_19 (G : pT) (a : Nat → Nat) (B : Nat → Nat → Int32) : (mar G a B)[19]? = some (a 19, .inl (G.2.1 0, 5000, .inl (B 19))) := rfl
theorem mas_19 (G : pT) (a : Nat → Nat) (B : Nat → Nat → Int32) (f : Nat → Int32) : (mar G a B).set 19 (a 19, .inl (G.2.1 0, 5000, .inl f)) = mar G a (updA B 19 f) := rfl
theorem ma_20 (G : pT) (a : Nat → Nat) (B : Nat → Nat → Int32) : (mar G a B)[20]? = some (a 20, .inl (G.2.1 3, 5000, .inl (B 20))) := rfl
theorem mas_20 (G : pT) (a : Nat → Nat) (B : Nat → Nat → Int32) (f : Nat → Int32) : (mar G a B).set 20 (a 20, .inl (G.2.1 3, 5000, .inl f)) = mar G a (updA B 20 f) := rfl
theorem ma_21 (G : pT) (a : Nat → Nat) (B : Nat → Nat → Int32) : (mar G a B)[21]? = some (a 21, .inl (G.2.1 0, 5000, .inl (B 21))) := rfl
theorem mas_21 (G : pT) (a : Nat → Nat) (B : Nat → Nat → Int32) (f : Nat → Int32) : (mar G a B).set 21 (a 21, .inl (G.2.1 0, 5000, .inl f)) = mar G a (updA B 21 f) := rfl
theorem ma_22 (G : pT) (a : Nat → Nat) (B : Nat → Nat → Int32) : (mar G a B)[22]? = some (a 22, .inl (G.2.1 0, 5000, .inl (B 22))) := rfl
theorem mas_22 (G : pT) (a : Nat → Nat) (B : Nat → Nat → Int32) (f : Nat → Int32) : (mar G a B).set 22 (a 22, .inl (G.2.1 0, 5000, .inl f)) = mar G a (updA B 22 f) := rfl
theorem ma_23 (G : pT) (a : Nat → Nat) (B : Nat → Nat → Int32) : (mar G a B)[23]? = some (a 23, .inl (G.2.1 0, 5000, .inl (B 23))) := rfl
theorem mas_23 (G : pT) (a : Nat → Nat) (B : Nat → Nat → Int32) (f : Nat → Int32) : (mar G a B).set 23 (a 23, .inl (G.2.1 0, 5000, .inl f)) = mar G a (updA B 23 f) := rfl
theorem ma_24 (G : pT) (a : Nat → Nat) (B : Nat → Nat → Int32) : (mar G a B)[24]? = some (a 24, .inl (G.2.1 0, 40, .inl (B 24))) := rfl
theorem mas_24 (G : pT) (a : Nat → Nat) (B : Nat → Nat → Int32) (f : Nat → Int32) : (mar G a B).set 24 (a 24, .inl (G.2.1 0, 40, .inl f)) = mar G a (updA B 24 f) := rfl
theorem ma_25 (G : pT) (a : Nat → Nat) (B : Nat → Nat → Int32) : (mar G a B)[25]? = some (a 25, .inl (G.2.1 0, 40, .inl (B 25))) := rfl
theorem mas_25 (G : pT) (a : Nat → Nat) (B : Nat → Nat → Int32) (f : Nat → Int32) : (mar G a B).set 25 (a 25, .inl (G.2.1 0, 40, .inl f)) = mar G a (updA B 25 f) := rfl
theorem ma_26 (G : pT) (a : Nat → Nat) (B : Nat → Nat → Int32) : (mar G a B)[26]? = some (a 26, .inl (G.2.1 3, 40, .inl (B 26))) := rfl
theorem mas_26 (G : pT) (a : Nat → Nat) (B : Nat → Nat → Int32) (f : Nat → Int32) : (mar G a B).set 26 (a 26, .inl (G.2.1 3, 40, .inl f)) = mar G a (updA B 26 f) := rfl
theorem ma_27 (G : pT) (a : Nat → Nat) (B : Nat → Nat → Int32) : (mar G a B)[27]? = some (a 27, .inl (G.2.1 0, 40, .inl (B 27))) := rfl
theorem mas_27 (G : pT) (a : Nat → Nat) (B : Nat → Nat → Int32) (f : Nat → Int32) : (mar G a B).set 27 (a 27, .inl (G.2.1 0, 40, .inl f)) = mar G a (updA B 27 f) := rfl
theorem ma_28 (G : pT) (a : Nat → Nat) (B : Nat → Nat → Int32) : (mar G a B)[28]? = some (a 28, .inl (G.2.1 0, 40, .inl (B 28))) := rfl
theorem mas_28 (G : pT) (a : Nat → Nat) (B : Nat → Nat → Int32) (f : Nat → Int32) : (mar G a B).set 28 (a 28, .inl (G.2.1 0, 40, .inl f)) = mar G a (updA B 28 f) := rfl
theorem ma_29 (G : pT) (a : Nat → Nat) (B : Nat → Nat → Int32) : (mar G a B)[29]? = some (a 29, .inl (G.2.1 0, 40, .inl (B 29))) := rfl
theorem mas_29 (G : pT) (a : Nat → Nat) (B : Nat → Nat → Int32) (f : Nat → Int32) : (mar G a B).set 29 (a 29, .inl (G.2.1 0, 40, .inl f)) = mar G a (updA B 29 f) := rfl
theorem ma_30 (G : pT) (a : Nat → Nat) (B : Nat → Nat → Int32) : (mar G a B)[30]? = some (a 30, .inl (G.2.1 0, 40, .inl (B 30))) := rfl
theorem mas_30 (G : pT) (a : Nat → Nat) (B : Nat → Nat → Int32) (f : Nat → Int32) : (mar G a B).set 30 (a 30, .inl (G.2.1 0, 40, .inl f)) = mar G a (updA B 30 f) := rfl
theorem ma_31 (G : pT) (a : Nat → Nat) (B : Nat → Nat → Int32) : (mar G a B)[31]? = some (a 31, .inl (G.2.1 3, 1600, .inl (B 31))) := rfl
theorem mas_31 (G : pT) (a : Nat → Nat) (B : Nat → Nat → Int32) (f : Nat → Int32) : (mar G a B).set 31 (a 31, .inl (G.2.1 3, 1600, .inl f)) = mar G a (updA B 31 f) := rfl
theorem ma_32 (G : pT) (a : Nat → Nat) (B : Nat → Nat → Int32) : (mar G a B)[32]? = some (a 32, .inl (G.2.1 0, 620, .inl (B 32))) := rfl
theorem mas_32 (G : pT) (a : Nat → Nat) (B : Nat → Nat → Int32) (f : Nat → Int32) : (mar G a B).set 32 (a 32, .inl (G.2.1 0, 620, .inl f)) = mar G a (updA B 32 f) := rfl
theorem ma_33 (G : pT) (a : Nat → Nat) (B : Nat → Nat → Int32) : (mar G a B)[33]? = some (a 33, .inl (G.2.1 0, 620, .inl (B 33))) := rfl
theorem mas_33 (G : pT) (a : Nat → Nat) (B : Nat → Nat → Int32) (f : Nat → Int32) : (mar G a B).set 33 (a 33, .inl (G.2.1 0, 620, .inl f)) = mar G a (updA B 33 f) := rfl
theorem ma_34 (G : pT) (a : Nat → Nat) (B : Nat → Nat → Int32) : (mar G a B)[34]? = some (a 34, .inl (G.2.1 0, 620, .inl (B 34))) := rfl
theorem mas_34 (G : pT) (a : Nat → Nat) (B : Nat → Nat → Int32) (f : Nat → Int32) : (mar G a B).set 34 (a 34, .inl (G.2.1 0, 620, .inl f)) = mar G a (updA B 34 f) := rfl
theorem ma_35 (G : pT) (a : Nat → Nat) (B : Nat → Nat → Int32) : (mar G a B)[35]? = some (a 35, .inl (G.2.1 0, 620, .inl (B 35))) := rfl
theorem mas_35 (G : pT) (a : Nat → Nat) (B : Nat → Nat → Int32) (f : Nat → Int32) : (mar G a B).set 35 (a 35, .inl (G.2.1 0, 620, .inl f)) = mar G a (updA B 35 f) := rfl
theorem ma_36 (G : pT) (a : Nat → Nat) (B : Nat → Nat → Int32) : (mar G a B)[36]? = some (a 36, .inl (G.2.1 0, 920, .inl (B 36))) := rfl
theorem mas_36 (G : pT) (a : Nat → Nat) (B : Nat → Nat → Int32) (f : Nat → Int32) : (mar G a B).set 36 (a 36, .inl (G.2.1 0, 920, .inl f)) = mar G a (updA B 36 f) := rfl
theorem ma_37 (G : pT) (a : Nat → Nat) (B : Nat → Nat → Int32) : (mar G a B)[37]? = some (a 37, .inl (G.2.1 0, 920, .inl (B 37))) := rfl
theorem mas_37 (G : pT) (a : Nat → Nat) (B : Nat → Nat → Int32) (f : Nat → Int32) : (mar G a B).set 37 (a 37, .inl (G.2.1 0, 920, .inl f)) = mar G a (updA B 37 f) := rfl
theorem ma_38 (G : pT) (a : Nat → Nat) (B : Nat → Nat → Int32) : (mar G a B)[38]? = some (a 38, .inl (G.2.1 0, 920, .inl (B 38))) := rfl
theorem mas_38 (G : pT) (a : Nat → Nat) (B : Nat → Nat → Int32) (f : Nat → Int32) : (mar G a B).set 38 (a 38, .inl (G.2.1 0, 920, .inl f)) = mar G a (updA B 38 f) := rfl
theorem ma_39 (G : pT) (a : Nat → Nat) (B : Nat → Nat → Int32) : (mar G a B)[39]? = some (a 39, .inl (G.2.1 0, 920, .inl (B 39))) := rfl
theorem mas_39 (G : pT) (a : Nat → Nat) (B : Nat → Nat → Int32) (f : Nat → Int32) : (mar G a B).set 39 (a 39, .inl (G.2.1 0, 920, .inl f)) = mar G a (updA B 39 f) := rfl
theorem ma_40 (G : pT) (a : Nat → Nat) (B : Nat → Nat → Int32) : (mar G a B)[40]? = some (a 40, .inl (G.2.1 0, 920, .inl (B 40))) := rfl
theorem mas_40 (G : pT) (a : Nat → Nat) (B : Nat → Nat → Int32) (f : Nat → Int32) : (mar G a B).set 40 (a 40, .inl (G.2.1 0, 920, .inl f)) = mar G a (updA B 40 f) := rfl
theorem ma_41 (G : pT) (a : Nat → Nat) (B : Nat → Nat → Int32) : (mar G a B)[41]? = some (a 41, .inl (G.2.1 0, 920, .inl (B 41))) := rfl
theorem mas_41 (G : pT) (a : Nat → Nat) (B : Nat → Nat → Int32) (f : Nat → Int32) : (mar G a B).set 41 (a 41, .inl (G.2.1 0, 920, .inl f)) = mar G a (updA B 41 f) := rfl
theorem ma_42 (G : pT) (a : Nat → Nat) (B : Nat → Nat → Int32) : (mar G a B)[42]? = some (a 42, .inl (G.2.1 0, 920, .inl (B 42))) := rfl
theorem mas_42 (G : pT) (a : Nat → Nat) (B : Nat → Nat → Int32) (f : Nat → Int32) : (mar G a B).set 42 (a 42, .inl (G.2.1 0, 920, .inl f)) = mar G a (updA B 42 f) := rfl
theorem ma_43 (G : pT) (a : Nat → Nat) (B : Nat → Nat → Int32) : (mar G a B)[43]? = some (a 43, .inl (G.2.1 0, 920, .inl (B 43))) := rfl
theorem mas_43 (G : pT) (a : Nat → Nat) (B : Nat → Nat → Int32) (f : Nat → Int32) : (mar G a B).set 43 (a 43, .inl (G.2.1 0, 920, .inl f)) = mar G a (updA B 43 f) := rfl
theorem ma_44 (G : pT) (a : Nat → Nat) (B : Nat → Nat → Int32) : (mar G a B)[44]? = some (a 44, .inl (G.2.1 0, 920, .inl (B 44))) := rfl
theorem mas_44 (G : pT) (a : Nat → Nat) (B : Nat → Nat → Int32) (f : Nat → Int32) : (mar G a B).set 44 (a 44, .inl (G.2.1 0, 920, .inl f)) = mar G a (updA B 44 f) := rfl
theorem ma_45 (G : pT) (a : Nat → Nat) (B : Nat → Nat → Int32) : (mar G a B)[45]? = some (a 45, .inl (G.2.1 0, 5000, .inl (B 45))) := rfl
theorem mas_45 (G : pT) (a : Nat → Nat) (B : Nat → Nat → Int32) (f : Nat → Int32) : (mar G a B).set 45 (a 45, .inl (G.2.1 0, 5000, .inl f)) = mar G a (updA B 45 f) := rfl
theorem ma_46 (G : pT) (a : Nat → Nat) (B : Nat → Nat → Int32) : (mar G a B)[46]? = some (a 46, .inl (G.2.1 0, 5000, .inl (B 46))) := rfl
theorem mas_46 (G : pT) (a : Nat → Nat) (B : Nat → Nat → Int32) (f : Nat → Int32) : (mar G a B).set 46 (a 46, .inl (G.2.1 0, 5000, .inl f)) = mar G a (updA B 46 f) := rfl
theorem ma_47 (G : pT) (a : Nat → Nat) (B : Nat → Nat → Int32) : (mar G a B)[47]? = some (a 47, .inl (G.2.1 0, 5000, .inl (B 47))) := rfl
theorem mas_47 (G : pT) (a : Nat → Nat) (B : Nat → Nat → Int32) (f : Nat → Int32) : (mar G a B).set 47 (a 47, .inl (G.2.1 0, 5000, .inl f)) = mar G a (updA B 47 f) := rfl
theorem ma_48 (G : pT) (a : Nat → Nat) (B : Nat → Nat → Int32) : (mar G a B)[48]? = some (a 48, .inl (G.2.1 0, 40, .inl (B 48))) := rfl
theorem mas_48 (G : pT) (a : Nat → Nat) (B : Nat → Nat → Int32) (f : Nat → Int32) : (mar G a B).set 48 (a 48, .inl (G.2.1 0, 40, .inl f)) = mar G a (updA B 48 f) := rfl
theorem ma_49 (G : pT) (a : Nat → Nat) (B : Nat → Nat → Int32) : (mar G a B)[49]? = some (a 49, .inl (G.2.1 0, 40, .inl (B 49))) := rfl
theorem mas_49 (G : pT) (a : Nat → Nat) (B : Nat → Nat → Int32) (f : Nat → Int32) : (mar G a B).set 49 (a 49, .inl (G.2.1 0, 40, .inl f)) = mar G a (updA B 49 f) := rfl
theorem ma_50 (G : pT) (a : Nat → Nat) (B : Nat → Nat → Int32) : (mar G a B)[50]? = some (a 50, .inl (G.2.1 0, 200, .inl (B 50))) := rfl
theorem mas_50 (G : pT) (a : Nat → Nat) (B : Nat → Nat → Int32) (f : Nat → Int32) : (mar G a B).set 50 (a 50, .inl (G.2.1 0, 200, .inl f)) = mar G a (updA B 50 f) := rfl
theorem ma_51 (G : pT) (a : Nat → Nat) (B : Nat → Nat → Int32) : (mar G a B)[51]? = some (a 51, .inl (G.2.1 0, 400, .inl (B 51))) := rfl
theorem mas_51 (G : pT) (a : Nat → Nat) (B : Nat → Nat → Int32) (f : Nat → Int32) : (mar G a B).set 51 (a 51, .inl (G.2.1 0, 400, .inl f)) = mar G a (updA B 51 f) := rfl
theorem ma_52 (G : pT) (a : Nat → Nat) (B : Nat → Nat → Int32) : (mar G a B)[52]? = some (a 52, .inl (G.2.1 0, 12000, .inl (B 52))) := rfl
theorem mas_52 (G : pT) (a : Nat → Nat) (B : Nat → Nat → Int32) (f : Nat → Int32) : (mar G a B).set 52 (a 52, .inl (G.2.1 0, 12000, .inl f)) = mar G a (updA B 52 f) := rfl
theorem ma_53 (G : pT) (a : Nat → Nat) (B : Nat → Nat → Int32) : (mar G a B)[53]? = some (a 53, .inl (G.2.1 0, 620, .inl (B 53))) := rfl
theorem mas_53 (G : pT) (a : Nat → Nat) (B : Nat → Nat → Int32) (f : Nat → Int32) : (mar G a B).set 53 (a 53, .inl (G.2.1 0, 620, .inl f)) = mar G a (updA B 53 f) := rfl
theorem ma_54 (G : pT) (a : Nat → Nat) (B : Nat → Nat → Int32) : (mar G a B)[54]? = some (a 54, .inl (G.2.1 0, 204000, .inl (B 54))) := rfl
theorem mas_54 (G : pT) (a : Nat → Nat) (B : Nat → Nat → Int32) (f : Nat → Int32) : (mar G a B).set 54 (a 54, .inl (G.2.1 0, 204000, .inl f)) = mar G a (updA B 54 f) := rfl
theorem ma_55 (G : pT) (a : Nat → Nat) (B : Nat → Nat → Int32) : (mar G a B)[55]? = some (a 55, .inl (G.2.1 0, 3000, .inl (B 55))) := rfl
theorem mas_55 (G : pT) (a : Nat → Nat) (B : Nat → Nat → Int32) (f : Nat → Int32) : (mar G a B).set 55 (a 55, .inl (G.2.1 0, 3000, .inl f)) = mar G a (updA B 55 f) := rfl
theorem ma_56 (G : pT) (a : Nat → Nat) (B : Nat → Nat → Int32) : (mar G a B)[56]? = some (a 56, .inl (G.2.1 0, 3000, .inl (B 56))) := rfl
theorem mas_56 (G : pT) (a : Nat → Nat) (B : Nat → Nat → Int32) (f : Nat → Int32) : (mar G a B).set 56 (a 56, .inl (G.2.1 0, 3000, .inl f)) = mar G a (updA B 56 f) := rfl
theorem ma_57 (G : pT) (a : Nat → Nat) (B : Nat → Nat → Int32) : (mar G a B)[57]? = some (a 57, .inl (G.2.1 0, 3000, .inl (B 57))) := rfl
theorem mas_57 (G : pT) (a : Nat → Nat) (B : Nat → Nat → Int32) (f : Nat → Int32) : (mar G a B).set 57 (a 57, .inl (G.2.1 0, 3000, .inl f)) = mar G a (updA B 57 f) := rfl
theorem ma_58 (G : pT) (a : Nat → Nat) (B : Nat → Nat → Int32) : (mar G a B)[58]? = some (a 58, .inl (G.2.1 0, 3000, .inl (B 58))) := rfl
theorem mas_58 (G : pT) (a : Nat → Nat) (B : Nat → Nat → Int32) (f : Nat → Int32) : (mar G a B).set 58 (a 58, .inl (G.2.1 0, 3000, .inl f)) = mar G a (updA B 58 f) := rfl
theorem ma_59 (G : pT) (a : Nat → Nat) (B : Nat → Nat → Int32) : (mar G a B)[59]? = some (a 59, .inl (G.2.1 3, 3000, .inl (B 59))) := rfl
theorem mas_59 (G : pT) (a : Nat → Nat) (B : Nat → Nat → Int32) (f : Nat → Int32) : (mar G a B).set 59 (a 59, .inl (G.2.1 3, 3000, .inl f)) = mar G a (updA B 59 f) := rfl
theorem ma_60 (G : pT) (a : Nat → Nat) (B : Nat → Nat → Int32) : (mar G a B)[60]? = some (a 60, .inl (G.2.1 0, 3100, .inl (B 60))) := rfl
theorem mas_60 (G : pT) (a : Nat → Nat) (B : Nat → Nat → Int32) (f : Nat → Int32) : (mar G a B).set 60 (a 60, .inl (G.2.1 0, 3100, .inl f)) = mar G a (updA B 60 f) := rfl
theorem ma_61 (G : pT) (a : Nat → Nat) (B : Nat → Nat → Int32) : (mar G a B)[61]? = some (a 61, .inl (G.2.1 0, 3000, .inl (B 61))) := rfl
theorem mas_61 (G : pT) (a : Nat → Nat) (B : Nat → Nat → Int32) (f : Nat → Int32) : (mar G a B).set 61 (a 61, .inl (G.2.1 0, 3000, .inl f)) = mar G a (updA B 61 f) := rfl
theorem ma_62 (G : pT) (a : Nat → Nat) (B : Nat → Nat → Int32) : (mar G a B)[62]? = some (a 62, .inl (G.2.1 0, 100, .inl (B 62))) := rfl
theorem mas_62 (G : pT) (a : Nat → Nat) (B : Nat → Nat → Int32) (f : Nat → Int32) : (mar G a B).set 62 (a 62, .inl (G.2.1 0, 100, .inl f)) = mar G a (updA B 62 f) := rfl
theorem ma_63 (G : pT) (a : Nat → Nat) (B : Nat → Nat → Int32) : (mar G a B)[63]? = some (a 63, .inl (G.2.1 0, 100, .inl (B 63))) := rfl
theorem mas_63 (G : pT) (a : Nat → Nat) (B : Nat → Nat → Int32) (f : Nat → Int32) : (mar G a B).set 63 (a 63, .inl (G.2.1 0, 100, .inl f)) = mar G a (updA B 63 f) := rfl
theorem ma_64 (G : pT) (a : Nat → Nat) (B : Nat → Nat → Int32) : (mar G a B)[64]? = some (a 64, .inl (G.2.1 0, 100, .inl (B 64))) := rfl
theorem mas_64 (G : pT) (a : Nat → Nat) (B : Nat → Nat → Int32) (f : Nat → Int32) : (mar G a B).set 64 (a 64, .inl (G.2.1 0, 100, .inl f)) = mar G a (updA B 64 f) := rfl
theorem ma_65 (G : pT) (a : Nat → Nat) (B : Nat → Nat → Int32) : (mar G a B)[65]? = some (a 65, .inl (G.2.1 0, 100, .inl (B 65))) := rfl
theorem mas_65 (G : pT) (a : Nat → Nat) (B : Nat → Nat → Int32) (f : Nat → Int32) : (mar G a B).set 65 (a 65, .inl (G.2.1 0, 100, .inl f)) = mar G a (updA B 65 f) := rfl
theorem ma_66 (G : pT) (a : Nat → Nat) (B : Nat → Nat → Int32) : (mar G a B)[66]? = some (a 66, .inl (G.2.1 0, 3200, .inl (B 66))) := rfl
theorem mas_66 (G : pT) (a : Nat → Nat) (B : Nat → Nat → Int32) (f : Nat → Int32) : (mar G a B).set 66 (a 66, .inl (G.2.1 0, 3200, .inl f)) = mar G a (updA B 66 f) := rfl
theorem ma_67 (G : pT) (a : Nat → Nat) (B : Nat → Nat → Int32) : (mar G a B)[67]? = some (a 67, .inl (G.2.1 3, 3200, .inl (B 67))) := rfl
theorem mas_67 (G : pT) (a : Nat → Nat) (B : Nat → Nat → Int32) (f : Nat → Int32) : (mar G a B).set 67 (a 67, .inl (G.2.1 3, 3200, .inl f)) = mar G a (updA B 67 f) := rfl
theorem ma_68 (G : pT) (a : Nat → Nat) (B : Nat → Nat → Int32) : (mar G a B)[68]? = some (a 68, .inl (G.2.1 0, 40000, .inl (B 68))) := rfl
theorem mas_68 (G : pT) (a : Nat → Nat) (B : Nat → Nat → Int32) (f : Nat → Int32) : (mar G a B).set 68 (a 68, .inl (G.2.1 0, 40000, .inl f)) = mar G a (updA B 68 f) := rfl
theorem ma_69 (G : pT) (a : Nat → Nat) (B : Nat → Nat → Int32) : (mar G a B)[69]? = some (a 69, .inl (G.2.1 3, 40000, .inl (B 69))) := rfl
theorem mas_69 (G : pT) (a : Nat → Nat) (B : Nat → Nat → Int32) (f : Nat → Int32) : (mar G a B).set 69 (a 69, .inl (G.2.1 3, 40000, .inl f)) = mar G a (updA B 69 f) := rfl
theorem ma_70 (G : pT) (a : Nat → Nat) (B : Nat → Nat → Int32) : (mar G a B)[70]? = some (a 70, .inl (G.2.1 0, 2100, .inl (B 70))) := rfl
theorem mas_70 (G : pT) (a : Nat → Nat) (B : Nat → Nat → Int32) (f : Nat → Int32) : (mar G a B).set 70 (a 70, .inl (G.2.1 0, 2100, .inl f)) = mar G a (updA B 70 f) := rfl
theorem ma_71 (G : pT) (a : Nat → Nat) (B : Nat → Nat → Int32) : (mar G a B)[71]? = some (a 71, .inl (G.2.1 0, 2100, .inl (B 71))) := rfl
theorem mas_71 (G : pT) (a : Nat → Nat) (B : Nat → Nat → Int32) (f : Nat → Int32) : (mar G a B).set 71 (a 71, .inl (G.2.1 0, 2100, .inl f)) = mar G a (updA B 71 f) := rfl
theorem ma_72 (G : pT) (a : Nat → Nat) (B : Nat → Nat → Int32) : (mar G a B)[72]? = some (a 72, .inl (G.2.1 3, 2100, .inl (B 72))) := rfl
theorem mas_72 (G : pT) (a : Nat → Nat) (B : Nat → Nat → Int32) (f : Nat → Int32) : (mar G a B).set 72 (a 72, .inl (G.2.1 3, 2100, .inl f)) = mar G a (updA B 72 f) := rfl
theorem ma_73 (G : pT) (a : Nat → Nat) (B : Nat → Nat → Int32) : (mar G a B)[73]? = some (a 73, .inl (G.2.1 0, 3000, .inl (B 73))) := rfl
theorem mas_73 (G : pT) (a : Nat → Nat) (B : Nat → Nat → Int32) (f : Nat → Int32) : (mar G a B).set 73 (a 73, .inl (G.2.1 0, 3000, .inl f)) = mar G a (updA B 73 f) := rfl
theorem ma_74 (G : pT) (a : Nat → Nat) (B : Nat → Nat → Int32) : (mar G a B)[74]? = some (a 74, .inl (G.2.1 0, 3000, .inl (B 74))) := rfl
theorem mas_74 (G : pT) (a : Nat → Nat) (B : Nat → Nat → Int32) (f : Nat → Int32) : (mar G a B).set 74 (a 74, .inl (G.2.1 0, 3000, .inl f)) = mar G a (updA B 74 f) := rfl
theorem ma_75 (G : pT) (a : Nat → Nat) (B : Nat → Nat → Int32) : (mar G a B)[75]? = some (a 75, .inl (G.2.1 0, 40, .inl (B 75))) := rfl
theorem mas_75 (G : pT) (a : Nat → Nat) (B : Nat → Nat → Int32) (f : Nat → Int32) : (mar G a B).set 75 (a 75, .inl (G.2.1 0, 40, .inl f)) = mar G a (updA B 75 f) := rfl
theorem ma_76 (G : pT) (a : Nat → Nat) (B : Nat → Nat → Int32) : (mar G a B)[76]? = some (a 76, .inl (G.2.1 0, 40, .inl (B 76))) := rfl
theorem mas_76 (G : pT) (a : Nat → Nat) (B : Nat → Nat → Int32) (f : Nat → Int32) : (mar G a B).set 76 (a 76, .inl (G.2.1 0, 40, .inl f)) = mar G a (updA B 76 f) := rfl
theorem ma_77 (G : pT) (a : Nat → Nat) (B : Nat → Nat → Int32) : (mar G a B)[77]? = some (a 77, .inl (G.2.1 0, 23000, .inl (B 77))) := rfl
theorem mas_77 (G : pT) (a : Nat → Nat) (B : Nat → Nat → Int32) (f : Nat → Int32) : (mar G a B).set 77 (a 77, .inl (G.2.1 0, 23000, .inl f)) = mar G a (updA B 77 f) := rfl
section RR
variable {p : Program} {l : Launch} {e : Env} {R : Room} {s : State} {m : MethodId} {args : Array Value} {below : List Frame} {meth : Method} {c : Code} {H : Heap} {locs : List Loc} {cells slots : Nat} {Qg : State → Prop}
variable {cc : ByteArray} {pc : Nat} {ls : Array Slot} {rest : List Value} {A : Nat → Prop} {G : pT} {h0 : Nat} {a : Nat → Nat} {F : Nat → Int32} {B : Nat → Nat → Int32}
theorem r_get {v : Value} (hx : p.tables.exec = Jvm.exec) (hb : c.code = cc) (hown : s.vm.findClass RX12 = some m.cls) (hq : ∀ w ∈ pw, w.before args s = true) (hE : pE G A s s.heap) (hP : va_P G.1 pCl (mW G h0 a F B) H) (k idx : Nat) {nm ds : String} {fin : Bool} (hT : TX12 k = ("JinjaTongueModel", nm, ds, fin)) (hk : k < 134) (hl : Cond.fieldLink RX12 idx "JinjaTongueModel" nm ds ∈ pw) (hv : (mfs a F)[k]? = some v) (hdg : decode cc pc = .ok (.getfield idx, 3))
    (kk : W p l e R s m args below meth c H locs cells slots Qg (F0 m (pc + 3) ls (v :: rest))) : W p l e R s m args below meth c H locs cells slots Qg (F0 m pc ls (.ref h0 :: rest)) :=
  va_get (D := G.1) (ci := 9) (C := RX12) (T := TX12) (N := 134) (ref := "JinjaTongueModel") hx hb hq pin_wsX120 hown hE.1.1 hP 0 rfl rfl k hk (by rw [hT]; exact hq _ hl) (fun x h9 => by rw [hT] at h9 ⊢; exact h9) hv hdg kk
theorem r_put {v : Int32} {ty : FieldType} (hx : p.tables.exec = Jvm.exec) (hb : c.code = cc) (hown : s.vm.findClass RX12 = some m.cls) (hq : ∀ w ∈ pw, w.before args s = true) (hE : pE G A s s.heap) (hP : va_P G.1 pCl (mW G h0 a F B) H) (hD : va_D A (mW G h0 a F B)) (hS : va_S A s.heap H locs) (k idx : Nat) {nm ds : String} (hT : TX12 k = ("JinjaTongueModel", nm, ds, false)) (hk : k < 134) (hl : Cond.fieldLink RX12 idx "JinjaTongueModel" nm ds ∈ pw) (hd : parseFieldDescriptor ds = some ty) (hn : narrow ty (.int v) = .int v) (hfit : fits ty (.int v) = true) (hs : (mfs a F).set k (.int v) = mfs a (upd F k v)) (hdg : decode cc pc = .ok (.putfield idx, 3))
    (kk : ∀ (H1 : Heap) (locs1 : List Loc), va_P G.1 pCl (mW G h0 a (upd F k v) B) H1 → va_D A (mW G h0 a (upd F k v) B) → va_S A s.heap H1 locs1 → W p l e R s m args below meth c H1 locs1 cells slots Qg (F0 m (pc + 3) ls rest)) : W p l e R s m args below meth c H locs cells slots Qg (F0 m pc ls (.int v :: .ref h0 :: rest)) := by
  have e9 : (mW G h0 a F B).set 0 (h0, .inr (9, (mfs a F).set k (.int v))) = mW G h0 a (upd F k v) B := by unfold mW; rw [List.set_cons_zero, hs]
  refine va_put (D := G.1) (ci := 9) (C := RX12) (T := TX12) (N := 134) (ref := "JinjaTongueModel") hx hb hq pin_wsX120 tyX12 tyX12_ok nmX12 hown hE.1.1 hP hD hS 0 rfl rfl k hk (by rw [hT]; exact hq _ hl) (fun x h9 => by rw [hT] at h9 ⊢; exact h9) (by rw [hT]) (by rw [hT]; exact hd) hn hfit (by rw [mfs_len]; exact hk) hdg (fun H1 locs1 h1 h2 h3 => kk H1 locs1 ?_ ?_ h3)
  · rw [← e9]; exact h1
  · rw [← e9]; exact h2
theorem r_ldig {f : Nat → Int32} {n : Nat} {x : Int32} (hx : p.tables.exec = Jvm.exec) (hb : c.code = cc) (hE : pE G A s s.heap) (hP : va_P G.1 pCl (mW G h0 a F B) H) (i : Nat) (hi : (mar G a B)[i]? = some (a i, .inl (G.2.1 0, n, .inl (B i)))) (hf : B i = f) (hin : vp_in x n) (hdg : decode cc pc = .ok (.iaload, 1))
    (kk : W p l e R s m args below meth c H locs cells slots Qg (F0 m (pc + 1) ls (.int (f x.toNatClampNeg) :: rest))) : W p l e R s m args below meth c H locs cells slots Qg (F0 m pc ls (.int x :: .ref (a i) :: rest)) := by
  subst hf
  exact va_iald hx hb hE.1.1 hP (i + 1) 0 hi rfl hin hdg kk
theorem r_ldi {f : Nat → Int32} {n j : Nat} (hx : p.tables.exec = Jvm.exec) (hb : c.code = cc) (hE : pE G A s s.heap) (hP : va_P G.1 pCl (mW G h0 a F B) H) (i : Nat) (hi : (mar G a B)[i]? = some (a i, .inl (G.2.1 0, n, .inl (B i)))) (hf : B i = f) (hj : j < n) (hn : n < 2 ^ 31) (hdg : decode cc pc = .ok (.iaload, 1))
    (kk : W p l e R s m args below meth c H locs cells slots Qg (F0 m (pc + 1) ls (.int (f j) :: rest))) : W p l e R s m args below meth c H locs cells slots Qg (F0 m pc ls (.int (nI j) :: .ref (a i) :: rest)) := by
  refine r_ldig hx hb hE hP i hi hf (vp_in_nI hj hn) hdg ?_
  rw [nI_clamp (Nat.lt_trans hj hn)]
  exact kk
theorem r_stig {f : Nat → Int32} {n : Nat} {x y : Int32} (hx : p.tables.exec = Jvm.exec) (hb : c.code = cc) (hE : pE G A s s.heap) (hP : va_P G.1 pCl (mW G h0 a F B) H) (hD : va_D A (mW G h0 a F B)) (hS : va_S A s.heap H locs) (i : Nat) (hi : (mar G a B)[i]? = some (a i, .inl (G.2.1 0, n, .inl (B i)))) (hf : B i = f) (hs : ∀ g : Nat → Int32, (mar G a B).set i (a i, .inl (G.2.1 0, n, .inl g)) = mar G a (updA B i g)) (hin : vp_in y n) (hdg : decode cc pc = .ok (.iastore, 1))
    (kk : ∀ (H1 : Heap) (locs1 : List Loc), va_P G.1 pCl (mW G h0 a F (updA B i (upd f y.toNatClampNeg x))) H1 → va_D A (mW G h0 a F (updA B i (upd f y.toNatClampNeg x))) → va_S A s.heap H1 locs1 → W p l e R s m args below meth c H1 locs1 cells slots Qg (F0 m (pc + 1) ls rest)) : W p l e R s m args below meth c H locs cells slots Qg (F0 m pc ls (.int x :: .int y :: .ref (a i) :: rest)) := by
  subst hf
  have e9 : ∀ g : Nat → Int32, (mW G h0 a F B).set (i + 1) (a i, .inl (G.2.1 0, n, .inl g)) = mW G h0 a F (updA B i g) := fun g => by unfold mW; rw [List.set_cons_succ, hs]
  refine va_iast hx hb hE.1.1 hP hD hS (i + 1) 0 hi rfl hin hdg (fun H1 locs1 h1 h2 h3 => kk H1 locs1 ?_ ?_ h3)
  · rw [← e9]; exact h1
  · rw [← e9]; exact h2
theorem r_sti {f : Nat → Int32} {n j : Nat} {x : Int32} (hx : p.tables.exec = Jvm.exec) (hb : c.code = cc) (hE : pE G A s s.heap) (hP : va_P G.1 pCl (mW G h0 a F B) H) (hD : va_D A (mW G h0 a F B)) (hS : va_S A s.heap H locs) (i : Nat) (hi : (mar G a B)[i]? = some (a i, .inl (G.2.1 0, n, .inl (B i)))) (hf : B i = f) (hs : ∀ g : Nat → Int32, (mar G a B).set i (a i, .inl (G.2.1 0, n, .inl g)) = mar G a (updA B i g)) (hj : j < n) (hn : n < 2 ^ 31) (hdg : decode cc pc = .ok (.iastore, 1))
    (kk : ∀ (H1 : Heap) (locs1 : List Loc), va_P G.1 pCl (mW G h0 a F (updA B i (upd f j x))) H1 → va_D A (mW G h0 a F (updA B i (upd f j x))) → va_S A s.heap H1 locs1 → W p l e R s m args below meth c H1 locs1 cells slots Qg (F0 m (pc + 1) ls rest)) : W p l e R s m args below meth c H locs cells slots Qg (F0 m pc ls (.int x :: .int (nI j) :: .ref (a i) :: rest)) := by
  refine r_stig hx hb hE hP hD hS i hi hf hs (vp_in_nI hj hn) hdg ?_
  rw [nI_clamp (Nat.lt_trans hj hn)]
  exact kk
theorem r_ldbg {f : Nat → Int32} {n : Nat} {x : Int32} (hx : p.tables.exec = Jvm.exec) (hb : c.code = cc) (hE : pE G A s s.heap) (hP : va_P G.1 pCl (mW G h0 a F B) H) (i : Nat) (hi : (mar G a B)[i]? = some (a i, .inl (G.2.1 1, n, .inl (B i)))) (hf : B i = f) (hin : vp_in x n) (hdg : decode cc pc = .ok (.baload, 1))
    (kk : W p l e R s m args below meth c H locs cells slots Qg (F0 m (pc + 1) ls (.int (f x.toNatClampNeg) :: rest))) : W p l e R s m args below meth c H locs cells slots Qg (F0 m pc ls (.int x :: .ref (a i) :: rest)) := by
  subst hf
  exact va_bald hx hb hE.1.1 hP (i + 1) 1 hi rfl hin hdg kk
theorem r_ldb {f : Nat → Int32} {n j : Nat} (hx : p.tables.exec = Jvm.exec) (hb : c.code = cc) (hE : pE G A s s.heap) (hP : va_P G.1 pCl (mW G h0 a F B) H) (i : Nat) (hi : (mar G a B)[i]? = some (a i, .inl (G.2.1 1, n, .inl (B i)))) (hf : B i = f) (hj : j < n) (hn : n < 2 ^ 31) (hdg : decode cc pc = .ok (.baload, 1))
    (kk : W p l e R s m args below meth c H locs cells slots Qg (F0 m (pc + 1) ls (.int (f j) :: rest))) : W p l e R s m args below meth c H locs cells slots Qg (F0 m pc ls (.int (nI j) :: .ref (a i) :: rest)) := by
  refine r_ldbg hx hb hE hP i hi hf (vp_in_nI hj hn) hdg ?_
  rw [nI_clamp (Nat.lt_trans hj hn)]
  exact kk
theorem r_stbg {f : Nat → Int32} {n : Nat} {x y : Int32} (hx : p.tables.exec = Jvm.exec) (hb : c.code = cc) (hE : pE G A s s.heap) (hP : va_P G.1 pCl (mW G h0 a F B) H) (hD : va_D A (mW G h0 a F B)) (hS : va_S A s.heap H locs) (i : Nat) (hi : (mar G a B)[i]? = some (a i, .inl (G.2.1 1, n, .inl (B i)))) (hf : B i = f) (hs : ∀ g : Nat → Int32, (mar G a B).set i (a i, .inl (G.2.1 1, n, .inl g)) = mar G a (updA B i g)) (hin : vp_in y n) (hdg : decode cc pc = .ok (.bastore, 1))
    (kk : ∀ (H1 : Heap) (locs1 : List Loc), va_P G.1 pCl (mW G h0 a F (updA B i (upd f y.toNatClampNeg (vp_nar .byte x)))) H1 → va_D A (mW G h0 a F (updA B i (upd f y.toNatClampNeg (vp_nar .byte x)))) → va_S A s.heap H1 locs1 → W p l e R s m args below meth c H1 locs1 cells slots Qg (F0 m (pc + 1) ls rest)) : W p l e R s m args below meth c H locs cells slots Qg (F0 m pc ls (.int x :: .int y :: .ref (a i) :: rest)) := by
  subst hf
  have e9 : ∀ g : Nat → Int32, (mW G h0 a F B).set (i + 1) (a i, .inl (G.2.1 1, n, .inl g)) = mW G h0 a F (updA B i g) := fun g => by unfold mW; rw [List.set_cons_succ, hs]
  refine va_bast hx hb hE.1.1 hP hD hS (i + 1) 1 hi rfl hin hdg (fun H1 locs1 h1 h2 h3 => kk H1 locs1 ?_ ?_ h3)
  · rw [← e9]; exact h1
  · rw [← e9]; exact h2
theorem r_stb {f : Nat → Int32} {n j : Nat} {x : Int32} (hx : p.tables.exec = Jvm.exec) (hb : c.code = cc) (hE : pE G A s s.heap) (hP : va_P G.1 pCl (mW G h0 a F B) H) (hD : va_D A (mW G h0 a F B)) (hS : va_S A s.heap H locs) (i : Nat) (hi : (mar G a B)[i]? = some (a i, .inl (G.2.1 1, n, .inl (B i)))) (hf : B i = f) (hs : ∀ g : Nat → Int32, (mar G a B).set i (a i, .inl (G.2.1 1, n, .inl g)) = mar G a (updA B i g)) (hj : j < n) (hn : n < 2 ^ 31) (hdg : decode cc pc = .ok (.bastore, 1))
    (kk : ∀ (H1 : Heap) (locs1 : List Loc), va_P G.1 pCl (mW G h0 a F (updA B i (upd f j (vp_nar .byte x)))) H1 → va_D A (mW G h0 a F (updA B i (upd f j (vp_nar .byte x)))) → va_S A s.heap H1 locs1 → W p l e R s m args below meth c H1 locs1 cells slots Qg (F0 m (pc + 1) ls rest)) : W p l e R s m args below meth c H locs cells slots Qg (F0 m pc ls (.int x :: .int (nI j) :: .ref (a i) :: rest)) := by
  refine r_stbg hx hb hE hP hD hS i hi hf hs (vp_in_nI hj hn) hdg ?_
  rw [nI_clamp (Nat.lt_trans hj hn)]
  exact kk
theorem r_ldzg {f : Nat → Int32} {n : Nat} {x : Int32} (hx : p.tables.exec = Jvm.exec) (hb : c.code = cc) (hE : pE G A s s.heap) (hP : va_P G.1 pCl (mW G h0 a F B) H) (i : Nat) (hi : (mar G a B)[i]? = some (a i, .inl (G.2.1 3, n, .inl (B i)))) (hf : B i = f) (hin : vp_in x n) (hdg : decode cc pc = .ok (.baload, 1))
    (kk : W p l e R s m args below meth c H locs cells slots Qg (F0 m (pc + 1) ls (.int (f x.toNatClampNeg) :: rest))) : W p l e R s m args below meth c H locs cells slots Qg (F0 m pc ls (.int x :: .ref (a i) :: rest)) := by
  subst hf
  exact va_zald hx hb hE.1.1 hP (i + 1) 3 hi rfl hin hdg kk
theorem r_ldz {f : Nat → Int32} {n j : Nat} (hx : p.tables.exec = Jvm.exec) (hb : c.code = cc) (hE : pE G A s s.heap) (hP : va_P G.1 pCl (mW G h0 a F B) H) (i : Nat) (hi : (mar G a B)[i]? = some (a i, .inl (G.2.1 3, n, .inl (B i)))) (hf : B i = f) (hj : j < n) (hn : n < 2 ^ 31) (hdg : decode cc pc = .ok (.baload, 1))
    (kk : W p l e R s m args below meth c H locs cells slots Qg (F0 m (pc + 1) ls (.int (f j) :: rest))) : W p l e R s m args below meth c H locs cells slots Qg (F0 m pc ls (.int (nI j) :: .ref (a i) :: rest)) := by
  refine r_ldzg hx hb hE hP i hi hf (vp_in_nI hj hn) hdg ?_
  rw [nI_clamp (Nat.lt_trans hj hn)]
  exact kk
theorem r_stzg {f : Nat → Int32} {n : Nat} {x y : Int32} (hx : p.tables.exec = Jvm.exec) (hb : c.code = cc) (hE : pE G A s s.heap) (hP : va_P G.1 pCl (mW G h0 a F B) H) (hD : va_D A (mW G h0 a F B)) (hS : va_S A s.heap H locs) (i : Nat) (hi : (mar G a B)[i]? = some (a i, .inl (G.2.1 3, n, .inl (B i)))) (hf : B i = f) (hs : ∀ g : Nat → Int32, (mar G a B).set i (a i, .inl (G.2.1 3, n, .inl g)) = mar G a (updA B i g)) (hin : vp_in y n) (hdg : decode cc pc = .ok (.bastore, 1))
    (kk : ∀ (H1 : Heap) (locs1 : List Loc), va_P G.1 pCl (mW G h0 a F (updA B i (upd f y.toNatClampNeg (vp_nar .boolean x)))) H1 → va_D A (mW G h0 a F (updA B i (upd f y.toNatClampNeg (vp_nar .boolean x)))) → va_S A s.heap H1 locs1 → W p l e R s m args below meth c H1 locs1 cells slots Qg (F0 m (pc + 1) ls rest)) : W p l e R s m args below meth c H locs cells slots Qg (F0 m pc ls (.int x :: .int y :: .ref (a i) :: rest)) := by
  subst hf
  have e9 : ∀ g : Nat → Int32, (mW G h0 a F B).set (i + 1) (a i, .inl (G.2.1 3, n, .inl g)) = mW G h0 a F (updA B i g) := fun g => by unfold mW; rw [List.set_cons_succ, hs]
  refine va_zast hx hb hE.1.1 hP hD hS (i + 1) 3 hi rfl hin hdg (fun H1 locs1 h1 h2 h3 => kk H1 locs1 ?_ ?_ h3)
  · rw [← e9]; exact h1
  · rw [← e9]; exact h2
theorem r_stz {f : Nat → Int32} {n j : Nat} {x : Int32} (hx : p.tables.exec = Jvm.exec) (hb : c.code = cc) (hE : pE G A s s.heap) (hP : va_P G.1 pCl (mW G h0 a F B) H) (hD : va_D A (mW G h0 a F B)) (hS : va_S A s.heap H locs) (i : Nat) (hi : (mar G a B)[i]? = some (a i, .inl (G.2.1 3, n, .inl (B i)))) (hf : B i = f) (hs : ∀ g : Nat → Int32, (mar G a B).set i (a i, .inl (G.2.1 3, n, .inl g)) = mar G a (updA B i g)) (hj : j < n) (hn : n < 2 ^ 31) (hdg : decode cc pc = .ok (.bastore, 1))
    (kk : ∀ (H1 : Heap) (locs1 : List Loc), va_P G.1 pCl (mW G h0 a F (updA B i (upd f j (vp_nar .boolean x)))) H1 → va_D A (mW G h0 a F (updA B i (upd f j (vp_nar .boolean x)))) → va_S A s.heap H1 locs1 → W p l e R s m args below meth c H1 locs1 cells slots Qg (F0 m (pc + 1) ls rest)) : W p l e R s m args below meth c H locs cells slots Qg (F0 m pc ls (.int x :: .int (nI j) :: .ref (a i) :: rest)) := by
  refine r_stzg hx hb hE hP hD hS i hi hf hs (vp_in_nI hj hn) hdg ?_
  rw [nI_clamp (Nat.lt_trans hj hn)]
  exact kk
end RR
