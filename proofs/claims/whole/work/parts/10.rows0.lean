section GEN2
variable {X : I_X} {d : Nat} {L : I_L} {st : List Value} {h : I_H} {a b v i a1 a2 a3 a4 a5 a6 a7 : Int32} {w w1 w2 w3 : UInt64} {l1 l2 : Int64} {r r2 r1 r3 r4 r5 : Option Nat} {q q0 : Nat} {x0 x1 x2 x3 x4 x5 x6 x7 x8 x9 x10 x11 x12 : Option Value}
theorem I_st1_0 {v : Value} : I_st1 (x0 :: L) 0 v = some (some v :: L) := by simp [I_st1, I_prev]
theorem I_st2_0 {v : Value} : I_st2 (x0 :: x1 :: L) 0 v = some (some v :: none :: L) := by simp [I_st2, I_prev]
theorem I_st1_1 {v : Value} (hx : I_c2 x0 = false) : I_st1 (x0 :: x1 :: L) 1 v = some (x0 :: some v :: L) := by simp [I_st1, I_prev, hx]
theorem I_st2_1 {v : Value} (hx : I_c2 x0 = false) : I_st2 (x0 :: x1 :: x2 :: L) 1 v = some (x0 :: some v :: none :: L) := by simp [I_st2, I_prev, hx]
theorem I_st1_2 {v : Value} (hx : I_c2 x1 = false) : I_st1 (x0 :: x1 :: x2 :: L) 2 v = some (x0 :: x1 :: some v :: L) := by simp [I_st1, I_prev, hx]
theorem I_st2_2 {v : Value} (hx : I_c2 x1 = false) : I_st2 (x0 :: x1 :: x2 :: x3 :: L) 2 v = some (x0 :: x1 :: some v :: none :: L) := by simp [I_st2, I_prev, hx]
theorem I_st1_3 {v : Value} (hx : I_c2 x2 = false) : I_st1 (x0 :: x1 :: x2 :: x3 :: L) 3 v = some (x0 :: x1 :: x2 :: some v :: L) := by simp [I_st1, I_prev, hx]
theorem I_st2_3 {v : Value} (hx : I_c2 x2 = false) : I_st2 (x0 :: x1 :: x2 :: x3 :: x4 :: L) 3 v = some (x0 :: x1 :: x2 :: some v :: none :: L) := by simp [I_st2, I_prev, hx]
theorem I_st1_4 {v : Value} (hx : I_c2 x3 = false) : I_st1 (x0 :: x1 :: x2 :: x3 :: x4 :: L) 4 v = some (x0 :: x1 :: x2 :: x3 :: some v :: L) := by simp [I_st1, I_prev, hx]
theorem I_st2_4 {v : Value} (hx : I_c2 x3 = false) : I_st2 (x0 :: x1 :: x2 :: x3 :: x4 :: x5 :: L) 4 v = some (x0 :: x1 :: x2 :: x3 :: some v :: none :: L) := by simp [I_st2, I_prev, hx]
theorem I_st1_5 {v : Value} (hx : I_c2 x4 = false) : I_st1 (x0 :: x1 :: x2 :: x3 :: x4 :: x5 :: L) 5 v = some (x0 :: x1 :: x2 :: x3 :: x4 :: some v :: L) := by simp [I_st1, I_prev, hx]
theorem I_st2_5 {v : Value} (hx : I_c2 x4 = false) : I_st2 (x0 :: x1 :: x2 :: x3 :: x4 :: x5 :: x6 :: L) 5 v = some (x0 :: x1 :: x2 :: x3 :: x4 :: some v :: none :: L) := by simp [I_st2, I_prev, hx]
theorem I_st1_6 {v : Value} (hx : I_c2 x5 = false) : I_st1 (x0 :: x1 :: x2 :: x3 :: x4 :: x5 :: x6 :: L) 6 v = some (x0 :: x1 :: x2 :: x3 :: x4 :: x5 :: some v :: L) := by simp [I_st1, I_prev, hx]
theorem I_st2_6 {v : Value} (hx : I_c2 x5 = false) : I_st2 (x0 :: x1 :: x2 :: x3 :: x4 :: x5 :: x6 :: x7 :: L) 6 v = some (x0 :: x1 :: x2 :: x3 :: x4 :: x5 :: some v :: none :: L) := by simp [I_st2, I_prev, hx]
theorem I_st1_7 {v : Value} (hx : I_c2 x6 = false) : I_st1 (x0 :: x1 :: x2 :: x3 :: x4 :: x5 :: x6 :: x7 :: L) 7 v = some (x0 :: x1 :: x2 :: x3 :: x4 :: x5 :: x6 :: some v :: L) := by simp [I_st1, I_prev, hx]
theorem I_st2_7 {v : Value} (hx : I_c2 x6 = false) : I_st2 (x0 :: x1 :: x2 :: x3 :: x4 :: x5 :: x6 :: x7 :: x8 :: L) 7 v = some (x0 :: x1 :: x2 :: x3 :: x4 :: x5 :: x6 :: some v :: none :: L) := by simp [I_st2, I_prev, hx]
theorem I_st1_8 {v : Value} (hx : I_c2 x7 = false) : I_st1 (x0 :: x1 :: x2 :: x3 :: x4 :: x5 :: x6 :: x7 :: x8 :: L) 8 v = some (x0 :: x1 :: x2 :: x3 :: x4 :: x5 :: x6 :: x7 :: some v :: L) := by simp [I_st1, I_prev, hx]
theorem I_st2_8 {v : Value} (hx : I_c2 x7 = false) : I_st2 (x0 :: x1 :: x2 :: x3 :: x4 :: x5 :: x6 :: x7 :: x8 :: x9 :: L) 8 v = some (x0 :: x1 :: x2 :: x3 :: x4 :: x5 :: x6 :: x7 :: some v :: none :: L) := by simp [I_st2, I_prev, hx]
theorem I_st1_9 {v : Value} (hx : I_c2 x8 = false) : I_st1 (x0 :: x1 :: x2 :: x3 :: x4 :: x5 :: x6 :: x7 :: x8 :: x9 :: L) 9 v = some (x0 :: x1 :: x2 :: x3 :: x4 :: x5 :: x6 :: x7 :: x8 :: some v :: L) := by simp [I_st1, I_prev, hx]
theorem I_st2_9 {v : Value} (hx : I_c2 x8 = false) : I_st2 (x0 :: x1 :: x2 :: x3 :: x4 :: x5 :: x6 :: x7 :: x8 :: x9 :: x10 :: L) 9 v = some (x0 :: x1 :: x2 :: x3 :: x4 :: x5 :: x6 :: x7 :: x8 :: some v :: none :: L) := by simp [I_st2, I_prev, hx]
theorem I_st1_10 {v : Value} (hx : I_c2 x9 = false) : I_st1 (x0 :: x1 :: x2 :: x3 :: x4 :: x5 :: x6 :: x7 :: x8 :: x9 :: x10 :: L) 10 v = some (x0 :: x1 :: x2 :: x3 :: x4 :: x5 :: x6 :: x7 :: x8 :: x9 :: some v :: L) := by simp [I_st1, I_prev, hx]
theorem I_st2_10 {v : Value} (hx : I_c2 x9 = false) : I_st2 (x0 :: x1 :: x2 :: x3 :: x4 :: x5 :: x6 :: x7 :: x8 :: x9 :: x10 :: x11 :: L) 10 v = some (x0 :: x1 :: x2 :: x3 :: x4 :: x5 :: x6 :: x7 :: x8 :: x9 :: some v :: none :: L) := by simp [I_st2, I_prev, hx]
theorem I_st1_11 {v : Value} (hx : I_c2 x10 = false) : I_st1 (x0 :: x1 :: x2 :: x3 :: x4 :: x5 :: x6 :: x7 :: x8 :: x9 :: x10 :: x11 :: L) 11 v = some (x0 :: x1 :: x2 :: x3 :: x4 :: x5 :: x6 :: x7 :: x8 :: x9 :: x10 :: some v :: L) := by simp [I_st1, I_prev, hx]
theorem I_st2_11 {v : Value} (hx : I_c2 x10 = false) : I_st2 (x0 :: x1 :: x2 :: x3 :: x4 :: x5 :: x6 :: x7 :: x8 :: x9 :: x10 :: x11 :: x12 :: L) 11 v = some (x0 :: x1 :: x2 :: x3 :: x4 :: x5 :: x6 :: x7 :: x8 :: x9 :: x10 :: some v :: none :: L) := by simp [I_st2, I_prev, hx]
theorem I_slots_n : I_slots [] = [] := rfl
theorem I_slots_i {vs : List Value} : I_slots (.int a :: vs) = some (.int a) :: I_slots vs := rfl
theorem I_slots_d {vs : List Value} : I_slots (.double w :: vs) = some (.double w) :: none :: I_slots vs := rfl
theorem I_slots_q {vs : List Value} : I_slots (va_rf r :: vs) = some (va_rf r) :: I_slots vs := by cases r <;> rfl
theorem I_look_d0 (a : Int32) (k : Int32) {n : Int} (h : ¬ a = k) (hk : k.toInt = n) {o dd : Int} {l : List (Int × Int)} : Op.lookupswitch.offset ((n, o) :: l) dd a.toInt = Op.lookupswitch.offset l dd a.toInt := lv_osw h hk
theorem I_np_0 : I_np 0 = 2 := by decide +kernel
theorem I_np_1 : I_np 1 = 0 := by decide +kernel
theorem I_np_2 : I_np 2 = 2 := by decide +kernel
theorem I_np_3 : I_np 3 = 2 := by decide +kernel
theorem I_np_4 : I_np 4 = 1 := by decide +kernel
theorem I_np_5 : I_np 5 = 0 := by decide +kernel
theorem I_np_6 : I_np 6 = 1 := by decide +kernel
theorem I_np_7 : I_np 7 = 1 := by decide +kernel
theorem I_np_8 : I_np 8 = 4 := by decide +kernel
theorem I_np_9 : I_np 9 = 1 := by decide +kernel
theorem I_np_10 : I_np 10 = 2 := by decide +kernel
theorem I_np_11 : I_np 11 = 0 := by decide +kernel
theorem I_np_12 : I_np 12 = 2 := by decide +kernel
theorem I_np_13 : I_np 13 = 1 := by decide +kernel
theorem I_np_14 : I_np 14 = 1 := by decide +kernel
theorem I_np_15 : I_np 15 = 2 := by decide +kernel
theorem I_np_16 : I_np 16 = 0 := by decide +kernel
theorem I_np_17 : I_np 17 = 0 := by decide +kernel
theorem I_np_18 : I_np 18 = 0 := by decide +kernel
theorem I_np_19 : I_np 19 = 0 := by decide +kernel
theorem I_np_20 : I_np 20 = 1 := by decide +kernel
theorem I_np_21 : I_np 21 = 1 := by decide +kernel
theorem I_np_22 : I_np 22 = 0 := by decide +kernel
theorem I_np_23 : I_np 23 = 2 := by decide +kernel
theorem I_np_24 : I_np 24 = 3 := by decide +kernel
theorem I_np_25 : I_np 25 = 4 := by decide +kernel
theorem I_np_26 : I_np 26 = 2 := by decide +kernel
theorem I_np_27 : I_np 27 = 4 := by decide +kernel
theorem I_np_28 : I_np 28 = 3 := by decide +kernel
theorem I_np_29 : I_np 29 = 3 := by decide +kernel
theorem I_np_30 : I_np 30 = 3 := by decide +kernel
theorem I_np_31 : I_np 31 = 1 := by decide +kernel
theorem I_np_32 : I_np 32 = 7 := by decide +kernel
theorem I_np_33 : I_np 33 = 1 := by decide +kernel
theorem I_np_34 : I_np 34 = 2 := by decide +kernel
theorem I_np_35 : I_np 35 = 1 := by decide +kernel
theorem I_np_36 : I_np 36 = 1 := by decide +kernel
theorem I_np_37 : I_np 37 = 1 := by decide +kernel
theorem I_np_38 : I_np 38 = 2 := by decide +kernel
theorem I_np_39 : I_np 39 = 4 := by decide +kernel
theorem I_np_40 : I_np 40 = 1 := by decide +kernel
theorem I_np_41 : I_np 41 = 0 := by decide +kernel
theorem I_np_42 : I_np 42 = 1 := by decide +kernel
theorem I_np_43 : I_np 43 = 1 := by decide +kernel
theorem I_np_44 : I_np 44 = 0 := by decide +kernel
theorem I_np_45 : I_np 45 = 1 := by decide +kernel
theorem I_np_46 : I_np 46 = 0 := by decide +kernel
theorem I_np_47 : I_np 47 = 1 := by decide +kernel
theorem I_np_48 : I_np 48 = 2 := by decide +kernel
theorem I_np_49 : I_np 49 = 3 := by decide +kernel
theorem I_np_50 : I_np 50 = 2 := by decide +kernel
theorem I_np_51 : I_np 51 = 4 := by decide +kernel
theorem I_np_52 : I_np 52 = 4 := by decide +kernel
theorem I_np_53 : I_np 53 = 4 := by decide +kernel
theorem I_np_54 : I_np 54 = 4 := by decide +kernel
theorem I_np_55 : I_np 55 = 2 := by decide +kernel
theorem I_np_56 : I_np 56 = 2 := by decide +kernel
theorem I_np_57 : I_np 57 = 1 := by decide +kernel
theorem I_np_58 : I_np 58 = 3 := by decide +kernel
theorem I_np_59 : I_np 59 = 3 := by decide +kernel
theorem I_np_60 : I_np 60 = 2 := by decide +kernel
theorem I_np_61 : I_np 61 = 2 := by decide +kernel
theorem I_np_62 : I_np 62 = 2 := by decide +kernel
theorem I_np_63 : I_np 63 = 2 := by decide +kernel
theorem I_np_64 : I_np 64 = 2 := by decide +kernel
theorem I_np_65 : I_np 65 = 2 := by decide +kernel
theorem I_np_66 : I_np 66 = 0 := by decide +kernel
theorem I_np_67 : I_np 67 = 0 := by decide +kernel
theorem I_np_68 : I_np 68 = 0 := by decide +kernel
theorem I_np_69 : I_np 69 = 3 := by decide +kernel
theorem I_np_70 : I_np 70 = 1 := by decide +kernel
theorem I_np_71 : I_np 71 = 1 := by decide +kernel
theorem I_np_72 : I_np 72 = 2 := by decide +kernel
theorem I_np_73 : I_np 73 = 2 := by decide +kernel
theorem I_np_74 : I_np 74 = 3 := by decide +kernel
theorem I_np_75 : I_np 75 = 2 := by decide +kernel
theorem I_np_76 : I_np 76 = 2 := by decide +kernel
theorem I_np_77 : I_np 77 = 3 := by decide +kernel
theorem I_np_78 : I_np 78 = 0 := by decide +kernel
theorem I_np_79 : I_np 79 = 4 := by decide +kernel
theorem I_np_80 : I_np 80 = 2 := by decide +kernel
theorem I_np_81 : I_np 81 = 3 := by decide +kernel
theorem I_np_82 : I_np 82 = 4 := by decide +kernel
theorem I_np_83 : I_np 83 = 3 := by decide +kernel
theorem I_np_84 : I_np 84 = 2 := by decide +kernel
theorem I_np_85 : I_np 85 = 3 := by decide +kernel
theorem I_np_86 : I_np 86 = 3 := by decide +kernel
theorem I_np_87 : I_np 87 = 1 := by decide +kernel
theorem I_np_88 : I_np 88 = 1 := by decide +kernel
theorem I_np_89 : I_np 89 = 7 := by decide +kernel
theorem I_np_90 : I_np 90 = 1 := by decide +kernel
theorem I_np_91 : I_np 91 = 1 := by decide +kernel
theorem I_np_92 : I_np 92 = 3 := by decide +kernel
theorem I_np_93 : I_np 93 = 1 := by decide +kernel
theorem I_np_94 : I_np 94 = 3 := by decide +kernel
theorem I_np_95 : I_np 95 = 0 := by decide +kernel
theorem I_np_96 : I_np 96 = 3 := by decide +kernel
theorem I_np_97 : I_np 97 = 2 := by decide +kernel
theorem I_np_98 : I_np 98 = 1 := by decide +kernel
theorem I_np_99 : I_np 99 = 1 := by decide +kernel
theorem I_np_100 : I_np 100 = 1 := by decide +kernel
theorem I_np_101 : I_np 101 = 3 := by decide +kernel
theorem I_np_102 : I_np 102 = 2 := by decide +kernel
theorem I_np_103 : I_np 103 = 4 := by decide +kernel
theorem I_np_104 : I_np 104 = 2 := by decide +kernel
theorem I_np_105 : I_np 105 = 3 := by decide +kernel
theorem I_np_106 : I_np 106 = 2 := by decide +kernel
theorem I_np_107 : I_np 107 = 1 := by decide +kernel
theorem I_np_108 : I_np 108 = 0 := by decide +kernel
theorem I_np_109 : I_np 109 = 1 := by decide +kernel
theorem I_np_110 : I_np 110 = 1 := by decide +kernel
theorem I_np_111 : I_np 111 = 0 := by decide +kernel
theorem I_np_112 : I_np 112 = 2 := by decide +kernel
theorem I_np_113 : I_np 113 = 1 := by decide +kernel
end GEN2
