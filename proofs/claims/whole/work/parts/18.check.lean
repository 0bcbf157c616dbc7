/-! the code held against the bytes, method by method -/
def losL : List (List Nat) := [[], [], [], [1], [], [2], [], [], [], [2, 4, 6], [2, 4, 6, 9], [2, 4, 6], [], [], [], [1], [], [], [], [], [], [2, 4, 6], [], [], [], [], [], [], [], [2], [], [], [], [], [], [], [3], [], [], [], [], [], [1], [1], [1], [], [], [], [], [], [3], [], [3], [3], [], [0], [], [], [], [], [], [], [], [], [], [], [], [], [], [], [], [], [], [], [], [], [], [], [], [], [], [], [1, 3, 5, 7], [], [], [], [], [1], [], [], [3, 5], [2, 4], [1, 3], [], [], [1], [], [1], [3], [2], [2], [], [], [], [], [], [4], [], [1, 3, 5], [], [2], [], [], [], [], [], [], [1], [], [], [], [], [0, 2, 4], [], [], [], [], [], [], [], [], [], [], [1], [], [], [], [], [], [], [2], [], [], [], [], [], [], [], [], [], [], [], [5], [1], [2], [2, 4], [2], [1, 3], [], [1, 3, 5, 7], [1], [3], [], [1], [1], [], [], [2], [], [], [], [2, 4, 6, 10], [4], [2, 4, 6], [2], [2, 4, 6], [], [], [2, 4, 6], [2, 4, 6, 9], [2, 4, 6], [], [6, 8, 10], [], [], [], [1], [], [], [], [], [], [], [2, 4, 6], [], [], [], [], [], [], [], [], [], [], [], [], [], [], [], [], [0, 2], [0, 2, 4], []]
def los (mi : Nat) : List Nat := losL.getD mi []
def inB (mi : Nat) : Bool := decide ((mtb mi).2.2.2.1 = 2)
def cbk (mi : Nat) (q : Nat × List Instr) : Bool := chkB (omi mi) (inB mi) (los mi) (mtb mi).2.2.1 (byt mi) q.1 q.2
set_option maxRecDepth 100000 in
theorem cb_0 : ∀ q ∈ bt_0, cbk 0 q = true := List.all_eq_true.mp (by decide +kernel)
set_option maxRecDepth 100000 in
theorem cb_1 : ∀ q ∈ bt_1, cbk 1 q = true := List.all_eq_true.mp (by decide +kernel)
set_option maxRecDepth 100000 in
theorem cb_2 : ∀ q ∈ bt_2, cbk 2 q = true := List.all_eq_true.mp (by decide +kernel)
set_option maxRecDepth 100000 in
theorem cb_3 : ∀ q ∈ bt_3, cbk 3 q = true := List.all_eq_true.mp (by decide +kernel)
set_option maxRecDepth 100000 in
theorem cb_4 : ∀ q ∈ bt_4, cbk 4 q = true := List.all_eq_true.mp (by decide +kernel)
set_option maxRecDepth 100000 in
theorem cb_5 : ∀ q ∈ bt_5, cbk 5 q = true := List.all_eq_true.mp (by decide +kernel)
set_option maxRecDepth 100000 in
theorem cb_6 : ∀ q ∈ bt_6, cbk 6 q = true := List.all_eq_true.mp (by decide +kernel)
set_option maxRecDepth 100000 in
theorem cb_7 : ∀ q ∈ bt_7, cbk 7 q = true := List.all_eq_true.mp (by decide +kernel)
set_option maxRecDepth 100000 in
theorem cb_8 : ∀ q ∈ bt_8, cbk 8 q = true := List.all_eq_true.mp (by decide +kernel)
set_option maxRecDepth 100000 in
theorem cb_9 : ∀ q ∈ bt_9, cbk 9 q = true := List.all_eq_true.mp (by decide +kernel)
set_option maxRecDepth 100000 in
theorem cb_10 : ∀ q ∈ bt_10, cbk 10 q = true := List.all_eq_true.mp (by decide +kernel)
set_option maxRecDepth 100000 in
theorem cb_11 : ∀ q ∈ bt_11, cbk 11 q = true := List.all_eq_true.mp (by decide +kernel)
set_option maxRecDepth 100000 in
theorem cb_12 : ∀ q ∈ bt_12, cbk 12 q = true := List.all_eq_true.mp (by decide +kernel)
set_option maxRecDepth 100000 in
theorem cb_13 : ∀ q ∈ bt_13, cbk 13 q = true := List.all_eq_true.mp (by decide +kernel)
set_option maxRecDepth 100000 in
theorem cb_14 : ∀ q ∈ bt_14, cbk 14 q = true := List.all_eq_true.mp (by decide +kernel)
set_option maxRecDepth 100000 in
theorem cb_15 : ∀ q ∈ bt_15, cbk 15 q = true := List.all_eq_true.mp (by decide +kernel)
set_option maxRecDepth 100000 in
theorem cb_16 : ∀ q ∈ bt_16, cbk 16 q = true := List.all_eq_true.mp (by decide +kernel)
set_option maxRecDepth 100000 in
theorem cb_17 : ∀ q ∈ bt_17, cbk 17 q = true := List.all_eq_true.mp (by decide +kernel)
set_option maxRecDepth 100000 in
theorem cb_18 : ∀ q ∈ bt_18, cbk 18 q = true := List.all_eq_true.mp (by decide +kernel)
set_option maxRecDepth 100000 in
theorem cb_19 : ∀ q ∈ bt_19, cbk 19 q = true := List.all_eq_true.mp (by decide +kernel)
set_option maxRecDepth 100000 in
theorem cb_20 : ∀ q ∈ bt_20, cbk 20 q = true := List.all_eq_true.mp (by decide +kernel)
set_option maxRecDepth 100000 in
theorem cb_21 : ∀ q ∈ bt_21, cbk 21 q = true := List.all_eq_true.mp (by decide +kernel)
set_option maxRecDepth 100000 in
theorem cb_22 : ∀ q ∈ bt_22, cbk 22 q = true := List.all_eq_true.mp (by decide +kernel)
set_option maxRecDepth 100000 in
theorem cb_23 : ∀ q ∈ bt_23, cbk 23 q = true := List.all_eq_true.mp (by decide +kernel)
set_option maxRecDepth 100000 in
theorem cb_24 : ∀ q ∈ bt_24, cbk 24 q = true := List.all_eq_true.mp (by decide +kernel)
set_option maxRecDepth 100000 in
theorem cb_25 : ∀ q ∈ bt_25, cbk 25 q = true := List.all_eq_true.mp (by decide +kernel)
set_option maxRecDepth 100000 in
theorem cb_26 : ∀ q ∈ bt_26, cbk 26 q = true := List.all_eq_true.mp (by decide +kernel)
set_option maxRecDepth 100000 in
theorem cb_27 : ∀ q ∈ bt_27, cbk 27 q = true := List.all_eq_true.mp (by decide +kernel)
set_option maxRecDepth 100000 in
theorem cb_28 : ∀ q ∈ bt_28, cbk 28 q = true := List.all_eq_true.mp (by decide +kernel)
set_option maxRecDepth 100000 in
theorem cb_29 : ∀ q ∈ bt_29, cbk 29 q = true := List.all_eq_true.mp (by decide +kernel)
set_option maxRecDepth 100000 in
theorem cb_30 : ∀ q ∈ bt_30, cbk 30 q = true := List.all_eq_true.mp (by decide +kernel)
set_option maxRecDepth 100000 in
theorem cb_31 : ∀ q ∈ bt_31, cbk 31 q = true := List.all_eq_true.mp (by decide +kernel)
set_option maxRecDepth 100000 in
theorem cb_32 : ∀ q ∈ bt_32, cbk 32 q = true := List.all_eq_true.mp (by decide +kernel)
set_option maxRecDepth 100000 in
theorem cb_33 : ∀ q ∈ bt_33, cbk 33 q = true := List.all_eq_true.mp (by decide +kernel)
set_option maxRecDepth 100000 in
theorem cb_34 : ∀ q ∈ bt_34, cbk 34 q = true := List.all_eq_true.mp (by decide +kernel)
set_option maxRecDepth 100000 in
theorem cb_35 : ∀ q ∈ bt_35, cbk 35 q = true := List.all_eq_true.mp (by decide +kernel)
set_option maxRecDepth 100000 in
theorem cb_36 : ∀ q ∈ bt_36, cbk 36 q = true := List.all_eq_true.mp (by decide +kernel)
set_option maxRecDepth 100000 in
theorem cb_37 : ∀ q ∈ bt_37, cbk 37 q = true := List.all_eq_true.mp (by decide +kernel)
set_option maxRecDepth 100000 in
theorem cb_38 : ∀ q ∈ bt_38, cbk 38 q = true := List.all_eq_true.mp (by decide +kernel)
set_option maxRecDepth 100000 in
theorem cb_39 : ∀ q ∈ bt_39, cbk 39 q = true := List.all_eq_true.mp (by decide +kernel)
set_option maxRecDepth 100000 in
theorem cb_40 : ∀ q ∈ bt_40, cbk 40 q = true := List.all_eq_true.mp (by decide +kernel)
set_option maxRecDepth 100000 in
theorem cb_41 : ∀ q ∈ bt_41, cbk 41 q = true := List.all_eq_true.mp (by decide +kernel)
set_option maxRecDepth 100000 in
theorem cb_42 : ∀ q ∈ bt_42, cbk 42 q = true := List.all_eq_true.mp (by decide +kernel)
set_option maxRecDepth 100000 in
theorem cb_43 : ∀ q ∈ bt_43, cbk 43 q = true := List.all_eq_true.mp (by decide +kernel)
set_option maxRecDepth 100000 in
theorem cb_44 : ∀ q ∈ bt_44, cbk 44 q = true := List.all_eq_true.mp (by decide +kernel)
set_option maxRecDepth 100000 in
theorem cb_45 : ∀ q ∈ bt_45, cbk 45 q = true := List.all_eq_true.mp (by decide +kernel)
set_option maxRecDepth 100000 in
theorem cb_46 : ∀ q ∈ bt_46, cbk 46 q = true := List.all_eq_true.mp (by decide +kernel)
set_option maxRecDepth 100000 in
theorem cb_47 : ∀ q ∈ bt_47, cbk 47 q = true := List.all_eq_true.mp (by decide +kernel)
set_option maxRecDepth 100000 in
theorem cb_48 : ∀ q ∈ bt_48, cbk 48 q = true := List.all_eq_true.mp (by decide +kernel)
set_option maxRecDepth 100000 in
theorem cb_49 : ∀ q ∈ bt_49, cbk 49 q = true := List.all_eq_true.mp (by decide +kernel)
set_option maxRecDepth 100000 in
theorem cb_50 : ∀ q ∈ bt_50, cbk 50 q = true := List.all_eq_true.mp (by decide +kernel)
set_option maxRecDepth 100000 in
theorem cb_51 : ∀ q ∈ bt_51, cbk 51 q = true := List.all_eq_true.mp (by decide +kernel)
set_option maxRecDepth 100000 in
theorem cb_52 : ∀ q ∈ bt_52, cbk 52 q = true := List.all_eq_true.mp (by decide +kernel)
set_option maxRecDepth 100000 in
theorem cb_53 : ∀ q ∈ bt_53, cbk 53 q = true := List.all_eq_true.mp (by decide +kernel)
set_option maxRecDepth 100000 in
theorem cb_54 : ∀ q ∈ bt_54, cbk 54 q = true := List.all_eq_true.mp (by decide +kernel)
set_option maxRecDepth 100000 in
theorem cb_55 : ∀ q ∈ bt_55, cbk 55 q = true := List.all_eq_true.mp (by decide +kernel)
set_option maxRecDepth 100000 in
theorem cb_56 : ∀ q ∈ bt_56, cbk 56 q = true := List.all_eq_true.mp (by decide +kernel)
set_option maxRecDepth 100000 in
theorem cb_57 : ∀ q ∈ bt_57, cbk 57 q = true := List.all_eq_true.mp (by decide +kernel)
set_option maxRecDepth 100000 in
theorem cb_58 : ∀ q ∈ bt_58, cbk 58 q = true := List.all_eq_true.mp (by decide +kernel)
set_option maxRecDepth 100000 in
theorem cb_59 : ∀ q ∈ bt_59, cbk 59 q = true := List.all_eq_true.mp (by decide +kernel)
set_option maxRecDepth 100000 in
theorem cb_60 : ∀ q ∈ bt_60, cbk 60 q = true := List.all_eq_true.mp (by decide +kernel)
set_option maxRecDepth 100000 in
theorem cb_61 : ∀ q ∈ bt_61, cbk 61 q = true := List.all_eq_true.mp (by decide +kernel)
set_option maxRecDepth 100000 in
theorem cb_62 : ∀ q ∈ bt_62, cbk 62 q = true := List.all_eq_true.mp (by decide +kernel)
set_option maxRecDepth 100000 in
theorem cb_63 : ∀ q ∈ bt_63, cbk 63 q = true := List.all_eq_true.mp (by decide +kernel)
set_option maxRecDepth 100000 in
theorem cb_64 : ∀ q ∈ bt_64, cbk 64 q = true := List.all_eq_true.mp (by decide +kernel)
set_option maxRecDepth 100000 in
theorem cb_65 : ∀ q ∈ bt_65, cbk 65 q = true := List.all_eq_true.mp (by decide +kernel)
set_option maxRecDepth 100000 in
theorem cb_66 : ∀ q ∈ bt_66, cbk 66 q = true := List.all_eq_true.mp (by decide +kernel)
set_option maxRecDepth 100000 in
theorem cb_67 : ∀ q ∈ bt_67, cbk 67 q = true := List.all_eq_true.mp (by decide +kernel)
set_option maxRecDepth 100000 in
theorem cb_68 : ∀ q ∈ bt_68, cbk 68 q = true := List.all_eq_true.mp (by decide +kernel)
set_option maxRecDepth 100000 in
theorem cb_69 : ∀ q ∈ bt_69, cbk 69 q = true := List.all_eq_true.mp (by decide +kernel)
set_option maxRecDepth 100000 in
theorem cb_70 : ∀ q ∈ bt_70, cbk 70 q = true := List.all_eq_true.mp (by decide +kernel)
set_option maxRecDepth 100000 in
theorem cb_71 : ∀ q ∈ bt_71, cbk 71 q = true := List.all_eq_true.mp (by decide +kernel)
set_option maxRecDepth 100000 in
theorem cb_72 : ∀ q ∈ bt_72, cbk 72 q = true := List.all_eq_true.mp (by decide +kernel)
set_option maxRecDepth 100000 in
theorem cb_73 : ∀ q ∈ bt_73, cbk 73 q = true := List.all_eq_true.mp (by decide +kernel)
set_option maxRecDepth 100000 in
theorem cb_74 : ∀ q ∈ bt_74, cbk 74 q = true := List.all_eq_true.mp (by decide +kernel)
set_option maxRecDepth 100000 in
theorem cb_75 : ∀ q ∈ bt_75, cbk 75 q = true := List.all_eq_true.mp (by decide +kernel)
set_option maxRecDepth 100000 in
theorem cb_76 : ∀ q ∈ bt_76, cbk 76 q = true := List.all_eq_true.mp (by decide +kernel)
set_option maxRecDepth 100000 in
theorem cb_77 : ∀ q ∈ bt_77, cbk 77 q = true := List.all_eq_true.mp (by decide +kernel)
set_option maxRecDepth 100000 in
theorem cb_78 : ∀ q ∈ bt_78, cbk 78 q = true := List.all_eq_true.mp (by decide +kernel)
set_option maxRecDepth 100000 in
theorem cb_79 : ∀ q ∈ bt_79, cbk 79 q = true := List.all_eq_true.mp (by decide +kernel)
set_option maxRecDepth 100000 in
theorem cb_80 : ∀ q ∈ bt_80, cbk 80 q = true := List.all_eq_true.mp (by decide +kernel)
set_option maxRecDepth 100000 in
theorem cb_81 : ∀ q ∈ bt_81, cbk 81 q = true := List.all_eq_true.mp (by decide +kernel)
set_option maxRecDepth 100000 in
theorem cb_82 : ∀ q ∈ bt_82, cbk 82 q = true := List.all_eq_true.mp (by decide +kernel)
set_option maxRecDepth 100000 in
theorem cb_83 : ∀ q ∈ bt_83, cbk 83 q = true := List.all_eq_true.mp (by decide +kernel)
set_option maxRecDepth 100000 in
theorem cb_84 : ∀ q ∈ bt_84, cbk 84 q = true := List.all_eq_true.mp (by decide +kernel)
set_option maxRecDepth 100000 in
theorem cb_85 : ∀ q ∈ bt_85, cbk 85 q = true := List.all_eq_true.mp (by decide +kernel)
set_option maxRecDepth 100000 in
theorem cb_86 : ∀ q ∈ bt_86, cbk 86 q = true := List.all_eq_true.mp (by decide +kernel)
set_option maxRecDepth 100000 in
theorem cb_87 : ∀ q ∈ bt_87, cbk 87 q = true := List.all_eq_true.mp (by decide +kernel)
set_option maxRecDepth 100000 in
theorem cb_88 : ∀ q ∈ bt_88, cbk 88 q = true := List.all_eq_true.mp (by decide +kernel)
set_option maxRecDepth 100000 in
theorem cb_89 : ∀ q ∈ bt_89, cbk 89 q = true := List.all_eq_true.mp (by decide +kernel)
set_option maxRecDepth 100000 in
theorem cb_90 : ∀ q ∈ bt_90, cbk 90 q = true := List.all_eq_true.mp (by decide +kernel)
set_option maxRecDepth 100000 in
theorem cb_91 : ∀ q ∈ bt_91, cbk 91 q = true := List.all_eq_true.mp (by decide +kernel)
set_option maxRecDepth 100000 in
theorem cb_92 : ∀ q ∈ bt_92, cbk 92 q = true := List.all_eq_true.mp (by decide +kernel)
set_option maxRecDepth 100000 in
theorem cb_93 : ∀ q ∈ bt_93, cbk 93 q = true := List.all_eq_true.mp (by decide +kernel)
set_option maxRecDepth 100000 in
theorem cb_94 : ∀ q ∈ bt_94, cbk 94 q = true := List.all_eq_true.mp (by decide +kernel)
set_option maxRecDepth 100000 in
theorem cb_95 : ∀ q ∈ bt_95, cbk 95 q = true := List.all_eq_true.mp (by decide +kernel)
set_option maxRecDepth 100000 in
theorem cb_96 : ∀ q ∈ bt_96, cbk 96 q = true := List.all_eq_true.mp (by decide +kernel)
set_option maxRecDepth 100000 in
theorem cb_97 : ∀ q ∈ bt_97, cbk 97 q = true := List.all_eq_true.mp (by decide +kernel)
set_option maxRecDepth 100000 in
theorem cb_98 : ∀ q ∈ bt_98, cbk 98 q = true := List.all_eq_true.mp (by decide +kernel)
set_option maxRecDepth 100000 in
theorem cb_99 : ∀ q ∈ bt_99, cbk 99 q = true := List.all_eq_true.mp (by decide +kernel)
set_option maxRecDepth 100000 in
theorem cb_100 : ∀ q ∈ bt_100, cbk 100 q = true := List.all_eq_true.mp (by decide +kernel)
set_option maxRecDepth 100000 in
theorem cb_101 : ∀ q ∈ bt_101, cbk 101 q = true := List.all_eq_true.mp (by decide +kernel)
set_option maxRecDepth 100000 in
theorem cb_102 : ∀ q ∈ bt_102, cbk 102 q = true := List.all_eq_true.mp (by decide +kernel)
set_option maxRecDepth 100000 in
theorem cb_103 : ∀ q ∈ bt_103, cbk 103 q = true := List.all_eq_true.mp (by decide +kernel)
set_option maxRecDepth 100000 in
theorem cb_104 : ∀ q ∈ bt_104, cbk 104 q = true := List.all_eq_true.mp (by decide +kernel)
set_option maxRecDepth 100000 in
theorem cb_105 : ∀ q ∈ bt_105, cbk 105 q = true := List.all_eq_true.mp (by decide +kernel)
set_option maxRecDepth 100000 in
theorem cb_106 : ∀ q ∈ bt_106, cbk 106 q = true := List.all_eq_true.mp (by decide +kernel)
set_option maxRecDepth 100000 in
theorem cb_107 : ∀ q ∈ bt_107, cbk 107 q = true := List.all_eq_true.mp (by decide +kernel)
set_option maxRecDepth 100000 in
theorem cb_108 : ∀ q ∈ bt_108, cbk 108 q = true := List.all_eq_true.mp (by decide +kernel)
set_option maxRecDepth 100000 in
theorem cb_109 : ∀ q ∈ bt_109, cbk 109 q = true := List.all_eq_true.mp (by decide +kernel)
set_option maxRecDepth 100000 in
theorem cb_110 : ∀ q ∈ bt_110, cbk 110 q = true := List.all_eq_true.mp (by decide +kernel)
set_option maxRecDepth 100000 in
theorem cb_111 : ∀ q ∈ bt_111, cbk 111 q = true := List.all_eq_true.mp (by decide +kernel)
set_option maxRecDepth 100000 in
theorem cb_112 : ∀ q ∈ bt_112, cbk 112 q = true := List.all_eq_true.mp (by decide +kernel)
set_option maxRecDepth 100000 in
theorem cb_113 : ∀ q ∈ bt_113, cbk 113 q = true := List.all_eq_true.mp (by decide +kernel)
set_option maxRecDepth 100000 in
theorem cb_114 : ∀ q ∈ bt_114, cbk 114 q = true := List.all_eq_true.mp (by decide +kernel)
set_option maxRecDepth 100000 in
theorem cb_115 : ∀ q ∈ bt_115, cbk 115 q = true := List.all_eq_true.mp (by decide +kernel)
set_option maxRecDepth 100000 in
theorem cb_116 : ∀ q ∈ bt_116, cbk 116 q = true := List.all_eq_true.mp (by decide +kernel)
set_option maxRecDepth 100000 in
theorem cb_117 : ∀ q ∈ bt_117, cbk 117 q = true := List.all_eq_true.mp (by decide +kernel)
set_option maxRecDepth 100000 in
theorem cb_118 : ∀ q ∈ bt_118, cbk 118 q = true := List.all_eq_true.mp (by decide +kernel)
set_option maxRecDepth 100000 in
theorem cb_119 : ∀ q ∈ bt_119, cbk 119 q = true := List.all_eq_true.mp (by decide +kernel)
set_option maxRecDepth 100000 in
theorem cb_120 : ∀ q ∈ bt_120, cbk 120 q = true := List.all_eq_true.mp (by decide +kernel)
set_option maxRecDepth 100000 in
theorem cb_121 : ∀ q ∈ bt_121, cbk 121 q = true := List.all_eq_true.mp (by decide +kernel)
set_option maxRecDepth 100000 in
theorem cb_122 : ∀ q ∈ bt_122, cbk 122 q = true := List.all_eq_true.mp (by decide +kernel)
set_option maxRecDepth 100000 in
theorem cb_123 : ∀ q ∈ bt_123, cbk 123 q = true := List.all_eq_true.mp (by decide +kernel)
set_option maxRecDepth 100000 in
theorem cb_124 : ∀ q ∈ bt_124, cbk 124 q = true := List.all_eq_true.mp (by decide +kernel)
set_option maxRecDepth 100000 in
theorem cb_125 : ∀ q ∈ bt_125, cbk 125 q = true := List.all_eq_true.mp (by decide +kernel)
set_option maxRecDepth 100000 in
theorem cb_126 : ∀ q ∈ bt_126, cbk 126 q = true := List.all_eq_true.mp (by decide +kernel)
set_option maxRecDepth 100000 in
theorem cb_127 : ∀ q ∈ bt_127, cbk 127 q = true := List.all_eq_true.mp (by decide +kernel)
set_option maxRecDepth 100000 in
theorem cb_128 : ∀ q ∈ bt_128, cbk 128 q = true := List.all_eq_true.mp (by decide +kernel)
set_option maxRecDepth 100000 in
theorem cb_129 : ∀ q ∈ bt_129, cbk 129 q = true := List.all_eq_true.mp (by decide +kernel)
set_option maxRecDepth 100000 in
theorem cb_130 : ∀ q ∈ bt_130, cbk 130 q = true := List.all_eq_true.mp (by decide +kernel)
set_option maxRecDepth 100000 in
theorem cb_131 : ∀ q ∈ bt_131, cbk 131 q = true := List.all_eq_true.mp (by decide +kernel)
set_option maxRecDepth 100000 in
theorem cb_132 : ∀ q ∈ bt_132, cbk 132 q = true := List.all_eq_true.mp (by decide +kernel)
set_option maxRecDepth 100000 in
theorem cb_133 : ∀ q ∈ bt_133, cbk 133 q = true := List.all_eq_true.mp (by decide +kernel)
set_option maxRecDepth 100000 in
theorem cb_134 : ∀ q ∈ bt_134, cbk 134 q = true := List.all_eq_true.mp (by decide +kernel)
set_option maxRecDepth 100000 in
theorem cb_135 : ∀ q ∈ bt_135, cbk 135 q = true := List.all_eq_true.mp (by decide +kernel)
set_option maxRecDepth 100000 in
theorem cb_136 : ∀ q ∈ bt_136, cbk 136 q = true := List.all_eq_true.mp (by decide +kernel)
set_option maxRecDepth 100000 in
theorem cb_137 : ∀ q ∈ bt_137, cbk 137 q = true := List.all_eq_true.mp (by decide +kernel)
set_option maxRecDepth 100000 in
theorem cb_138 : ∀ q ∈ bt_138, cbk 138 q = true := List.all_eq_true.mp (by decide +kernel)
set_option maxRecDepth 100000 in
theorem cb_139 : ∀ q ∈ bt_139, cbk 139 q = true := List.all_eq_true.mp (by decide +kernel)
set_option maxRecDepth 100000 in
theorem cb_140 : ∀ q ∈ bt_140, cbk 140 q = true := List.all_eq_true.mp (by decide +kernel)
set_option maxRecDepth 100000 in
theorem cb_141 : ∀ q ∈ bt_141, cbk 141 q = true := List.all_eq_true.mp (by decide +kernel)
set_option maxRecDepth 100000 in
theorem cb_142 : ∀ q ∈ bt_142, cbk 142 q = true := List.all_eq_true.mp (by decide +kernel)
set_option maxRecDepth 100000 in
theorem cb_143 : ∀ q ∈ bt_143, cbk 143 q = true := List.all_eq_true.mp (by decide +kernel)
set_option maxRecDepth 100000 in
theorem cb_144 : ∀ q ∈ bt_144, cbk 144 q = true := List.all_eq_true.mp (by decide +kernel)
set_option maxRecDepth 100000 in
theorem cb_145 : ∀ q ∈ bt_145, cbk 145 q = true := List.all_eq_true.mp (by decide +kernel)
set_option maxRecDepth 100000 in
theorem cb_146 : ∀ q ∈ bt_146, cbk 146 q = true := List.all_eq_true.mp (by decide +kernel)
set_option maxRecDepth 100000 in
theorem cb_147 : ∀ q ∈ bt_147, cbk 147 q = true := List.all_eq_true.mp (by decide +kernel)
set_option maxRecDepth 100000 in
theorem cb_148 : ∀ q ∈ bt_148, cbk 148 q = true := List.all_eq_true.mp (by decide +kernel)
set_option maxRecDepth 100000 in
theorem cb_149 : ∀ q ∈ bt_149, cbk 149 q = true := List.all_eq_true.mp (by decide +kernel)
set_option maxRecDepth 100000 in
theorem cb_150 : ∀ q ∈ bt_150, cbk 150 q = true := List.all_eq_true.mp (by decide +kernel)
set_option maxRecDepth 100000 in
theorem cb_151 : ∀ q ∈ bt_151, cbk 151 q = true := List.all_eq_true.mp (by decide +kernel)
set_option maxRecDepth 100000 in
theorem cb_152 : ∀ q ∈ bt_152, cbk 152 q = true := List.all_eq_true.mp (by decide +kernel)
set_option maxRecDepth 100000 in
theorem cb_153 : ∀ q ∈ bt_153, cbk 153 q = true := List.all_eq_true.mp (by decide +kernel)
set_option maxRecDepth 100000 in
theorem cb_154 : ∀ q ∈ bt_154, cbk 154 q = true := List.all_eq_true.mp (by decide +kernel)
set_option maxRecDepth 100000 in
theorem cb_155 : ∀ q ∈ bt_155, cbk 155 q = true := List.all_eq_true.mp (by decide +kernel)
set_option maxRecDepth 100000 in
theorem cb_156 : ∀ q ∈ bt_156, cbk 156 q = true := List.all_eq_true.mp (by decide +kernel)
set_option maxRecDepth 100000 in
theorem cb_157 : ∀ q ∈ bt_157, cbk 157 q = true := List.all_eq_true.mp (by decide +kernel)
set_option maxRecDepth 100000 in
theorem cb_158 : ∀ q ∈ bt_158, cbk 158 q = true := List.all_eq_true.mp (by decide +kernel)
set_option maxRecDepth 100000 in
theorem cb_159 : ∀ q ∈ bt_159, cbk 159 q = true := List.all_eq_true.mp (by decide +kernel)
set_option maxRecDepth 100000 in
theorem cb_160 : ∀ q ∈ bt_160, cbk 160 q = true := List.all_eq_true.mp (by decide +kernel)
set_option maxRecDepth 100000 in
theorem cb_161 : ∀ q ∈ bt_161, cbk 161 q = true := List.all_eq_true.mp (by decide +kernel)
set_option maxRecDepth 100000 in
theorem cb_162 : ∀ q ∈ bt_162, cbk 162 q = true := List.all_eq_true.mp (by decide +kernel)
set_option maxRecDepth 100000 in
theorem cb_163 : ∀ q ∈ bt_163, cbk 163 q = true := List.all_eq_true.mp (by decide +kernel)
set_option maxRecDepth 100000 in
theorem cb_164 : ∀ q ∈ bt_164, cbk 164 q = true := List.all_eq_true.mp (by decide +kernel)
set_option maxRecDepth 100000 in
theorem cb_165 : ∀ q ∈ bt_165, cbk 165 q = true := List.all_eq_true.mp (by decide +kernel)
set_option maxRecDepth 100000 in
theorem cb_166 : ∀ q ∈ bt_166, cbk 166 q = true := List.all_eq_true.mp (by decide +kernel)
set_option maxRecDepth 100000 in
theorem cb_167 : ∀ q ∈ bt_167, cbk 167 q = true := List.all_eq_true.mp (by decide +kernel)
set_option maxRecDepth 100000 in
theorem cb_168 : ∀ q ∈ bt_168, cbk 168 q = true := List.all_eq_true.mp (by decide +kernel)
set_option maxRecDepth 100000 in
theorem cb_169 : ∀ q ∈ bt_169, cbk 169 q = true := List.all_eq_true.mp (by decide +kernel)
set_option maxRecDepth 100000 in
theorem cb_170 : ∀ q ∈ bt_170, cbk 170 q = true := List.all_eq_true.mp (by decide +kernel)
set_option maxRecDepth 100000 in
theorem cb_171 : ∀ q ∈ bt_171, cbk 171 q = true := List.all_eq_true.mp (by decide +kernel)
set_option maxRecDepth 100000 in
theorem cb_172 : ∀ q ∈ bt_172, cbk 172 q = true := List.all_eq_true.mp (by decide +kernel)
set_option maxRecDepth 100000 in
theorem cb_173 : ∀ q ∈ bt_173, cbk 173 q = true := List.all_eq_true.mp (by decide +kernel)
set_option maxRecDepth 100000 in
theorem cb_174 : ∀ q ∈ bt_174, cbk 174 q = true := List.all_eq_true.mp (by decide +kernel)
set_option maxRecDepth 100000 in
theorem cb_175 : ∀ q ∈ bt_175, cbk 175 q = true := List.all_eq_true.mp (by decide +kernel)
set_option maxRecDepth 100000 in
theorem cb_176 : ∀ q ∈ bt_176, cbk 176 q = true := List.all_eq_true.mp (by decide +kernel)
set_option maxRecDepth 100000 in
theorem cb_177 : ∀ q ∈ bt_177, cbk 177 q = true := List.all_eq_true.mp (by decide +kernel)
set_option maxRecDepth 100000 in
theorem cb_178 : ∀ q ∈ bt_178, cbk 178 q = true := List.all_eq_true.mp (by decide +kernel)
set_option maxRecDepth 100000 in
theorem cb_179 : ∀ q ∈ bt_179, cbk 179 q = true := List.all_eq_true.mp (by decide +kernel)
set_option maxRecDepth 100000 in
theorem cb_180 : ∀ q ∈ bt_180, cbk 180 q = true := List.all_eq_true.mp (by decide +kernel)
set_option maxRecDepth 100000 in
theorem cb_181 : ∀ q ∈ bt_181, cbk 181 q = true := List.all_eq_true.mp (by decide +kernel)
set_option maxRecDepth 100000 in
theorem cb_182 : ∀ q ∈ bt_182, cbk 182 q = true := List.all_eq_true.mp (by decide +kernel)
set_option maxRecDepth 100000 in
theorem cb_183 : ∀ q ∈ bt_183, cbk 183 q = true := List.all_eq_true.mp (by decide +kernel)
set_option maxRecDepth 100000 in
theorem cb_184 : ∀ q ∈ bt_184, cbk 184 q = true := List.all_eq_true.mp (by decide +kernel)
set_option maxRecDepth 100000 in
theorem cb_185 : ∀ q ∈ bt_185, cbk 185 q = true := List.all_eq_true.mp (by decide +kernel)
set_option maxRecDepth 100000 in
theorem cb_186 : ∀ q ∈ bt_186, cbk 186 q = true := List.all_eq_true.mp (by decide +kernel)
set_option maxRecDepth 100000 in
theorem cb_187 : ∀ q ∈ bt_187, cbk 187 q = true := List.all_eq_true.mp (by decide +kernel)
set_option maxRecDepth 100000 in
theorem cb_188 : ∀ q ∈ bt_188, cbk 188 q = true := List.all_eq_true.mp (by decide +kernel)
set_option maxRecDepth 100000 in
theorem cb_189 : ∀ q ∈ bt_189, cbk 189 q = true := List.all_eq_true.mp (by decide +kernel)
set_option maxRecDepth 100000 in
theorem cb_190 : ∀ q ∈ bt_190, cbk 190 q = true := List.all_eq_true.mp (by decide +kernel)
set_option maxRecDepth 100000 in
theorem cb_191 : ∀ q ∈ bt_191, cbk 191 q = true := List.all_eq_true.mp (by decide +kernel)
set_option maxRecDepth 100000 in
theorem cb_192 : ∀ q ∈ bt_192, cbk 192 q = true := List.all_eq_true.mp (by decide +kernel)
set_option maxRecDepth 100000 in
theorem cb_193 : ∀ q ∈ bt_193, cbk 193 q = true := List.all_eq_true.mp (by decide +kernel)
set_option maxRecDepth 100000 in
theorem cb_194 : ∀ q ∈ bt_194, cbk 194 q = true := List.all_eq_true.mp (by decide +kernel)
set_option maxRecDepth 100000 in
theorem cb_195 : ∀ q ∈ bt_195, cbk 195 q = true := List.all_eq_true.mp (by decide +kernel)
set_option maxRecDepth 100000 in
theorem cb_196 : ∀ q ∈ bt_196, cbk 196 q = true := List.all_eq_true.mp (by decide +kernel)
set_option maxRecDepth 100000 in
theorem cb_197 : ∀ q ∈ bt_197, cbk 197 q = true := List.all_eq_true.mp (by decide +kernel)
set_option maxRecDepth 100000 in
theorem cb_198 : ∀ q ∈ bt_198, cbk 198 q = true := List.all_eq_true.mp (by decide +kernel)
set_option maxRecDepth 100000 in
set_option maxRecDepth 100000 in
theorem cb_199_0 : cbk 199 (0, k_law_law_0) = true := by decide +kernel
set_option maxRecDepth 100000 in
theorem cb_199_18 : cbk 199 (18, k_law_law_18) = true := by decide +kernel
set_option maxRecDepth 100000 in
theorem cb_199_152 : cbk 199 (152, k_law_law_152) = true := by decide +kernel
set_option maxRecDepth 100000 in
theorem cb_199_215 : cbk 199 (215, k_law_law_215) = true := by decide +kernel
set_option maxRecDepth 100000 in
theorem cb_199_238 : cbk 199 (238, k_law_law_238) = true := by decide +kernel
set_option maxRecDepth 100000 in
theorem cb_199_291 : cbk 199 (291, k_law_law_291) = true := by decide +kernel
set_option maxRecDepth 100000 in
theorem cb_199_304 : cbk 199 (304, k_law_law_304) = true := by decide +kernel
set_option maxRecDepth 100000 in
theorem cb_199_367 : cbk 199 (367, k_law_law_367) = true := by decide +kernel
set_option maxRecDepth 100000 in
theorem cb_199_380 : cbk 199 (380, k_law_law_380) = true := by decide +kernel
set_option maxRecDepth 100000 in
theorem cb_199_381 : cbk 199 (381, k_law_law_381) = true := by decide +kernel
set_option maxRecDepth 100000 in
theorem cb_199_397 : cbk 199 (397, k_law_law_397) = true := by decide +kernel
set_option maxRecDepth 100000 in
theorem cb_199_398 : cbk 199 (398, k_law_law_398) = true := by decide +kernel
set_option maxRecDepth 100000 in
theorem cb_199_406 : cbk 199 (406, k_law_law_406) = true := by decide +kernel
set_option maxRecDepth 100000 in
theorem cb_199_419 : cbk 199 (419, k_law_law_419) = true := by decide +kernel
set_option maxRecDepth 100000 in
theorem cb_199_420 : cbk 199 (420, k_law_law_420) = true := by decide +kernel
set_option maxRecDepth 100000 in
theorem cb_199_436 : cbk 199 (436, k_law_law_436) = true := by decide +kernel
set_option maxRecDepth 100000 in
theorem cb_199_437 : cbk 199 (437, k_law_law_437) = true := by decide +kernel
set_option maxRecDepth 100000 in
theorem cb_199_445 : cbk 199 (445, k_law_law_445) = true := by decide +kernel
set_option maxRecDepth 100000 in
theorem cb_199_468 : cbk 199 (468, k_law_law_468) = true := by decide +kernel
set_option maxRecDepth 100000 in
theorem cb_199_615 : cbk 199 (615, k_law_law_615) = true := by decide +kernel
set_option maxRecDepth 100000 in
theorem cb_199_762 : cbk 199 (762, k_law_law_762) = true := by decide +kernel
set_option maxRecDepth 100000 in
theorem cb_199_909 : cbk 199 (909, k_law_law_909) = true := by decide +kernel
set_option maxRecDepth 100000 in
theorem cb_199_942 : cbk 199 (942, k_law_law_942) = true := by decide +kernel
set_option maxRecDepth 100000 in
theorem cb_199_976 : cbk 199 (976, k_law_law_976) = true := by decide +kernel
set_option maxRecDepth 100000 in
theorem cb_199_1009 : cbk 199 (1009, k_law_law_1009) = true := by decide +kernel
set_option maxRecDepth 100000 in
theorem cb_199_1062 : cbk 199 (1062, k_law_law_1062) = true := by decide +kernel
set_option maxRecDepth 100000 in
theorem cb_199_1105 : cbk 199 (1105, k_law_law_1105) = true := by decide +kernel
set_option maxRecDepth 100000 in
theorem cb_199_1138 : cbk 199 (1138, k_law_law_1138) = true := by decide +kernel
set_option maxRecDepth 100000 in
theorem cb_199_1171 : cbk 199 (1171, k_law_law_1171) = true := by decide +kernel
set_option maxRecDepth 100000 in
theorem cb_199_1195 : cbk 199 (1195, k_law_law_1195) = true := by decide +kernel
set_option maxRecDepth 100000 in
theorem cb_199_1228 : cbk 199 (1228, k_law_law_1228) = true := by decide +kernel
set_option maxRecDepth 100000 in
theorem cb_199_1375 : cbk 199 (1375, k_law_law_1375) = true := by decide +kernel
set_option maxRecDepth 100000 in
theorem cb_199_1388 : cbk 199 (1388, k_law_law_1388) = true := by decide +kernel
set_option maxRecDepth 100000 in
theorem cb_199_1411 : cbk 199 (1411, k_law_law_1411) = true := by decide +kernel
set_option maxRecDepth 100000 in
theorem cb_199_1444 : cbk 199 (1444, k_law_law_1444) = true := by decide +kernel
set_option maxRecDepth 100000 in
theorem cb_199_1467 : cbk 199 (1467, k_law_law_1467) = true := by decide +kernel
set_option maxRecDepth 100000 in
theorem cb_199_1480 : cbk 199 (1480, k_law_law_1480) = true := by decide +kernel
set_option maxRecDepth 100000 in
theorem cb_199_1486 : cbk 199 (1486, k_law_law_1486) = true := by decide +kernel
theorem cb_199 : ∀ q ∈ bt_199, cbk 199 q = true := by
  unfold bt_199
  simp only [List.forall_mem_cons]
  exact ⟨cb_199_0, cb_199_18, cb_199_152, cb_199_215, cb_199_238, cb_199_291, cb_199_304, cb_199_367, cb_199_380, cb_199_381, cb_199_397, cb_199_398, cb_199_406, cb_199_419, cb_199_420, cb_199_436, cb_199_437, cb_199_445, cb_199_468, cb_199_615, cb_199_762, cb_199_909, cb_199_942, cb_199_976, cb_199_1009, cb_199_1062, cb_199_1105, cb_199_1138, cb_199_1171, cb_199_1195, cb_199_1228, cb_199_1375, cb_199_1388, cb_199_1411, cb_199_1444, cb_199_1467, cb_199_1480, cb_199_1486, fun _ h => absurd h List.not_mem_nil⟩
set_option maxRecDepth 100000 in
theorem cb_200 : ∀ q ∈ bt_200, cbk 200 q = true := List.all_eq_true.mp (by decide +kernel)
set_option maxRecDepth 100000 in
theorem cb_201 : ∀ q ∈ bt_201, cbk 201 q = true := List.all_eq_true.mp (by decide +kernel)
set_option maxRecDepth 100000 in
theorem cb_202 : ∀ q ∈ bt_202, cbk 202 q = true := List.all_eq_true.mp (by decide +kernel)
set_option maxRecDepth 100000 in
theorem cb_203 : ∀ q ∈ bt_203, cbk 203 q = true := List.all_eq_true.mp (by decide +kernel)
set_option maxRecDepth 100000 in
theorem cb_204 : ∀ q ∈ bt_204, cbk 204 q = true := List.all_eq_true.mp (by decide +kernel)
set_option maxRecDepth 100000 in
theorem cb_205 : ∀ q ∈ bt_205, cbk 205 q = true := List.all_eq_true.mp (by decide +kernel)
set_option maxRecDepth 100000 in
theorem cb_206 : ∀ q ∈ bt_206, cbk 206 q = true := List.all_eq_true.mp (by decide +kernel)
set_option maxRecDepth 100000 in
theorem cb_207 : ∀ q ∈ bt_207, cbk 207 q = true := List.all_eq_true.mp (by decide +kernel)
set_option maxRecDepth 100000 in
theorem cb_208 : ∀ q ∈ bt_208, cbk 208 q = true := List.all_eq_true.mp (by decide +kernel)
set_option maxRecDepth 100000 in
theorem cb_209 : ∀ q ∈ bt_209, cbk 209 q = true := List.all_eq_true.mp (by decide +kernel)
set_option maxRecDepth 100000 in
theorem cb_210 : ∀ q ∈ bt_210, cbk 210 q = true := List.all_eq_true.mp (by decide +kernel)
set_option maxRecDepth 100000 in
theorem cb_211 : ∀ q ∈ bt_211, cbk 211 q = true := List.all_eq_true.mp (by decide +kernel)
set_option maxRecDepth 100000 in
theorem cb_212 : ∀ q ∈ bt_212, cbk 212 q = true := List.all_eq_true.mp (by decide +kernel)
