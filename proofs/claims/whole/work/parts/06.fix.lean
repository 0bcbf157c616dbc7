/-! the cells that the two constructors make, by their order: their kinds, the references that stay -/
def kapL : List (Nat × Nat) := [(0, 15), (1, 2), (22, 200), (2, 2), (21, 8), (5, 7), (3, 4), (20, 201), (20, 201), (21, 201), (4, 6), (20, 200), (20, 200), (7, 8), (20, 61), (20, 61), (20, 61), (21, 61), (28, 61), (20, 488), (20, 61), (6, 7), (21, 200), (33, 6), (9, 12), (32, 6), (21, 40), (20, 40), (9, 12), (32, 6), (21, 40), (20, 40), (9, 12), (32, 6), (21, 40), (20, 40), (9, 12), (32, 6), (21, 40), (20, 40), (9, 12), (32, 6), (21, 40), (20, 40), (9, 12), (32, 6), (21, 40), (20, 40), (34, 4), (10, 2), (21, 6), (10, 2), (21, 6), (10, 2), (21, 6), (10, 2), (21, 6), (11, 62), (22, 200), (20, 160), (20, 160), (20, 13420), (21, 13420), (20, 366), (20, 366), (21, 200), (21, 4), (21, 8), (20, 61), (20, 61), (20, 61), (21, 61), (20, 488), (23, 488), (20, 6), (23, 366), (20, 6), (21, 108), (20, 36), (20, 6), (20, 6), (21, 240), (20, 240), (20, 6), (20, 6), (20, 6), (20, 4), (20, 4), (23, 1464)]
/-- the kinds that stay: 1 is the key words' row, from 3 on what is made -/
def kapS (a : Nat) : Option (Nat × Nat) := if a = 1 then some (20, 11) else if a < 3 then none else kapL[a - 3]?
def phiL : List (List (Option Nat)) := [[some 4, some 6, some 8, some 16, some 24, some 26, some 51], [some 5], [], [some 7], [], [some 9, some 13], [some 10, some 11, some 12], [], [], [], [some 14, some 15], [], [], [some 17, some 18, some 19, some 20, some 21, some 22, some 23], [], [], [], [], [], [], [], [some 25], [], [some 27, some 31, some 35, some 39, some 43, some 47], [none, none, none, some 28, none, some 29, some 30], [], [], [], [none, none, none, some 32, none, some 33, some 34], [], [], [], [none, none, none, some 36, none, some 37, some 38], [], [], [], [none, none, none, some 40, none, some 41, some 42], [], [], [], [none, none, none, some 44, none, some 45, some 46], [], [], [], [none, none, none, some 48, none, some 49, some 50], [], [], [], [some 52, some 54, some 56, some 58], [none, some 53], [], [none, some 55], [], [none, some 57], [], [none, some 59], [], [some 61, none, none, none, none, none, none, none, none, some 62, some 63, none, some 64, some 65, none, some 66, some 67, none, none, none, none, none, none, some 68, none, none, none, none, some 69, none, none, some 70, none, some 71, some 72, some 73, some 74, some 75, some 76, none, none, none, none, some 77, some 78, some 79, some 80, some 81, some 82, some 83, some 84, some 85, some 86, some 87, some 88, none, none, none, none, some 89, some 90, some 91], [], [], [], [], [], [], [], [], [], [], [], [], [], [], [], [], [], [], [], [], [], [], [], [], [], [], [], [], [], [], []]
def phiS (a k : Nat) : Option Nat := if a < 3 then none else ((phiL.getD (a - 3) []).getD k none)
abbrev nFix : Nat := 92
abbrev aX : Nat := 3
abbrev aM : Nat := 60
abbrev aX_text : Nat := 4
abbrev aX_names : Nat := 6
abbrev aX_reader : Nat := 8
abbrev aX_log : Nat := 16
abbrev aX_machine : Nat := 24
abbrev aX_allTasks : Nat := 26
abbrev aX_allMarks : Nat := 51
abbrev aText_bytes : Nat := 5
abbrev aNames_packed : Nat := 7
abbrev aReader_tokens : Nat := 9
abbrev aReader_draft : Nat := 13
abbrev aTokens_kinds : Nat := 10
abbrev aTokens_places : Nat := 11
abbrev aTokens_values : Nat := 12
abbrev aProgram_steps : Nat := 14
abbrev aProgram_details : Nat := 15
abbrev aLog_kinds : Nat := 17
abbrev aLog_rulesTold : Nat := 18
abbrev aLog_versionsBack : Nat := 19
abbrev aLog_times : Nat := 20
abbrev aLog_programs : Nat := 21
abbrev aLog_texts : Nat := 22
abbrev aLog_ons : Nat := 23
abbrev aMachine_stack : Nat := 25
abbrev aTask_waiting : Nat := 28
abbrev aTask_sums : Nat := 29
abbrev aTask_rulesOfSums : Nat := 30
abbrev aMark_offs : Nat := 53
abbrev aM_hand : Nat := 61
abbrev aM_pile : Nat := 62
abbrev aM_with : Nat := 63
abbrev aM_orders : Nat := 64
abbrev aM_numbers : Nat := 65
abbrev aM_begins : Nat := 66
abbrev aM_ends : Nat := 67
abbrev aM_values : Nat := 68
abbrev aM_outs : Nat := 69
abbrev aM_nameRows : Nat := 70
abbrev aM_kinds : Nat := 71
abbrev aM_whose : Nat := 72
abbrev aM_backTo : Nat := 73
abbrev aM_times : Nat := 74
abbrev aM_textOf : Nat := 75
abbrev aM_isOn : Nat := 76
abbrev aM_applied : Nat := 77
abbrev aM_offs : Nat := 78
abbrev aM_waits : Nat := 79
abbrev aM_waitRows : Nat := 80
abbrev aM_waitVersions : Nat := 81
abbrev aM_judged : Nat := 82
abbrev aM_outTold : Nat := 83
abbrev aM_outRows : Nat := 84
abbrev aM_outRules : Nat := 85
abbrev aM_failNumbers : Nat := 86
abbrev aM_failRules : Nat := 87
abbrev aM_failTexts : Nat := 88
abbrev aM_markVersions : Nat := 89
abbrev aM_markTasks : Nat := 90
abbrev aM_markOffs : Nat := 91
abbrev fX_text : Nat := 0
abbrev fX_names : Nat := 1
abbrev fX_reader : Nat := 2
abbrev fX_log : Nat := 3
abbrev fX_machine : Nat := 4
abbrev fX_allTasks : Nat := 5
abbrev fX_allMarks : Nat := 6
abbrev fX_taskCount : Nat := 7
abbrev fX_markCount : Nat := 8
abbrev fX_isAlike : Nat := 9
abbrev fX_isAsOf : Nat := 10
abbrev fX_latestFault : Nat := 11
abbrev fX_lostRows : Nat := 12
abbrev fX_judgedRows : Nat := 13
abbrev fX_failures : Nat := 14
abbrev fText_bytes : Nat := 0
abbrev fText_length : Nat := 1
abbrev fNames_packed : Nat := 0
abbrev fNames_size : Nat := 1
abbrev fTokens_kinds : Nat := 0
abbrev fTokens_places : Nat := 1
abbrev fTokens_values : Nat := 2
abbrev fTokens_size : Nat := 3
abbrev fProgram_steps : Nat := 0
abbrev fProgram_details : Nat := 1
abbrev fProgram_size : Nat := 2
abbrev fProgram_endOfBy : Nat := 3
abbrev fProgram_endOfTest : Nat := 4
abbrev fProgram_sums : Nat := 5
abbrev fReader_tokens : Nat := 0
abbrev fReader_draft : Nat := 1
abbrev fReader_name : Nat := 2
abbrev fReader_faultKind : Nat := 3
abbrev fReader_faultPlace : Nat := 4
abbrev fReader_cursor : Nat := 5
abbrev fReader_open : Nat := 6
abbrev fMachine_stack : Nat := 0
abbrev fMachine_top : Nat := 1
abbrev fMachine_k : Nat := 2
abbrev fMachine_t : Nat := 3
abbrev fMachine_v : Nat := 4
abbrev fMachine_n : Nat := 5
abbrev fMachine_failure : Nat := 6
abbrev fLog_kinds : Nat := 0
abbrev fLog_rulesTold : Nat := 1
abbrev fLog_versionsBack : Nat := 2
abbrev fLog_times : Nat := 3
abbrev fLog_programs : Nat := 4
abbrev fLog_texts : Nat := 5
abbrev fLog_ons : Nat := 6
abbrev fLog_size : Nat := 7
abbrev fRow_k : Nat := 0
abbrev fRow_t : Nat := 1
abbrev fRow_v : Nat := 2
abbrev fRow_version : Nat := 3
abbrev fTask_applied : Nat := 0
abbrev fTask_offs : Nat := 1
abbrev fTask_judged : Nat := 2
abbrev fTask_waiting : Nat := 3
abbrev fTask_waits : Nat := 4
abbrev fTask_sums : Nat := 5
abbrev fTask_rulesOfSums : Nat := 6
abbrev fTask_nextSum : Nat := 7
abbrev fTask_kept : Nat := 8
abbrev fTask_failure : Nat := 9
abbrev fTask_failedRule : Nat := 10
abbrev fTask_failedText : Nat := 11
abbrev fMark_version : Nat := 0
abbrev fMark_offs : Nat := 1
abbrev fM_hand : Nat := 0
abbrev fM_size : Nat := 1
abbrev fM_at : Nat := 2
abbrev fM_place : Nat := 3
abbrev fM_token : Nat := 4
abbrev fM_word : Nat := 5
abbrev fM_wrong : Nat := 6
abbrev fM_wrongPlace : Nat := 7
abbrev fM_open : Nat := 8
abbrev fM_pile : Nat := 9
abbrev fM_with : Nat := 10
abbrev fM_top : Nat := 11
abbrev fM_orders : Nat := 12
abbrev fM_numbers : Nat := 13
abbrev fM_code : Nat := 14
abbrev fM_begins : Nat := 15
abbrev fM_ends : Nat := 16
abbrev fM_nameOf : Nat := 17
abbrev fM_k : Nat := 18
abbrev fM_t : Nat := 19
abbrev fM_v : Nat := 20
abbrev fM_n : Nat := 21
abbrev fM_failure : Nat := 22
abbrev fM_values : Nat := 23
abbrev fM_many : Nat := 24
abbrev fM_hasBy : Nat := 25
abbrev fM_by : Nat := 26
abbrev fM_holds : Nat := 27
abbrev fM_outs : Nat := 28
abbrev fM_outMany : Nat := 29
abbrev fM_names : Nat := 30
abbrev fM_nameRows : Nat := 31
abbrev fM_changes : Nat := 32
abbrev fM_kinds : Nat := 33
abbrev fM_whose : Nat := 34
abbrev fM_backTo : Nat := 35
abbrev fM_times : Nat := 36
abbrev fM_textOf : Nat := 37
abbrev fM_isOn : Nat := 38
abbrev fM_lastFault : Nat := 39
abbrev fM_isAlike : Nat := 40
abbrev fM_isAsOf : Nat := 41
abbrev fM_tasks : Nat := 42
abbrev fM_applied : Nat := 43
abbrev fM_offs : Nat := 44
abbrev fM_waits : Nat := 45
abbrev fM_waitRows : Nat := 46
abbrev fM_waitVersions : Nat := 47
abbrev fM_judged : Nat := 48
abbrev fM_outTold : Nat := 49
abbrev fM_outRows : Nat := 50
abbrev fM_outRules : Nat := 51
abbrev fM_failNumbers : Nat := 52
abbrev fM_failRules : Nat := 53
abbrev fM_failTexts : Nat := 54
abbrev fM_lost : Nat := 55
abbrev fM_judgedAll : Nat := 56
abbrev fM_failedAll : Nat := 57
abbrev fM_marks : Nat := 58
abbrev fM_markVersions : Nat := 59
abbrev fM_markTasks : Nat := 60
abbrev fM_markOffs : Nat := 61
/-- who may write where: x its own cells and what it makes later; m its own -/
def wX (a : Nat) : Bool := (decide (3 ≤ a) && decide (a < 60)) || decide (92 ≤ a)
def wM (a : Nat) : Bool := decide (60 ≤ a) && decide (a < 92)
def GX : GB := (phiS, kapS, wX)
def GM : GB := (phiS, kapS, wM)
def GA : GB := (phiS, kapS, fun a => decide (3 ≤ a))
theorem KX_3 (h : AH) : knd GX h 3 = (0, 15) := rfl
theorem OX_3 : GX.2.2 3 = true := rfl
theorem KX_4 (h : AH) : knd GX h 4 = (1, 2) := rfl
theorem OX_4 : GX.2.2 4 = true := rfl
theorem KX_5 (h : AH) : knd GX h 5 = (22, 200) := rfl
theorem OX_5 : GX.2.2 5 = true := rfl
theorem KX_6 (h : AH) : knd GX h 6 = (2, 2) := rfl
theorem OX_6 : GX.2.2 6 = true := rfl
theorem KX_7 (h : AH) : knd GX h 7 = (21, 8) := rfl
theorem OX_7 : GX.2.2 7 = true := rfl
theorem KX_8 (h : AH) : knd GX h 8 = (5, 7) := rfl
theorem OX_8 : GX.2.2 8 = true := rfl
theorem KX_9 (h : AH) : knd GX h 9 = (3, 4) := rfl
theorem OX_9 : GX.2.2 9 = true := rfl
theorem KX_10 (h : AH) : knd GX h 10 = (20, 201) := rfl
theorem OX_10 : GX.2.2 10 = true := rfl
theorem KX_11 (h : AH) : knd GX h 11 = (20, 201) := rfl
theorem OX_11 : GX.2.2 11 = true := rfl
theorem KX_12 (h : AH) : knd GX h 12 = (21, 201) := rfl
theorem OX_12 : GX.2.2 12 = true := rfl
theorem KX_13 (h : AH) : knd GX h 13 = (4, 6) := rfl
theorem OX_13 : GX.2.2 13 = true := rfl
theorem KX_14 (h : AH) : knd GX h 14 = (20, 200) := rfl
theorem OX_14 : GX.2.2 14 = true := rfl
theorem KX_15 (h : AH) : knd GX h 15 = (20, 200) := rfl
theorem OX_15 : GX.2.2 15 = true := rfl
theorem KX_16 (h : AH) : knd GX h 16 = (7, 8) := rfl
theorem OX_16 : GX.2.2 16 = true := rfl
theorem KX_17 (h : AH) : knd GX h 17 = (20, 61) := rfl
theorem OX_17 : GX.2.2 17 = true := rfl
theorem KX_18 (h : AH) : knd GX h 18 = (20, 61) := rfl
theorem OX_18 : GX.2.2 18 = true := rfl
theorem KX_19 (h : AH) : knd GX h 19 = (20, 61) := rfl
theorem OX_19 : GX.2.2 19 = true := rfl
theorem KX_20 (h : AH) : knd GX h 20 = (21, 61) := rfl
theorem OX_20 : GX.2.2 20 = true := rfl
theorem KX_21 (h : AH) : knd GX h 21 = (28, 61) := rfl
theorem OX_21 : GX.2.2 21 = true := rfl
theorem KX_22 (h : AH) : knd GX h 22 = (20, 488) := rfl
theorem OX_22 : GX.2.2 22 = true := rfl
theorem KX_23 (h : AH) : knd GX h 23 = (20, 61) := rfl
theorem OX_23 : GX.2.2 23 = true := rfl
theorem KX_24 (h : AH) : knd GX h 24 = (6, 7) := rfl
theorem OX_24 : GX.2.2 24 = true := rfl
theorem KX_25 (h : AH) : knd GX h 25 = (21, 200) := rfl
theorem OX_25 : GX.2.2 25 = true := rfl
theorem KX_26 (h : AH) : knd GX h 26 = (33, 6) := rfl
theorem OX_26 : GX.2.2 26 = true := rfl
theorem KX_27 (h : AH) : knd GX h 27 = (9, 12) := rfl
theorem OX_27 : GX.2.2 27 = true := rfl
theorem KX_28 (h : AH) : knd GX h 28 = (32, 6) := rfl
theorem OX_28 : GX.2.2 28 = true := rfl
theorem KX_29 (h : AH) : knd GX h 29 = (21, 40) := rfl
theorem OX_29 : GX.2.2 29 = true := rfl
theorem KX_30 (h : AH) : knd GX h 30 = (20, 40) := rfl
theorem OX_30 : GX.2.2 30 = true := rfl
theorem KX_31 (h : AH) : knd GX h 31 = (9, 12) := rfl
theorem OX_31 : GX.2.2 31 = true := rfl
theorem KX_32 (h : AH) : knd GX h 32 = (32, 6) := rfl
theorem OX_32 : GX.2.2 32 = true := rfl
theorem KX_33 (h : AH) : knd GX h 33 = (21, 40) := rfl
theorem OX_33 : GX.2.2 33 = true := rfl
theorem KX_34 (h : AH) : knd GX h 34 = (20, 40) := rfl
theorem OX_34 : GX.2.2 34 = true := rfl
theorem KX_35 (h : AH) : knd GX h 35 = (9, 12) := rfl
theorem OX_35 : GX.2.2 35 = true := rfl
theorem KX_36 (h : AH) : knd GX h 36 = (32, 6) := rfl
theorem OX_36 : GX.2.2 36 = true := rfl
theorem KX_37 (h : AH) : knd GX h 37 = (21, 40) := rfl
theorem OX_37 : GX.2.2 37 = true := rfl
theorem KX_38 (h : AH) : knd GX h 38 = (20, 40) := rfl
theorem OX_38 : GX.2.2 38 = true := rfl
theorem KX_39 (h : AH) : knd GX h 39 = (9, 12) := rfl
theorem OX_39 : GX.2.2 39 = true := rfl
theorem KX_40 (h : AH) : knd GX h 40 = (32, 6) := rfl
theorem OX_40 : GX.2.2 40 = true := rfl
theorem KX_41 (h : AH) : knd GX h 41 = (21, 40) := rfl
theorem OX_41 : GX.2.2 41 = true := rfl
theorem KX_42 (h : AH) : knd GX h 42 = (20, 40) := rfl
theorem OX_42 : GX.2.2 42 = true := rfl
theorem KX_43 (h : AH) : knd GX h 43 = (9, 12) := rfl
theorem OX_43 : GX.2.2 43 = true := rfl
theorem KX_44 (h : AH) : knd GX h 44 = (32, 6) := rfl
theorem OX_44 : GX.2.2 44 = true := rfl
theorem KX_45 (h : AH) : knd GX h 45 = (21, 40) := rfl
theorem OX_45 : GX.2.2 45 = true := rfl
theorem KX_46 (h : AH) : knd GX h 46 = (20, 40) := rfl
theorem OX_46 : GX.2.2 46 = true := rfl
theorem KX_47 (h : AH) : knd GX h 47 = (9, 12) := rfl
theorem OX_47 : GX.2.2 47 = true := rfl
theorem KX_48 (h : AH) : knd GX h 48 = (32, 6) := rfl
theorem OX_48 : GX.2.2 48 = true := rfl
theorem KX_49 (h : AH) : knd GX h 49 = (21, 40) := rfl
theorem OX_49 : GX.2.2 49 = true := rfl
theorem KX_50 (h : AH) : knd GX h 50 = (20, 40) := rfl
theorem OX_50 : GX.2.2 50 = true := rfl
theorem KX_51 (h : AH) : knd GX h 51 = (34, 4) := rfl
theorem OX_51 : GX.2.2 51 = true := rfl
theorem KX_52 (h : AH) : knd GX h 52 = (10, 2) := rfl
theorem OX_52 : GX.2.2 52 = true := rfl
theorem KX_53 (h : AH) : knd GX h 53 = (21, 6) := rfl
theorem OX_53 : GX.2.2 53 = true := rfl
theorem KX_54 (h : AH) : knd GX h 54 = (10, 2) := rfl
theorem OX_54 : GX.2.2 54 = true := rfl
theorem KX_55 (h : AH) : knd GX h 55 = (21, 6) := rfl
theorem OX_55 : GX.2.2 55 = true := rfl
theorem KX_56 (h : AH) : knd GX h 56 = (10, 2) := rfl
theorem OX_56 : GX.2.2 56 = true := rfl
theorem KX_57 (h : AH) : knd GX h 57 = (21, 6) := rfl
theorem OX_57 : GX.2.2 57 = true := rfl
theorem KX_58 (h : AH) : knd GX h 58 = (10, 2) := rfl
theorem OX_58 : GX.2.2 58 = true := rfl
theorem KX_59 (h : AH) : knd GX h 59 = (21, 6) := rfl
theorem OX_59 : GX.2.2 59 = true := rfl
theorem KM_60 (h : AH) : knd GM h 60 = (11, 62) := rfl
theorem OM_60 : GM.2.2 60 = true := rfl
theorem KM_61 (h : AH) : knd GM h 61 = (22, 200) := rfl
theorem OM_61 : GM.2.2 61 = true := rfl
theorem KM_62 (h : AH) : knd GM h 62 = (20, 160) := rfl
theorem OM_62 : GM.2.2 62 = true := rfl
theorem KM_63 (h : AH) : knd GM h 63 = (20, 160) := rfl
theorem OM_63 : GM.2.2 63 = true := rfl
theorem KM_64 (h : AH) : knd GM h 64 = (20, 13420) := rfl
theorem OM_64 : GM.2.2 64 = true := rfl
theorem KM_65 (h : AH) : knd GM h 65 = (21, 13420) := rfl
theorem OM_65 : GM.2.2 65 = true := rfl
theorem KM_66 (h : AH) : knd GM h 66 = (20, 366) := rfl
theorem OM_66 : GM.2.2 66 = true := rfl
theorem KM_67 (h : AH) : knd GM h 67 = (20, 366) := rfl
theorem OM_67 : GM.2.2 67 = true := rfl
theorem KM_68 (h : AH) : knd GM h 68 = (21, 200) := rfl
theorem OM_68 : GM.2.2 68 = true := rfl
theorem KM_69 (h : AH) : knd GM h 69 = (21, 4) := rfl
theorem OM_69 : GM.2.2 69 = true := rfl
theorem KM_70 (h : AH) : knd GM h 70 = (21, 8) := rfl
theorem OM_70 : GM.2.2 70 = true := rfl
theorem KM_71 (h : AH) : knd GM h 71 = (20, 61) := rfl
theorem OM_71 : GM.2.2 71 = true := rfl
theorem KM_72 (h : AH) : knd GM h 72 = (20, 61) := rfl
theorem OM_72 : GM.2.2 72 = true := rfl
theorem KM_73 (h : AH) : knd GM h 73 = (20, 61) := rfl
theorem OM_73 : GM.2.2 73 = true := rfl
theorem KM_74 (h : AH) : knd GM h 74 = (21, 61) := rfl
theorem OM_74 : GM.2.2 74 = true := rfl
theorem KM_75 (h : AH) : knd GM h 75 = (20, 488) := rfl
theorem OM_75 : GM.2.2 75 = true := rfl
theorem KM_76 (h : AH) : knd GM h 76 = (23, 488) := rfl
theorem OM_76 : GM.2.2 76 = true := rfl
theorem KM_77 (h : AH) : knd GM h 77 = (20, 6) := rfl
theorem OM_77 : GM.2.2 77 = true := rfl
theorem KM_78 (h : AH) : knd GM h 78 = (23, 366) := rfl
theorem OM_78 : GM.2.2 78 = true := rfl
theorem KM_79 (h : AH) : knd GM h 79 = (20, 6) := rfl
theorem OM_79 : GM.2.2 79 = true := rfl
theorem KM_80 (h : AH) : knd GM h 80 = (21, 108) := rfl
theorem OM_80 : GM.2.2 80 = true := rfl
theorem KM_81 (h : AH) : knd GM h 81 = (20, 36) := rfl
theorem OM_81 : GM.2.2 81 = true := rfl
theorem KM_82 (h : AH) : knd GM h 82 = (20, 6) := rfl
theorem OM_82 : GM.2.2 82 = true := rfl
theorem KM_83 (h : AH) : knd GM h 83 = (20, 6) := rfl
theorem OM_83 : GM.2.2 83 = true := rfl
theorem KM_84 (h : AH) : knd GM h 84 = (21, 240) := rfl
theorem OM_84 : GM.2.2 84 = true := rfl
theorem KM_85 (h : AH) : knd GM h 85 = (20, 240) := rfl
theorem OM_85 : GM.2.2 85 = true := rfl
theorem KM_86 (h : AH) : knd GM h 86 = (20, 6) := rfl
theorem OM_86 : GM.2.2 86 = true := rfl
theorem KM_87 (h : AH) : knd GM h 87 = (20, 6) := rfl
theorem OM_87 : GM.2.2 87 = true := rfl
theorem KM_88 (h : AH) : knd GM h 88 = (20, 6) := rfl
theorem OM_88 : GM.2.2 88 = true := rfl
theorem KM_89 (h : AH) : knd GM h 89 = (20, 4) := rfl
theorem OM_89 : GM.2.2 89 = true := rfl
theorem KM_90 (h : AH) : knd GM h 90 = (20, 4) := rfl
theorem OM_90 : GM.2.2 90 = true := rfl
theorem KM_91 (h : AH) : knd GM h 91 = (23, 1464) := rfl
theorem OM_91 : GM.2.2 91 = true := rfl
theorem PX_3_0 (h : AH) : rdR GX h 3 0 = some 4 := rfl
theorem PX_3_1 (h : AH) : rdR GX h 3 1 = some 6 := rfl
theorem PX_3_2 (h : AH) : rdR GX h 3 2 = some 8 := rfl
theorem PX_3_3 (h : AH) : rdR GX h 3 3 = some 16 := rfl
theorem PX_3_4 (h : AH) : rdR GX h 3 4 = some 24 := rfl
theorem PX_3_5 (h : AH) : rdR GX h 3 5 = some 26 := rfl
theorem PX_3_6 (h : AH) : rdR GX h 3 6 = some 51 := rfl
theorem PX_4_0 (h : AH) : rdR GX h 4 0 = some 5 := rfl
theorem PX_6_0 (h : AH) : rdR GX h 6 0 = some 7 := rfl
theorem PX_8_0 (h : AH) : rdR GX h 8 0 = some 9 := rfl
theorem PX_8_1 (h : AH) : rdR GX h 8 1 = some 13 := rfl
theorem PX_9_0 (h : AH) : rdR GX h 9 0 = some 10 := rfl
theorem PX_9_1 (h : AH) : rdR GX h 9 1 = some 11 := rfl
theorem PX_9_2 (h : AH) : rdR GX h 9 2 = some 12 := rfl
theorem PX_13_0 (h : AH) : rdR GX h 13 0 = some 14 := rfl
theorem PX_13_1 (h : AH) : rdR GX h 13 1 = some 15 := rfl
theorem PX_16_0 (h : AH) : rdR GX h 16 0 = some 17 := rfl
theorem PX_16_1 (h : AH) : rdR GX h 16 1 = some 18 := rfl
theorem PX_16_2 (h : AH) : rdR GX h 16 2 = some 19 := rfl
theorem PX_16_3 (h : AH) : rdR GX h 16 3 = some 20 := rfl
theorem PX_16_4 (h : AH) : rdR GX h 16 4 = some 21 := rfl
theorem PX_16_5 (h : AH) : rdR GX h 16 5 = some 22 := rfl
theorem PX_16_6 (h : AH) : rdR GX h 16 6 = some 23 := rfl
theorem PX_24_0 (h : AH) : rdR GX h 24 0 = some 25 := rfl
theorem PX_26_0 (h : AH) : rdR GX h 26 0 = some 27 := rfl
theorem PX_26_1 (h : AH) : rdR GX h 26 1 = some 31 := rfl
theorem PX_26_2 (h : AH) : rdR GX h 26 2 = some 35 := rfl
theorem PX_26_3 (h : AH) : rdR GX h 26 3 = some 39 := rfl
theorem PX_26_4 (h : AH) : rdR GX h 26 4 = some 43 := rfl
theorem PX_26_5 (h : AH) : rdR GX h 26 5 = some 47 := rfl
theorem PX_27_3 (h : AH) : rdR GX h 27 3 = some 28 := rfl
theorem PX_27_5 (h : AH) : rdR GX h 27 5 = some 29 := rfl
theorem PX_27_6 (h : AH) : rdR GX h 27 6 = some 30 := rfl
theorem PX_31_3 (h : AH) : rdR GX h 31 3 = some 32 := rfl
theorem PX_31_5 (h : AH) : rdR GX h 31 5 = some 33 := rfl
theorem PX_31_6 (h : AH) : rdR GX h 31 6 = some 34 := rfl
theorem PX_35_3 (h : AH) : rdR GX h 35 3 = some 36 := rfl
theorem PX_35_5 (h : AH) : rdR GX h 35 5 = some 37 := rfl
theorem PX_35_6 (h : AH) : rdR GX h 35 6 = some 38 := rfl
theorem PX_39_3 (h : AH) : rdR GX h 39 3 = some 40 := rfl
theorem PX_39_5 (h : AH) : rdR GX h 39 5 = some 41 := rfl
theorem PX_39_6 (h : AH) : rdR GX h 39 6 = some 42 := rfl
theorem PX_43_3 (h : AH) : rdR GX h 43 3 = some 44 := rfl
theorem PX_43_5 (h : AH) : rdR GX h 43 5 = some 45 := rfl
theorem PX_43_6 (h : AH) : rdR GX h 43 6 = some 46 := rfl
theorem PX_47_3 (h : AH) : rdR GX h 47 3 = some 48 := rfl
theorem PX_47_5 (h : AH) : rdR GX h 47 5 = some 49 := rfl
theorem PX_47_6 (h : AH) : rdR GX h 47 6 = some 50 := rfl
theorem PX_51_0 (h : AH) : rdR GX h 51 0 = some 52 := rfl
theorem PX_51_1 (h : AH) : rdR GX h 51 1 = some 54 := rfl
theorem PX_51_2 (h : AH) : rdR GX h 51 2 = some 56 := rfl
theorem PX_51_3 (h : AH) : rdR GX h 51 3 = some 58 := rfl
theorem PX_52_1 (h : AH) : rdR GX h 52 1 = some 53 := rfl
theorem PX_54_1 (h : AH) : rdR GX h 54 1 = some 55 := rfl
theorem PX_56_1 (h : AH) : rdR GX h 56 1 = some 57 := rfl
theorem PX_58_1 (h : AH) : rdR GX h 58 1 = some 59 := rfl
theorem PM_60_0 (h : AH) : rdR GM h 60 0 = some 61 := rfl
theorem PM_60_9 (h : AH) : rdR GM h 60 9 = some 62 := rfl
theorem PM_60_10 (h : AH) : rdR GM h 60 10 = some 63 := rfl
theorem PM_60_12 (h : AH) : rdR GM h 60 12 = some 64 := rfl
theorem PM_60_13 (h : AH) : rdR GM h 60 13 = some 65 := rfl
theorem PM_60_15 (h : AH) : rdR GM h 60 15 = some 66 := rfl
theorem PM_60_16 (h : AH) : rdR GM h 60 16 = some 67 := rfl
theorem PM_60_23 (h : AH) : rdR GM h 60 23 = some 68 := rfl
theorem PM_60_28 (h : AH) : rdR GM h 60 28 = some 69 := rfl
theorem PM_60_31 (h : AH) : rdR GM h 60 31 = some 70 := rfl
theorem PM_60_33 (h : AH) : rdR GM h 60 33 = some 71 := rfl
theorem PM_60_34 (h : AH) : rdR GM h 60 34 = some 72 := rfl
theorem PM_60_35 (h : AH) : rdR GM h 60 35 = some 73 := rfl
theorem PM_60_36 (h : AH) : rdR GM h 60 36 = some 74 := rfl
theorem PM_60_37 (h : AH) : rdR GM h 60 37 = some 75 := rfl
theorem PM_60_38 (h : AH) : rdR GM h 60 38 = some 76 := rfl
theorem PM_60_43 (h : AH) : rdR GM h 60 43 = some 77 := rfl
theorem PM_60_44 (h : AH) : rdR GM h 60 44 = some 78 := rfl
theorem PM_60_45 (h : AH) : rdR GM h 60 45 = some 79 := rfl
theorem PM_60_46 (h : AH) : rdR GM h 60 46 = some 80 := rfl
theorem PM_60_47 (h : AH) : rdR GM h 60 47 = some 81 := rfl
theorem PM_60_48 (h : AH) : rdR GM h 60 48 = some 82 := rfl
theorem PM_60_49 (h : AH) : rdR GM h 60 49 = some 83 := rfl
theorem PM_60_50 (h : AH) : rdR GM h 60 50 = some 84 := rfl
theorem PM_60_51 (h : AH) : rdR GM h 60 51 = some 85 := rfl
theorem PM_60_52 (h : AH) : rdR GM h 60 52 = some 86 := rfl
theorem PM_60_53 (h : AH) : rdR GM h 60 53 = some 87 := rfl
theorem PM_60_54 (h : AH) : rdR GM h 60 54 = some 88 := rfl
theorem PM_60_59 (h : AH) : rdR GM h 60 59 = some 89 := rfl
theorem PM_60_60 (h : AH) : rdR GM h 60 60 = some 90 := rfl
theorem PM_60_61 (h : AH) : rdR GM h 60 61 = some 91 := rfl
