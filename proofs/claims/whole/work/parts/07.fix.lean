/-! the cells that the two constructors make, by their order: their kinds, the references that stay -/
def kapL : List (Nat × Nat) := [(20, 11), (12, 2), (22, 15), (0, 15), (1, 2), (22, 200), (2, 2), (21, 8), (5, 7), (3, 4), (20, 201), (20, 201), (21, 201), (4, 6), (20, 200), (20, 200), (7, 8), (20, 61), (20, 61), (20, 61), (21, 61), (28, 61), (20, 488), (20, 61), (6, 7), (21, 200), (33, 6), (9, 12), (32, 6), (21, 40), (20, 40), (9, 12), (32, 6), (21, 40), (20, 40), (9, 12), (32, 6), (21, 40), (20, 40), (9, 12), (32, 6), (21, 40), (20, 40), (9, 12), (32, 6), (21, 40), (20, 40), (9, 12), (32, 6), (21, 40), (20, 40), (34, 4), (10, 2), (21, 6), (10, 2), (21, 6), (10, 2), (21, 6), (10, 2), (21, 6), (11, 62), (22, 200), (20, 160), (20, 160), (20, 13420), (21, 13420), (20, 366), (20, 366), (21, 200), (21, 4), (21, 8), (20, 61), (20, 61), (20, 61), (21, 61), (20, 488), (23, 488), (20, 6), (23, 366), (20, 6), (21, 108), (20, 36), (20, 6), (20, 6), (21, 240), (20, 240), (20, 6), (20, 6), (20, 6), (20, 4), (20, 4), (23, 1464)]
/-- the kinds that stay: 0 is the script (not told here), 1 the key words, 2 the text of signs, 3 its bytes, from 4 on what is made -/
def kapS (a : Nat) : Option (Nat × Nat) := if a = 0 then none else kapL[a - 1]?
def phiL : List (List (Option Nat)) := [[], [some 3], [], [some 5, some 7, some 9, some 17, some 25, some 27, some 52], [some 6], [], [some 8], [], [some 10, some 14], [some 11, some 12, some 13], [], [], [], [some 15, some 16], [], [], [some 18, some 19, some 20, some 21, some 22, some 23, some 24], [], [], [], [], [], [], [], [some 26], [], [some 28, some 32, some 36, some 40, some 44, some 48], [none, none, none, some 29, none, some 30, some 31], [], [], [], [none, none, none, some 33, none, some 34, some 35], [], [], [], [none, none, none, some 37, none, some 38, some 39], [], [], [], [none, none, none, some 41, none, some 42, some 43], [], [], [], [none, none, none, some 45, none, some 46, some 47], [], [], [], [none, none, none, some 49, none, some 50, some 51], [], [], [], [some 53, some 55, some 57, some 59], [none, some 54], [], [none, some 56], [], [none, some 58], [], [none, some 60], [], [some 62, none, none, none, none, none, none, none, none, some 63, some 64, none, some 65, some 66, none, some 67, some 68, none, none, none, none, none, none, some 69, none, none, none, none, some 70, none, none, some 71, none, some 72, some 73, some 74, some 75, some 76, some 77, none, none, none, none, some 78, some 79, some 80, some 81, some 82, some 83, some 84, some 85, some 86, some 87, some 88, some 89, none, none, none, none, some 90, some 91, some 92], [], [], [], [], [], [], [], [], [], [], [], [], [], [], [], [], [], [], [], [], [], [], [], [], [], [], [], [], [], [], []]
def phiS (a k : Nat) : Option Nat := if a = 0 then none else ((phiL.getD (a - 1) []).getD k none)
abbrev nFix : Nat := 93
abbrev aX : Nat := 4
abbrev aM : Nat := 61
abbrev aX_text : Nat := 5
abbrev aX_names : Nat := 7
abbrev aX_reader : Nat := 9
abbrev aX_log : Nat := 17
abbrev aX_machine : Nat := 25
abbrev aX_allTasks : Nat := 27
abbrev aX_allMarks : Nat := 52
abbrev aText_bytes : Nat := 6
abbrev aNames_packed : Nat := 8
abbrev aReader_tokens : Nat := 10
abbrev aReader_draft : Nat := 14
abbrev aTokens_kinds : Nat := 11
abbrev aTokens_places : Nat := 12
abbrev aTokens_values : Nat := 13
abbrev aProgram_steps : Nat := 15
abbrev aProgram_details : Nat := 16
abbrev aLog_kinds : Nat := 18
abbrev aLog_rulesTold : Nat := 19
abbrev aLog_versionsBack : Nat := 20
abbrev aLog_times : Nat := 21
abbrev aLog_programs : Nat := 22
abbrev aLog_texts : Nat := 23
abbrev aLog_ons : Nat := 24
abbrev aMachine_stack : Nat := 26
abbrev aTask_waiting : Nat := 29
abbrev aTask_sums : Nat := 30
abbrev aTask_rulesOfSums : Nat := 31
abbrev aMark_offs : Nat := 54
abbrev aM_hand : Nat := 62
abbrev aM_pile : Nat := 63
abbrev aM_with : Nat := 64
abbrev aM_orders : Nat := 65
abbrev aM_numbers : Nat := 66
abbrev aM_begins : Nat := 67
abbrev aM_ends : Nat := 68
abbrev aM_values : Nat := 69
abbrev aM_outs : Nat := 70
abbrev aM_nameRows : Nat := 71
abbrev aM_kinds : Nat := 72
abbrev aM_whose : Nat := 73
abbrev aM_backTo : Nat := 74
abbrev aM_times : Nat := 75
abbrev aM_textOf : Nat := 76
abbrev aM_isOn : Nat := 77
abbrev aM_applied : Nat := 78
abbrev aM_offs : Nat := 79
abbrev aM_waits : Nat := 80
abbrev aM_waitRows : Nat := 81
abbrev aM_waitVersions : Nat := 82
abbrev aM_judged : Nat := 83
abbrev aM_outTold : Nat := 84
abbrev aM_outRows : Nat := 85
abbrev aM_outRules : Nat := 86
abbrev aM_failNumbers : Nat := 87
abbrev aM_failRules : Nat := 88
abbrev aM_failTexts : Nat := 89
abbrev aM_markVersions : Nat := 90
abbrev aM_markTasks : Nat := 91
abbrev aM_markOffs : Nat := 92
abbrev fX_text : Nat := 0
abbrev fX_names : Nat := 1
abbrev fX_reader : Nat := 2
abbrev fX_log : Nat := 3
abbrev fX_machine : Nat := 4
abbrev fX_allTasks : Nat := 5
abbrev fX_allMarks : Nat := 6
abbrev fX_taskCount : Nat := 7
abbrev fX_markCount : Nat := 8
abbrev fX_isAlike : Nat := 9
abbrev fX_isAsOf : Nat := 10
abbrev fX_latestFault : Nat := 11
abbrev fX_lostRows : Nat := 12
abbrev fX_judgedRows : Nat := 13
abbrev fX_failures : Nat := 14
abbrev fText_bytes : Nat := 0
abbrev fText_length : Nat := 1
abbrev fNames_packed : Nat := 0
abbrev fNames_size : Nat := 1
abbrev fTokens_kinds : Nat := 0
abbrev fTokens_places : Nat := 1
abbrev fTokens_values : Nat := 2
abbrev fTokens_size : Nat := 3
abbrev fProgram_steps : Nat := 0
abbrev fProgram_details : Nat := 1
abbrev fProgram_size : Nat := 2
abbrev fProgram_endOfBy : Nat := 3
abbrev fProgram_endOfTest : Nat := 4
abbrev fProgram_sums : Nat := 5
abbrev fReader_tokens : Nat := 0
abbrev fReader_draft : Nat := 1
abbrev fReader_name : Nat := 2
abbrev fReader_faultKind : Nat := 3
abbrev fReader_faultPlace : Nat := 4
abbrev fReader_cursor : Nat := 5
abbrev fReader_open : Nat := 6
abbrev fMachine_stack : Nat := 0
abbrev fMachine_top : Nat := 1
abbrev fMachine_k : Nat := 2
abbrev fMachine_t : Nat := 3
abbrev fMachine_v : Nat := 4
abbrev fMachine_n : Nat := 5
abbrev fMachine_failure : Nat := 6
abbrev fLog_kinds : Nat := 0
abbrev fLog_rulesTold : Nat := 1
abbrev fLog_versionsBack : Nat := 2
abbrev fLog_times : Nat := 3
abbrev fLog_programs : Nat := 4
abbrev fLog_texts : Nat := 5
abbrev fLog_ons : Nat := 6
abbrev fLog_size : Nat := 7
abbrev fRow_k : Nat := 0
abbrev fRow_t : Nat := 1
abbrev fRow_v : Nat := 2
abbrev fRow_version : Nat := 3
abbrev fTask_applied : Nat := 0
abbrev fTask_offs : Nat := 1
abbrev fTask_judged : Nat := 2
abbrev fTask_waiting : Nat := 3
abbrev fTask_waits : Nat := 4
abbrev fTask_sums : Nat := 5
abbrev fTask_rulesOfSums : Nat := 6
abbrev fTask_nextSum : Nat := 7
abbrev fTask_kept : Nat := 8
abbrev fTask_failure : Nat := 9
abbrev fTask_failedRule : Nat := 10
abbrev fTask_failedText : Nat := 11
abbrev fMark_version : Nat := 0
abbrev fMark_offs : Nat := 1
abbrev fM_hand : Nat := 0
abbrev fM_size : Nat := 1
abbrev fM_at : Nat := 2
abbrev fM_place : Nat := 3
abbrev fM_token : Nat := 4
abbrev fM_word : Nat := 5
abbrev fM_wrong : Nat := 6
abbrev fM_wrongPlace : Nat := 7
abbrev fM_open : Nat := 8
abbrev fM_pile : Nat := 9
abbrev fM_with : Nat := 10
abbrev fM_top : Nat := 11
abbrev fM_orders : Nat := 12
abbrev fM_numbers : Nat := 13
abbrev fM_code : Nat := 14
abbrev fM_begins : Nat := 15
abbrev fM_ends : Nat := 16
abbrev fM_nameOf : Nat := 17
abbrev fM_k : Nat := 18
abbrev fM_t : Nat := 19
abbrev fM_v : Nat := 20
abbrev fM_n : Nat := 21
abbrev fM_failure : Nat := 22
abbrev fM_values : Nat := 23
abbrev fM_many : Nat := 24
abbrev fM_hasBy : Nat := 25
abbrev fM_by : Nat := 26
abbrev fM_holds : Nat := 27
abbrev fM_outs : Nat := 28
abbrev fM_outMany : Nat := 29
abbrev fM_names : Nat := 30
abbrev fM_nameRows : Nat := 31
abbrev fM_changes : Nat := 32
abbrev fM_kinds : Nat := 33
abbrev fM_whose : Nat := 34
abbrev fM_backTo : Nat := 35
abbrev fM_times : Nat := 36
abbrev fM_textOf : Nat := 37
abbrev fM_isOn : Nat := 38
abbrev fM_lastFault : Nat := 39
abbrev fM_isAlike : Nat := 40
abbrev fM_isAsOf : Nat := 41
abbrev fM_tasks : Nat := 42
abbrev fM_applied : Nat := 43
abbrev fM_offs : Nat := 44
abbrev fM_waits : Nat := 45
abbrev fM_waitRows : Nat := 46
abbrev fM_waitVersions : Nat := 47
abbrev fM_judged : Nat := 48
abbrev fM_outTold : Nat := 49
abbrev fM_outRows : Nat := 50
abbrev fM_outRules : Nat := 51
abbrev fM_failNumbers : Nat := 52
abbrev fM_failRules : Nat := 53
abbrev fM_failTexts : Nat := 54
abbrev fM_lost : Nat := 55
abbrev fM_judgedAll : Nat := 56
abbrev fM_failedAll : Nat := 57
abbrev fM_marks : Nat := 58
abbrev fM_markVersions : Nat := 59
abbrev fM_markTasks : Nat := 60
abbrev fM_markOffs : Nat := 61
/-- who may write where: x its own cells and what it makes later; m its own -/
def wX (a : Nat) : Bool := (decide (4 ≤ a) && decide (a < 61)) || decide (93 ≤ a)
def wM (a : Nat) : Bool := decide (61 ≤ a) && decide (a < 93)
def GX : GB := (phiS, kapS, wX)
def GM : GB := (phiS, kapS, wM)
def GA : GB := (phiS, kapS, fun a => decide (4 ≤ a))
theorem KX_1 (h : AH) : knd GX h 1 = (20, 11) := rfl
theorem KX_2 (h : AH) : knd GX h 2 = (12, 2) := rfl
theorem KX_3 (h : AH) : knd GX h 3 = (22, 15) := rfl
theorem KX_4 (h : AH) : knd GX h 4 = (0, 15) := rfl
theorem OX_4 : GX.2.2 4 = true := rfl
theorem KX_5 (h : AH) : knd GX h 5 = (1, 2) := rfl
theorem OX_5 : GX.2.2 5 = true := rfl
theorem KX_6 (h : AH) : knd GX h 6 = (22, 200) := rfl
theorem OX_6 : GX.2.2 6 = true := rfl
theorem KX_7 (h : AH) : knd GX h 7 = (2, 2) := rfl
theorem OX_7 : GX.2.2 7 = true := rfl
theorem KX_8 (h : AH) : knd GX h 8 = (21, 8) := rfl
theorem OX_8 : GX.2.2 8 = true := rfl
theorem KX_9 (h : AH) : knd GX h 9 = (5, 7) := rfl
theorem OX_9 : GX.2.2 9 = true := rfl
theorem KX_10 (h : AH) : knd GX h 10 = (3, 4) := rfl
theorem OX_10 : GX.2.2 10 = true := rfl
theorem KX_11 (h : AH) : knd GX h 11 = (20, 201) := rfl
theorem OX_11 : GX.2.2 11 = true := rfl
theorem KX_12 (h : AH) : knd GX h 12 = (20, 201) := rfl
theorem OX_12 : GX.2.2 12 = true := rfl
theorem KX_13 (h : AH) : knd GX h 13 = (21, 201) := rfl
theorem OX_13 : GX.2.2 13 = true := rfl
theorem KX_14 (h : AH) : knd GX h 14 = (4, 6) := rfl
theorem OX_14 : GX.2.2 14 = true := rfl
theorem KX_15 (h : AH) : knd GX h 15 = (20, 200) := rfl
theorem OX_15 : GX.2.2 15 = true := rfl
theorem KX_16 (h : AH) : knd GX h 16 = (20, 200) := rfl
theorem OX_16 : GX.2.2 16 = true := rfl
theorem KX_17 (h : AH) : knd GX h 17 = (7, 8) := rfl
theorem OX_17 : GX.2.2 17 = true := rfl
theorem KX_18 (h : AH) : knd GX h 18 = (20, 61) := rfl
theorem OX_18 : GX.2.2 18 = true := rfl
theorem KX_19 (h : AH) : knd GX h 19 = (20, 61) := rfl
theorem OX_19 : GX.2.2 19 = true := rfl
theorem KX_20 (h : AH) : knd GX h 20 = (20, 61) := rfl
theorem OX_20 : GX.2.2 20 = true := rfl
theorem KX_21 (h : AH) : knd GX h 21 = (21, 61) := rfl
theorem OX_21 : GX.2.2 21 = true := rfl
theorem KX_22 (h : AH) : knd GX h 22 = (28, 61) := rfl
theorem OX_22 : GX.2.2 22 = true := rfl
theorem KX_23 (h : AH) : knd GX h 23 = (20, 488) := rfl
theorem OX_23 : GX.2.2 23 = true := rfl
theorem KX_24 (h : AH) : knd GX h 24 = (20, 61) := rfl
theorem OX_24 : GX.2.2 24 = true := rfl
theorem KX_25 (h : AH) : knd GX h 25 = (6, 7) := rfl
theorem OX_25 : GX.2.2 25 = true := rfl
theorem KX_26 (h : AH) : knd GX h 26 = (21, 200) := rfl
theorem OX_26 : GX.2.2 26 = true := rfl
theorem KX_27 (h : AH) : knd GX h 27 = (33, 6) := rfl
theorem OX_27 : GX.2.2 27 = true := rfl
theorem KX_28 (h : AH) : knd GX h 28 = (9, 12) := rfl
theorem OX_28 : GX.2.2 28 = true := rfl
theorem KX_29 (h : AH) : knd GX h 29 = (32, 6) := rfl
theorem OX_29 : GX.2.2 29 = true := rfl
theorem KX_30 (h : AH) : knd GX h 30 = (21, 40) := rfl
theorem OX_30 : GX.2.2 30 = true := rfl
theorem KX_31 (h : AH) : knd GX h 31 = (20, 40) := rfl
theorem OX_31 : GX.2.2 31 = true := rfl
theorem KX_32 (h : AH) : knd GX h 32 = (9, 12) := rfl
theorem OX_32 : GX.2.2 32 = true := rfl
theorem KX_33 (h : AH) : knd GX h 33 = (32, 6) := rfl
theorem OX_33 : GX.2.2 33 = true := rfl
theorem KX_34 (h : AH) : knd GX h 34 = (21, 40) := rfl
theorem OX_34 : GX.2.2 34 = true := rfl
theorem KX_35 (h : AH) : knd GX h 35 = (20, 40) := rfl
theorem OX_35 : GX.2.2 35 = true := rfl
theorem KX_36 (h : AH) : knd GX h 36 = (9, 12) := rfl
theorem OX_36 : GX.2.2 36 = true := rfl
theorem KX_37 (h : AH) : knd GX h 37 = (32, 6) := rfl
theorem OX_37 : GX.2.2 37 = true := rfl
theorem KX_38 (h : AH) : knd GX h 38 = (21, 40) := rfl
theorem OX_38 : GX.2.2 38 = true := rfl
theorem KX_39 (h : AH) : knd GX h 39 = (20, 40) := rfl
theorem OX_39 : GX.2.2 39 = true := rfl
theorem KX_40 (h : AH) : knd GX h 40 = (9, 12) := rfl
theorem OX_40 : GX.2.2 40 = true := rfl
theorem KX_41 (h : AH) : knd GX h 41 = (32, 6) := rfl
theorem OX_41 : GX.2.2 41 = true := rfl
theorem KX_42 (h : AH) : knd GX h 42 = (21, 40) := rfl
theorem OX_42 : GX.2.2 42 = true := rfl
theorem KX_43 (h : AH) : knd GX h 43 = (20, 40) := rfl
theorem OX_43 : GX.2.2 43 = true := rfl
theorem KX_44 (h : AH) : knd GX h 44 = (9, 12) := rfl
theorem OX_44 : GX.2.2 44 = true := rfl
theorem KX_45 (h : AH) : knd GX h 45 = (32, 6) := rfl
theorem OX_45 : GX.2.2 45 = true := rfl
theorem KX_46 (h : AH) : knd GX h 46 = (21, 40) := rfl
theorem OX_46 : GX.2.2 46 = true := rfl
theorem KX_47 (h : AH) : knd GX h 47 = (20, 40) := rfl
theorem OX_47 : GX.2.2 47 = true := rfl
theorem KX_48 (h : AH) : knd GX h 48 = (9, 12) := rfl
theorem OX_48 : GX.2.2 48 = true := rfl
theorem KX_49 (h : AH) : knd GX h 49 = (32, 6) := rfl
theorem OX_49 : GX.2.2 49 = true := rfl
theorem KX_50 (h : AH) : knd GX h 50 = (21, 40) := rfl
theorem OX_50 : GX.2.2 50 = true := rfl
theorem KX_51 (h : AH) : knd GX h 51 = (20, 40) := rfl
theorem OX_51 : GX.2.2 51 = true := rfl
theorem KX_52 (h : AH) : knd GX h 52 = (34, 4) := rfl
theorem OX_52 : GX.2.2 52 = true := rfl
theorem KX_53 (h : AH) : knd GX h 53 = (10, 2) := rfl
theorem OX_53 : GX.2.2 53 = true := rfl
theorem KX_54 (h : AH) : knd GX h 54 = (21, 6) := rfl
theorem OX_54 : GX.2.2 54 = true := rfl
theorem KX_55 (h : AH) : knd GX h 55 = (10, 2) := rfl
theorem OX_55 : GX.2.2 55 = true := rfl
theorem KX_56 (h : AH) : knd GX h 56 = (21, 6) := rfl
theorem OX_56 : GX.2.2 56 = true := rfl
theorem KX_57 (h : AH) : knd GX h 57 = (10, 2) := rfl
theorem OX_57 : GX.2.2 57 = true := rfl
theorem KX_58 (h : AH) : knd GX h 58 = (21, 6) := rfl
theorem OX_58 : GX.2.2 58 = true := rfl
theorem KX_59 (h : AH) : knd GX h 59 = (10, 2) := rfl
theorem OX_59 : GX.2.2 59 = true := rfl
theorem KX_60 (h : AH) : knd GX h 60 = (21, 6) := rfl
theorem OX_60 : GX.2.2 60 = true := rfl
theorem KM_61 (h : AH) : knd GM h 61 = (11, 62) := rfl
theorem OM_61 : GM.2.2 61 = true := rfl
theorem KM_62 (h : AH) : knd GM h 62 = (22, 200) := rfl
theorem OM_62 : GM.2.2 62 = true := rfl
theorem KM_63 (h : AH) : knd GM h 63 = (20, 160) := rfl
theorem OM_63 : GM.2.2 63 = true := rfl
theorem KM_64 (h : AH) : knd GM h 64 = (20, 160) := rfl
theorem OM_64 : GM.2.2 64 = true := rfl
theorem KM_65 (h : AH) : knd GM h 65 = (20, 13420) := rfl
theorem OM_65 : GM.2.2 65 = true := rfl
theorem KM_66 (h : AH) : knd GM h 66 = (21, 13420) := rfl
theorem OM_66 : GM.2.2 66 = true := rfl
theorem KM_67 (h : AH) : knd GM h 67 = (20, 366) := rfl
theorem OM_67 : GM.2.2 67 = true := rfl
theorem KM_68 (h : AH) : knd GM h 68 = (20, 366) := rfl
theorem OM_68 : GM.2.2 68 = true := rfl
theorem KM_69 (h : AH) : knd GM h 69 = (21, 200) := rfl
theorem OM_69 : GM.2.2 69 = true := rfl
theorem KM_70 (h : AH) : knd GM h 70 = (21, 4) := rfl
theorem OM_70 : GM.2.2 70 = true := rfl
theorem KM_71 (h : AH) : knd GM h 71 = (21, 8) := rfl
theorem OM_71 : GM.2.2 71 = true := rfl
theorem KM_72 (h : AH) : knd GM h 72 = (20, 61) := rfl
theorem OM_72 : GM.2.2 72 = true := rfl
theorem KM_73 (h : AH) : knd GM h 73 = (20, 61) := rfl
theorem OM_73 : GM.2.2 73 = true := rfl
theorem KM_74 (h : AH) : knd GM h 74 = (20, 61) := rfl
theorem OM_74 : GM.2.2 74 = true := rfl
theorem KM_75 (h : AH) : knd GM h 75 = (21, 61) := rfl
theorem OM_75 : GM.2.2 75 = true := rfl
theorem KM_76 (h : AH) : knd GM h 76 = (20, 488) := rfl
theorem OM_76 : GM.2.2 76 = true := rfl
theorem KM_77 (h : AH) : knd GM h 77 = (23, 488) := rfl
theorem OM_77 : GM.2.2 77 = true := rfl
theorem KM_78 (h : AH) : knd GM h 78 = (20, 6) := rfl
theorem OM_78 : GM.2.2 78 = true := rfl
theorem KM_79 (h : AH) : knd GM h 79 = (23, 366) := rfl
theorem OM_79 : GM.2.2 79 = true := rfl
theorem KM_80 (h : AH) : knd GM h 80 = (20, 6) := rfl
theorem OM_80 : GM.2.2 80 = true := rfl
theorem KM_81 (h : AH) : knd GM h 81 = (21, 108) := rfl
theorem OM_81 : GM.2.2 81 = true := rfl
theorem KM_82 (h : AH) : knd GM h 82 = (20, 36) := rfl
theorem OM_82 : GM.2.2 82 = true := rfl
theorem KM_83 (h : AH) : knd GM h 83 = (20, 6) := rfl
theorem OM_83 : GM.2.2 83 = true := rfl
theorem KM_84 (h : AH) : knd GM h 84 = (20, 6) := rfl
theorem OM_84 : GM.2.2 84 = true := rfl
theorem KM_85 (h : AH) : knd GM h 85 = (21, 240) := rfl
theorem OM_85 : GM.2.2 85 = true := rfl
theorem KM_86 (h : AH) : knd GM h 86 = (20, 240) := rfl
theorem OM_86 : GM.2.2 86 = true := rfl
theorem KM_87 (h : AH) : knd GM h 87 = (20, 6) := rfl
theorem OM_87 : GM.2.2 87 = true := rfl
theorem KM_88 (h : AH) : knd GM h 88 = (20, 6) := rfl
theorem OM_88 : GM.2.2 88 = true := rfl
theorem KM_89 (h : AH) : knd GM h 89 = (20, 6) := rfl
theorem OM_89 : GM.2.2 89 = true := rfl
theorem KM_90 (h : AH) : knd GM h 90 = (20, 4) := rfl
theorem OM_90 : GM.2.2 90 = true := rfl
theorem KM_91 (h : AH) : knd GM h 91 = (20, 4) := rfl
theorem OM_91 : GM.2.2 91 = true := rfl
theorem KM_92 (h : AH) : knd GM h 92 = (23, 1464) := rfl
theorem OM_92 : GM.2.2 92 = true := rfl
theorem PX_2_0 (h : AH) : rdR GX h 2 0 = some 3 := rfl
theorem PX_4_0 (h : AH) : rdR GX h 4 0 = some 5 := rfl
theorem PX_4_1 (h : AH) : rdR GX h 4 1 = some 7 := rfl
theorem PX_4_2 (h : AH) : rdR GX h 4 2 = some 9 := rfl
theorem PX_4_3 (h : AH) : rdR GX h 4 3 = some 17 := rfl
theorem PX_4_4 (h : AH) : rdR GX h 4 4 = some 25 := rfl
theorem PX_4_5 (h : AH) : rdR GX h 4 5 = some 27 := rfl
theorem PX_4_6 (h : AH) : rdR GX h 4 6 = some 52 := rfl
theorem PX_5_0 (h : AH) : rdR GX h 5 0 = some 6 := rfl
theorem PX_7_0 (h : AH) : rdR GX h 7 0 = some 8 := rfl
theorem PX_9_0 (h : AH) : rdR GX h 9 0 = some 10 := rfl
theorem PX_9_1 (h : AH) : rdR GX h 9 1 = some 14 := rfl
theorem PX_10_0 (h : AH) : rdR GX h 10 0 = some 11 := rfl
theorem PX_10_1 (h : AH) : rdR GX h 10 1 = some 12 := rfl
theorem PX_10_2 (h : AH) : rdR GX h 10 2 = some 13 := rfl
theorem PX_14_0 (h : AH) : rdR GX h 14 0 = some 15 := rfl
theorem PX_14_1 (h : AH) : rdR GX h 14 1 = some 16 := rfl
theorem PX_17_0 (h : AH) : rdR GX h 17 0 = some 18 := rfl
theorem PX_17_1 (h : AH) : rdR GX h 17 1 = some 19 := rfl
theorem PX_17_2 (h : AH) : rdR GX h 17 2 = some 20 := rfl
theorem PX_17_3 (h : AH) : rdR GX h 17 3 = some 21 := rfl
theorem PX_17_4 (h : AH) : rdR GX h 17 4 = some 22 := rfl
theorem PX_17_5 (h : AH) : rdR GX h 17 5 = some 23 := rfl
theorem PX_17_6 (h : AH) : rdR GX h 17 6 = some 24 := rfl
theorem PX_25_0 (h : AH) : rdR GX h 25 0 = some 26 := rfl
theorem PX_27_0 (h : AH) : rdR GX h 27 0 = some 28 := rfl
theorem PX_27_1 (h : AH) : rdR GX h 27 1 = some 32 := rfl
theorem PX_27_2 (h : AH) : rdR GX h 27 2 = some 36 := rfl
theorem PX_27_3 (h : AH) : rdR GX h 27 3 = some 40 := rfl
theorem PX_27_4 (h : AH) : rdR GX h 27 4 = some 44 := rfl
theorem PX_27_5 (h : AH) : rdR GX h 27 5 = some 48 := rfl
theorem PX_28_3 (h : AH) : rdR GX h 28 3 = some 29 := rfl
theorem PX_28_5 (h : AH) : rdR GX h 28 5 = some 30 := rfl
theorem PX_28_6 (h : AH) : rdR GX h 28 6 = some 31 := rfl
theorem PX_32_3 (h : AH) : rdR GX h 32 3 = some 33 := rfl
theorem PX_32_5 (h : AH) : rdR GX h 32 5 = some 34 := rfl
theorem PX_32_6 (h : AH) : rdR GX h 32 6 = some 35 := rfl
theorem PX_36_3 (h : AH) : rdR GX h 36 3 = some 37 := rfl
theorem PX_36_5 (h : AH) : rdR GX h 36 5 = some 38 := rfl
theorem PX_36_6 (h : AH) : rdR GX h 36 6 = some 39 := rfl
theorem PX_40_3 (h : AH) : rdR GX h 40 3 = some 41 := rfl
theorem PX_40_5 (h : AH) : rdR GX h 40 5 = some 42 := rfl
theorem PX_40_6 (h : AH) : rdR GX h 40 6 = some 43 := rfl
theorem PX_44_3 (h : AH) : rdR GX h 44 3 = some 45 := rfl
theorem PX_44_5 (h : AH) : rdR GX h 44 5 = some 46 := rfl
theorem PX_44_6 (h : AH) : rdR GX h 44 6 = some 47 := rfl
theorem PX_48_3 (h : AH) : rdR GX h 48 3 = some 49 := rfl
theorem PX_48_5 (h : AH) : rdR GX h 48 5 = some 50 := rfl
theorem PX_48_6 (h : AH) : rdR GX h 48 6 = some 51 := rfl
theorem PX_52_0 (h : AH) : rdR GX h 52 0 = some 53 := rfl
theorem PX_52_1 (h : AH) : rdR GX h 52 1 = some 55 := rfl
theorem PX_52_2 (h : AH) : rdR GX h 52 2 = some 57 := rfl
theorem PX_52_3 (h : AH) : rdR GX h 52 3 = some 59 := rfl
theorem PX_53_1 (h : AH) : rdR GX h 53 1 = some 54 := rfl
theorem PX_55_1 (h : AH) : rdR GX h 55 1 = some 56 := rfl
theorem PX_57_1 (h : AH) : rdR GX h 57 1 = some 58 := rfl
theorem PX_59_1 (h : AH) : rdR GX h 59 1 = some 60 := rfl
theorem PM_61_0 (h : AH) : rdR GM h 61 0 = some 62 := rfl
theorem PM_61_9 (h : AH) : rdR GM h 61 9 = some 63 := rfl
theorem PM_61_10 (h : AH) : rdR GM h 61 10 = some 64 := rfl
theorem PM_61_12 (h : AH) : rdR GM h 61 12 = some 65 := rfl
theorem PM_61_13 (h : AH) : rdR GM h 61 13 = some 66 := rfl
theorem PM_61_15 (h : AH) : rdR GM h 61 15 = some 67 := rfl
theorem PM_61_16 (h : AH) : rdR GM h 61 16 = some 68 := rfl
theorem PM_61_23 (h : AH) : rdR GM h 61 23 = some 69 := rfl
theorem PM_61_28 (h : AH) : rdR GM h 61 28 = some 70 := rfl
theorem PM_61_31 (h : AH) : rdR GM h 61 31 = some 71 := rfl
theorem PM_61_33 (h : AH) : rdR GM h 61 33 = some 72 := rfl
theorem PM_61_34 (h : AH) : rdR GM h 61 34 = some 73 := rfl
theorem PM_61_35 (h : AH) : rdR GM h 61 35 = some 74 := rfl
theorem PM_61_36 (h : AH) : rdR GM h 61 36 = some 75 := rfl
theorem PM_61_37 (h : AH) : rdR GM h 61 37 = some 76 := rfl
theorem PM_61_38 (h : AH) : rdR GM h 61 38 = some 77 := rfl
theorem PM_61_43 (h : AH) : rdR GM h 61 43 = some 78 := rfl
theorem PM_61_44 (h : AH) : rdR GM h 61 44 = some 79 := rfl
theorem PM_61_45 (h : AH) : rdR GM h 61 45 = some 80 := rfl
theorem PM_61_46 (h : AH) : rdR GM h 61 46 = some 81 := rfl
theorem PM_61_47 (h : AH) : rdR GM h 61 47 = some 82 := rfl
theorem PM_61_48 (h : AH) : rdR GM h 61 48 = some 83 := rfl
theorem PM_61_49 (h : AH) : rdR GM h 61 49 = some 84 := rfl
theorem PM_61_50 (h : AH) : rdR GM h 61 50 = some 85 := rfl
theorem PM_61_51 (h : AH) : rdR GM h 61 51 = some 86 := rfl
theorem PM_61_52 (h : AH) : rdR GM h 61 52 = some 87 := rfl
theorem PM_61_53 (h : AH) : rdR GM h 61 53 = some 88 := rfl
theorem PM_61_54 (h : AH) : rdR GM h 61 54 = some 89 := rfl
theorem PM_61_59 (h : AH) : rdR GM h 61 59 = some 90 := rfl
theorem PM_61_60 (h : AH) : rdR GM h 61 60 = some 91 := rfl
theorem PM_61_61 (h : AH) : rdR GM h 61 61 = some 92 := rfl
