/-! links: which entry of which class names what, and where the tables say so; printed by my own program -/
/-- of a method: its arguments' sorts (the last first), its answer's, how many locals, how it is called (0 static, 1 virtual, 2 a constructor), its class -/
abbrev MInf : Type := List Nat × Nat × Nat × Nat × Nat
abbrev m_X_init : Nat := 0
abbrev m_X_feed : Nat := 1
abbrev m_X_keep : Nat := 2
abbrev m_X_rule : Nat := 3
abbrev m_X_fault : Nat := 4
abbrev m_X_drop : Nat := 5
abbrev m_X_alike : Nat := 6
abbrev m_X_asOf : Nat := 7
abbrev m_X_tasks : Nat := 8
abbrev m_X_row : Nat := 9
abbrev m_X_goes : Nat := 10
abbrev m_X_send : Nat := 11
abbrev m_X_apply : Nat := 12
abbrev m_X_out : Nat := 13
abbrev m_X_from : Nat := 14
abbrev m_X_at : Nat := 15
abbrev m_X_rules : Nat := 16
abbrev m_X_off : Nat := 17
abbrev m_X_change : Nat := 18
abbrev m_X_when : Nat := 19
abbrev m_X_failed : Nat := 20
abbrev m_X_tries : Nat := 21
abbrev m_X_mark : Nat := 22
abbrev m_X_restore : Nat := 23
abbrev m_X_same : Nat := 24
abbrev m_X_count : Nat := 25
abbrev m_X_clear : Nat := 26
abbrev m_X_taskOf : Nat := 27
abbrev m_X_latestProgram : Nat := 28
abbrev m_X_versionFor : Nat := 29
abbrev m_X_countOfTask : Nat := 30
abbrev m_X_isOffAt : Nat := 31
abbrev m_X_comeTo : Nat := 32
abbrev m_X_judgeReady : Nat := 33
abbrev m_X_judge : Nat := 34
abbrev m_X_judgeByRule : Nat := 35
abbrev m_X_switchOffForAll : Nat := 36
abbrev m_Text_init : Nat := 37
abbrev m_Text_hasRoomFor : Nat := 38
abbrev m_Text_append : Nat := 39
abbrev m_Text_byteAt : Nat := 40
abbrev m_Names_init : Nat := 41
abbrev m_Names_hasRoomFor : Nat := 42
abbrev m_Names_numberFor : Nat := 43
abbrev m_Names_find : Nat := 44
abbrev m_Tokens_init : Nat := 45
abbrev m_Tokens_scan : Nat := 46
abbrev m_Tokens_kindAt : Nat := 47
abbrev m_Tokens_placeAt : Nat := 48
abbrev m_Tokens_valueAt : Nat := 49
abbrev m_Tokens_add : Nat := 50
abbrev m_Tokens_scanToken : Nat := 51
abbrev m_Tokens_scanWord : Nat := 52
abbrev m_Tokens_scanNumber : Nat := 53
abbrev m_Tokens_scanSign : Nat := 54
abbrev m_Tokens_isKeyWord : Nat := 55
abbrev m_Tokens_isBlank : Nat := 56
abbrev m_Tokens_isLetter : Nat := 57
abbrev m_Tokens_isDigit : Nat := 58
abbrev m_Program_init_0 : Nat := 59
abbrev m_Program_init_L : Nat := 60
abbrev m_Program_add : Nat := 61
abbrev m_Program_setDetail : Nat := 62
abbrev m_Program_stepAt : Nat := 63
abbrev m_Program_detailAt : Nat := 64
abbrev m_Reader_init : Nat := 65
abbrev m_Reader_read : Nat := 66
abbrev m_Reader_seen : Nat := 67
abbrev m_Reader_stop : Nat := 68
abbrev m_Reader_expect : Nat := 69
abbrev m_Reader_enter : Nat := 70
abbrev m_Reader_readName : Nat := 71
abbrev m_Reader_readTest : Nat := 72
abbrev m_Reader_readBoth : Nat := 73
abbrev m_Reader_readOne : Nat := 74
abbrev m_Reader_readComparison : Nat := 75
abbrev m_Reader_readSums : Nat := 76
abbrev m_Reader_readSum : Nat := 77
abbrev m_Reader_readPart : Nat := 78
abbrev m_Reader_readUnit : Nat := 79
abbrev m_Reader_readPick : Nat := 80
abbrev m_Machine_init : Nat := 81
abbrev m_Machine_load : Nat := 82
abbrev m_Machine_sendsBy : Nat := 83
abbrev m_Machine_sumsOf : Nat := 84
abbrev m_Machine_valueAt : Nat := 85
abbrev m_Machine_run : Nat := 86
abbrev m_Machine_push : Nat := 87
abbrev m_Machine_pop : Nat := 88
abbrev m_Machine_isDecidedByLeft : Nat := 89
abbrev m_Machine_pick : Nat := 90
abbrev m_Machine_combine : Nat := 91
abbrev m_Machine_combined : Nat := 92
abbrev m_Log_init : Nat := 93
abbrev m_Log_isFull : Nat := 94
abbrev m_Log_isTooEarly : Nat := 95
abbrev m_Log_latestTime : Nat := 96
abbrev m_Log_versionOf : Nat := 97
abbrev m_Log_addTold : Nat := 98
abbrev m_Log_addDropped : Nat := 99
abbrev m_Log_addOff : Nat := 100
abbrev m_Log_addBack : Nat := 101
abbrev m_Log_textIn : Nat := 102
abbrev m_Log_isOn : Nat := 103
abbrev m_Log_programOf : Nat := 104
abbrev m_Log_isCell : Nat := 105
abbrev m_Log_add : Nat := 106
abbrev m_Log_set : Nat := 107
abbrev m_Row_init : Nat := 108
abbrev m_Task_init : Nat := 109
abbrev m_Task_begin : Nat := 110
abbrev m_Task_hasOff : Nat := 111
abbrev m_Task_noteFailure : Nat := 112
abbrev m_Task_holdWaiting : Nat := 113
abbrev m_Task_waitingAt : Nat := 114
abbrev m_Task_takeReady : Nat := 115
abbrev m_Task_closeGap : Nat := 116
abbrev m_Task_keepSum : Nat := 117
abbrev m_Task_sumAt : Nat := 118
abbrev m_Task_ruleOfSumAt : Nat := 119
abbrev m_Mark_init : Nat := 120
abbrev m_M_init : Nat := 121
abbrev m_M_in : Nat := 122
abbrev m_M_feed : Nat := 123
abbrev m_M_four : Nat := 124
abbrev m_M_keep : Nat := 125
abbrev m_M_byteAt : Nat := 126
abbrev m_M_isLetter : Nat := 127
abbrev m_M_isDigit : Nat := 128
abbrev m_M_next : Nat := 129
abbrev m_M_isLong : Nat := 130
abbrev m_M_sign : Nat := 131
abbrev m_M_isSign : Nat := 132
abbrev m_M_isKey : Nat := 133
abbrev m_M_isWell : Nat := 134
abbrev m_M_fault_I : Nat := 135
abbrev m_M_bad : Nat := 136
abbrev m_M_push : Nat := 137
abbrev m_M_opens : Nat := 138
abbrev m_M_isTop : Nat := 139
abbrev m_M_order : Nat := 140
abbrev m_M_part : Nat := 141
abbrev m_M_one : Nat := 142
abbrev m_M_unit : Nat := 143
abbrev m_M_take : Nat := 144
abbrev m_M_does : Nat := 145
abbrev m_M_behindUnit : Nat := 146
abbrev m_M_behindSum : Nat := 147
abbrev m_M_closes : Nat := 148
abbrev m_M_behindOne : Nat := 149
abbrev m_M_read : Nat := 150
abbrev m_M_name : Nat := 151
abbrev m_M_worked : Nat := 152
abbrev m_M_value : Nat := 153
abbrev m_M_obey : Nat := 154
abbrev m_M_operate : Nat := 155
abbrev m_M_choose : Nat := 156
abbrev m_M_relates : Nat := 157
abbrev m_M_go : Nat := 158
abbrev m_M_let : Nat := 159
abbrev m_M_ruleOf : Nat := 160
abbrev m_M_change_IIJ : Nat := 161
abbrev m_M_same_I : Nat := 162
abbrev m_M_isTimely : Nat := 163
abbrev m_M_rule : Nat := 164
abbrev m_M_fault_0 : Nat := 165
abbrev m_M_latest : Nat := 166
abbrev m_M_drop : Nat := 167
abbrev m_M_alike : Nat := 168
abbrev m_M_asOf : Nat := 169
abbrev m_M_isTask : Nat := 170
abbrev m_M_judge : Nat := 171
abbrev m_M_failed_IIIJ : Nat := 172
abbrev m_M_holdIt : Nat := 173
abbrev m_M_versionOf : Nat := 174
abbrev m_M_row : Nat := 175
abbrev m_M_tasks : Nat := 176
abbrev m_M_begin : Nat := 177
abbrev m_M_comes : Nat := 178
abbrev m_M_goes : Nat := 179
abbrev m_M_send : Nat := 180
abbrev m_M_apply : Nat := 181
abbrev m_M_wake : Nat := 182
abbrev m_M_isOut : Nat := 183
abbrev m_M_out : Nat := 184
abbrev m_M_from : Nat := 185
abbrev m_M_at : Nat := 186
abbrev m_M_rules : Nat := 187
abbrev m_M_isOff : Nat := 188
abbrev m_M_off : Nat := 189
abbrev m_M_change_II : Nat := 190
abbrev m_M_when : Nat := 191
abbrev m_M_failed_II : Nat := 192
abbrev m_M_tries : Nat := 193
abbrev m_M_mark : Nat := 194
abbrev m_M_restore : Nat := 195
abbrev m_M_same_II : Nat := 196
abbrev m_M_count : Nat := 197
abbrev m_M_clear : Nat := 198
abbrev m_law_law : Nat := 199
abbrev m_Str_indexOf_I : Nat := 200
abbrev m_Str_indexOf_II : Nat := 201
abbrev m_Str_isLatin1 : Nat := 202
abbrev m_Str_length : Nat := 203
abbrev m_Str_coder : Nat := 204
abbrev m_Lat_indexOf : Nat := 205
abbrev m_Lat_canEncode : Nat := 206
abbrev m_Lat_indexOfChar : Nat := 207
abbrev m_Math_max_II : Nat := 208
abbrev m_Math_min : Nat := 209
abbrev m_Math_max_JJ : Nat := 210
abbrev m_Math_floorMod_JJ : Nat := 211
abbrev m_Math_floorMod_II : Nat := 212
abbrev nM : Nat := 213
def mtab : List MInf := [([2], 3, 2, 2, 0), ([0, 0, 0, 0, 0, 2], 0, 6, 1, 0), ([0, 2], 0, 3, 1, 0), ([1, 2], 0, 3, 1, 0), ([2], 0, 1, 1, 0), ([1, 0, 2], 0, 4, 1, 0), ([0, 2], 0, 3, 1, 0), ([0, 2], 0, 3, 1, 0), ([0, 2], 0, 7, 1, 0), ([1, 1, 1, 0, 2], 0, 9, 1, 0), ([1, 1, 1, 0, 2], 0, 11, 1, 0), ([1, 1, 1, 0, 2], 0, 10, 1, 0), ([0, 0, 2], 0, 5, 1, 0), ([0, 0, 2], 1, 4, 1, 0), ([0, 0, 2], 0, 4, 1, 0), ([1, 2], 0, 3, 1, 0), ([0, 0, 0, 2], 0, 5, 1, 0), ([0, 0, 2], 0, 4, 1, 0), ([0, 0, 2], 0, 3, 1, 0), ([0, 2], 1, 2, 1, 0), ([0, 0, 2], 0, 4, 1, 0), ([1, 1, 1, 0, 2], 0, 10, 1, 0), ([2], 0, 3, 1, 0), ([0, 2], 0, 4, 1, 0), ([0, 0, 2], 0, 6, 1, 0), ([0, 2], 0, 2, 1, 0), ([2], 0, 2, 1, 0), ([0, 2], 2, 2, 1, 0), ([0, 2], 2, 2, 1, 0), ([1, 2, 2], 0, 4, 1, 0), ([0, 2], 0, 2, 0, 0), ([0, 2, 2], 4, 4, 1, 0), ([2, 2, 2], 0, 3, 1, 0), ([2, 2], 3, 4, 1, 0), ([2, 2, 2], 0, 6, 1, 0), ([0, 0, 2, 2, 2], 0, 8, 1, 0), ([1, 0, 0, 2], 3, 6, 1, 0), ([2], 3, 1, 2, 1), ([0, 2], 4, 2, 1, 1), ([0, 2], 3, 3, 1, 1), ([0, 2], 0, 2, 1, 1), ([2], 3, 1, 2, 2), ([1, 2], 4, 3, 1, 2), ([1, 2], 0, 4, 1, 2), ([1, 2], 0, 4, 1, 2), ([2], 3, 1, 2, 3), ([2, 2], 3, 4, 1, 3), ([0, 2], 0, 2, 1, 3), ([0, 2], 0, 2, 1, 3), ([0, 2], 1, 2, 1, 3), ([1, 0, 0, 2], 3, 5, 1, 3), ([0, 2, 2], 0, 4, 1, 3), ([0, 2, 2], 0, 6, 1, 3), ([0, 2, 2], 0, 6, 1, 3), ([0, 2, 2], 0, 4, 1, 3), ([1], 4, 3, 0, 3), ([0], 4, 1, 0, 3), ([0], 4, 1, 0, 3), ([0], 4, 1, 0, 3), ([2], 3, 1, 2, 4), ([2, 2], 3, 3, 2, 4), ([0, 0, 2], 3, 3, 1, 4), ([0, 0, 2], 3, 3, 1, 4), ([0, 2], 0, 2, 1, 4), ([0, 2], 0, 2, 1, 4), ([2], 3, 1, 2, 5), ([2, 2, 2], 3, 3, 1, 5), ([2], 0, 1, 1, 5), ([0, 2], 3, 2, 1, 5), ([0, 2], 3, 2, 1, 5), ([2], 3, 1, 1, 5), ([2, 2], 3, 2, 1, 5), ([2], 3, 3, 1, 5), ([2], 3, 3, 1, 5), ([2], 3, 1, 1, 5), ([2], 3, 2, 1, 5), ([0, 2], 0, 3, 1, 5), ([2], 3, 3, 1, 5), ([2], 3, 3, 1, 5), ([2], 3, 2, 1, 5), ([2], 3, 2, 1, 5), ([2], 3, 1, 2, 6), ([1, 1, 1, 1, 2], 3, 9, 1, 6), ([2, 2], 1, 2, 1, 6), ([2, 2], 0, 3, 1, 6), ([0, 2], 1, 2, 1, 6), ([0, 0, 2, 2], 3, 7, 1, 6), ([1, 2], 3, 3, 1, 6), ([2], 1, 1, 1, 6), ([0, 2], 4, 3, 1, 6), ([0, 2], 3, 7, 1, 6), ([0, 2], 3, 6, 1, 6), ([1, 1, 0], 1, 5, 0, 6), ([2], 3, 1, 2, 7), ([2], 4, 1, 1, 7), ([1, 2], 4, 3, 1, 7), ([2], 1, 1, 1, 7), ([1, 2], 0, 4, 1, 7), ([1, 2, 0, 2], 3, 5, 1, 7), ([1, 0, 2], 3, 4, 1, 7), ([1, 0, 2], 3, 4, 1, 7), ([0, 2], 3, 2, 1, 7), ([0, 0, 2], 0, 3, 1, 7), ([0, 0, 2], 4, 3, 1, 7), ([0, 2], 2, 2, 1, 7), ([0, 0, 2], 4, 3, 1, 7), ([1, 0, 0, 0, 2], 3, 8, 1, 7), ([0, 0, 0, 2], 3, 4, 1, 7), ([0, 1, 1, 1, 2], 3, 8, 2, 8), ([2], 3, 1, 2, 9), ([1, 0, 2], 3, 4, 1, 9), ([0, 2], 4, 2, 1, 9), ([0, 0, 0, 2], 3, 4, 1, 9), ([2, 2], 4, 2, 1, 9), ([0, 2], 2, 2, 1, 9), ([2], 2, 3, 1, 9), ([0, 2], 3, 3, 1, 9), ([0, 1, 2], 3, 4, 1, 9), ([0, 2], 1, 2, 1, 9), ([0, 2], 0, 2, 1, 9), ([2], 3, 1, 2, 10), ([2], 3, 1, 2, 11), ([1, 1, 1], 4, 6, 0, 11), ([0, 0, 0, 0, 0, 2], 0, 6, 1, 11), ([0, 2], 3, 3, 1, 11), ([0, 2], 0, 3, 1, 11), ([0, 2], 0, 2, 1, 11), ([0], 4, 1, 0, 11), ([0], 4, 1, 0, 11), ([2], 3, 3, 1, 11), ([2], 4, 1, 1, 11), ([0, 2], 3, 3, 1, 11), ([0, 2], 4, 2, 1, 11), ([1, 2], 4, 3, 1, 11), ([2], 4, 1, 1, 11), ([0, 2], 3, 2, 1, 11), ([2], 3, 1, 1, 11), ([0, 0, 2], 3, 3, 1, 11), ([0, 2], 3, 2, 1, 11), ([0, 2], 4, 2, 1, 11), ([1, 0, 2], 3, 4, 1, 11), ([0, 0, 0, 2], 3, 5, 1, 11), ([2], 0, 1, 1, 11), ([2], 0, 1, 1, 11), ([0, 2], 3, 2, 1, 11), ([0, 2], 3, 2, 1, 11), ([2], 0, 1, 1, 11), ([2], 0, 3, 1, 11), ([0, 2], 0, 2, 1, 11), ([2], 0, 2, 1, 11), ([0, 2], 3, 4, 1, 11), ([2], 3, 1, 1, 11), ([0, 0, 2], 1, 8, 1, 11), ([1, 2], 3, 3, 1, 11), ([1, 0, 2], 3, 4, 1, 11), ([1, 0, 2], 3, 6, 1, 11), ([0, 2], 3, 4, 1, 11), ([1, 1, 0], 4, 5, 0, 11), ([0, 0, 2], 3, 4, 1, 11), ([1, 1, 1, 1, 2], 3, 9, 1, 11), ([1, 2], 0, 4, 1, 11), ([1, 0, 0, 2], 3, 6, 1, 11), ([0, 2], 3, 3, 1, 11), ([1, 2], 4, 3, 1, 11), ([1, 2], 0, 4, 1, 11), ([2], 0, 1, 1, 11), ([0, 2], 0, 2, 1, 11), ([1, 0, 2], 0, 4, 1, 11), ([0, 2], 0, 3, 1, 11), ([0, 2], 0, 3, 1, 11), ([0, 2], 4, 2, 1, 11), ([0, 1, 1, 1, 0, 2], 0, 16, 1, 11), ([1, 0, 0, 0, 2], 3, 6, 1, 11), ([0, 1, 1, 1, 0, 2], 3, 10, 1, 11), ([1, 0, 2], 0, 4, 1, 11), ([1, 1, 1, 0, 2], 0, 9, 1, 11), ([0, 2], 0, 6, 1, 11), ([0, 2], 3, 3, 1, 11), ([0, 1, 1, 1, 0, 2], 3, 10, 1, 11), ([1, 1, 1, 0, 2], 0, 11, 1, 11), ([1, 1, 1, 0, 2], 0, 10, 1, 11), ([0, 0, 2], 0, 4, 1, 11), ([0, 2], 3, 14, 1, 11), ([0, 0, 2], 4, 3, 1, 11), ([0, 0, 2], 1, 3, 1, 11), ([0, 0, 2], 0, 3, 1, 11), ([1, 2], 0, 5, 1, 11), ([0, 0, 0, 2], 0, 6, 1, 11), ([0, 0, 2], 4, 4, 1, 11), ([0, 0, 2], 0, 3, 1, 11), ([0, 0, 2], 0, 3, 1, 11), ([0, 2], 1, 2, 1, 11), ([0, 0, 2], 0, 3, 1, 11), ([1, 1, 1, 0, 2], 0, 9, 1, 11), ([2], 0, 2, 1, 11), ([0, 2], 0, 4, 1, 11), ([0, 0, 2], 0, 5, 1, 11), ([0, 2], 0, 3, 1, 11), ([2], 0, 2, 1, 11), ([2], 4, 4, 0, 99), ([0, 2], 0, 2, 1, 12), ([0, 0, 2], 0, 3, 1, 12), ([2], 4, 1, 1, 12), ([2], 0, 1, 1, 12), ([2], 5, 1, 1, 12), ([0, 0, 0, 2], 0, 4, 0, 99), ([0], 4, 1, 0, 99), ([0, 0, 0, 2], 0, 6, 0, 99), ([0, 0], 0, 2, 0, 99), ([0, 0], 0, 2, 0, 99), ([1, 1], 1, 4, 0, 99), ([1, 1], 1, 6, 0, 99), ([0, 0], 0, 3, 0, 99)]
def mtb (k : Nat) : MInf := mtab.getD k ([], 9, 0, 9, 99)
def nFs : List Nat := [15, 2, 2, 4, 6, 7, 7, 8, 4, 12, 2, 62]
def TX : u_T := fun k => match k with
  | 0 => ("RuleBroadcast", "text", "LRuleBroadcast$Text;", true)
  | 1 => ("RuleBroadcast", "names", "LRuleBroadcast$Names;", true)
  | 2 => ("RuleBroadcast", "reader", "LRuleBroadcast$Reader;", true)
  | 3 => ("RuleBroadcast", "log", "LRuleBroadcast$Log;", true)
  | 4 => ("RuleBroadcast", "machine", "LRuleBroadcast$Machine;", true)
  | 5 => ("RuleBroadcast", "allTasks", "[LRuleBroadcast$Task;", true)
  | 6 => ("RuleBroadcast", "allMarks", "[LRuleBroadcast$Mark;", true)
  | 7 => ("RuleBroadcast", "taskCount", "I", false)
  | 8 => ("RuleBroadcast", "markCount", "I", false)
  | 9 => ("RuleBroadcast", "isAlike", "Z", false)
  | 10 => ("RuleBroadcast", "isAsOf", "Z", false)
  | 11 => ("RuleBroadcast", "latestFault", "I", false)
  | 12 => ("RuleBroadcast", "lostRows", "I", false)
  | 13 => ("RuleBroadcast", "judgedRows", "I", false)
  | _ => ("RuleBroadcast", "failures", "I", false)
def tyX : Nat → FieldType := fun k => match k with
  | 0 => (.object "RuleBroadcast$Text")
  | 1 => (.object "RuleBroadcast$Names")
  | 2 => (.object "RuleBroadcast$Reader")
  | 3 => (.object "RuleBroadcast$Log")
  | 4 => (.object "RuleBroadcast$Machine")
  | 5 => (.array (.object "RuleBroadcast$Task"))
  | 6 => (.array (.object "RuleBroadcast$Mark"))
  | 7 => .int
  | 8 => .int
  | 9 => .boolean
  | 10 => .boolean
  | 11 => .int
  | 12 => .int
  | 13 => .int
  | _ => .int
def TText : u_T := fun k => match k with
  | 0 => ("RuleBroadcast$Text", "bytes", "[B", true)
  | _ => ("RuleBroadcast$Text", "length", "I", false)
def tyText : Nat → FieldType := fun k => match k with
  | 0 => (.array .byte)
  | _ => .int
def TNames : u_T := fun k => match k with
  | 0 => ("RuleBroadcast$Names", "packed", "[J", true)
  | _ => ("RuleBroadcast$Names", "size", "I", false)
def tyNames : Nat → FieldType := fun k => match k with
  | 0 => (.array .long)
  | _ => .int
def TTokens : u_T := fun k => match k with
  | 0 => ("RuleBroadcast$Tokens", "kinds", "[I", true)
  | 1 => ("RuleBroadcast$Tokens", "places", "[I", true)
  | 2 => ("RuleBroadcast$Tokens", "values", "[J", true)
  | _ => ("RuleBroadcast$Tokens", "size", "I", false)
def tyTokens : Nat → FieldType := fun k => match k with
  | 0 => (.array .int)
  | 1 => (.array .int)
  | 2 => (.array .long)
  | _ => .int
def TProgram : u_T := fun k => match k with
  | 0 => ("RuleBroadcast$Program", "steps", "[I", true)
  | 1 => ("RuleBroadcast$Program", "details", "[I", true)
  | 2 => ("RuleBroadcast$Program", "size", "I", false)
  | 3 => ("RuleBroadcast$Program", "endOfBy", "I", false)
  | 4 => ("RuleBroadcast$Program", "endOfTest", "I", false)
  | _ => ("RuleBroadcast$Program", "sums", "I", false)
def tyProgram : Nat → FieldType := fun k => match k with
  | 0 => (.array .int)
  | 1 => (.array .int)
  | 2 => .int
  | 3 => .int
  | 4 => .int
  | _ => .int
def TReader : u_T := fun k => match k with
  | 0 => ("RuleBroadcast$Reader", "tokens", "LRuleBroadcast$Tokens;", true)
  | 1 => ("RuleBroadcast$Reader", "draft", "LRuleBroadcast$Program;", true)
  | 2 => ("RuleBroadcast$Reader", "name", "J", false)
  | 3 => ("RuleBroadcast$Reader", "faultKind", "I", false)
  | 4 => ("RuleBroadcast$Reader", "faultPlace", "I", false)
  | 5 => ("RuleBroadcast$Reader", "cursor", "I", false)
  | _ => ("RuleBroadcast$Reader", "open", "I", false)
def tyReader : Nat → FieldType := fun k => match k with
  | 0 => (.object "RuleBroadcast$Tokens")
  | 1 => (.object "RuleBroadcast$Program")
  | 2 => .long
  | 3 => .int
  | 4 => .int
  | 5 => .int
  | _ => .int
def TMachine : u_T := fun k => match k with
  | 0 => ("RuleBroadcast$Machine", "stack", "[J", true)
  | 1 => ("RuleBroadcast$Machine", "top", "I", false)
  | 2 => ("RuleBroadcast$Machine", "k", "J", false)
  | 3 => ("RuleBroadcast$Machine", "t", "J", false)
  | 4 => ("RuleBroadcast$Machine", "v", "J", false)
  | 5 => ("RuleBroadcast$Machine", "n", "J", false)
  | _ => ("RuleBroadcast$Machine", "failure", "I", false)
def tyMachine : Nat → FieldType := fun k => match k with
  | 0 => (.array .long)
  | 1 => .int
  | 2 => .long
  | 3 => .long
  | 4 => .long
  | 5 => .long
  | _ => .int
def TLog : u_T := fun k => match k with
  | 0 => ("RuleBroadcast$Log", "kinds", "[I", true)
  | 1 => ("RuleBroadcast$Log", "rulesTold", "[I", true)
  | 2 => ("RuleBroadcast$Log", "versionsBack", "[I", true)
  | 3 => ("RuleBroadcast$Log", "times", "[J", true)
  | 4 => ("RuleBroadcast$Log", "programs", "[LRuleBroadcast$Program;", true)
  | 5 => ("RuleBroadcast$Log", "texts", "[I", true)
  | 6 => ("RuleBroadcast$Log", "ons", "[I", true)
  | _ => ("RuleBroadcast$Log", "size", "I", false)
def tyLog : Nat → FieldType := fun k => match k with
  | 0 => (.array .int)
  | 1 => (.array .int)
  | 2 => (.array .int)
  | 3 => (.array .long)
  | 4 => (.array (.object "RuleBroadcast$Program"))
  | 5 => (.array .int)
  | 6 => (.array .int)
  | _ => .int
def TRow : u_T := fun k => match k with
  | 0 => ("RuleBroadcast$Row", "k", "J", true)
  | 1 => ("RuleBroadcast$Row", "t", "J", true)
  | 2 => ("RuleBroadcast$Row", "v", "J", true)
  | _ => ("RuleBroadcast$Row", "version", "I", true)
def tyRow : Nat → FieldType := fun k => match k with
  | 0 => .long
  | 1 => .long
  | 2 => .long
  | _ => .int
def TTask : u_T := fun k => match k with
  | 0 => ("RuleBroadcast$Task", "applied", "I", false)
  | 1 => ("RuleBroadcast$Task", "offs", "J", false)
  | 2 => ("RuleBroadcast$Task", "judged", "I", false)
  | 3 => ("RuleBroadcast$Task", "waiting", "[LRuleBroadcast$Row;", true)
  | 4 => ("RuleBroadcast$Task", "waits", "I", false)
  | 5 => ("RuleBroadcast$Task", "sums", "[J", true)
  | 6 => ("RuleBroadcast$Task", "rulesOfSums", "[I", true)
  | 7 => ("RuleBroadcast$Task", "nextSum", "I", false)
  | 8 => ("RuleBroadcast$Task", "kept", "I", false)
  | 9 => ("RuleBroadcast$Task", "failure", "I", false)
  | 10 => ("RuleBroadcast$Task", "failedRule", "I", false)
  | _ => ("RuleBroadcast$Task", "failedText", "I", false)
def tyTask : Nat → FieldType := fun k => match k with
  | 0 => .int
  | 1 => .long
  | 2 => .int
  | 3 => (.array (.object "RuleBroadcast$Row"))
  | 4 => .int
  | 5 => (.array .long)
  | 6 => (.array .int)
  | 7 => .int
  | 8 => .int
  | 9 => .int
  | 10 => .int
  | _ => .int
def TMark : u_T := fun k => match k with
  | 0 => ("RuleBroadcast$Mark", "version", "I", false)
  | _ => ("RuleBroadcast$Mark", "offs", "[J", true)
def tyMark : Nat → FieldType := fun k => match k with
  | 0 => .int
  | _ => (.array .long)
def TM : u_T := fun k => match k with
  | 0 => ("RuleBroadcastModel", "hand", "[B", true)
  | 1 => ("RuleBroadcastModel", "size", "I", false)
  | 2 => ("RuleBroadcastModel", "at", "I", false)
  | 3 => ("RuleBroadcastModel", "place", "I", false)
  | 4 => ("RuleBroadcastModel", "token", "I", false)
  | 5 => ("RuleBroadcastModel", "word", "J", false)
  | 6 => ("RuleBroadcastModel", "wrong", "I", false)
  | 7 => ("RuleBroadcastModel", "wrongPlace", "I", false)
  | 8 => ("RuleBroadcastModel", "open", "I", false)
  | 9 => ("RuleBroadcastModel", "pile", "[I", true)
  | 10 => ("RuleBroadcastModel", "with", "[I", true)
  | 11 => ("RuleBroadcastModel", "top", "I", false)
  | 12 => ("RuleBroadcastModel", "orders", "[I", true)
  | 13 => ("RuleBroadcastModel", "numbers", "[J", true)
  | 14 => ("RuleBroadcastModel", "code", "I", false)
  | 15 => ("RuleBroadcastModel", "begins", "[I", true)
  | 16 => ("RuleBroadcastModel", "ends", "[I", true)
  | 17 => ("RuleBroadcastModel", "nameOf", "J", false)
  | 18 => ("RuleBroadcastModel", "k", "J", false)
  | 19 => ("RuleBroadcastModel", "t", "J", false)
  | 20 => ("RuleBroadcastModel", "v", "J", false)
  | 21 => ("RuleBroadcastModel", "n", "J", false)
  | 22 => ("RuleBroadcastModel", "failure", "I", false)
  | 23 => ("RuleBroadcastModel", "values", "[J", true)
  | 24 => ("RuleBroadcastModel", "many", "I", false)
  | 25 => ("RuleBroadcastModel", "hasBy", "Z", false)
  | 26 => ("RuleBroadcastModel", "by", "J", false)
  | 27 => ("RuleBroadcastModel", "holds", "Z", false)
  | 28 => ("RuleBroadcastModel", "outs", "[J", true)
  | 29 => ("RuleBroadcastModel", "outMany", "I", false)
  | 30 => ("RuleBroadcastModel", "names", "I", false)
  | 31 => ("RuleBroadcastModel", "nameRows", "[J", true)
  | 32 => ("RuleBroadcastModel", "changes", "I", false)
  | 33 => ("RuleBroadcastModel", "kinds", "[I", true)
  | 34 => ("RuleBroadcastModel", "whose", "[I", true)
  | 35 => ("RuleBroadcastModel", "backTo", "[I", true)
  | 36 => ("RuleBroadcastModel", "times", "[J", true)
  | 37 => ("RuleBroadcastModel", "textOf", "[I", true)
  | 38 => ("RuleBroadcastModel", "isOn", "[Z", true)
  | 39 => ("RuleBroadcastModel", "lastFault", "I", false)
  | 40 => ("RuleBroadcastModel", "isAlike", "Z", false)
  | 41 => ("RuleBroadcastModel", "isAsOf", "Z", false)
  | 42 => ("RuleBroadcastModel", "tasks", "I", false)
  | 43 => ("RuleBroadcastModel", "applied", "[I", true)
  | 44 => ("RuleBroadcastModel", "offs", "[Z", true)
  | 45 => ("RuleBroadcastModel", "waits", "[I", true)
  | 46 => ("RuleBroadcastModel", "waitRows", "[J", true)
  | 47 => ("RuleBroadcastModel", "waitVersions", "[I", true)
  | 48 => ("RuleBroadcastModel", "judged", "[I", true)
  | 49 => ("RuleBroadcastModel", "outTold", "[I", true)
  | 50 => ("RuleBroadcastModel", "outRows", "[J", true)
  | 51 => ("RuleBroadcastModel", "outRules", "[I", true)
  | 52 => ("RuleBroadcastModel", "failNumbers", "[I", true)
  | 53 => ("RuleBroadcastModel", "failRules", "[I", true)
  | 54 => ("RuleBroadcastModel", "failTexts", "[I", true)
  | 55 => ("RuleBroadcastModel", "lost", "I", false)
  | 56 => ("RuleBroadcastModel", "judgedAll", "I", false)
  | 57 => ("RuleBroadcastModel", "failedAll", "I", false)
  | 58 => ("RuleBroadcastModel", "marks", "I", false)
  | 59 => ("RuleBroadcastModel", "markVersions", "[I", true)
  | 60 => ("RuleBroadcastModel", "markTasks", "[I", true)
  | _ => ("RuleBroadcastModel", "markOffs", "[Z", true)
def tyM : Nat → FieldType := fun k => match k with
  | 0 => (.array .byte)
  | 1 => .int
  | 2 => .int
  | 3 => .int
  | 4 => .int
  | 5 => .long
  | 6 => .int
  | 7 => .int
  | 8 => .int
  | 9 => (.array .int)
  | 10 => (.array .int)
  | 11 => .int
  | 12 => (.array .int)
  | 13 => (.array .long)
  | 14 => .int
  | 15 => (.array .int)
  | 16 => (.array .int)
  | 17 => .long
  | 18 => .long
  | 19 => .long
  | 20 => .long
  | 21 => .long
  | 22 => .int
  | 23 => (.array .long)
  | 24 => .int
  | 25 => .boolean
  | 26 => .long
  | 27 => .boolean
  | 28 => (.array .long)
  | 29 => .int
  | 30 => .int
  | 31 => (.array .long)
  | 32 => .int
  | 33 => (.array .int)
  | 34 => (.array .int)
  | 35 => (.array .int)
  | 36 => (.array .long)
  | 37 => (.array .int)
  | 38 => (.array .boolean)
  | 39 => .int
  | 40 => .boolean
  | 41 => .boolean
  | 42 => .int
  | 43 => (.array .int)
  | 44 => (.array .boolean)
  | 45 => (.array .int)
  | 46 => (.array .long)
  | 47 => (.array .int)
  | 48 => (.array .int)
  | 49 => (.array .int)
  | 50 => (.array .long)
  | 51 => (.array .int)
  | 52 => (.array .int)
  | 53 => (.array .int)
  | 54 => (.array .int)
  | 55 => .int
  | 56 => .int
  | 57 => .int
  | 58 => .int
  | 59 => (.array .int)
  | 60 => (.array .int)
  | _ => (.array .boolean)
def clsS : List vw_C := [("RuleBroadcast", TX, 15), ("RuleBroadcast$Text", TText, 2), ("RuleBroadcast$Names", TNames, 2), ("RuleBroadcast$Tokens", TTokens, 4), ("RuleBroadcast$Program", TProgram, 6), ("RuleBroadcast$Reader", TReader, 7), ("RuleBroadcast$Machine", TMachine, 7), ("RuleBroadcast$Log", TLog, 8), ("RuleBroadcast$Row", TRow, 4), ("RuleBroadcast$Task", TTask, 12), ("RuleBroadcast$Mark", TMark, 2), ("RuleBroadcastModel", TM, 62)]
def tysS : List (Nat → FieldType) := [tyX, tyText, tyNames, tyTokens, tyProgram, tyReader, tyMachine, tyLog, tyRow, tyTask, tyMark, tyM]
def tyS (ci : Nat) : Nat → FieldType := tysS.getD ci (fun _ => .int)
def ownL : List String := ["RuleBroadcast", "RuleBroadcast$Text", "RuleBroadcast$Names", "RuleBroadcast$Tokens", "RuleBroadcast$Program", "RuleBroadcast$Reader", "RuleBroadcast$Machine", "RuleBroadcast$Log", "RuleBroadcast$Row", "RuleBroadcast$Task", "RuleBroadcast$Mark", "RuleBroadcastModel", "java/lang/String", "RuleBroadcastLaw", "java/lang/Math", "java/lang/StringLatin1"]
def ownS (o : Nat) : String := ownL.getD o ""
def srtF : FieldType → Nat
  | .int => 0
  | .long => 1
  | .object _ => 2
  | .array _ => 2
  | .boolean => 3
  | _ => 7
def fltab : List (Nat × Nat × Nat × Nat) := [(1, 9, 1002, 119), (1, 13, 1010, 120), (3, 26, 1010, 121), (0, 70, 1010, 122), (2, 9, 2002, 135), (2, 13, 2010, 136), (0, 209, 2010, 137), (3, 9, 3002, 156), (3, 15, 3012, 157), (3, 18, 3022, 158), (3, 22, 3030, 159), (5, 101, 3030, 160), (4, 9, 4002, 177), (4, 15, 4012, 178), (4, 18, 4020, 179), (5, 27, 4020, 180), (6, 48, 4020, 181), (5, 54, 4030, 182), (4, 35, 4030, 183), (6, 28, 4030, 184), (4, 38, 4040, 185), (5, 60, 4040, 186), (6, 42, 4040, 187), (4, 41, 4050, 188), (5, 72, 4050, 189), (6, 51, 4050, 190), (5, 10, 5002, 204), (5, 19, 5012, 205), (0, 104, 5012, 206), (0, 94, 5021, 207), (5, 88, 5021, 208), (5, 31, 5030, 209), (0, 85, 5030, 210), (5, 34, 5040, 211), (0, 91, 5040, 212), (5, 37, 5050, 213), (5, 40, 5060, 214), (7, 11, 7002, 238), (0, 218, 7002, 239), (7, 15, 7012, 240), (0, 222, 7012, 241), (7, 18, 7022, 242), (0, 225, 7022, 243), (7, 21, 7032, 244), (0, 228, 7032, 245), (7, 27, 7042, 246), (7, 33, 7052, 247), (7, 36, 7062, 248), (7, 39, 7070, 249), (0, 115, 7070, 250), (6, 9, 6002, 274), (6, 54, 6010, 275), (6, 15, 6021, 276), (6, 19, 6031, 277), (6, 22, 6041, 278), (6, 25, 6051, 279), (6, 45, 6060, 280), (0, 181, 6060, 281), (9, 32, 9000, 306), (0, 133, 9000, 307), (9, 35, 9011, 308), (0, 136, 9011, 309), (9, 39, 9020, 310), (0, 267, 9020, 311), (9, 13, 9032, 312), (9, 42, 9040, 313), (0, 142, 9040, 314), (9, 17, 9052, 315), (9, 21, 9062, 316), (9, 45, 9070, 317), (9, 48, 9080, 318), (0, 270, 9080, 319), (9, 51, 9090, 320), (0, 232, 9090, 321), (9, 25, 9100, 322), (0, 233, 9100, 323), (9, 29, 9110, 324), (0, 236, 9110, 325), (0, 246, 10000, 358), (10, 9, 10012, 359), (0, 249, 10012, 360), (0, 10, 2, 366), (0, 19, 12, 367), (0, 26, 22, 368), (0, 33, 32, 369), (0, 40, 42, 370), (0, 46, 52, 371), (0, 53, 62, 372), (0, 58, 70, 373), (0, 243, 80, 374), (0, 126, 93, 375), (0, 130, 103, 376), (0, 88, 110, 377), (0, 153, 120, 378), (0, 254, 130, 379), (0, 257, 140, 380), (8, 7, 8001, 851), (0, 292, 8001, 852), (8, 13, 8011, 853), (0, 295, 8011, 854), (8, 16, 8021, 855), (0, 298, 8021, 856), (8, 19, 8030, 857), (9, 58, 8030, 858), (0, 276, 8030, 859), (11, 7, 11002, 991), (11, 110, 11010, 992), (11, 121, 11020, 993), (11, 128, 11030, 994), (11, 135, 11040, 995), (11, 131, 11051, 996), (11, 170, 11060, 997), (11, 173, 11070, 998), (11, 182, 11080, 999), (11, 13, 11092, 1000), (11, 17, 11102, 1001), (11, 179, 11110, 1002), (11, 20, 11122, 1003), (11, 23, 11132, 1004), (11, 192, 11140, 1005), (11, 27, 11152, 1006), (11, 30, 11162, 1007), (11, 264, 11171, 1008), (11, 289, 11181, 1009), (11, 294, 11191, 1010), (11, 299, 11201, 1011), (11, 302, 11211, 1012), (11, 277, 11220, 1013), (11, 33, 11232, 1014), (11, 274, 11240, 1015), (11, 317, 11253, 1016), (11, 325, 11261, 1017), (11, 328, 11273, 1018), (11, 36, 11282, 1019), (11, 331, 11290, 1020), (11, 271, 11300, 1021), (11, 39, 11312, 1022), (11, 334, 11320, 1023), (11, 42, 11332, 1024), (11, 45, 11342, 1025), (11, 48, 11352, 1026), (11, 51, 11362, 1027), (11, 54, 11372, 1028), (11, 57, 11382, 1029), (11, 346, 11390, 1030), (11, 356, 11403, 1031), (11, 359, 11413, 1032), (11, 106, 11420, 1033), (11, 61, 11432, 1034), (11, 64, 11442, 1035), (11, 67, 11452, 1036), (11, 70, 11462, 1037), (11, 73, 11472, 1038), (11, 76, 11482, 1039), (11, 79, 11492, 1040), (11, 82, 11502, 1041), (11, 85, 11512, 1042), (11, 88, 11522, 1043), (11, 91, 11532, 1044), (11, 94, 11542, 1045), (11, 404, 11550, 1046), (11, 362, 11560, 1047), (11, 376, 11570, 1048), (11, 426, 11580, 1049), (11, 97, 11592, 1050), (11, 100, 11602, 1051), (11, 103, 11612, 1052)]
def mltab : List (Nat × Nat × Nat × Nat) := [(13, 9, 0, 107), (0, 9, 37, 115), (0, 18, 41, 131), (0, 25, 65, 146), (5, 9, 45, 152), (5, 18, 59, 173), (0, 32, 93, 232), (0, 39, 81, 270), (0, 50, 109, 300), (0, 57, 120, 354), (13, 13, 1, 412), (0, 62, 38, 416), (0, 66, 39, 420), (13, 18, 2, 424), (13, 25, 3, 428), (0, 73, 95, 432), (0, 77, 94, 436), (0, 81, 66, 440), (5, 23, 46, 444), (3, 29, 40, 448), (3, 33, 56, 452), (3, 37, 51, 455), (3, 51, 57, 459), (3, 54, 52, 462), (3, 47, 50, 466), (3, 66, 55, 470), (3, 57, 58, 475), (3, 60, 53, 478), (3, 63, 54, 483), (3, 74, 200, 488), (12, 633, 201, 492), (12, 492, 202, 496), (12, 505, 203, 502), (12, 335, 204, 506), (12, 637, 205, 510), (15, 88, 206, 513), (15, 92, 208, 516), (15, 38, 209, 519), (15, 95, 207, 522), (3, 41, 208, 574), (5, 43, 71, 575), (5, 84, 49, 579), (5, 47, 67, 583), (5, 75, 47, 587), (5, 92, 42, 591), (2, 17, 44, 595), (5, 81, 68, 599), (5, 78, 48, 603), (5, 64, 69, 607), (5, 51, 77, 611), (5, 120, 78, 615), (5, 123, 79, 619), (5, 102, 61, 623), (5, 114, 70, 627), (5, 126, 80, 631), (5, 68, 76, 635), (5, 57, 72, 640), (5, 98, 73, 644), (5, 109, 74, 648), (5, 117, 75, 653), (5, 106, 62, 658), (0, 98, 43, 663), (0, 108, 60, 668), (4, 22, 208, 671), (4, 28, 63, 672), (4, 32, 64, 676), (0, 111, 98, 680), (7, 43, 94, 684), (7, 47, 106, 685), (7, 51, 107, 689), (7, 63, 105, 693), (13, 30, 4, 697), (13, 35, 5, 701), (0, 118, 102, 705), (0, 122, 99, 709), (13, 40, 6, 713), (13, 45, 7, 717), (13, 49, 8, 721), (0, 139, 110, 725), (0, 145, 114, 729), (0, 149, 32, 733), (0, 277, 34, 737), (0, 210, 103, 741), (0, 273, 111, 745), (0, 288, 35, 749), (0, 264, 104, 753), (0, 173, 82, 757), (0, 239, 84, 761), (6, 34, 86, 765), (6, 57, 63, 769), (6, 61, 64, 770), (6, 64, 87, 771), (6, 68, 88, 775), (6, 72, 90, 779), (6, 80, 208, 783), (6, 38, 85, 784), (6, 76, 89, 788), (6, 86, 91, 792), (6, 91, 92, 796), (0, 301, 112, 799), (0, 305, 36, 803), (0, 316, 96, 807), (0, 320, 210, 811), (0, 323, 100, 814), (7, 55, 102, 818), (0, 309, 85, 819), (0, 312, 117, 820), (9, 65, 209, 824), (0, 280, 113, 825), (13, 53, 9, 829), (0, 156, 27, 833), (0, 162, 29, 839), (0, 206, 97, 843), (0, 166, 108, 847), (13, 58, 10, 869), (0, 169, 28, 873), (0, 177, 83, 877), (0, 184, 211, 881), (13, 62, 11, 884), (0, 190, 10, 888), (13, 66, 12, 889), (0, 194, 33, 893), (0, 284, 115, 897), (9, 54, 114, 901), (9, 61, 116, 902), (13, 71, 13, 906), (0, 198, 118, 910), (9, 71, 212, 914), (13, 76, 14, 917), (0, 202, 119, 921), (13, 80, 15, 925), (13, 84, 16, 929), (13, 89, 17, 933), (0, 214, 31, 937), (13, 93, 18, 941), (13, 97, 19, 945), (13, 102, 20, 949), (13, 106, 21, 953), (13, 110, 22, 957), (13, 114, 23, 961), (0, 251, 101, 965), (7, 59, 96, 969), (13, 118, 24, 970), (13, 122, 25, 974), (0, 260, 30, 978), (13, 126, 26, 981), (13, 12, 121, 987), (13, 17, 123, 1179), (11, 113, 124, 1183), (13, 22, 125, 1187), (11, 117, 122, 1191), (13, 29, 164, 1194), (11, 340, 163, 1198), (11, 343, 150, 1202), (11, 189, 129, 1206), (11, 124, 126, 1210), (11, 138, 127, 1214), (11, 142, 130, 1217), (11, 146, 128, 1228), (11, 153, 131, 1233), (11, 257, 151, 1237), (11, 230, 136, 1241), (11, 176, 135, 1245), (11, 267, 160, 1249), (11, 195, 134, 1253), (11, 211, 133, 1257), (11, 260, 141, 1261), (11, 185, 137, 1265), (11, 198, 142, 1269), (11, 215, 138, 1273), (11, 218, 132, 1277), (11, 202, 143, 1281), (11, 221, 140, 1285), (11, 227, 144, 1290), (11, 205, 146, 1294), (11, 233, 139, 1298), (11, 236, 145, 1302), (11, 239, 147, 1306), (11, 242, 148, 1310), (11, 208, 149, 1320), (11, 349, 161, 1324), (11, 337, 162, 1328), (13, 34, 165, 1332), (13, 39, 167, 1336), (11, 353, 166, 1340), (13, 44, 168, 1344), (13, 48, 169, 1348), (13, 57, 175, 1352), (11, 381, 170, 1356), (11, 384, 174, 1360), (11, 379, 186, 1364), (11, 388, 171, 1368), (11, 365, 159, 1372), (11, 369, 158, 1376), (11, 321, 152, 1380), (11, 280, 154, 1384), (11, 283, 153, 1388), (11, 305, 155, 1395), (11, 308, 156, 1400), (11, 311, 157, 1404), (11, 372, 172, 1407), (11, 392, 173, 1411), (13, 52, 176, 1415), (11, 398, 177, 1420), (11, 401, 178, 1424), (13, 61, 179, 1428), (13, 65, 180, 1432), (11, 407, 179, 1436), (11, 411, 175, 1437), (13, 70, 181, 1438), (11, 414, 182, 1442), (13, 75, 184, 1446), (11, 417, 183, 1450), (13, 79, 185, 1454), (13, 83, 186, 1458), (13, 88, 187, 1459), (13, 92, 189, 1464), (11, 423, 188, 1468), (13, 96, 190, 1472), (13, 101, 191, 1476), (13, 105, 192, 1480), (13, 109, 193, 1484), (13, 113, 194, 1488), (13, 117, 195, 1492), (13, 121, 196, 1496), (13, 125, 197, 1500), (13, 129, 198, 1505)]
def cltab : List (Nat × Nat × Nat × Nat) := [(13, 7, 0, 105), (0, 7, 1, 113), (0, 16, 2, 129), (0, 23, 5, 144), (5, 7, 3, 150), (5, 16, 4, 171), (0, 30, 7, 230), (7, 25, 4, 236), (0, 37, 6, 268), (0, 44, 9, 297), (9, 11, 8, 304), (0, 51, 10, 351), (0, 102, 4, 667), (0, 160, 8, 837), (13, 10, 11, 985)]
def ktab : List (Nat × Nat × Int × Nat) := [(5, 129, 1885954923, 639), (5, 113, 7237492, 652), (5, 112, 6385252, 657), (5, 63, 7304564, 662)]
def k2tab : List (Nat × Nat × Int × Nat) := [(3, 70, 10, 482), (11, 156, 25209, 1221), (11, 158, 26982, 1222), (11, 160, 7304564, 1223), (11, 162, 28530, 1224), (11, 164, 6385252, 1225), (11, 166, 7237492, 1226), (11, 168, 1885954923, 1227), (11, 149, 10, 1231), (11, 151, 48, 1232), (11, 225, 256, 1289), (11, 245, 60, 1314), (11, 247, 62, 1315), (11, 249, 61, 1316), (11, 251, 35, 1317), (11, 253, 316, 1318), (11, 255, 318, 1319), (11, 287, 107, 1392), (11, 292, 116, 1393), (11, 297, 118, 1394), (11, 315, -1, 1399), (11, 396, 6, 1419), (11, 421, 2, 1463), (11, 429, 49, 1504), (13, 23, 4294967295, 1509)]
def oitab : List (Nat × Nat × Nat) := [(0, 1, 110), (1, 1, 118), (2, 1, 134), (5, 1, 149), (3, 1, 155), (4, 1, 176), (7, 3, 235), (6, 1, 273), (9, 3, 303), (10, 3, 357), (8, 1, 850), (11, 1, 990)]
def ynL : List MethodName := [⟨"RuleBroadcast", "<init>", "()V"⟩, ⟨"RuleBroadcast", "feed", "(IIIII)I"⟩, ⟨"RuleBroadcast", "keep", "(I)I"⟩, ⟨"RuleBroadcast", "rule", "(J)I"⟩, ⟨"RuleBroadcast", "fault", "()I"⟩, ⟨"RuleBroadcast", "drop", "(IJ)I"⟩, ⟨"RuleBroadcast", "alike", "(Z)I"⟩, ⟨"RuleBroadcast", "asOf", "(Z)I"⟩, ⟨"RuleBroadcast", "tasks", "(I)I"⟩, ⟨"RuleBroadcast", "row", "(IJJJ)I"⟩, ⟨"RuleBroadcast", "goes", "(IJJJ)I"⟩, ⟨"RuleBroadcast", "send", "(IJJJ)I"⟩, ⟨"RuleBroadcast", "apply", "(II)I"⟩, ⟨"RuleBroadcast", "out", "(II)J"⟩, ⟨"RuleBroadcast", "from", "(II)I"⟩, ⟨"RuleBroadcast", "at", "(J)I"⟩, ⟨"RuleBroadcast", "rules", "(III)I"⟩, ⟨"RuleBroadcast", "off", "(II)I"⟩, ⟨"RuleBroadcast", "change", "(II)I"⟩, ⟨"RuleBroadcast", "when", "(I)J"⟩, ⟨"RuleBroadcast", "failed", "(II)I"⟩, ⟨"RuleBroadcast", "tries", "(IJJJ)I"⟩, ⟨"RuleBroadcast", "mark", "()I"⟩, ⟨"RuleBroadcast", "restore", "(I)I"⟩, ⟨"RuleBroadcast", "same", "(II)I"⟩, ⟨"RuleBroadcast", "count", "(I)I"⟩, ⟨"RuleBroadcast", "clear", "()I"⟩, ⟨"RuleBroadcast", "taskOf", "(I)LRuleBroadcast$Task;"⟩, ⟨"RuleBroadcast", "latestProgram", "(I)LRuleBroadcast$Program;"⟩, ⟨"RuleBroadcast", "versionFor", "(LRuleBroadcast$Task;J)I"⟩, ⟨"RuleBroadcast", "countOfTask", "(LRuleBroadcast$Task;I)I"⟩, ⟨"RuleBroadcast", "isOffAt", "(LRuleBroadcast$Task;I)Z"⟩, ⟨"RuleBroadcast", "comeTo", "(LRuleBroadcast$Task;LRuleBroadcast$Row;)I"⟩, ⟨"RuleBroadcast", "judgeReady", "(LRuleBroadcast$Task;)V"⟩, ⟨"RuleBroadcast", "judge", "(LRuleBroadcast$Task;LRuleBroadcast$Row;)I"⟩, ⟨"RuleBroadcast", "judgeByRule", "(LRuleBroadcast$Task;LRuleBroadcast$Row;II)I"⟩, ⟨"RuleBroadcast", "switchOffForAll", "(IIJ)V"⟩, ⟨"RuleBroadcast$Text", "<init>", "()V"⟩, ⟨"RuleBroadcast$Text", "hasRoomFor", "(I)Z"⟩, ⟨"RuleBroadcast$Text", "append", "(I)V"⟩, ⟨"RuleBroadcast$Text", "byteAt", "(I)I"⟩, ⟨"RuleBroadcast$Names", "<init>", "()V"⟩, ⟨"RuleBroadcast$Names", "hasRoomFor", "(J)Z"⟩, ⟨"RuleBroadcast$Names", "numberFor", "(J)I"⟩, ⟨"RuleBroadcast$Names", "find", "(J)I"⟩, ⟨"RuleBroadcast$Tokens", "<init>", "()V"⟩, ⟨"RuleBroadcast$Tokens", "scan", "(LRuleBroadcast$Text;)V"⟩, ⟨"RuleBroadcast$Tokens", "kindAt", "(I)I"⟩, ⟨"RuleBroadcast$Tokens", "placeAt", "(I)I"⟩, ⟨"RuleBroadcast$Tokens", "valueAt", "(I)J"⟩, ⟨"RuleBroadcast$Tokens", "add", "(IIJ)V"⟩, ⟨"RuleBroadcast$Tokens", "scanToken", "(LRuleBroadcast$Text;I)I"⟩, ⟨"RuleBroadcast$Tokens", "scanWord", "(LRuleBroadcast$Text;I)I"⟩, ⟨"RuleBroadcast$Tokens", "scanNumber", "(LRuleBroadcast$Text;I)I"⟩, ⟨"RuleBroadcast$Tokens", "scanSign", "(LRuleBroadcast$Text;I)I"⟩, ⟨"RuleBroadcast$Tokens", "isKeyWord", "(J)Z"⟩, ⟨"RuleBroadcast$Tokens", "isBlank", "(I)Z"⟩, ⟨"RuleBroadcast$Tokens", "isLetter", "(I)Z"⟩, ⟨"RuleBroadcast$Tokens", "isDigit", "(I)Z"⟩, ⟨"RuleBroadcast$Program", "<init>", "()V"⟩, ⟨"RuleBroadcast$Program", "<init>", "(LRuleBroadcast$Program;)V"⟩, ⟨"RuleBroadcast$Program", "add", "(II)V"⟩, ⟨"RuleBroadcast$Program", "setDetail", "(II)V"⟩, ⟨"RuleBroadcast$Program", "stepAt", "(I)I"⟩, ⟨"RuleBroadcast$Program", "detailAt", "(I)I"⟩, ⟨"RuleBroadcast$Reader", "<init>", "()V"⟩, ⟨"RuleBroadcast$Reader", "read", "(LRuleBroadcast$Text;LRuleBroadcast$Names;)V"⟩, ⟨"RuleBroadcast$Reader", "seen", "()I"⟩, ⟨"RuleBroadcast$Reader", "stop", "(I)V"⟩, ⟨"RuleBroadcast$Reader", "expect", "(I)V"⟩, ⟨"RuleBroadcast$Reader", "enter", "()V"⟩, ⟨"RuleBroadcast$Reader", "readName", "(LRuleBroadcast$Names;)V"⟩, ⟨"RuleBroadcast$Reader", "readTest", "()V"⟩, ⟨"RuleBroadcast$Reader", "readBoth", "()V"⟩, ⟨"RuleBroadcast$Reader", "readOne", "()V"⟩, ⟨"RuleBroadcast$Reader", "readComparison", "()V"⟩, ⟨"RuleBroadcast$Reader", "readSums", "(I)I"⟩, ⟨"RuleBroadcast$Reader", "readSum", "()V"⟩, ⟨"RuleBroadcast$Reader", "readPart", "()V"⟩, ⟨"RuleBroadcast$Reader", "readUnit", "()V"⟩, ⟨"RuleBroadcast$Reader", "readPick", "()V"⟩, ⟨"RuleBroadcast$Machine", "<init>", "()V"⟩, ⟨"RuleBroadcast$Machine", "load", "(JJJJ)V"⟩, ⟨"RuleBroadcast$Machine", "sendsBy", "(LRuleBroadcast$Program;)J"⟩, ⟨"RuleBroadcast$Machine", "sumsOf", "(LRuleBroadcast$Program;)I"⟩, ⟨"RuleBroadcast$Machine", "valueAt", "(I)J"⟩, ⟨"RuleBroadcast$Machine", "run", "(LRuleBroadcast$Program;II)V"⟩, ⟨"RuleBroadcast$Machine", "push", "(J)V"⟩, ⟨"RuleBroadcast$Machine", "pop", "()J"⟩, ⟨"RuleBroadcast$Machine", "isDecidedByLeft", "(I)Z"⟩, ⟨"RuleBroadcast$Machine", "pick", "(I)V"⟩, ⟨"RuleBroadcast$Machine", "combine", "(I)V"⟩, ⟨"RuleBroadcast$Machine", "combined", "(IJJ)J"⟩, ⟨"RuleBroadcast$Log", "<init>", "()V"⟩, ⟨"RuleBroadcast$Log", "isFull", "()Z"⟩, ⟨"RuleBroadcast$Log", "isTooEarly", "(J)Z"⟩, ⟨"RuleBroadcast$Log", "latestTime", "()J"⟩, ⟨"RuleBroadcast$Log", "versionOf", "(J)I"⟩, ⟨"RuleBroadcast$Log", "addTold", "(ILRuleBroadcast$Program;J)V"⟩, ⟨"RuleBroadcast$Log", "addDropped", "(IJ)V"⟩, ⟨"RuleBroadcast$Log", "addOff", "(IJ)V"⟩, ⟨"RuleBroadcast$Log", "addBack", "(I)V"⟩, ⟨"RuleBroadcast$Log", "textIn", "(II)I"⟩, ⟨"RuleBroadcast$Log", "isOn", "(II)Z"⟩, ⟨"RuleBroadcast$Log", "programOf", "(I)LRuleBroadcast$Program;"⟩, ⟨"RuleBroadcast$Log", "isCell", "(II)Z"⟩, ⟨"RuleBroadcast$Log", "add", "(IIIJ)V"⟩, ⟨"RuleBroadcast$Log", "set", "(IIZ)V"⟩, ⟨"RuleBroadcast$Row", "<init>", "(JJJI)V"⟩, ⟨"RuleBroadcast$Task", "<init>", "()V"⟩, ⟨"RuleBroadcast$Task", "begin", "(IJ)V"⟩, ⟨"RuleBroadcast$Task", "hasOff", "(I)Z"⟩, ⟨"RuleBroadcast$Task", "noteFailure", "(III)V"⟩, ⟨"RuleBroadcast$Task", "holdWaiting", "(LRuleBroadcast$Row;)Z"⟩, ⟨"RuleBroadcast$Task", "waitingAt", "(I)LRuleBroadcast$Row;"⟩, ⟨"RuleBroadcast$Task", "takeReady", "()LRuleBroadcast$Row;"⟩, ⟨"RuleBroadcast$Task", "closeGap", "(I)V"⟩, ⟨"RuleBroadcast$Task", "keepSum", "(JI)V"⟩, ⟨"RuleBroadcast$Task", "sumAt", "(I)J"⟩, ⟨"RuleBroadcast$Task", "ruleOfSumAt", "(I)I"⟩, ⟨"RuleBroadcast$Mark", "<init>", "()V"⟩, ⟨"RuleBroadcastModel", "<init>", "()V"⟩, ⟨"RuleBroadcastModel", "in", "(JJJ)Z"⟩, ⟨"RuleBroadcastModel", "feed", "(IIIII)I"⟩, ⟨"RuleBroadcastModel", "four", "(I)V"⟩, ⟨"RuleBroadcastModel", "keep", "(I)I"⟩, ⟨"RuleBroadcastModel", "byteAt", "(I)I"⟩, ⟨"RuleBroadcastModel", "isLetter", "(I)Z"⟩, ⟨"RuleBroadcastModel", "isDigit", "(I)Z"⟩, ⟨"RuleBroadcastModel", "next", "()V"⟩, ⟨"RuleBroadcastModel", "isLong", "()Z"⟩, ⟨"RuleBroadcastModel", "sign", "(I)V"⟩, ⟨"RuleBroadcastModel", "isSign", "(I)Z"⟩, ⟨"RuleBroadcastModel", "isKey", "(J)Z"⟩, ⟨"RuleBroadcastModel", "isWell", "()Z"⟩, ⟨"RuleBroadcastModel", "fault", "(I)V"⟩, ⟨"RuleBroadcastModel", "bad", "()V"⟩, ⟨"RuleBroadcastModel", "push", "(II)V"⟩, ⟨"RuleBroadcastModel", "opens", "(I)V"⟩, ⟨"RuleBroadcastModel", "isTop", "(I)Z"⟩, ⟨"RuleBroadcastModel", "order", "(IJ)V"⟩, ⟨"RuleBroadcastModel", "part", "(IIZ)V"⟩, ⟨"RuleBroadcastModel", "one", "()I"⟩, ⟨"RuleBroadcastModel", "unit", "()I"⟩, ⟨"RuleBroadcastModel", "take", "(I)V"⟩, ⟨"RuleBroadcastModel", "does", "(I)V"⟩, ⟨"RuleBroadcastModel", "behindUnit", "()I"⟩, ⟨"RuleBroadcastModel", "behindSum", "()I"⟩, ⟨"RuleBroadcastModel", "closes", "(I)I"⟩, ⟨"RuleBroadcastModel", "behindOne", "()I"⟩, ⟨"RuleBroadcastModel", "read", "(I)V"⟩, ⟨"RuleBroadcastModel", "name", "()V"⟩, ⟨"RuleBroadcastModel", "worked", "(II)J"⟩, ⟨"RuleBroadcastModel", "value", "(J)V"⟩, ⟨"RuleBroadcastModel", "obey", "(IJ)V"⟩, ⟨"RuleBroadcastModel", "operate", "(IJ)V"⟩, ⟨"RuleBroadcastModel", "choose", "(I)V"⟩, ⟨"RuleBroadcastModel", "relates", "(IJJ)Z"⟩, ⟨"RuleBroadcastModel", "go", "(II)V"⟩, ⟨"RuleBroadcastModel", "let", "(JJJJ)V"⟩, ⟨"RuleBroadcastModel", "ruleOf", "(J)I"⟩, ⟨"RuleBroadcastModel", "change", "(IIJ)V"⟩, ⟨"RuleBroadcastModel", "same", "(I)V"⟩, ⟨"RuleBroadcastModel", "isTimely", "(J)Z"⟩, ⟨"RuleBroadcastModel", "rule", "(J)I"⟩, ⟨"RuleBroadcastModel", "fault", "()I"⟩, ⟨"RuleBroadcastModel", "latest", "(I)I"⟩, ⟨"RuleBroadcastModel", "drop", "(IJ)I"⟩, ⟨"RuleBroadcastModel", "alike", "(Z)I"⟩, ⟨"RuleBroadcastModel", "asOf", "(Z)I"⟩, ⟨"RuleBroadcastModel", "isTask", "(I)Z"⟩, ⟨"RuleBroadcastModel", "judge", "(IJJJI)I"⟩, ⟨"RuleBroadcastModel", "failed", "(IIIJ)V"⟩, ⟨"RuleBroadcastModel", "holdIt", "(IJJJI)V"⟩, ⟨"RuleBroadcastModel", "versionOf", "(IJ)I"⟩, ⟨"RuleBroadcastModel", "row", "(IJJJ)I"⟩, ⟨"RuleBroadcastModel", "tasks", "(I)I"⟩, ⟨"RuleBroadcastModel", "begin", "(I)V"⟩, ⟨"RuleBroadcastModel", "comes", "(IJJJI)V"⟩, ⟨"RuleBroadcastModel", "goes", "(IJJJ)I"⟩, ⟨"RuleBroadcastModel", "send", "(IJJJ)I"⟩, ⟨"RuleBroadcastModel", "apply", "(II)I"⟩, ⟨"RuleBroadcastModel", "wake", "(I)V"⟩, ⟨"RuleBroadcastModel", "isOut", "(II)Z"⟩, ⟨"RuleBroadcastModel", "out", "(II)J"⟩, ⟨"RuleBroadcastModel", "from", "(II)I"⟩, ⟨"RuleBroadcastModel", "at", "(J)I"⟩, ⟨"RuleBroadcastModel", "rules", "(III)I"⟩, ⟨"RuleBroadcastModel", "isOff", "(II)Z"⟩, ⟨"RuleBroadcastModel", "off", "(II)I"⟩, ⟨"RuleBroadcastModel", "change", "(II)I"⟩, ⟨"RuleBroadcastModel", "when", "(I)J"⟩, ⟨"RuleBroadcastModel", "failed", "(II)I"⟩, ⟨"RuleBroadcastModel", "tries", "(IJJJ)I"⟩, ⟨"RuleBroadcastModel", "mark", "()I"⟩, ⟨"RuleBroadcastModel", "restore", "(I)I"⟩, ⟨"RuleBroadcastModel", "same", "(II)I"⟩, ⟨"RuleBroadcastModel", "count", "(I)I"⟩, ⟨"RuleBroadcastModel", "clear", "()I"⟩, ⟨"RuleBroadcastLaw", "law", "([I)Z"⟩, ⟨"java/lang/String", "indexOf", "(I)I"⟩, ⟨"java/lang/String", "indexOf", "(II)I"⟩, ⟨"java/lang/String", "isLatin1", "()Z"⟩, ⟨"java/lang/String", "length", "()I"⟩, ⟨"java/lang/String", "coder", "()B"⟩, ⟨"java/lang/StringLatin1", "indexOf", "([BIII)I"⟩, ⟨"java/lang/StringLatin1", "canEncode", "(I)Z"⟩, ⟨"java/lang/StringLatin1", "indexOfChar", "([BIII)I"⟩, ⟨"java/lang/Math", "max", "(II)I"⟩, ⟨"java/lang/Math", "min", "(II)I"⟩, ⟨"java/lang/Math", "max", "(JJ)J"⟩, ⟨"java/lang/Math", "floorMod", "(JJ)J"⟩, ⟨"java/lang/Math", "floorMod", "(II)I"⟩]
def ynm (mi : Nat) : MethodName := ynL.getD mi ⟨"", "", ""⟩
def bytL : List ByteArray := [prog_1_method_1_code, prog_1_method_2_code, prog_1_method_3_code, prog_1_method_4_code, prog_1_method_5_code, prog_1_method_6_code, prog_1_method_7_code, prog_1_method_8_code, prog_1_method_9_code, prog_1_method_10_code, prog_1_method_11_code, prog_1_method_12_code, prog_1_method_13_code, prog_1_method_14_code, prog_1_method_15_code, prog_1_method_16_code, prog_1_method_17_code, prog_1_method_18_code, prog_1_method_19_code, prog_1_method_20_code, prog_1_method_21_code, prog_1_method_22_code, prog_1_method_23_code, prog_1_method_24_code, prog_1_method_25_code, prog_1_method_26_code, prog_1_method_27_code, prog_1_method_28_code, prog_1_method_29_code, prog_1_method_30_code, prog_1_method_31_code, prog_1_method_32_code, prog_1_method_33_code, prog_1_method_34_code, prog_1_method_35_code, prog_1_method_36_code, prog_1_method_37_code, prog_10_method_1_code, prog_10_method_2_code, prog_10_method_3_code, prog_10_method_4_code, prog_5_method_1_code, prog_5_method_2_code, prog_5_method_3_code, prog_5_method_4_code, prog_11_method_1_code, prog_11_method_2_code, prog_11_method_3_code, prog_11_method_4_code, prog_11_method_5_code, prog_11_method_6_code, prog_11_method_7_code, prog_11_method_8_code, prog_11_method_9_code, prog_11_method_10_code, prog_11_method_11_code, prog_11_method_12_code, prog_11_method_13_code, prog_11_method_14_code, prog_6_method_1_code, prog_6_method_2_code, prog_6_method_3_code, prog_6_method_4_code, prog_6_method_5_code, prog_6_method_6_code, prog_7_method_1_code, prog_7_method_2_code, prog_7_method_3_code, prog_7_method_4_code, prog_7_method_5_code, prog_7_method_6_code, prog_7_method_7_code, prog_7_method_8_code, prog_7_method_9_code, prog_7_method_10_code, prog_7_method_11_code, prog_7_method_12_code, prog_7_method_13_code, prog_7_method_14_code, prog_7_method_15_code, prog_7_method_16_code, prog_3_method_1_code, prog_3_method_2_code, prog_3_method_3_code, prog_3_method_4_code, prog_3_method_5_code, prog_3_method_6_code, prog_3_method_7_code, prog_3_method_8_code, prog_3_method_9_code, prog_3_method_10_code, prog_3_method_11_code, prog_3_method_12_code, prog_2_method_1_code, prog_2_method_2_code, prog_2_method_3_code, prog_2_method_4_code, prog_2_method_5_code, prog_2_method_6_code, prog_2_method_7_code, prog_2_method_8_code, prog_2_method_9_code, prog_2_method_10_code, prog_2_method_11_code, prog_2_method_12_code, prog_2_method_13_code, prog_2_method_14_code, prog_2_method_15_code, prog_8_method_1_code, prog_9_method_1_code, prog_9_method_2_code, prog_9_method_3_code, prog_9_method_4_code, prog_9_method_5_code, prog_9_method_6_code, prog_9_method_7_code, prog_9_method_8_code, prog_9_method_9_code, prog_9_method_10_code, prog_9_method_11_code, prog_4_method_1_code, prog_13_method_1_code, prog_13_method_3_code, prog_13_method_4_code, prog_13_method_5_code, prog_13_method_6_code, prog_13_method_7_code, prog_13_method_8_code, prog_13_method_9_code, prog_13_method_10_code, prog_13_method_11_code, prog_13_method_12_code, prog_13_method_13_code, prog_13_method_14_code, prog_13_method_15_code, prog_13_method_16_code, prog_13_method_17_code, prog_13_method_18_code, prog_13_method_19_code, prog_13_method_20_code, prog_13_method_21_code, prog_13_method_22_code, prog_13_method_23_code, prog_13_method_24_code, prog_13_method_25_code, prog_13_method_26_code, prog_13_method_27_code, prog_13_method_28_code, prog_13_method_29_code, prog_13_method_30_code, prog_13_method_31_code, prog_13_method_32_code, prog_13_method_33_code, prog_13_method_34_code, prog_13_method_35_code, prog_13_method_36_code, prog_13_method_37_code, prog_13_method_38_code, prog_13_method_39_code, prog_13_method_40_code, prog_13_method_41_code, prog_13_method_42_code, prog_13_method_43_code, prog_13_method_44_code, prog_13_method_45_code, prog_13_method_46_code, prog_13_method_47_code, prog_13_method_48_code, prog_13_method_49_code, prog_13_method_50_code, prog_13_method_51_code, prog_13_method_52_code, prog_13_method_53_code, prog_13_method_54_code, prog_13_method_55_code, prog_13_method_56_code, prog_13_method_57_code, prog_13_method_58_code, prog_13_method_59_code, prog_13_method_60_code, prog_13_method_61_code, prog_13_method_62_code, prog_13_method_63_code, prog_13_method_64_code, prog_13_method_65_code, prog_13_method_66_code, prog_13_method_67_code, prog_13_method_68_code, prog_13_method_69_code, prog_13_method_70_code, prog_13_method_71_code, prog_13_method_72_code, prog_13_method_73_code, prog_13_method_74_code, prog_13_method_75_code, prog_13_method_76_code, prog_13_method_77_code, prog_13_method_78_code, prog_13_method_79_code, code, prog_16_method_79_code, prog_16_method_80_code, prog_16_method_154_code, prog_16_method_54_code, prog_16_method_152_code, prog_17_method_22_code, prog_17_method_4_code, prog_17_method_23_code, prog_15_method_65_code, prog_15_method_69_code, prog_15_method_66_code, prog_15_method_52_code, prog_15_method_50_code]
def byt (mi : Nat) : ByteArray := bytL.getD mi ⟨#[]⟩
def rtyL : List (Option FieldType) := [none, (some .int), (some .int), (some .int), (some .int), (some .int), (some .int), (some .int), (some .int), (some .int), (some .int), (some .int), (some .int), (some .long), (some .int), (some .int), (some .int), (some .int), (some .int), (some .long), (some .int), (some .int), (some .int), (some .int), (some .int), (some .int), (some .int), (some (.object "RuleBroadcast$Task")), (some (.object "RuleBroadcast$Program")), (some .int), (some .int), (some .boolean), (some .int), none, (some .int), (some .int), none, none, (some .boolean), none, (some .int), none, (some .boolean), (some .int), (some .int), none, none, (some .int), (some .int), (some .long), none, (some .int), (some .int), (some .int), (some .int), (some .boolean), (some .boolean), (some .boolean), (some .boolean), none, none, none, none, (some .int), (some .int), none, none, (some .int), none, none, none, none, none, none, none, none, (some .int), none, none, none, none, none, none, (some .long), (some .int), (some .long), none, none, (some .long), (some .boolean), none, none, (some .long), none, (some .boolean), (some .boolean), (some .long), (some .int), none, none, none, none, (some .int), (some .boolean), (some (.object "RuleBroadcast$Program")), (some .boolean), none, none, none, none, none, (some .boolean), none, (some .boolean), (some (.object "RuleBroadcast$Row")), (some (.object "RuleBroadcast$Row")), none, none, (some .long), (some .int), none, none, (some .boolean), (some .int), none, (some .int), (some .int), (some .boolean), (some .boolean), none, (some .boolean), none, (some .boolean), (some .boolean), (some .boolean), none, none, none, none, (some .boolean), none, none, (some .int), (some .int), none, none, (some .int), (some .int), (some .int), (some .int), none, none, (some .long), none, none, none, none, (some .boolean), none, none, (some .int), none, none, (some .boolean), (some .int), (some .int), (some .int), (some .int), (some .int), (some .int), (some .boolean), (some .int), none, none, (some .int), (some .int), (some .int), none, none, (some .int), (some .int), (some .int), none, (some .boolean), (some .long), (some .int), (some .int), (some .int), (some .boolean), (some .int), (some .int), (some .long), (some .int), (some .int), (some .int), (some .int), (some .int), (some .int), (some .int), (some .boolean), (some .int), (some .int), (some .boolean), (some .int), (some .byte), (some .int), (some .boolean), (some .int), (some .int), (some .int), (some .long), (some .long), (some .int)]
def rty (mi : Nat) : Option FieldType := rtyL.getD mi none
def omi (mi : Nat) : Nat := ([0, 0, 0, 0, 0, 0, 0, 0, 0, 0, 0, 0, 0, 0, 0, 0, 0, 0, 0, 0, 0, 0, 0, 0, 0, 0, 0, 0, 0, 0, 0, 0, 0, 0, 0, 0, 0, 1, 1, 1, 1, 2, 2, 2, 2, 3, 3, 3, 3, 3, 3, 3, 3, 3, 3, 3, 3, 3, 3, 4, 4, 4, 4, 4, 4, 5, 5, 5, 5, 5, 5, 5, 5, 5, 5, 5, 5, 5, 5, 5, 5, 6, 6, 6, 6, 6, 6, 6, 6, 6, 6, 6, 6, 7, 7, 7, 7, 7, 7, 7, 7, 7, 7, 7, 7, 7, 7, 7, 8, 9, 9, 9, 9, 9, 9, 9, 9, 9, 9, 9, 10, 11, 11, 11, 11, 11, 11, 11, 11, 11, 11, 11, 11, 11, 11, 11, 11, 11, 11, 11, 11, 11, 11, 11, 11, 11, 11, 11, 11, 11, 11, 11, 11, 11, 11, 11, 11, 11, 11, 11, 11, 11, 11, 11, 11, 11, 11, 11, 11, 11, 11, 11, 11, 11, 11, 11, 11, 11, 11, 11, 11, 11, 11, 11, 11, 11, 11, 11, 11, 11, 11, 11, 11, 11, 11, 11, 11, 11, 11, 13, 12, 12, 12, 12, 12, 15, 15, 15, 14, 14, 14, 14, 14] : List Nat).getD mi 99
set_option maxRecDepth 100000 in
theorem lw_z : True := trivial
def fchk (q : Nat × Nat × Nat × Nat) : Bool := match clsS[q.2.2.1 / 1000]? with
  | some r => decide (q.2.2.1 / 10 % 100 < r.2.2) && decide ((r.2.1 (q.2.2.1 / 10 % 100)).1 = r.1) && decide (srtF (tyS (q.2.2.1 / 1000) (q.2.2.1 / 10 % 100)) = q.2.2.1 % 10) && decide (lw_tbl[q.2.2.2]? = some (Cond.fieldLink (ownS q.1) q.2.1 r.1 (r.2.1 (q.2.2.1 / 10 % 100)).2.1 (r.2.1 (q.2.2.1 / 10 % 100)).2.2.1))
  | none => false
set_option maxRecDepth 100000 in
theorem fl_ok : fltab.all fchk = true := by decide +kernel
def mchk (q : Nat × Nat × Nat × Nat) : Bool := decide (lw_tbl[q.2.2.2]? = some (Cond.methodLink (ownS q.1) q.2.1 (ynm q.2.2.1)))
set_option maxRecDepth 100000 in
theorem ml_ok : mltab.all mchk = true := by decide +kernel
def cchk (q : Nat × Nat × Nat × Nat) : Bool := match clsS[q.2.2.1]? with
  | some r => decide (lw_tbl[q.2.2.2]? = some (Cond.classLink (ownS q.1) q.2.1 r.1))
  | none => false
set_option maxRecDepth 100000 in
theorem cl_ok : cltab.all cchk = true := by decide +kernel
def kchk (q : Nat × Nat × Int × Nat) : Bool := decide (lw_tbl[q.2.2.2]? = some (Cond.constant (ownS q.1) q.2.1 (Int32.ofInt q.2.2.1)))
theorem kt_ok : ktab.all kchk = true := by decide +kernel
def k2chk (q : Nat × Nat × Int × Nat) : Bool := decide (lw_tbl[q.2.2.2]? = some (Cond.constantLong (ownS q.1) q.2.1 (Int64.ofInt q.2.2.1)))
set_option maxRecDepth 100000 in
theorem k2_ok : k2tab.all k2chk = true := by decide +kernel
def oichk (q : Nat × Nat × Nat) : Bool := decide (lw_tbl[q.2.2]? = some (Cond.methodLink (ownS q.1) q.2.1 Lib.objectInit))
set_option maxRecDepth 100000 in
theorem oi_ok : oitab.all oichk = true := by decide +kernel
set_option maxRecDepth 100000 in
theorem cu_0 : ∀ w ∈ u_ws "RuleBroadcast" TX 15, w ∈ lw_tbl := by decide +kernel
theorem cn_0 : ∀ a, a < 15 → ∀ b, b < 15 → a ≠ b → (TX a).2.1 ≠ (TX b).2.1 := by decide +kernel
theorem ct_0 : ∀ k, k < 15 → parseFieldDescriptor (TX k).2.2.1 = some (tyX k) := by decide +kernel
theorem cI_0 : Cond.instantiable "RuleBroadcast" 15 ∈ lw_tbl := List.mem_of_getElem? (i := 106) (by decide +kernel)
theorem cz_0 : Cond.initialized "RuleBroadcast" ∈ lw_tbl := List.mem_of_getElem? (i := 87) (by decide +kernel)
set_option maxRecDepth 100000 in
theorem cu_1 : ∀ w ∈ u_ws "RuleBroadcast$Text" TText 2, w ∈ lw_tbl := by decide +kernel
theorem cn_1 : ∀ a, a < 2 → ∀ b, b < 2 → a ≠ b → (TText a).2.1 ≠ (TText b).2.1 := by decide +kernel
theorem ct_1 : ∀ k, k < 2 → parseFieldDescriptor (TText k).2.2.1 = some (tyText k) := by decide +kernel
theorem cI_1 : Cond.instantiable "RuleBroadcast$Text" 2 ∈ lw_tbl := List.mem_of_getElem? (i := 114) (by decide +kernel)
theorem cz_1 : Cond.initialized "RuleBroadcast$Text" ∈ lw_tbl := List.mem_of_getElem? (i := 88) (by decide +kernel)
set_option maxRecDepth 100000 in
theorem cu_2 : ∀ w ∈ u_ws "RuleBroadcast$Names" TNames 2, w ∈ lw_tbl := by decide +kernel
theorem cn_2 : ∀ a, a < 2 → ∀ b, b < 2 → a ≠ b → (TNames a).2.1 ≠ (TNames b).2.1 := by decide +kernel
theorem ct_2 : ∀ k, k < 2 → parseFieldDescriptor (TNames k).2.2.1 = some (tyNames k) := by decide +kernel
theorem cI_2 : Cond.instantiable "RuleBroadcast$Names" 2 ∈ lw_tbl := List.mem_of_getElem? (i := 130) (by decide +kernel)
theorem cz_2 : Cond.initialized "RuleBroadcast$Names" ∈ lw_tbl := List.mem_of_getElem? (i := 89) (by decide +kernel)
set_option maxRecDepth 100000 in
theorem cu_3 : ∀ w ∈ u_ws "RuleBroadcast$Tokens" TTokens 4, w ∈ lw_tbl := by decide +kernel
theorem cn_3 : ∀ a, a < 4 → ∀ b, b < 4 → a ≠ b → (TTokens a).2.1 ≠ (TTokens b).2.1 := by decide +kernel
theorem ct_3 : ∀ k, k < 4 → parseFieldDescriptor (TTokens k).2.2.1 = some (tyTokens k) := by decide +kernel
theorem cI_3 : Cond.instantiable "RuleBroadcast$Tokens" 4 ∈ lw_tbl := List.mem_of_getElem? (i := 151) (by decide +kernel)
theorem cz_3 : Cond.initialized "RuleBroadcast$Tokens" ∈ lw_tbl := List.mem_of_getElem? (i := 91) (by decide +kernel)
set_option maxRecDepth 100000 in
theorem cu_4 : ∀ w ∈ u_ws "RuleBroadcast$Program" TProgram 6, w ∈ lw_tbl := by decide +kernel
theorem cn_4 : ∀ a, a < 6 → ∀ b, b < 6 → a ≠ b → (TProgram a).2.1 ≠ (TProgram b).2.1 := by decide +kernel
theorem ct_4 : ∀ k, k < 6 → parseFieldDescriptor (TProgram k).2.2.1 = some (tyProgram k) := by decide +kernel
theorem cI_4 : Cond.instantiable "RuleBroadcast$Program" 6 ∈ lw_tbl := List.mem_of_getElem? (i := 172) (by decide +kernel)
theorem cz_4 : Cond.initialized "RuleBroadcast$Program" ∈ lw_tbl := List.mem_of_getElem? (i := 92) (by decide +kernel)
set_option maxRecDepth 100000 in
theorem cu_5 : ∀ w ∈ u_ws "RuleBroadcast$Reader" TReader 7, w ∈ lw_tbl := by decide +kernel
theorem cn_5 : ∀ a, a < 7 → ∀ b, b < 7 → a ≠ b → (TReader a).2.1 ≠ (TReader b).2.1 := by decide +kernel
theorem ct_5 : ∀ k, k < 7 → parseFieldDescriptor (TReader k).2.2.1 = some (tyReader k) := by decide +kernel
theorem cI_5 : Cond.instantiable "RuleBroadcast$Reader" 7 ∈ lw_tbl := List.mem_of_getElem? (i := 145) (by decide +kernel)
theorem cz_5 : Cond.initialized "RuleBroadcast$Reader" ∈ lw_tbl := List.mem_of_getElem? (i := 90) (by decide +kernel)
set_option maxRecDepth 100000 in
theorem cu_6 : ∀ w ∈ u_ws "RuleBroadcast$Machine" TMachine 7, w ∈ lw_tbl := by decide +kernel
theorem cn_6 : ∀ a, a < 7 → ∀ b, b < 7 → a ≠ b → (TMachine a).2.1 ≠ (TMachine b).2.1 := by decide +kernel
theorem ct_6 : ∀ k, k < 7 → parseFieldDescriptor (TMachine k).2.2.1 = some (tyMachine k) := by decide +kernel
theorem cI_6 : Cond.instantiable "RuleBroadcast$Machine" 7 ∈ lw_tbl := List.mem_of_getElem? (i := 269) (by decide +kernel)
theorem cz_6 : Cond.initialized "RuleBroadcast$Machine" ∈ lw_tbl := List.mem_of_getElem? (i := 94) (by decide +kernel)
set_option maxRecDepth 100000 in
theorem cu_7 : ∀ w ∈ u_ws "RuleBroadcast$Log" TLog 8, w ∈ lw_tbl := by decide +kernel
theorem cn_7 : ∀ a, a < 8 → ∀ b, b < 8 → a ≠ b → (TLog a).2.1 ≠ (TLog b).2.1 := by decide +kernel
theorem ct_7 : ∀ k, k < 8 → parseFieldDescriptor (TLog k).2.2.1 = some (tyLog k) := by decide +kernel
theorem cI_7 : Cond.instantiable "RuleBroadcast$Log" 8 ∈ lw_tbl := List.mem_of_getElem? (i := 231) (by decide +kernel)
theorem cz_7 : Cond.initialized "RuleBroadcast$Log" ∈ lw_tbl := List.mem_of_getElem? (i := 93) (by decide +kernel)
set_option maxRecDepth 100000 in
theorem cu_8 : ∀ w ∈ u_ws "RuleBroadcast$Row" TRow 4, w ∈ lw_tbl := by decide +kernel
theorem cn_8 : ∀ a, a < 4 → ∀ b, b < 4 → a ≠ b → (TRow a).2.1 ≠ (TRow b).2.1 := by decide +kernel
theorem ct_8 : ∀ k, k < 4 → parseFieldDescriptor (TRow k).2.2.1 = some (tyRow k) := by decide +kernel
theorem cI_8 : Cond.instantiable "RuleBroadcast$Row" 4 ∈ lw_tbl := List.mem_of_getElem? (i := 838) (by decide +kernel)
theorem cz_8 : Cond.initialized "RuleBroadcast$Row" ∈ lw_tbl := List.mem_of_getElem? (i := 104) (by decide +kernel)
set_option maxRecDepth 100000 in
theorem cu_9 : ∀ w ∈ u_ws "RuleBroadcast$Task" TTask 12, w ∈ lw_tbl := by decide +kernel
theorem cn_9 : ∀ a, a < 12 → ∀ b, b < 12 → a ≠ b → (TTask a).2.1 ≠ (TTask b).2.1 := by decide +kernel
theorem ct_9 : ∀ k, k < 12 → parseFieldDescriptor (TTask k).2.2.1 = some (tyTask k) := by decide +kernel
theorem cI_9 : Cond.instantiable "RuleBroadcast$Task" 12 ∈ lw_tbl := List.mem_of_getElem? (i := 299) (by decide +kernel)
theorem cz_9 : Cond.initialized "RuleBroadcast$Task" ∈ lw_tbl := List.mem_of_getElem? (i := 95) (by decide +kernel)
set_option maxRecDepth 100000 in
theorem cu_10 : ∀ w ∈ u_ws "RuleBroadcast$Mark" TMark 2, w ∈ lw_tbl := by decide +kernel
theorem cn_10 : ∀ a, a < 2 → ∀ b, b < 2 → a ≠ b → (TMark a).2.1 ≠ (TMark b).2.1 := by decide +kernel
theorem ct_10 : ∀ k, k < 2 → parseFieldDescriptor (TMark k).2.2.1 = some (tyMark k) := by decide +kernel
theorem cI_10 : Cond.instantiable "RuleBroadcast$Mark" 2 ∈ lw_tbl := List.mem_of_getElem? (i := 353) (by decide +kernel)
theorem cz_10 : Cond.initialized "RuleBroadcast$Mark" ∈ lw_tbl := List.mem_of_getElem? (i := 96) (by decide +kernel)
set_option maxRecDepth 100000 in
theorem cu_11 : ∀ w ∈ u_ws "RuleBroadcastModel" TM 62, w ∈ lw_tbl := by decide +kernel
theorem cn_11 : ∀ a, a < 62 → ∀ b, b < 62 → a ≠ b → (TM a).2.1 ≠ (TM b).2.1 := by decide +kernel
theorem ct_11 : ∀ k, k < 62 → parseFieldDescriptor (TM k).2.2.1 = some (tyM k) := by decide +kernel
theorem cI_11 : Cond.instantiable "RuleBroadcastModel" 62 ∈ lw_tbl := List.mem_of_getElem? (i := 986) (by decide +kernel)
theorem cz_11 : Cond.initialized "RuleBroadcastModel" ∈ lw_tbl := List.mem_of_getElem? (i := 97) (by decide +kernel)
/-- what the tables say of a class -/
def clsOK (r : vw_C) (ty : Nat → FieldType) : Prop := (∀ w ∈ u_ws r.1 r.2.1 r.2.2, w ∈ lw_tbl) ∧ (∀ a, a < r.2.2 → ∀ b, b < r.2.2 → a ≠ b → (r.2.1 a).2.1 ≠ (r.2.1 b).2.1) ∧ (∀ k, k < r.2.2 → parseFieldDescriptor (r.2.1 k).2.2.1 = some (ty k)) ∧ Cond.instantiable r.1 r.2.2 ∈ lw_tbl ∧ Cond.initialized r.1 ∈ lw_tbl
theorem cls_ok : ∀ (ci : Nat) (r : vw_C), clsS[ci]? = some r → clsOK r (tyS ci) := by
  intro ci r h
  match ci, h with
  | 0, h => cases h; exact ⟨cu_0, cn_0, ct_0, cI_0, cz_0⟩
  | 1, h => cases h; exact ⟨cu_1, cn_1, ct_1, cI_1, cz_1⟩
  | 2, h => cases h; exact ⟨cu_2, cn_2, ct_2, cI_2, cz_2⟩
  | 3, h => cases h; exact ⟨cu_3, cn_3, ct_3, cI_3, cz_3⟩
  | 4, h => cases h; exact ⟨cu_4, cn_4, ct_4, cI_4, cz_4⟩
  | 5, h => cases h; exact ⟨cu_5, cn_5, ct_5, cI_5, cz_5⟩
  | 6, h => cases h; exact ⟨cu_6, cn_6, ct_6, cI_6, cz_6⟩
  | 7, h => cases h; exact ⟨cu_7, cn_7, ct_7, cI_7, cz_7⟩
  | 8, h => cases h; exact ⟨cu_8, cn_8, ct_8, cI_8, cz_8⟩
  | 9, h => cases h; exact ⟨cu_9, cn_9, ct_9, cI_9, cz_9⟩
  | 10, h => cases h; exact ⟨cu_10, cn_10, ct_10, cI_10, cz_10⟩
  | 11, h => cases h; exact ⟨cu_11, cn_11, ct_11, cI_11, cz_11⟩
  | n + 12, h => simp [clsS] at h
/-- what the tables say of a method -/
def mthOK (mi : Nat) : Prop := plainFor (ynm mi) = true ∧ ((ynm mi).cls ≠ "java/lang/invoke/MethodHandle" ∧ (ynm mi).cls ≠ "java/lang/invoke/VarHandle" ∧ (parseMethodDescriptor (ynm mi).desc).map (fun d => d.parameters.length) = some (match (mtb mi).2.2.2.1 with | 0 => (mtb mi).1.length | _ => (mtb mi).1.length - 1)) ∧ Cond.code (ynm mi) (byt mi) (mtb mi).2.2.1 (rty mi) ∈ lw_tbl ∧ Cond.initialized (ynm mi).cls ∈ lw_tbl ∧ ownS (omi mi) = (ynm mi).cls ∧ (match (mtb mi).2.2.2.1 with
  | 0 => Cond.static (ynm mi) ∈ lw_tbl
  | 1 => Cond.instanceMethod (ynm mi) ∈ lw_tbl ∧ Cond.selects (ynm mi).cls (ynm mi) (ynm mi) ∈ lw_tbl ∧ ownS (mtb mi).2.2.2.2 = (ynm mi).cls
  | _ => Cond.instanceMethod (ynm mi) ∈ lw_tbl ∧ (ynm mi).name = "<init>" ∧ ownS (mtb mi).2.2.2.2 = (ynm mi).cls)
set_option maxRecDepth 100000 in
theorem mo_0 : mthOK 0 := ⟨by decide +kernel, ⟨by decide +kernel, by decide +kernel, by decide +kernel⟩, List.mem_of_getElem? (i := 109) rfl, List.mem_of_getElem? (i := 87) (by decide +kernel), by decide +kernel, ⟨List.mem_of_getElem? (i := 108) (by decide +kernel), rfl, by decide +kernel⟩⟩
set_option maxRecDepth 100000 in
theorem mo_1 : mthOK 1 := ⟨by decide +kernel, ⟨by decide +kernel, by decide +kernel, by decide +kernel⟩, List.mem_of_getElem? (i := 415) rfl, List.mem_of_getElem? (i := 87) (by decide +kernel), by decide +kernel, ⟨List.mem_of_getElem? (i := 413) (by decide +kernel), List.mem_of_getElem? (i := 414) (by decide +kernel), by decide +kernel⟩⟩
set_option maxRecDepth 100000 in
theorem mo_2 : mthOK 2 := ⟨by decide +kernel, ⟨by decide +kernel, by decide +kernel, by decide +kernel⟩, List.mem_of_getElem? (i := 427) rfl, List.mem_of_getElem? (i := 87) (by decide +kernel), by decide +kernel, ⟨List.mem_of_getElem? (i := 425) (by decide +kernel), List.mem_of_getElem? (i := 426) (by decide +kernel), by decide +kernel⟩⟩
set_option maxRecDepth 100000 in
theorem mo_3 : mthOK 3 := ⟨by decide +kernel, ⟨by decide +kernel, by decide +kernel, by decide +kernel⟩, List.mem_of_getElem? (i := 431) rfl, List.mem_of_getElem? (i := 87) (by decide +kernel), by decide +kernel, ⟨List.mem_of_getElem? (i := 429) (by decide +kernel), List.mem_of_getElem? (i := 430) (by decide +kernel), by decide +kernel⟩⟩
set_option maxRecDepth 100000 in
theorem mo_4 : mthOK 4 := ⟨by decide +kernel, ⟨by decide +kernel, by decide +kernel, by decide +kernel⟩, List.mem_of_getElem? (i := 700) rfl, List.mem_of_getElem? (i := 87) (by decide +kernel), by decide +kernel, ⟨List.mem_of_getElem? (i := 698) (by decide +kernel), List.mem_of_getElem? (i := 699) (by decide +kernel), by decide +kernel⟩⟩
set_option maxRecDepth 100000 in
theorem mo_5 : mthOK 5 := ⟨by decide +kernel, ⟨by decide +kernel, by decide +kernel, by decide +kernel⟩, List.mem_of_getElem? (i := 704) rfl, List.mem_of_getElem? (i := 87) (by decide +kernel), by decide +kernel, ⟨List.mem_of_getElem? (i := 702) (by decide +kernel), List.mem_of_getElem? (i := 703) (by decide +kernel), by decide +kernel⟩⟩
set_option maxRecDepth 100000 in
theorem mo_6 : mthOK 6 := ⟨by decide +kernel, ⟨by decide +kernel, by decide +kernel, by decide +kernel⟩, List.mem_of_getElem? (i := 716) rfl, List.mem_of_getElem? (i := 87) (by decide +kernel), by decide +kernel, ⟨List.mem_of_getElem? (i := 714) (by decide +kernel), List.mem_of_getElem? (i := 715) (by decide +kernel), by decide +kernel⟩⟩
set_option maxRecDepth 100000 in
theorem mo_7 : mthOK 7 := ⟨by decide +kernel, ⟨by decide +kernel, by decide +kernel, by decide +kernel⟩, List.mem_of_getElem? (i := 720) rfl, List.mem_of_getElem? (i := 87) (by decide +kernel), by decide +kernel, ⟨List.mem_of_getElem? (i := 718) (by decide +kernel), List.mem_of_getElem? (i := 719) (by decide +kernel), by decide +kernel⟩⟩
set_option maxRecDepth 100000 in
theorem mo_8 : mthOK 8 := ⟨by decide +kernel, ⟨by decide +kernel, by decide +kernel, by decide +kernel⟩, List.mem_of_getElem? (i := 724) rfl, List.mem_of_getElem? (i := 87) (by decide +kernel), by decide +kernel, ⟨List.mem_of_getElem? (i := 722) (by decide +kernel), List.mem_of_getElem? (i := 723) (by decide +kernel), by decide +kernel⟩⟩
set_option maxRecDepth 100000 in
theorem mo_9 : mthOK 9 := ⟨by decide +kernel, ⟨by decide +kernel, by decide +kernel, by decide +kernel⟩, List.mem_of_getElem? (i := 832) rfl, List.mem_of_getElem? (i := 87) (by decide +kernel), by decide +kernel, ⟨List.mem_of_getElem? (i := 830) (by decide +kernel), List.mem_of_getElem? (i := 831) (by decide +kernel), by decide +kernel⟩⟩
set_option maxRecDepth 100000 in
theorem mo_10 : mthOK 10 := ⟨by decide +kernel, ⟨by decide +kernel, by decide +kernel, by decide +kernel⟩, List.mem_of_getElem? (i := 872) rfl, List.mem_of_getElem? (i := 87) (by decide +kernel), by decide +kernel, ⟨List.mem_of_getElem? (i := 870) (by decide +kernel), List.mem_of_getElem? (i := 871) (by decide +kernel), by decide +kernel⟩⟩
set_option maxRecDepth 100000 in
theorem mo_11 : mthOK 11 := ⟨by decide +kernel, ⟨by decide +kernel, by decide +kernel, by decide +kernel⟩, List.mem_of_getElem? (i := 887) rfl, List.mem_of_getElem? (i := 87) (by decide +kernel), by decide +kernel, ⟨List.mem_of_getElem? (i := 885) (by decide +kernel), List.mem_of_getElem? (i := 886) (by decide +kernel), by decide +kernel⟩⟩
set_option maxRecDepth 100000 in
theorem mo_12 : mthOK 12 := ⟨by decide +kernel, ⟨by decide +kernel, by decide +kernel, by decide +kernel⟩, List.mem_of_getElem? (i := 892) rfl, List.mem_of_getElem? (i := 87) (by decide +kernel), by decide +kernel, ⟨List.mem_of_getElem? (i := 890) (by decide +kernel), List.mem_of_getElem? (i := 891) (by decide +kernel), by decide +kernel⟩⟩
set_option maxRecDepth 100000 in
theorem mo_13 : mthOK 13 := ⟨by decide +kernel, ⟨by decide +kernel, by decide +kernel, by decide +kernel⟩, List.mem_of_getElem? (i := 909) rfl, List.mem_of_getElem? (i := 87) (by decide +kernel), by decide +kernel, ⟨List.mem_of_getElem? (i := 907) (by decide +kernel), List.mem_of_getElem? (i := 908) (by decide +kernel), by decide +kernel⟩⟩
set_option maxRecDepth 100000 in
theorem mo_14 : mthOK 14 := ⟨by decide +kernel, ⟨by decide +kernel, by decide +kernel, by decide +kernel⟩, List.mem_of_getElem? (i := 920) rfl, List.mem_of_getElem? (i := 87) (by decide +kernel), by decide +kernel, ⟨List.mem_of_getElem? (i := 918) (by decide +kernel), List.mem_of_getElem? (i := 919) (by decide +kernel), by decide +kernel⟩⟩
set_option maxRecDepth 100000 in
theorem mo_15 : mthOK 15 := ⟨by decide +kernel, ⟨by decide +kernel, by decide +kernel, by decide +kernel⟩, List.mem_of_getElem? (i := 928) rfl, List.mem_of_getElem? (i := 87) (by decide +kernel), by decide +kernel, ⟨List.mem_of_getElem? (i := 926) (by decide +kernel), List.mem_of_getElem? (i := 927) (by decide +kernel), by decide +kernel⟩⟩
set_option maxRecDepth 100000 in
theorem mo_16 : mthOK 16 := ⟨by decide +kernel, ⟨by decide +kernel, by decide +kernel, by decide +kernel⟩, List.mem_of_getElem? (i := 932) rfl, List.mem_of_getElem? (i := 87) (by decide +kernel), by decide +kernel, ⟨List.mem_of_getElem? (i := 930) (by decide +kernel), List.mem_of_getElem? (i := 931) (by decide +kernel), by decide +kernel⟩⟩
set_option maxRecDepth 100000 in
theorem mo_17 : mthOK 17 := ⟨by decide +kernel, ⟨by decide +kernel, by decide +kernel, by decide +kernel⟩, List.mem_of_getElem? (i := 936) rfl, List.mem_of_getElem? (i := 87) (by decide +kernel), by decide +kernel, ⟨List.mem_of_getElem? (i := 934) (by decide +kernel), List.mem_of_getElem? (i := 935) (by decide +kernel), by decide +kernel⟩⟩
set_option maxRecDepth 100000 in
theorem mo_18 : mthOK 18 := ⟨by decide +kernel, ⟨by decide +kernel, by decide +kernel, by decide +kernel⟩, List.mem_of_getElem? (i := 944) rfl, List.mem_of_getElem? (i := 87) (by decide +kernel), by decide +kernel, ⟨List.mem_of_getElem? (i := 942) (by decide +kernel), List.mem_of_getElem? (i := 943) (by decide +kernel), by decide +kernel⟩⟩
set_option maxRecDepth 100000 in
theorem mo_19 : mthOK 19 := ⟨by decide +kernel, ⟨by decide +kernel, by decide +kernel, by decide +kernel⟩, List.mem_of_getElem? (i := 948) rfl, List.mem_of_getElem? (i := 87) (by decide +kernel), by decide +kernel, ⟨List.mem_of_getElem? (i := 946) (by decide +kernel), List.mem_of_getElem? (i := 947) (by decide +kernel), by decide +kernel⟩⟩
set_option maxRecDepth 100000 in
theorem mo_20 : mthOK 20 := ⟨by decide +kernel, ⟨by decide +kernel, by decide +kernel, by decide +kernel⟩, List.mem_of_getElem? (i := 952) rfl, List.mem_of_getElem? (i := 87) (by decide +kernel), by decide +kernel, ⟨List.mem_of_getElem? (i := 950) (by decide +kernel), List.mem_of_getElem? (i := 951) (by decide +kernel), by decide +kernel⟩⟩
set_option maxRecDepth 100000 in
theorem mo_21 : mthOK 21 := ⟨by decide +kernel, ⟨by decide +kernel, by decide +kernel, by decide +kernel⟩, List.mem_of_getElem? (i := 956) rfl, List.mem_of_getElem? (i := 87) (by decide +kernel), by decide +kernel, ⟨List.mem_of_getElem? (i := 954) (by decide +kernel), List.mem_of_getElem? (i := 955) (by decide +kernel), by decide +kernel⟩⟩
set_option maxRecDepth 100000 in
theorem mo_22 : mthOK 22 := ⟨by decide +kernel, ⟨by decide +kernel, by decide +kernel, by decide +kernel⟩, List.mem_of_getElem? (i := 960) rfl, List.mem_of_getElem? (i := 87) (by decide +kernel), by decide +kernel, ⟨List.mem_of_getElem? (i := 958) (by decide +kernel), List.mem_of_getElem? (i := 959) (by decide +kernel), by decide +kernel⟩⟩
set_option maxRecDepth 100000 in
theorem mo_23 : mthOK 23 := ⟨by decide +kernel, ⟨by decide +kernel, by decide +kernel, by decide +kernel⟩, List.mem_of_getElem? (i := 964) rfl, List.mem_of_getElem? (i := 87) (by decide +kernel), by decide +kernel, ⟨List.mem_of_getElem? (i := 962) (by decide +kernel), List.mem_of_getElem? (i := 963) (by decide +kernel), by decide +kernel⟩⟩
set_option maxRecDepth 100000 in
theorem mo_24 : mthOK 24 := ⟨by decide +kernel, ⟨by decide +kernel, by decide +kernel, by decide +kernel⟩, List.mem_of_getElem? (i := 973) rfl, List.mem_of_getElem? (i := 87) (by decide +kernel), by decide +kernel, ⟨List.mem_of_getElem? (i := 971) (by decide +kernel), List.mem_of_getElem? (i := 972) (by decide +kernel), by decide +kernel⟩⟩
set_option maxRecDepth 100000 in
theorem mo_25 : mthOK 25 := ⟨by decide +kernel, ⟨by decide +kernel, by decide +kernel, by decide +kernel⟩, List.mem_of_getElem? (i := 977) rfl, List.mem_of_getElem? (i := 87) (by decide +kernel), by decide +kernel, ⟨List.mem_of_getElem? (i := 975) (by decide +kernel), List.mem_of_getElem? (i := 976) (by decide +kernel), by decide +kernel⟩⟩
set_option maxRecDepth 100000 in
theorem mo_26 : mthOK 26 := ⟨by decide +kernel, ⟨by decide +kernel, by decide +kernel, by decide +kernel⟩, List.mem_of_getElem? (i := 984) rfl, List.mem_of_getElem? (i := 87) (by decide +kernel), by decide +kernel, ⟨List.mem_of_getElem? (i := 982) (by decide +kernel), List.mem_of_getElem? (i := 983) (by decide +kernel), by decide +kernel⟩⟩
set_option maxRecDepth 100000 in
theorem mo_27 : mthOK 27 := ⟨by decide +kernel, ⟨by decide +kernel, by decide +kernel, by decide +kernel⟩, List.mem_of_getElem? (i := 836) rfl, List.mem_of_getElem? (i := 87) (by decide +kernel), by decide +kernel, ⟨List.mem_of_getElem? (i := 835) (by decide +kernel), List.mem_of_getElem? (i := 33) (by decide +kernel), by decide +kernel⟩⟩
set_option maxRecDepth 100000 in
theorem mo_28 : mthOK 28 := ⟨by decide +kernel, ⟨by decide +kernel, by decide +kernel, by decide +kernel⟩, List.mem_of_getElem? (i := 876) rfl, List.mem_of_getElem? (i := 87) (by decide +kernel), by decide +kernel, ⟨List.mem_of_getElem? (i := 875) (by decide +kernel), List.mem_of_getElem? (i := 35) (by decide +kernel), by decide +kernel⟩⟩
set_option maxRecDepth 100000 in
theorem mo_29 : mthOK 29 := ⟨by decide +kernel, ⟨by decide +kernel, by decide +kernel, by decide +kernel⟩, List.mem_of_getElem? (i := 842) rfl, List.mem_of_getElem? (i := 87) (by decide +kernel), by decide +kernel, ⟨List.mem_of_getElem? (i := 841) (by decide +kernel), List.mem_of_getElem? (i := 34) (by decide +kernel), by decide +kernel⟩⟩
set_option maxRecDepth 100000 in
theorem mo_30 : mthOK 30 := ⟨by decide +kernel, ⟨by decide +kernel, by decide +kernel, by decide +kernel⟩, List.mem_of_getElem? (i := 980) rfl, List.mem_of_getElem? (i := 87) (by decide +kernel), by decide +kernel, List.mem_of_getElem? (i := 979) (by decide +kernel)⟩
set_option maxRecDepth 100000 in
theorem mo_31 : mthOK 31 := ⟨by decide +kernel, ⟨by decide +kernel, by decide +kernel, by decide +kernel⟩, List.mem_of_getElem? (i := 940) rfl, List.mem_of_getElem? (i := 87) (by decide +kernel), by decide +kernel, ⟨List.mem_of_getElem? (i := 939) (by decide +kernel), List.mem_of_getElem? (i := 38) (by decide +kernel), by decide +kernel⟩⟩
set_option maxRecDepth 100000 in
theorem mo_32 : mthOK 32 := ⟨by decide +kernel, ⟨by decide +kernel, by decide +kernel, by decide +kernel⟩, List.mem_of_getElem? (i := 736) rfl, List.mem_of_getElem? (i := 87) (by decide +kernel), by decide +kernel, ⟨List.mem_of_getElem? (i := 735) (by decide +kernel), List.mem_of_getElem? (i := 23) (by decide +kernel), by decide +kernel⟩⟩
set_option maxRecDepth 100000 in
theorem mo_33 : mthOK 33 := ⟨by decide +kernel, ⟨by decide +kernel, by decide +kernel, by decide +kernel⟩, List.mem_of_getElem? (i := 896) rfl, List.mem_of_getElem? (i := 87) (by decide +kernel), by decide +kernel, ⟨List.mem_of_getElem? (i := 895) (by decide +kernel), List.mem_of_getElem? (i := 36) (by decide +kernel), by decide +kernel⟩⟩
set_option maxRecDepth 100000 in
theorem mo_34 : mthOK 34 := ⟨by decide +kernel, ⟨by decide +kernel, by decide +kernel, by decide +kernel⟩, List.mem_of_getElem? (i := 740) rfl, List.mem_of_getElem? (i := 87) (by decide +kernel), by decide +kernel, ⟨List.mem_of_getElem? (i := 739) (by decide +kernel), List.mem_of_getElem? (i := 24) (by decide +kernel), by decide +kernel⟩⟩
set_option maxRecDepth 100000 in
theorem mo_35 : mthOK 35 := ⟨by decide +kernel, ⟨by decide +kernel, by decide +kernel, by decide +kernel⟩, List.mem_of_getElem? (i := 752) rfl, List.mem_of_getElem? (i := 87) (by decide +kernel), by decide +kernel, ⟨List.mem_of_getElem? (i := 751) (by decide +kernel), List.mem_of_getElem? (i := 25) (by decide +kernel), by decide +kernel⟩⟩
set_option maxRecDepth 100000 in
theorem mo_36 : mthOK 36 := ⟨by decide +kernel, ⟨by decide +kernel, by decide +kernel, by decide +kernel⟩, List.mem_of_getElem? (i := 806) rfl, List.mem_of_getElem? (i := 87) (by decide +kernel), by decide +kernel, ⟨List.mem_of_getElem? (i := 805) (by decide +kernel), List.mem_of_getElem? (i := 32) (by decide +kernel), by decide +kernel⟩⟩
set_option maxRecDepth 100000 in
theorem mo_37 : mthOK 37 := ⟨by decide +kernel, ⟨by decide +kernel, by decide +kernel, by decide +kernel⟩, List.mem_of_getElem? (i := 117) rfl, List.mem_of_getElem? (i := 88) (by decide +kernel), by decide +kernel, ⟨List.mem_of_getElem? (i := 116) (by decide +kernel), rfl, by decide +kernel⟩⟩
set_option maxRecDepth 100000 in
theorem mo_38 : mthOK 38 := ⟨by decide +kernel, ⟨by decide +kernel, by decide +kernel, by decide +kernel⟩, List.mem_of_getElem? (i := 419) rfl, List.mem_of_getElem? (i := 88) (by decide +kernel), by decide +kernel, ⟨List.mem_of_getElem? (i := 417) (by decide +kernel), List.mem_of_getElem? (i := 418) (by decide +kernel), by decide +kernel⟩⟩
set_option maxRecDepth 100000 in
theorem mo_39 : mthOK 39 := ⟨by decide +kernel, ⟨by decide +kernel, by decide +kernel, by decide +kernel⟩, List.mem_of_getElem? (i := 423) rfl, List.mem_of_getElem? (i := 88) (by decide +kernel), by decide +kernel, ⟨List.mem_of_getElem? (i := 421) (by decide +kernel), List.mem_of_getElem? (i := 422) (by decide +kernel), by decide +kernel⟩⟩
set_option maxRecDepth 100000 in
theorem mo_40 : mthOK 40 := ⟨by decide +kernel, ⟨by decide +kernel, by decide +kernel, by decide +kernel⟩, List.mem_of_getElem? (i := 451) rfl, List.mem_of_getElem? (i := 88) (by decide +kernel), by decide +kernel, ⟨List.mem_of_getElem? (i := 449) (by decide +kernel), List.mem_of_getElem? (i := 450) (by decide +kernel), by decide +kernel⟩⟩
set_option maxRecDepth 100000 in
theorem mo_41 : mthOK 41 := ⟨by decide +kernel, ⟨by decide +kernel, by decide +kernel, by decide +kernel⟩, List.mem_of_getElem? (i := 133) rfl, List.mem_of_getElem? (i := 89) (by decide +kernel), by decide +kernel, ⟨List.mem_of_getElem? (i := 132) (by decide +kernel), rfl, by decide +kernel⟩⟩
set_option maxRecDepth 100000 in
theorem mo_42 : mthOK 42 := ⟨by decide +kernel, ⟨by decide +kernel, by decide +kernel, by decide +kernel⟩, List.mem_of_getElem? (i := 594) rfl, List.mem_of_getElem? (i := 89) (by decide +kernel), by decide +kernel, ⟨List.mem_of_getElem? (i := 592) (by decide +kernel), List.mem_of_getElem? (i := 593) (by decide +kernel), by decide +kernel⟩⟩
set_option maxRecDepth 100000 in
theorem mo_43 : mthOK 43 := ⟨by decide +kernel, ⟨by decide +kernel, by decide +kernel, by decide +kernel⟩, List.mem_of_getElem? (i := 666) rfl, List.mem_of_getElem? (i := 89) (by decide +kernel), by decide +kernel, ⟨List.mem_of_getElem? (i := 664) (by decide +kernel), List.mem_of_getElem? (i := 665) (by decide +kernel), by decide +kernel⟩⟩
set_option maxRecDepth 100000 in
theorem mo_44 : mthOK 44 := ⟨by decide +kernel, ⟨by decide +kernel, by decide +kernel, by decide +kernel⟩, List.mem_of_getElem? (i := 598) rfl, List.mem_of_getElem? (i := 89) (by decide +kernel), by decide +kernel, ⟨List.mem_of_getElem? (i := 597) (by decide +kernel), List.mem_of_getElem? (i := 7) (by decide +kernel), by decide +kernel⟩⟩
set_option maxRecDepth 100000 in
theorem mo_45 : mthOK 45 := ⟨by decide +kernel, ⟨by decide +kernel, by decide +kernel, by decide +kernel⟩, List.mem_of_getElem? (i := 154) rfl, List.mem_of_getElem? (i := 91) (by decide +kernel), by decide +kernel, ⟨List.mem_of_getElem? (i := 153) (by decide +kernel), rfl, by decide +kernel⟩⟩
set_option maxRecDepth 100000 in
theorem mo_46 : mthOK 46 := ⟨by decide +kernel, ⟨by decide +kernel, by decide +kernel, by decide +kernel⟩, List.mem_of_getElem? (i := 447) rfl, List.mem_of_getElem? (i := 91) (by decide +kernel), by decide +kernel, ⟨List.mem_of_getElem? (i := 445) (by decide +kernel), List.mem_of_getElem? (i := 446) (by decide +kernel), by decide +kernel⟩⟩
set_option maxRecDepth 100000 in
theorem mo_47 : mthOK 47 := ⟨by decide +kernel, ⟨by decide +kernel, by decide +kernel, by decide +kernel⟩, List.mem_of_getElem? (i := 590) rfl, List.mem_of_getElem? (i := 91) (by decide +kernel), by decide +kernel, ⟨List.mem_of_getElem? (i := 588) (by decide +kernel), List.mem_of_getElem? (i := 589) (by decide +kernel), by decide +kernel⟩⟩
set_option maxRecDepth 100000 in
theorem mo_48 : mthOK 48 := ⟨by decide +kernel, ⟨by decide +kernel, by decide +kernel, by decide +kernel⟩, List.mem_of_getElem? (i := 606) rfl, List.mem_of_getElem? (i := 91) (by decide +kernel), by decide +kernel, ⟨List.mem_of_getElem? (i := 604) (by decide +kernel), List.mem_of_getElem? (i := 605) (by decide +kernel), by decide +kernel⟩⟩
set_option maxRecDepth 100000 in
theorem mo_49 : mthOK 49 := ⟨by decide +kernel, ⟨by decide +kernel, by decide +kernel, by decide +kernel⟩, List.mem_of_getElem? (i := 582) rfl, List.mem_of_getElem? (i := 91) (by decide +kernel), by decide +kernel, ⟨List.mem_of_getElem? (i := 580) (by decide +kernel), List.mem_of_getElem? (i := 581) (by decide +kernel), by decide +kernel⟩⟩
set_option maxRecDepth 100000 in
theorem mo_50 : mthOK 50 := ⟨by decide +kernel, ⟨by decide +kernel, by decide +kernel, by decide +kernel⟩, List.mem_of_getElem? (i := 469) rfl, List.mem_of_getElem? (i := 91) (by decide +kernel), by decide +kernel, ⟨List.mem_of_getElem? (i := 468) (by decide +kernel), List.mem_of_getElem? (i := 2) (by decide +kernel), by decide +kernel⟩⟩
set_option maxRecDepth 100000 in
theorem mo_51 : mthOK 51 := ⟨by decide +kernel, ⟨by decide +kernel, by decide +kernel, by decide +kernel⟩, List.mem_of_getElem? (i := 458) rfl, List.mem_of_getElem? (i := 91) (by decide +kernel), by decide +kernel, ⟨List.mem_of_getElem? (i := 457) (by decide +kernel), List.mem_of_getElem? (i := 0) (by decide +kernel), by decide +kernel⟩⟩
set_option maxRecDepth 100000 in
theorem mo_52 : mthOK 52 := ⟨by decide +kernel, ⟨by decide +kernel, by decide +kernel, by decide +kernel⟩, List.mem_of_getElem? (i := 465) rfl, List.mem_of_getElem? (i := 91) (by decide +kernel), by decide +kernel, ⟨List.mem_of_getElem? (i := 464) (by decide +kernel), List.mem_of_getElem? (i := 1) (by decide +kernel), by decide +kernel⟩⟩
set_option maxRecDepth 100000 in
theorem mo_53 : mthOK 53 := ⟨by decide +kernel, ⟨by decide +kernel, by decide +kernel, by decide +kernel⟩, List.mem_of_getElem? (i := 481) rfl, List.mem_of_getElem? (i := 91) (by decide +kernel), by decide +kernel, ⟨List.mem_of_getElem? (i := 480) (by decide +kernel), List.mem_of_getElem? (i := 3) (by decide +kernel), by decide +kernel⟩⟩
set_option maxRecDepth 100000 in
theorem mo_54 : mthOK 54 := ⟨by decide +kernel, ⟨by decide +kernel, by decide +kernel, by decide +kernel⟩, List.mem_of_getElem? (i := 486) rfl, List.mem_of_getElem? (i := 91) (by decide +kernel), by decide +kernel, ⟨List.mem_of_getElem? (i := 485) (by decide +kernel), List.mem_of_getElem? (i := 4) (by decide +kernel), by decide +kernel⟩⟩
set_option maxRecDepth 100000 in
theorem mo_55 : mthOK 55 := ⟨by decide +kernel, ⟨by decide +kernel, by decide +kernel, by decide +kernel⟩, List.mem_of_getElem? (i := 472) rfl, List.mem_of_getElem? (i := 91) (by decide +kernel), by decide +kernel, List.mem_of_getElem? (i := 471) (by decide +kernel)⟩
set_option maxRecDepth 100000 in
theorem mo_56 : mthOK 56 := ⟨by decide +kernel, ⟨by decide +kernel, by decide +kernel, by decide +kernel⟩, List.mem_of_getElem? (i := 454) rfl, List.mem_of_getElem? (i := 91) (by decide +kernel), by decide +kernel, List.mem_of_getElem? (i := 453) (by decide +kernel)⟩
set_option maxRecDepth 100000 in
theorem mo_57 : mthOK 57 := ⟨by decide +kernel, ⟨by decide +kernel, by decide +kernel, by decide +kernel⟩, List.mem_of_getElem? (i := 461) rfl, List.mem_of_getElem? (i := 91) (by decide +kernel), by decide +kernel, List.mem_of_getElem? (i := 460) (by decide +kernel)⟩
set_option maxRecDepth 100000 in
theorem mo_58 : mthOK 58 := ⟨by decide +kernel, ⟨by decide +kernel, by decide +kernel, by decide +kernel⟩, List.mem_of_getElem? (i := 477) rfl, List.mem_of_getElem? (i := 91) (by decide +kernel), by decide +kernel, List.mem_of_getElem? (i := 476) (by decide +kernel)⟩
set_option maxRecDepth 100000 in
theorem mo_59 : mthOK 59 := ⟨by decide +kernel, ⟨by decide +kernel, by decide +kernel, by decide +kernel⟩, List.mem_of_getElem? (i := 175) rfl, List.mem_of_getElem? (i := 92) (by decide +kernel), by decide +kernel, ⟨List.mem_of_getElem? (i := 174) (by decide +kernel), rfl, by decide +kernel⟩⟩
set_option maxRecDepth 100000 in
theorem mo_60 : mthOK 60 := ⟨by decide +kernel, ⟨by decide +kernel, by decide +kernel, by decide +kernel⟩, List.mem_of_getElem? (i := 670) rfl, List.mem_of_getElem? (i := 92) (by decide +kernel), by decide +kernel, ⟨List.mem_of_getElem? (i := 669) (by decide +kernel), rfl, by decide +kernel⟩⟩
set_option maxRecDepth 100000 in
theorem mo_61 : mthOK 61 := ⟨by decide +kernel, ⟨by decide +kernel, by decide +kernel, by decide +kernel⟩, List.mem_of_getElem? (i := 626) rfl, List.mem_of_getElem? (i := 92) (by decide +kernel), by decide +kernel, ⟨List.mem_of_getElem? (i := 624) (by decide +kernel), List.mem_of_getElem? (i := 625) (by decide +kernel), by decide +kernel⟩⟩
set_option maxRecDepth 100000 in
theorem mo_62 : mthOK 62 := ⟨by decide +kernel, ⟨by decide +kernel, by decide +kernel, by decide +kernel⟩, List.mem_of_getElem? (i := 661) rfl, List.mem_of_getElem? (i := 92) (by decide +kernel), by decide +kernel, ⟨List.mem_of_getElem? (i := 659) (by decide +kernel), List.mem_of_getElem? (i := 660) (by decide +kernel), by decide +kernel⟩⟩
set_option maxRecDepth 100000 in
theorem mo_63 : mthOK 63 := ⟨by decide +kernel, ⟨by decide +kernel, by decide +kernel, by decide +kernel⟩, List.mem_of_getElem? (i := 675) rfl, List.mem_of_getElem? (i := 92) (by decide +kernel), by decide +kernel, ⟨List.mem_of_getElem? (i := 673) (by decide +kernel), List.mem_of_getElem? (i := 674) (by decide +kernel), by decide +kernel⟩⟩
set_option maxRecDepth 100000 in
theorem mo_64 : mthOK 64 := ⟨by decide +kernel, ⟨by decide +kernel, by decide +kernel, by decide +kernel⟩, List.mem_of_getElem? (i := 679) rfl, List.mem_of_getElem? (i := 92) (by decide +kernel), by decide +kernel, ⟨List.mem_of_getElem? (i := 677) (by decide +kernel), List.mem_of_getElem? (i := 678) (by decide +kernel), by decide +kernel⟩⟩
set_option maxRecDepth 100000 in
theorem mo_65 : mthOK 65 := ⟨by decide +kernel, ⟨by decide +kernel, by decide +kernel, by decide +kernel⟩, List.mem_of_getElem? (i := 148) rfl, List.mem_of_getElem? (i := 90) (by decide +kernel), by decide +kernel, ⟨List.mem_of_getElem? (i := 147) (by decide +kernel), rfl, by decide +kernel⟩⟩
set_option maxRecDepth 100000 in
theorem mo_66 : mthOK 66 := ⟨by decide +kernel, ⟨by decide +kernel, by decide +kernel, by decide +kernel⟩, List.mem_of_getElem? (i := 443) rfl, List.mem_of_getElem? (i := 90) (by decide +kernel), by decide +kernel, ⟨List.mem_of_getElem? (i := 441) (by decide +kernel), List.mem_of_getElem? (i := 442) (by decide +kernel), by decide +kernel⟩⟩
set_option maxRecDepth 100000 in
theorem mo_67 : mthOK 67 := ⟨by decide +kernel, ⟨by decide +kernel, by decide +kernel, by decide +kernel⟩, List.mem_of_getElem? (i := 586) rfl, List.mem_of_getElem? (i := 90) (by decide +kernel), by decide +kernel, ⟨List.mem_of_getElem? (i := 585) (by decide +kernel), List.mem_of_getElem? (i := 6) (by decide +kernel), by decide +kernel⟩⟩
set_option maxRecDepth 100000 in
theorem mo_68 : mthOK 68 := ⟨by decide +kernel, ⟨by decide +kernel, by decide +kernel, by decide +kernel⟩, List.mem_of_getElem? (i := 602) rfl, List.mem_of_getElem? (i := 90) (by decide +kernel), by decide +kernel, ⟨List.mem_of_getElem? (i := 601) (by decide +kernel), List.mem_of_getElem? (i := 8) (by decide +kernel), by decide +kernel⟩⟩
set_option maxRecDepth 100000 in
theorem mo_69 : mthOK 69 := ⟨by decide +kernel, ⟨by decide +kernel, by decide +kernel, by decide +kernel⟩, List.mem_of_getElem? (i := 610) rfl, List.mem_of_getElem? (i := 90) (by decide +kernel), by decide +kernel, ⟨List.mem_of_getElem? (i := 609) (by decide +kernel), List.mem_of_getElem? (i := 9) (by decide +kernel), by decide +kernel⟩⟩
set_option maxRecDepth 100000 in
theorem mo_70 : mthOK 70 := ⟨by decide +kernel, ⟨by decide +kernel, by decide +kernel, by decide +kernel⟩, List.mem_of_getElem? (i := 630) rfl, List.mem_of_getElem? (i := 90) (by decide +kernel), by decide +kernel, ⟨List.mem_of_getElem? (i := 629) (by decide +kernel), List.mem_of_getElem? (i := 13) (by decide +kernel), by decide +kernel⟩⟩
set_option maxRecDepth 100000 in
theorem mo_71 : mthOK 71 := ⟨by decide +kernel, ⟨by decide +kernel, by decide +kernel, by decide +kernel⟩, List.mem_of_getElem? (i := 578) rfl, List.mem_of_getElem? (i := 90) (by decide +kernel), by decide +kernel, ⟨List.mem_of_getElem? (i := 577) (by decide +kernel), List.mem_of_getElem? (i := 5) (by decide +kernel), by decide +kernel⟩⟩
set_option maxRecDepth 100000 in
theorem mo_72 : mthOK 72 := ⟨by decide +kernel, ⟨by decide +kernel, by decide +kernel, by decide +kernel⟩, List.mem_of_getElem? (i := 643) rfl, List.mem_of_getElem? (i := 90) (by decide +kernel), by decide +kernel, ⟨List.mem_of_getElem? (i := 642) (by decide +kernel), List.mem_of_getElem? (i := 16) (by decide +kernel), by decide +kernel⟩⟩
set_option maxRecDepth 100000 in
theorem mo_73 : mthOK 73 := ⟨by decide +kernel, ⟨by decide +kernel, by decide +kernel, by decide +kernel⟩, List.mem_of_getElem? (i := 647) rfl, List.mem_of_getElem? (i := 90) (by decide +kernel), by decide +kernel, ⟨List.mem_of_getElem? (i := 646) (by decide +kernel), List.mem_of_getElem? (i := 17) (by decide +kernel), by decide +kernel⟩⟩
set_option maxRecDepth 100000 in
theorem mo_74 : mthOK 74 := ⟨by decide +kernel, ⟨by decide +kernel, by decide +kernel, by decide +kernel⟩, List.mem_of_getElem? (i := 651) rfl, List.mem_of_getElem? (i := 90) (by decide +kernel), by decide +kernel, ⟨List.mem_of_getElem? (i := 650) (by decide +kernel), List.mem_of_getElem? (i := 18) (by decide +kernel), by decide +kernel⟩⟩
set_option maxRecDepth 100000 in
theorem mo_75 : mthOK 75 := ⟨by decide +kernel, ⟨by decide +kernel, by decide +kernel, by decide +kernel⟩, List.mem_of_getElem? (i := 656) rfl, List.mem_of_getElem? (i := 90) (by decide +kernel), by decide +kernel, ⟨List.mem_of_getElem? (i := 655) (by decide +kernel), List.mem_of_getElem? (i := 19) (by decide +kernel), by decide +kernel⟩⟩
set_option maxRecDepth 100000 in
theorem mo_76 : mthOK 76 := ⟨by decide +kernel, ⟨by decide +kernel, by decide +kernel, by decide +kernel⟩, List.mem_of_getElem? (i := 638) rfl, List.mem_of_getElem? (i := 90) (by decide +kernel), by decide +kernel, ⟨List.mem_of_getElem? (i := 637) (by decide +kernel), List.mem_of_getElem? (i := 15) (by decide +kernel), by decide +kernel⟩⟩
set_option maxRecDepth 100000 in
theorem mo_77 : mthOK 77 := ⟨by decide +kernel, ⟨by decide +kernel, by decide +kernel, by decide +kernel⟩, List.mem_of_getElem? (i := 614) rfl, List.mem_of_getElem? (i := 90) (by decide +kernel), by decide +kernel, ⟨List.mem_of_getElem? (i := 613) (by decide +kernel), List.mem_of_getElem? (i := 10) (by decide +kernel), by decide +kernel⟩⟩
set_option maxRecDepth 100000 in
theorem mo_78 : mthOK 78 := ⟨by decide +kernel, ⟨by decide +kernel, by decide +kernel, by decide +kernel⟩, List.mem_of_getElem? (i := 618) rfl, List.mem_of_getElem? (i := 90) (by decide +kernel), by decide +kernel, ⟨List.mem_of_getElem? (i := 617) (by decide +kernel), List.mem_of_getElem? (i := 11) (by decide +kernel), by decide +kernel⟩⟩
set_option maxRecDepth 100000 in
theorem mo_79 : mthOK 79 := ⟨by decide +kernel, ⟨by decide +kernel, by decide +kernel, by decide +kernel⟩, List.mem_of_getElem? (i := 622) rfl, List.mem_of_getElem? (i := 90) (by decide +kernel), by decide +kernel, ⟨List.mem_of_getElem? (i := 621) (by decide +kernel), List.mem_of_getElem? (i := 12) (by decide +kernel), by decide +kernel⟩⟩
set_option maxRecDepth 100000 in
theorem mo_80 : mthOK 80 := ⟨by decide +kernel, ⟨by decide +kernel, by decide +kernel, by decide +kernel⟩, List.mem_of_getElem? (i := 634) rfl, List.mem_of_getElem? (i := 90) (by decide +kernel), by decide +kernel, ⟨List.mem_of_getElem? (i := 633) (by decide +kernel), List.mem_of_getElem? (i := 14) (by decide +kernel), by decide +kernel⟩⟩
set_option maxRecDepth 100000 in
theorem mo_81 : mthOK 81 := ⟨by decide +kernel, ⟨by decide +kernel, by decide +kernel, by decide +kernel⟩, List.mem_of_getElem? (i := 272) rfl, List.mem_of_getElem? (i := 94) (by decide +kernel), by decide +kernel, ⟨List.mem_of_getElem? (i := 271) (by decide +kernel), rfl, by decide +kernel⟩⟩
set_option maxRecDepth 100000 in
theorem mo_82 : mthOK 82 := ⟨by decide +kernel, ⟨by decide +kernel, by decide +kernel, by decide +kernel⟩, List.mem_of_getElem? (i := 760) rfl, List.mem_of_getElem? (i := 94) (by decide +kernel), by decide +kernel, ⟨List.mem_of_getElem? (i := 758) (by decide +kernel), List.mem_of_getElem? (i := 759) (by decide +kernel), by decide +kernel⟩⟩
set_option maxRecDepth 100000 in
theorem mo_83 : mthOK 83 := ⟨by decide +kernel, ⟨by decide +kernel, by decide +kernel, by decide +kernel⟩, List.mem_of_getElem? (i := 880) rfl, List.mem_of_getElem? (i := 94) (by decide +kernel), by decide +kernel, ⟨List.mem_of_getElem? (i := 878) (by decide +kernel), List.mem_of_getElem? (i := 879) (by decide +kernel), by decide +kernel⟩⟩
set_option maxRecDepth 100000 in
theorem mo_84 : mthOK 84 := ⟨by decide +kernel, ⟨by decide +kernel, by decide +kernel, by decide +kernel⟩, List.mem_of_getElem? (i := 764) rfl, List.mem_of_getElem? (i := 94) (by decide +kernel), by decide +kernel, ⟨List.mem_of_getElem? (i := 762) (by decide +kernel), List.mem_of_getElem? (i := 763) (by decide +kernel), by decide +kernel⟩⟩
set_option maxRecDepth 100000 in
theorem mo_85 : mthOK 85 := ⟨by decide +kernel, ⟨by decide +kernel, by decide +kernel, by decide +kernel⟩, List.mem_of_getElem? (i := 787) rfl, List.mem_of_getElem? (i := 94) (by decide +kernel), by decide +kernel, ⟨List.mem_of_getElem? (i := 785) (by decide +kernel), List.mem_of_getElem? (i := 786) (by decide +kernel), by decide +kernel⟩⟩
set_option maxRecDepth 100000 in
theorem mo_86 : mthOK 86 := ⟨by decide +kernel, ⟨by decide +kernel, by decide +kernel, by decide +kernel⟩, List.mem_of_getElem? (i := 768) rfl, List.mem_of_getElem? (i := 94) (by decide +kernel), by decide +kernel, ⟨List.mem_of_getElem? (i := 767) (by decide +kernel), List.mem_of_getElem? (i := 26) (by decide +kernel), by decide +kernel⟩⟩
set_option maxRecDepth 100000 in
theorem mo_87 : mthOK 87 := ⟨by decide +kernel, ⟨by decide +kernel, by decide +kernel, by decide +kernel⟩, List.mem_of_getElem? (i := 774) rfl, List.mem_of_getElem? (i := 94) (by decide +kernel), by decide +kernel, ⟨List.mem_of_getElem? (i := 773) (by decide +kernel), List.mem_of_getElem? (i := 27) (by decide +kernel), by decide +kernel⟩⟩
set_option maxRecDepth 100000 in
theorem mo_88 : mthOK 88 := ⟨by decide +kernel, ⟨by decide +kernel, by decide +kernel, by decide +kernel⟩, List.mem_of_getElem? (i := 778) rfl, List.mem_of_getElem? (i := 94) (by decide +kernel), by decide +kernel, ⟨List.mem_of_getElem? (i := 777) (by decide +kernel), List.mem_of_getElem? (i := 28) (by decide +kernel), by decide +kernel⟩⟩
set_option maxRecDepth 100000 in
theorem mo_89 : mthOK 89 := ⟨by decide +kernel, ⟨by decide +kernel, by decide +kernel, by decide +kernel⟩, List.mem_of_getElem? (i := 791) rfl, List.mem_of_getElem? (i := 94) (by decide +kernel), by decide +kernel, ⟨List.mem_of_getElem? (i := 790) (by decide +kernel), List.mem_of_getElem? (i := 30) (by decide +kernel), by decide +kernel⟩⟩
set_option maxRecDepth 100000 in
theorem mo_90 : mthOK 90 := ⟨by decide +kernel, ⟨by decide +kernel, by decide +kernel, by decide +kernel⟩, List.mem_of_getElem? (i := 782) rfl, List.mem_of_getElem? (i := 94) (by decide +kernel), by decide +kernel, ⟨List.mem_of_getElem? (i := 781) (by decide +kernel), List.mem_of_getElem? (i := 29) (by decide +kernel), by decide +kernel⟩⟩
set_option maxRecDepth 100000 in
theorem mo_91 : mthOK 91 := ⟨by decide +kernel, ⟨by decide +kernel, by decide +kernel, by decide +kernel⟩, List.mem_of_getElem? (i := 795) rfl, List.mem_of_getElem? (i := 94) (by decide +kernel), by decide +kernel, ⟨List.mem_of_getElem? (i := 794) (by decide +kernel), List.mem_of_getElem? (i := 31) (by decide +kernel), by decide +kernel⟩⟩
set_option maxRecDepth 100000 in
theorem mo_92 : mthOK 92 := ⟨by decide +kernel, ⟨by decide +kernel, by decide +kernel, by decide +kernel⟩, List.mem_of_getElem? (i := 798) rfl, List.mem_of_getElem? (i := 94) (by decide +kernel), by decide +kernel, List.mem_of_getElem? (i := 797) (by decide +kernel)⟩
set_option maxRecDepth 100000 in
theorem mo_93 : mthOK 93 := ⟨by decide +kernel, ⟨by decide +kernel, by decide +kernel, by decide +kernel⟩, List.mem_of_getElem? (i := 234) rfl, List.mem_of_getElem? (i := 93) (by decide +kernel), by decide +kernel, ⟨List.mem_of_getElem? (i := 233) (by decide +kernel), rfl, by decide +kernel⟩⟩
set_option maxRecDepth 100000 in
theorem mo_94 : mthOK 94 := ⟨by decide +kernel, ⟨by decide +kernel, by decide +kernel, by decide +kernel⟩, List.mem_of_getElem? (i := 439) rfl, List.mem_of_getElem? (i := 93) (by decide +kernel), by decide +kernel, ⟨List.mem_of_getElem? (i := 437) (by decide +kernel), List.mem_of_getElem? (i := 438) (by decide +kernel), by decide +kernel⟩⟩
set_option maxRecDepth 100000 in
theorem mo_95 : mthOK 95 := ⟨by decide +kernel, ⟨by decide +kernel, by decide +kernel, by decide +kernel⟩, List.mem_of_getElem? (i := 435) rfl, List.mem_of_getElem? (i := 93) (by decide +kernel), by decide +kernel, ⟨List.mem_of_getElem? (i := 433) (by decide +kernel), List.mem_of_getElem? (i := 434) (by decide +kernel), by decide +kernel⟩⟩
set_option maxRecDepth 100000 in
theorem mo_96 : mthOK 96 := ⟨by decide +kernel, ⟨by decide +kernel, by decide +kernel, by decide +kernel⟩, List.mem_of_getElem? (i := 810) rfl, List.mem_of_getElem? (i := 93) (by decide +kernel), by decide +kernel, ⟨List.mem_of_getElem? (i := 808) (by decide +kernel), List.mem_of_getElem? (i := 809) (by decide +kernel), by decide +kernel⟩⟩
set_option maxRecDepth 100000 in
theorem mo_97 : mthOK 97 := ⟨by decide +kernel, ⟨by decide +kernel, by decide +kernel, by decide +kernel⟩, List.mem_of_getElem? (i := 846) rfl, List.mem_of_getElem? (i := 93) (by decide +kernel), by decide +kernel, ⟨List.mem_of_getElem? (i := 844) (by decide +kernel), List.mem_of_getElem? (i := 845) (by decide +kernel), by decide +kernel⟩⟩
set_option maxRecDepth 100000 in
theorem mo_98 : mthOK 98 := ⟨by decide +kernel, ⟨by decide +kernel, by decide +kernel, by decide +kernel⟩, List.mem_of_getElem? (i := 683) rfl, List.mem_of_getElem? (i := 93) (by decide +kernel), by decide +kernel, ⟨List.mem_of_getElem? (i := 681) (by decide +kernel), List.mem_of_getElem? (i := 682) (by decide +kernel), by decide +kernel⟩⟩
set_option maxRecDepth 100000 in
theorem mo_99 : mthOK 99 := ⟨by decide +kernel, ⟨by decide +kernel, by decide +kernel, by decide +kernel⟩, List.mem_of_getElem? (i := 712) rfl, List.mem_of_getElem? (i := 93) (by decide +kernel), by decide +kernel, ⟨List.mem_of_getElem? (i := 710) (by decide +kernel), List.mem_of_getElem? (i := 711) (by decide +kernel), by decide +kernel⟩⟩
set_option maxRecDepth 100000 in
theorem mo_100 : mthOK 100 := ⟨by decide +kernel, ⟨by decide +kernel, by decide +kernel, by decide +kernel⟩, List.mem_of_getElem? (i := 817) rfl, List.mem_of_getElem? (i := 93) (by decide +kernel), by decide +kernel, ⟨List.mem_of_getElem? (i := 815) (by decide +kernel), List.mem_of_getElem? (i := 816) (by decide +kernel), by decide +kernel⟩⟩
set_option maxRecDepth 100000 in
theorem mo_101 : mthOK 101 := ⟨by decide +kernel, ⟨by decide +kernel, by decide +kernel, by decide +kernel⟩, List.mem_of_getElem? (i := 968) rfl, List.mem_of_getElem? (i := 93) (by decide +kernel), by decide +kernel, ⟨List.mem_of_getElem? (i := 966) (by decide +kernel), List.mem_of_getElem? (i := 967) (by decide +kernel), by decide +kernel⟩⟩
set_option maxRecDepth 100000 in
theorem mo_102 : mthOK 102 := ⟨by decide +kernel, ⟨by decide +kernel, by decide +kernel, by decide +kernel⟩, List.mem_of_getElem? (i := 708) rfl, List.mem_of_getElem? (i := 93) (by decide +kernel), by decide +kernel, ⟨List.mem_of_getElem? (i := 706) (by decide +kernel), List.mem_of_getElem? (i := 707) (by decide +kernel), by decide +kernel⟩⟩
set_option maxRecDepth 100000 in
theorem mo_103 : mthOK 103 := ⟨by decide +kernel, ⟨by decide +kernel, by decide +kernel, by decide +kernel⟩, List.mem_of_getElem? (i := 744) rfl, List.mem_of_getElem? (i := 93) (by decide +kernel), by decide +kernel, ⟨List.mem_of_getElem? (i := 742) (by decide +kernel), List.mem_of_getElem? (i := 743) (by decide +kernel), by decide +kernel⟩⟩
set_option maxRecDepth 100000 in
theorem mo_104 : mthOK 104 := ⟨by decide +kernel, ⟨by decide +kernel, by decide +kernel, by decide +kernel⟩, List.mem_of_getElem? (i := 756) rfl, List.mem_of_getElem? (i := 93) (by decide +kernel), by decide +kernel, ⟨List.mem_of_getElem? (i := 754) (by decide +kernel), List.mem_of_getElem? (i := 755) (by decide +kernel), by decide +kernel⟩⟩
set_option maxRecDepth 100000 in
theorem mo_105 : mthOK 105 := ⟨by decide +kernel, ⟨by decide +kernel, by decide +kernel, by decide +kernel⟩, List.mem_of_getElem? (i := 696) rfl, List.mem_of_getElem? (i := 93) (by decide +kernel), by decide +kernel, ⟨List.mem_of_getElem? (i := 695) (by decide +kernel), List.mem_of_getElem? (i := 22) (by decide +kernel), by decide +kernel⟩⟩
set_option maxRecDepth 100000 in
theorem mo_106 : mthOK 106 := ⟨by decide +kernel, ⟨by decide +kernel, by decide +kernel, by decide +kernel⟩, List.mem_of_getElem? (i := 688) rfl, List.mem_of_getElem? (i := 93) (by decide +kernel), by decide +kernel, ⟨List.mem_of_getElem? (i := 687) (by decide +kernel), List.mem_of_getElem? (i := 20) (by decide +kernel), by decide +kernel⟩⟩
set_option maxRecDepth 100000 in
theorem mo_107 : mthOK 107 := ⟨by decide +kernel, ⟨by decide +kernel, by decide +kernel, by decide +kernel⟩, List.mem_of_getElem? (i := 692) rfl, List.mem_of_getElem? (i := 93) (by decide +kernel), by decide +kernel, ⟨List.mem_of_getElem? (i := 691) (by decide +kernel), List.mem_of_getElem? (i := 21) (by decide +kernel), by decide +kernel⟩⟩
set_option maxRecDepth 100000 in
theorem mo_108 : mthOK 108 := ⟨by decide +kernel, ⟨by decide +kernel, by decide +kernel, by decide +kernel⟩, List.mem_of_getElem? (i := 849) rfl, List.mem_of_getElem? (i := 104) (by decide +kernel), by decide +kernel, ⟨List.mem_of_getElem? (i := 848) (by decide +kernel), rfl, by decide +kernel⟩⟩
set_option maxRecDepth 100000 in
theorem mo_109 : mthOK 109 := ⟨by decide +kernel, ⟨by decide +kernel, by decide +kernel, by decide +kernel⟩, List.mem_of_getElem? (i := 302) rfl, List.mem_of_getElem? (i := 95) (by decide +kernel), by decide +kernel, ⟨List.mem_of_getElem? (i := 301) (by decide +kernel), rfl, by decide +kernel⟩⟩
set_option maxRecDepth 100000 in
theorem mo_110 : mthOK 110 := ⟨by decide +kernel, ⟨by decide +kernel, by decide +kernel, by decide +kernel⟩, List.mem_of_getElem? (i := 728) rfl, List.mem_of_getElem? (i := 95) (by decide +kernel), by decide +kernel, ⟨List.mem_of_getElem? (i := 726) (by decide +kernel), List.mem_of_getElem? (i := 727) (by decide +kernel), by decide +kernel⟩⟩
set_option maxRecDepth 100000 in
theorem mo_111 : mthOK 111 := ⟨by decide +kernel, ⟨by decide +kernel, by decide +kernel, by decide +kernel⟩, List.mem_of_getElem? (i := 748) rfl, List.mem_of_getElem? (i := 95) (by decide +kernel), by decide +kernel, ⟨List.mem_of_getElem? (i := 746) (by decide +kernel), List.mem_of_getElem? (i := 747) (by decide +kernel), by decide +kernel⟩⟩
set_option maxRecDepth 100000 in
theorem mo_112 : mthOK 112 := ⟨by decide +kernel, ⟨by decide +kernel, by decide +kernel, by decide +kernel⟩, List.mem_of_getElem? (i := 802) rfl, List.mem_of_getElem? (i := 95) (by decide +kernel), by decide +kernel, ⟨List.mem_of_getElem? (i := 800) (by decide +kernel), List.mem_of_getElem? (i := 801) (by decide +kernel), by decide +kernel⟩⟩
set_option maxRecDepth 100000 in
theorem mo_113 : mthOK 113 := ⟨by decide +kernel, ⟨by decide +kernel, by decide +kernel, by decide +kernel⟩, List.mem_of_getElem? (i := 828) rfl, List.mem_of_getElem? (i := 95) (by decide +kernel), by decide +kernel, ⟨List.mem_of_getElem? (i := 826) (by decide +kernel), List.mem_of_getElem? (i := 827) (by decide +kernel), by decide +kernel⟩⟩
set_option maxRecDepth 100000 in
theorem mo_114 : mthOK 114 := ⟨by decide +kernel, ⟨by decide +kernel, by decide +kernel, by decide +kernel⟩, List.mem_of_getElem? (i := 732) rfl, List.mem_of_getElem? (i := 95) (by decide +kernel), by decide +kernel, ⟨List.mem_of_getElem? (i := 730) (by decide +kernel), List.mem_of_getElem? (i := 731) (by decide +kernel), by decide +kernel⟩⟩
set_option maxRecDepth 100000 in
theorem mo_115 : mthOK 115 := ⟨by decide +kernel, ⟨by decide +kernel, by decide +kernel, by decide +kernel⟩, List.mem_of_getElem? (i := 900) rfl, List.mem_of_getElem? (i := 95) (by decide +kernel), by decide +kernel, ⟨List.mem_of_getElem? (i := 898) (by decide +kernel), List.mem_of_getElem? (i := 899) (by decide +kernel), by decide +kernel⟩⟩
set_option maxRecDepth 100000 in
theorem mo_116 : mthOK 116 := ⟨by decide +kernel, ⟨by decide +kernel, by decide +kernel, by decide +kernel⟩, List.mem_of_getElem? (i := 905) rfl, List.mem_of_getElem? (i := 95) (by decide +kernel), by decide +kernel, ⟨List.mem_of_getElem? (i := 904) (by decide +kernel), List.mem_of_getElem? (i := 37) (by decide +kernel), by decide +kernel⟩⟩
set_option maxRecDepth 100000 in
theorem mo_117 : mthOK 117 := ⟨by decide +kernel, ⟨by decide +kernel, by decide +kernel, by decide +kernel⟩, List.mem_of_getElem? (i := 823) rfl, List.mem_of_getElem? (i := 95) (by decide +kernel), by decide +kernel, ⟨List.mem_of_getElem? (i := 821) (by decide +kernel), List.mem_of_getElem? (i := 822) (by decide +kernel), by decide +kernel⟩⟩
set_option maxRecDepth 100000 in
theorem mo_118 : mthOK 118 := ⟨by decide +kernel, ⟨by decide +kernel, by decide +kernel, by decide +kernel⟩, List.mem_of_getElem? (i := 913) rfl, List.mem_of_getElem? (i := 95) (by decide +kernel), by decide +kernel, ⟨List.mem_of_getElem? (i := 911) (by decide +kernel), List.mem_of_getElem? (i := 912) (by decide +kernel), by decide +kernel⟩⟩
set_option maxRecDepth 100000 in
theorem mo_119 : mthOK 119 := ⟨by decide +kernel, ⟨by decide +kernel, by decide +kernel, by decide +kernel⟩, List.mem_of_getElem? (i := 924) rfl, List.mem_of_getElem? (i := 95) (by decide +kernel), by decide +kernel, ⟨List.mem_of_getElem? (i := 922) (by decide +kernel), List.mem_of_getElem? (i := 923) (by decide +kernel), by decide +kernel⟩⟩
set_option maxRecDepth 100000 in
theorem mo_120 : mthOK 120 := ⟨by decide +kernel, ⟨by decide +kernel, by decide +kernel, by decide +kernel⟩, List.mem_of_getElem? (i := 356) rfl, List.mem_of_getElem? (i := 96) (by decide +kernel), by decide +kernel, ⟨List.mem_of_getElem? (i := 355) (by decide +kernel), rfl, by decide +kernel⟩⟩
set_option maxRecDepth 100000 in
theorem mo_121 : mthOK 121 := ⟨by decide +kernel, ⟨by decide +kernel, by decide +kernel, by decide +kernel⟩, List.mem_of_getElem? (i := 989) rfl, List.mem_of_getElem? (i := 97) (by decide +kernel), by decide +kernel, ⟨List.mem_of_getElem? (i := 988) (by decide +kernel), rfl, by decide +kernel⟩⟩
set_option maxRecDepth 100000 in
theorem mo_122 : mthOK 122 := ⟨by decide +kernel, ⟨by decide +kernel, by decide +kernel, by decide +kernel⟩, List.mem_of_getElem? (i := 1193) rfl, List.mem_of_getElem? (i := 97) (by decide +kernel), by decide +kernel, List.mem_of_getElem? (i := 1192) (by decide +kernel)⟩
set_option maxRecDepth 100000 in
theorem mo_123 : mthOK 123 := ⟨by decide +kernel, ⟨by decide +kernel, by decide +kernel, by decide +kernel⟩, List.mem_of_getElem? (i := 1182) rfl, List.mem_of_getElem? (i := 97) (by decide +kernel), by decide +kernel, ⟨List.mem_of_getElem? (i := 1180) (by decide +kernel), List.mem_of_getElem? (i := 1181) (by decide +kernel), by decide +kernel⟩⟩
set_option maxRecDepth 100000 in
theorem mo_124 : mthOK 124 := ⟨by decide +kernel, ⟨by decide +kernel, by decide +kernel, by decide +kernel⟩, List.mem_of_getElem? (i := 1186) rfl, List.mem_of_getElem? (i := 97) (by decide +kernel), by decide +kernel, ⟨List.mem_of_getElem? (i := 1185) (by decide +kernel), List.mem_of_getElem? (i := 39) (by decide +kernel), by decide +kernel⟩⟩
set_option maxRecDepth 100000 in
theorem mo_125 : mthOK 125 := ⟨by decide +kernel, ⟨by decide +kernel, by decide +kernel, by decide +kernel⟩, List.mem_of_getElem? (i := 1190) rfl, List.mem_of_getElem? (i := 97) (by decide +kernel), by decide +kernel, ⟨List.mem_of_getElem? (i := 1188) (by decide +kernel), List.mem_of_getElem? (i := 1189) (by decide +kernel), by decide +kernel⟩⟩
set_option maxRecDepth 100000 in
theorem mo_126 : mthOK 126 := ⟨by decide +kernel, ⟨by decide +kernel, by decide +kernel, by decide +kernel⟩, List.mem_of_getElem? (i := 1213) rfl, List.mem_of_getElem? (i := 97) (by decide +kernel), by decide +kernel, ⟨List.mem_of_getElem? (i := 1212) (by decide +kernel), List.mem_of_getElem? (i := 43) (by decide +kernel), by decide +kernel⟩⟩
set_option maxRecDepth 100000 in
theorem mo_127 : mthOK 127 := ⟨by decide +kernel, ⟨by decide +kernel, by decide +kernel, by decide +kernel⟩, List.mem_of_getElem? (i := 1216) rfl, List.mem_of_getElem? (i := 97) (by decide +kernel), by decide +kernel, List.mem_of_getElem? (i := 1215) (by decide +kernel)⟩
set_option maxRecDepth 100000 in
theorem mo_128 : mthOK 128 := ⟨by decide +kernel, ⟨by decide +kernel, by decide +kernel, by decide +kernel⟩, List.mem_of_getElem? (i := 1230) rfl, List.mem_of_getElem? (i := 97) (by decide +kernel), by decide +kernel, List.mem_of_getElem? (i := 1229) (by decide +kernel)⟩
set_option maxRecDepth 100000 in
theorem mo_129 : mthOK 129 := ⟨by decide +kernel, ⟨by decide +kernel, by decide +kernel, by decide +kernel⟩, List.mem_of_getElem? (i := 1209) rfl, List.mem_of_getElem? (i := 97) (by decide +kernel), by decide +kernel, ⟨List.mem_of_getElem? (i := 1208) (by decide +kernel), List.mem_of_getElem? (i := 42) (by decide +kernel), by decide +kernel⟩⟩
set_option maxRecDepth 100000 in
theorem mo_130 : mthOK 130 := ⟨by decide +kernel, ⟨by decide +kernel, by decide +kernel, by decide +kernel⟩, List.mem_of_getElem? (i := 1220) rfl, List.mem_of_getElem? (i := 97) (by decide +kernel), by decide +kernel, ⟨List.mem_of_getElem? (i := 1219) (by decide +kernel), List.mem_of_getElem? (i := 44) (by decide +kernel), by decide +kernel⟩⟩
set_option maxRecDepth 100000 in
theorem mo_131 : mthOK 131 := ⟨by decide +kernel, ⟨by decide +kernel, by decide +kernel, by decide +kernel⟩, List.mem_of_getElem? (i := 1236) rfl, List.mem_of_getElem? (i := 97) (by decide +kernel), by decide +kernel, ⟨List.mem_of_getElem? (i := 1235) (by decide +kernel), List.mem_of_getElem? (i := 45) (by decide +kernel), by decide +kernel⟩⟩
set_option maxRecDepth 100000 in
theorem mo_132 : mthOK 132 := ⟨by decide +kernel, ⟨by decide +kernel, by decide +kernel, by decide +kernel⟩, List.mem_of_getElem? (i := 1280) rfl, List.mem_of_getElem? (i := 97) (by decide +kernel), by decide +kernel, ⟨List.mem_of_getElem? (i := 1279) (by decide +kernel), List.mem_of_getElem? (i := 56) (by decide +kernel), by decide +kernel⟩⟩
set_option maxRecDepth 100000 in
theorem mo_133 : mthOK 133 := ⟨by decide +kernel, ⟨by decide +kernel, by decide +kernel, by decide +kernel⟩, List.mem_of_getElem? (i := 1260) rfl, List.mem_of_getElem? (i := 97) (by decide +kernel), by decide +kernel, ⟨List.mem_of_getElem? (i := 1259) (by decide +kernel), List.mem_of_getElem? (i := 51) (by decide +kernel), by decide +kernel⟩⟩
set_option maxRecDepth 100000 in
theorem mo_134 : mthOK 134 := ⟨by decide +kernel, ⟨by decide +kernel, by decide +kernel, by decide +kernel⟩, List.mem_of_getElem? (i := 1256) rfl, List.mem_of_getElem? (i := 97) (by decide +kernel), by decide +kernel, ⟨List.mem_of_getElem? (i := 1255) (by decide +kernel), List.mem_of_getElem? (i := 50) (by decide +kernel), by decide +kernel⟩⟩
set_option maxRecDepth 100000 in
theorem mo_135 : mthOK 135 := ⟨by decide +kernel, ⟨by decide +kernel, by decide +kernel, by decide +kernel⟩, List.mem_of_getElem? (i := 1248) rfl, List.mem_of_getElem? (i := 97) (by decide +kernel), by decide +kernel, ⟨List.mem_of_getElem? (i := 1247) (by decide +kernel), List.mem_of_getElem? (i := 48) (by decide +kernel), by decide +kernel⟩⟩
set_option maxRecDepth 100000 in
theorem mo_136 : mthOK 136 := ⟨by decide +kernel, ⟨by decide +kernel, by decide +kernel, by decide +kernel⟩, List.mem_of_getElem? (i := 1244) rfl, List.mem_of_getElem? (i := 97) (by decide +kernel), by decide +kernel, ⟨List.mem_of_getElem? (i := 1243) (by decide +kernel), List.mem_of_getElem? (i := 47) (by decide +kernel), by decide +kernel⟩⟩
set_option maxRecDepth 100000 in
theorem mo_137 : mthOK 137 := ⟨by decide +kernel, ⟨by decide +kernel, by decide +kernel, by decide +kernel⟩, List.mem_of_getElem? (i := 1268) rfl, List.mem_of_getElem? (i := 97) (by decide +kernel), by decide +kernel, ⟨List.mem_of_getElem? (i := 1267) (by decide +kernel), List.mem_of_getElem? (i := 53) (by decide +kernel), by decide +kernel⟩⟩
set_option maxRecDepth 100000 in
theorem mo_138 : mthOK 138 := ⟨by decide +kernel, ⟨by decide +kernel, by decide +kernel, by decide +kernel⟩, List.mem_of_getElem? (i := 1276) rfl, List.mem_of_getElem? (i := 97) (by decide +kernel), by decide +kernel, ⟨List.mem_of_getElem? (i := 1275) (by decide +kernel), List.mem_of_getElem? (i := 55) (by decide +kernel), by decide +kernel⟩⟩
set_option maxRecDepth 100000 in
theorem mo_139 : mthOK 139 := ⟨by decide +kernel, ⟨by decide +kernel, by decide +kernel, by decide +kernel⟩, List.mem_of_getElem? (i := 1301) rfl, List.mem_of_getElem? (i := 97) (by decide +kernel), by decide +kernel, ⟨List.mem_of_getElem? (i := 1300) (by decide +kernel), List.mem_of_getElem? (i := 61) (by decide +kernel), by decide +kernel⟩⟩
set_option maxRecDepth 100000 in
theorem mo_140 : mthOK 140 := ⟨by decide +kernel, ⟨by decide +kernel, by decide +kernel, by decide +kernel⟩, List.mem_of_getElem? (i := 1288) rfl, List.mem_of_getElem? (i := 97) (by decide +kernel), by decide +kernel, ⟨List.mem_of_getElem? (i := 1287) (by decide +kernel), List.mem_of_getElem? (i := 58) (by decide +kernel), by decide +kernel⟩⟩
set_option maxRecDepth 100000 in
theorem mo_141 : mthOK 141 := ⟨by decide +kernel, ⟨by decide +kernel, by decide +kernel, by decide +kernel⟩, List.mem_of_getElem? (i := 1264) rfl, List.mem_of_getElem? (i := 97) (by decide +kernel), by decide +kernel, ⟨List.mem_of_getElem? (i := 1263) (by decide +kernel), List.mem_of_getElem? (i := 52) (by decide +kernel), by decide +kernel⟩⟩
set_option maxRecDepth 100000 in
theorem mo_142 : mthOK 142 := ⟨by decide +kernel, ⟨by decide +kernel, by decide +kernel, by decide +kernel⟩, List.mem_of_getElem? (i := 1272) rfl, List.mem_of_getElem? (i := 97) (by decide +kernel), by decide +kernel, ⟨List.mem_of_getElem? (i := 1271) (by decide +kernel), List.mem_of_getElem? (i := 54) (by decide +kernel), by decide +kernel⟩⟩
set_option maxRecDepth 100000 in
theorem mo_143 : mthOK 143 := ⟨by decide +kernel, ⟨by decide +kernel, by decide +kernel, by decide +kernel⟩, List.mem_of_getElem? (i := 1284) rfl, List.mem_of_getElem? (i := 97) (by decide +kernel), by decide +kernel, ⟨List.mem_of_getElem? (i := 1283) (by decide +kernel), List.mem_of_getElem? (i := 57) (by decide +kernel), by decide +kernel⟩⟩
set_option maxRecDepth 100000 in
theorem mo_144 : mthOK 144 := ⟨by decide +kernel, ⟨by decide +kernel, by decide +kernel, by decide +kernel⟩, List.mem_of_getElem? (i := 1293) rfl, List.mem_of_getElem? (i := 97) (by decide +kernel), by decide +kernel, ⟨List.mem_of_getElem? (i := 1292) (by decide +kernel), List.mem_of_getElem? (i := 59) (by decide +kernel), by decide +kernel⟩⟩
set_option maxRecDepth 100000 in
theorem mo_145 : mthOK 145 := ⟨by decide +kernel, ⟨by decide +kernel, by decide +kernel, by decide +kernel⟩, List.mem_of_getElem? (i := 1305) rfl, List.mem_of_getElem? (i := 97) (by decide +kernel), by decide +kernel, ⟨List.mem_of_getElem? (i := 1304) (by decide +kernel), List.mem_of_getElem? (i := 62) (by decide +kernel), by decide +kernel⟩⟩
set_option maxRecDepth 100000 in
theorem mo_146 : mthOK 146 := ⟨by decide +kernel, ⟨by decide +kernel, by decide +kernel, by decide +kernel⟩, List.mem_of_getElem? (i := 1297) rfl, List.mem_of_getElem? (i := 97) (by decide +kernel), by decide +kernel, ⟨List.mem_of_getElem? (i := 1296) (by decide +kernel), List.mem_of_getElem? (i := 60) (by decide +kernel), by decide +kernel⟩⟩
set_option maxRecDepth 100000 in
theorem mo_147 : mthOK 147 := ⟨by decide +kernel, ⟨by decide +kernel, by decide +kernel, by decide +kernel⟩, List.mem_of_getElem? (i := 1309) rfl, List.mem_of_getElem? (i := 97) (by decide +kernel), by decide +kernel, ⟨List.mem_of_getElem? (i := 1308) (by decide +kernel), List.mem_of_getElem? (i := 63) (by decide +kernel), by decide +kernel⟩⟩
set_option maxRecDepth 100000 in
theorem mo_148 : mthOK 148 := ⟨by decide +kernel, ⟨by decide +kernel, by decide +kernel, by decide +kernel⟩, List.mem_of_getElem? (i := 1313) rfl, List.mem_of_getElem? (i := 97) (by decide +kernel), by decide +kernel, ⟨List.mem_of_getElem? (i := 1312) (by decide +kernel), List.mem_of_getElem? (i := 64) (by decide +kernel), by decide +kernel⟩⟩
set_option maxRecDepth 100000 in
theorem mo_149 : mthOK 149 := ⟨by decide +kernel, ⟨by decide +kernel, by decide +kernel, by decide +kernel⟩, List.mem_of_getElem? (i := 1323) rfl, List.mem_of_getElem? (i := 97) (by decide +kernel), by decide +kernel, ⟨List.mem_of_getElem? (i := 1322) (by decide +kernel), List.mem_of_getElem? (i := 65) (by decide +kernel), by decide +kernel⟩⟩
set_option maxRecDepth 100000 in
theorem mo_150 : mthOK 150 := ⟨by decide +kernel, ⟨by decide +kernel, by decide +kernel, by decide +kernel⟩, List.mem_of_getElem? (i := 1205) rfl, List.mem_of_getElem? (i := 97) (by decide +kernel), by decide +kernel, ⟨List.mem_of_getElem? (i := 1204) (by decide +kernel), List.mem_of_getElem? (i := 41) (by decide +kernel), by decide +kernel⟩⟩
set_option maxRecDepth 100000 in
theorem mo_151 : mthOK 151 := ⟨by decide +kernel, ⟨by decide +kernel, by decide +kernel, by decide +kernel⟩, List.mem_of_getElem? (i := 1240) rfl, List.mem_of_getElem? (i := 97) (by decide +kernel), by decide +kernel, ⟨List.mem_of_getElem? (i := 1239) (by decide +kernel), List.mem_of_getElem? (i := 46) (by decide +kernel), by decide +kernel⟩⟩
set_option maxRecDepth 100000 in
theorem mo_152 : mthOK 152 := ⟨by decide +kernel, ⟨by decide +kernel, by decide +kernel, by decide +kernel⟩, List.mem_of_getElem? (i := 1383) rfl, List.mem_of_getElem? (i := 97) (by decide +kernel), by decide +kernel, ⟨List.mem_of_getElem? (i := 1382) (by decide +kernel), List.mem_of_getElem? (i := 74) (by decide +kernel), by decide +kernel⟩⟩
set_option maxRecDepth 100000 in
theorem mo_153 : mthOK 153 := ⟨by decide +kernel, ⟨by decide +kernel, by decide +kernel, by decide +kernel⟩, List.mem_of_getElem? (i := 1391) rfl, List.mem_of_getElem? (i := 97) (by decide +kernel), by decide +kernel, ⟨List.mem_of_getElem? (i := 1390) (by decide +kernel), List.mem_of_getElem? (i := 76) (by decide +kernel), by decide +kernel⟩⟩
set_option maxRecDepth 100000 in
theorem mo_154 : mthOK 154 := ⟨by decide +kernel, ⟨by decide +kernel, by decide +kernel, by decide +kernel⟩, List.mem_of_getElem? (i := 1387) rfl, List.mem_of_getElem? (i := 97) (by decide +kernel), by decide +kernel, ⟨List.mem_of_getElem? (i := 1386) (by decide +kernel), List.mem_of_getElem? (i := 75) (by decide +kernel), by decide +kernel⟩⟩
set_option maxRecDepth 100000 in
theorem mo_155 : mthOK 155 := ⟨by decide +kernel, ⟨by decide +kernel, by decide +kernel, by decide +kernel⟩, List.mem_of_getElem? (i := 1398) rfl, List.mem_of_getElem? (i := 97) (by decide +kernel), by decide +kernel, ⟨List.mem_of_getElem? (i := 1397) (by decide +kernel), List.mem_of_getElem? (i := 77) (by decide +kernel), by decide +kernel⟩⟩
set_option maxRecDepth 100000 in
theorem mo_156 : mthOK 156 := ⟨by decide +kernel, ⟨by decide +kernel, by decide +kernel, by decide +kernel⟩, List.mem_of_getElem? (i := 1403) rfl, List.mem_of_getElem? (i := 97) (by decide +kernel), by decide +kernel, ⟨List.mem_of_getElem? (i := 1402) (by decide +kernel), List.mem_of_getElem? (i := 78) (by decide +kernel), by decide +kernel⟩⟩
set_option maxRecDepth 100000 in
theorem mo_157 : mthOK 157 := ⟨by decide +kernel, ⟨by decide +kernel, by decide +kernel, by decide +kernel⟩, List.mem_of_getElem? (i := 1406) rfl, List.mem_of_getElem? (i := 97) (by decide +kernel), by decide +kernel, List.mem_of_getElem? (i := 1405) (by decide +kernel)⟩
set_option maxRecDepth 100000 in
theorem mo_158 : mthOK 158 := ⟨by decide +kernel, ⟨by decide +kernel, by decide +kernel, by decide +kernel⟩, List.mem_of_getElem? (i := 1379) rfl, List.mem_of_getElem? (i := 97) (by decide +kernel), by decide +kernel, ⟨List.mem_of_getElem? (i := 1378) (by decide +kernel), List.mem_of_getElem? (i := 73) (by decide +kernel), by decide +kernel⟩⟩
set_option maxRecDepth 100000 in
theorem mo_159 : mthOK 159 := ⟨by decide +kernel, ⟨by decide +kernel, by decide +kernel, by decide +kernel⟩, List.mem_of_getElem? (i := 1375) rfl, List.mem_of_getElem? (i := 97) (by decide +kernel), by decide +kernel, ⟨List.mem_of_getElem? (i := 1374) (by decide +kernel), List.mem_of_getElem? (i := 72) (by decide +kernel), by decide +kernel⟩⟩
set_option maxRecDepth 100000 in
theorem mo_160 : mthOK 160 := ⟨by decide +kernel, ⟨by decide +kernel, by decide +kernel, by decide +kernel⟩, List.mem_of_getElem? (i := 1252) rfl, List.mem_of_getElem? (i := 97) (by decide +kernel), by decide +kernel, ⟨List.mem_of_getElem? (i := 1251) (by decide +kernel), List.mem_of_getElem? (i := 49) (by decide +kernel), by decide +kernel⟩⟩
set_option maxRecDepth 100000 in
theorem mo_161 : mthOK 161 := ⟨by decide +kernel, ⟨by decide +kernel, by decide +kernel, by decide +kernel⟩, List.mem_of_getElem? (i := 1327) rfl, List.mem_of_getElem? (i := 97) (by decide +kernel), by decide +kernel, ⟨List.mem_of_getElem? (i := 1326) (by decide +kernel), List.mem_of_getElem? (i := 66) (by decide +kernel), by decide +kernel⟩⟩
set_option maxRecDepth 100000 in
theorem mo_162 : mthOK 162 := ⟨by decide +kernel, ⟨by decide +kernel, by decide +kernel, by decide +kernel⟩, List.mem_of_getElem? (i := 1331) rfl, List.mem_of_getElem? (i := 97) (by decide +kernel), by decide +kernel, ⟨List.mem_of_getElem? (i := 1330) (by decide +kernel), List.mem_of_getElem? (i := 67) (by decide +kernel), by decide +kernel⟩⟩
set_option maxRecDepth 100000 in
theorem mo_163 : mthOK 163 := ⟨by decide +kernel, ⟨by decide +kernel, by decide +kernel, by decide +kernel⟩, List.mem_of_getElem? (i := 1201) rfl, List.mem_of_getElem? (i := 97) (by decide +kernel), by decide +kernel, ⟨List.mem_of_getElem? (i := 1200) (by decide +kernel), List.mem_of_getElem? (i := 40) (by decide +kernel), by decide +kernel⟩⟩
set_option maxRecDepth 100000 in
theorem mo_164 : mthOK 164 := ⟨by decide +kernel, ⟨by decide +kernel, by decide +kernel, by decide +kernel⟩, List.mem_of_getElem? (i := 1197) rfl, List.mem_of_getElem? (i := 97) (by decide +kernel), by decide +kernel, ⟨List.mem_of_getElem? (i := 1195) (by decide +kernel), List.mem_of_getElem? (i := 1196) (by decide +kernel), by decide +kernel⟩⟩
set_option maxRecDepth 100000 in
theorem mo_165 : mthOK 165 := ⟨by decide +kernel, ⟨by decide +kernel, by decide +kernel, by decide +kernel⟩, List.mem_of_getElem? (i := 1335) rfl, List.mem_of_getElem? (i := 97) (by decide +kernel), by decide +kernel, ⟨List.mem_of_getElem? (i := 1333) (by decide +kernel), List.mem_of_getElem? (i := 1334) (by decide +kernel), by decide +kernel⟩⟩
set_option maxRecDepth 100000 in
theorem mo_166 : mthOK 166 := ⟨by decide +kernel, ⟨by decide +kernel, by decide +kernel, by decide +kernel⟩, List.mem_of_getElem? (i := 1343) rfl, List.mem_of_getElem? (i := 97) (by decide +kernel), by decide +kernel, ⟨List.mem_of_getElem? (i := 1342) (by decide +kernel), List.mem_of_getElem? (i := 68) (by decide +kernel), by decide +kernel⟩⟩
set_option maxRecDepth 100000 in
theorem mo_167 : mthOK 167 := ⟨by decide +kernel, ⟨by decide +kernel, by decide +kernel, by decide +kernel⟩, List.mem_of_getElem? (i := 1339) rfl, List.mem_of_getElem? (i := 97) (by decide +kernel), by decide +kernel, ⟨List.mem_of_getElem? (i := 1337) (by decide +kernel), List.mem_of_getElem? (i := 1338) (by decide +kernel), by decide +kernel⟩⟩
set_option maxRecDepth 100000 in
theorem mo_168 : mthOK 168 := ⟨by decide +kernel, ⟨by decide +kernel, by decide +kernel, by decide +kernel⟩, List.mem_of_getElem? (i := 1347) rfl, List.mem_of_getElem? (i := 97) (by decide +kernel), by decide +kernel, ⟨List.mem_of_getElem? (i := 1345) (by decide +kernel), List.mem_of_getElem? (i := 1346) (by decide +kernel), by decide +kernel⟩⟩
set_option maxRecDepth 100000 in
theorem mo_169 : mthOK 169 := ⟨by decide +kernel, ⟨by decide +kernel, by decide +kernel, by decide +kernel⟩, List.mem_of_getElem? (i := 1351) rfl, List.mem_of_getElem? (i := 97) (by decide +kernel), by decide +kernel, ⟨List.mem_of_getElem? (i := 1349) (by decide +kernel), List.mem_of_getElem? (i := 1350) (by decide +kernel), by decide +kernel⟩⟩
set_option maxRecDepth 100000 in
theorem mo_170 : mthOK 170 := ⟨by decide +kernel, ⟨by decide +kernel, by decide +kernel, by decide +kernel⟩, List.mem_of_getElem? (i := 1359) rfl, List.mem_of_getElem? (i := 97) (by decide +kernel), by decide +kernel, ⟨List.mem_of_getElem? (i := 1358) (by decide +kernel), List.mem_of_getElem? (i := 69) (by decide +kernel), by decide +kernel⟩⟩
set_option maxRecDepth 100000 in
theorem mo_171 : mthOK 171 := ⟨by decide +kernel, ⟨by decide +kernel, by decide +kernel, by decide +kernel⟩, List.mem_of_getElem? (i := 1371) rfl, List.mem_of_getElem? (i := 97) (by decide +kernel), by decide +kernel, ⟨List.mem_of_getElem? (i := 1370) (by decide +kernel), List.mem_of_getElem? (i := 71) (by decide +kernel), by decide +kernel⟩⟩
set_option maxRecDepth 100000 in
theorem mo_172 : mthOK 172 := ⟨by decide +kernel, ⟨by decide +kernel, by decide +kernel, by decide +kernel⟩, List.mem_of_getElem? (i := 1410) rfl, List.mem_of_getElem? (i := 97) (by decide +kernel), by decide +kernel, ⟨List.mem_of_getElem? (i := 1409) (by decide +kernel), List.mem_of_getElem? (i := 79) (by decide +kernel), by decide +kernel⟩⟩
set_option maxRecDepth 100000 in
theorem mo_173 : mthOK 173 := ⟨by decide +kernel, ⟨by decide +kernel, by decide +kernel, by decide +kernel⟩, List.mem_of_getElem? (i := 1414) rfl, List.mem_of_getElem? (i := 97) (by decide +kernel), by decide +kernel, ⟨List.mem_of_getElem? (i := 1413) (by decide +kernel), List.mem_of_getElem? (i := 80) (by decide +kernel), by decide +kernel⟩⟩
set_option maxRecDepth 100000 in
theorem mo_174 : mthOK 174 := ⟨by decide +kernel, ⟨by decide +kernel, by decide +kernel, by decide +kernel⟩, List.mem_of_getElem? (i := 1363) rfl, List.mem_of_getElem? (i := 97) (by decide +kernel), by decide +kernel, ⟨List.mem_of_getElem? (i := 1362) (by decide +kernel), List.mem_of_getElem? (i := 70) (by decide +kernel), by decide +kernel⟩⟩
set_option maxRecDepth 100000 in
theorem mo_175 : mthOK 175 := ⟨by decide +kernel, ⟨by decide +kernel, by decide +kernel, by decide +kernel⟩, List.mem_of_getElem? (i := 1355) rfl, List.mem_of_getElem? (i := 97) (by decide +kernel), by decide +kernel, ⟨List.mem_of_getElem? (i := 1353) (by decide +kernel), List.mem_of_getElem? (i := 1354) (by decide +kernel), by decide +kernel⟩⟩
set_option maxRecDepth 100000 in
theorem mo_176 : mthOK 176 := ⟨by decide +kernel, ⟨by decide +kernel, by decide +kernel, by decide +kernel⟩, List.mem_of_getElem? (i := 1418) rfl, List.mem_of_getElem? (i := 97) (by decide +kernel), by decide +kernel, ⟨List.mem_of_getElem? (i := 1416) (by decide +kernel), List.mem_of_getElem? (i := 1417) (by decide +kernel), by decide +kernel⟩⟩
set_option maxRecDepth 100000 in
theorem mo_177 : mthOK 177 := ⟨by decide +kernel, ⟨by decide +kernel, by decide +kernel, by decide +kernel⟩, List.mem_of_getElem? (i := 1423) rfl, List.mem_of_getElem? (i := 97) (by decide +kernel), by decide +kernel, ⟨List.mem_of_getElem? (i := 1422) (by decide +kernel), List.mem_of_getElem? (i := 81) (by decide +kernel), by decide +kernel⟩⟩
set_option maxRecDepth 100000 in
theorem mo_178 : mthOK 178 := ⟨by decide +kernel, ⟨by decide +kernel, by decide +kernel, by decide +kernel⟩, List.mem_of_getElem? (i := 1427) rfl, List.mem_of_getElem? (i := 97) (by decide +kernel), by decide +kernel, ⟨List.mem_of_getElem? (i := 1426) (by decide +kernel), List.mem_of_getElem? (i := 82) (by decide +kernel), by decide +kernel⟩⟩
set_option maxRecDepth 100000 in
theorem mo_179 : mthOK 179 := ⟨by decide +kernel, ⟨by decide +kernel, by decide +kernel, by decide +kernel⟩, List.mem_of_getElem? (i := 1431) rfl, List.mem_of_getElem? (i := 97) (by decide +kernel), by decide +kernel, ⟨List.mem_of_getElem? (i := 1429) (by decide +kernel), List.mem_of_getElem? (i := 1430) (by decide +kernel), by decide +kernel⟩⟩
set_option maxRecDepth 100000 in
theorem mo_180 : mthOK 180 := ⟨by decide +kernel, ⟨by decide +kernel, by decide +kernel, by decide +kernel⟩, List.mem_of_getElem? (i := 1435) rfl, List.mem_of_getElem? (i := 97) (by decide +kernel), by decide +kernel, ⟨List.mem_of_getElem? (i := 1433) (by decide +kernel), List.mem_of_getElem? (i := 1434) (by decide +kernel), by decide +kernel⟩⟩
set_option maxRecDepth 100000 in
theorem mo_181 : mthOK 181 := ⟨by decide +kernel, ⟨by decide +kernel, by decide +kernel, by decide +kernel⟩, List.mem_of_getElem? (i := 1441) rfl, List.mem_of_getElem? (i := 97) (by decide +kernel), by decide +kernel, ⟨List.mem_of_getElem? (i := 1439) (by decide +kernel), List.mem_of_getElem? (i := 1440) (by decide +kernel), by decide +kernel⟩⟩
set_option maxRecDepth 100000 in
theorem mo_182 : mthOK 182 := ⟨by decide +kernel, ⟨by decide +kernel, by decide +kernel, by decide +kernel⟩, List.mem_of_getElem? (i := 1445) rfl, List.mem_of_getElem? (i := 97) (by decide +kernel), by decide +kernel, ⟨List.mem_of_getElem? (i := 1444) (by decide +kernel), List.mem_of_getElem? (i := 83) (by decide +kernel), by decide +kernel⟩⟩
set_option maxRecDepth 100000 in
theorem mo_183 : mthOK 183 := ⟨by decide +kernel, ⟨by decide +kernel, by decide +kernel, by decide +kernel⟩, List.mem_of_getElem? (i := 1453) rfl, List.mem_of_getElem? (i := 97) (by decide +kernel), by decide +kernel, ⟨List.mem_of_getElem? (i := 1452) (by decide +kernel), List.mem_of_getElem? (i := 84) (by decide +kernel), by decide +kernel⟩⟩
set_option maxRecDepth 100000 in
theorem mo_184 : mthOK 184 := ⟨by decide +kernel, ⟨by decide +kernel, by decide +kernel, by decide +kernel⟩, List.mem_of_getElem? (i := 1449) rfl, List.mem_of_getElem? (i := 97) (by decide +kernel), by decide +kernel, ⟨List.mem_of_getElem? (i := 1447) (by decide +kernel), List.mem_of_getElem? (i := 1448) (by decide +kernel), by decide +kernel⟩⟩
set_option maxRecDepth 100000 in
theorem mo_185 : mthOK 185 := ⟨by decide +kernel, ⟨by decide +kernel, by decide +kernel, by decide +kernel⟩, List.mem_of_getElem? (i := 1457) rfl, List.mem_of_getElem? (i := 97) (by decide +kernel), by decide +kernel, ⟨List.mem_of_getElem? (i := 1455) (by decide +kernel), List.mem_of_getElem? (i := 1456) (by decide +kernel), by decide +kernel⟩⟩
set_option maxRecDepth 100000 in
theorem mo_186 : mthOK 186 := ⟨by decide +kernel, ⟨by decide +kernel, by decide +kernel, by decide +kernel⟩, List.mem_of_getElem? (i := 1367) rfl, List.mem_of_getElem? (i := 97) (by decide +kernel), by decide +kernel, ⟨List.mem_of_getElem? (i := 1365) (by decide +kernel), List.mem_of_getElem? (i := 1366) (by decide +kernel), by decide +kernel⟩⟩
set_option maxRecDepth 100000 in
theorem mo_187 : mthOK 187 := ⟨by decide +kernel, ⟨by decide +kernel, by decide +kernel, by decide +kernel⟩, List.mem_of_getElem? (i := 1462) rfl, List.mem_of_getElem? (i := 97) (by decide +kernel), by decide +kernel, ⟨List.mem_of_getElem? (i := 1460) (by decide +kernel), List.mem_of_getElem? (i := 1461) (by decide +kernel), by decide +kernel⟩⟩
set_option maxRecDepth 100000 in
theorem mo_188 : mthOK 188 := ⟨by decide +kernel, ⟨by decide +kernel, by decide +kernel, by decide +kernel⟩, List.mem_of_getElem? (i := 1471) rfl, List.mem_of_getElem? (i := 97) (by decide +kernel), by decide +kernel, ⟨List.mem_of_getElem? (i := 1470) (by decide +kernel), List.mem_of_getElem? (i := 85) (by decide +kernel), by decide +kernel⟩⟩
set_option maxRecDepth 100000 in
theorem mo_189 : mthOK 189 := ⟨by decide +kernel, ⟨by decide +kernel, by decide +kernel, by decide +kernel⟩, List.mem_of_getElem? (i := 1467) rfl, List.mem_of_getElem? (i := 97) (by decide +kernel), by decide +kernel, ⟨List.mem_of_getElem? (i := 1465) (by decide +kernel), List.mem_of_getElem? (i := 1466) (by decide +kernel), by decide +kernel⟩⟩
set_option maxRecDepth 100000 in
theorem mo_190 : mthOK 190 := ⟨by decide +kernel, ⟨by decide +kernel, by decide +kernel, by decide +kernel⟩, List.mem_of_getElem? (i := 1475) rfl, List.mem_of_getElem? (i := 97) (by decide +kernel), by decide +kernel, ⟨List.mem_of_getElem? (i := 1473) (by decide +kernel), List.mem_of_getElem? (i := 1474) (by decide +kernel), by decide +kernel⟩⟩
set_option maxRecDepth 100000 in
theorem mo_191 : mthOK 191 := ⟨by decide +kernel, ⟨by decide +kernel, by decide +kernel, by decide +kernel⟩, List.mem_of_getElem? (i := 1479) rfl, List.mem_of_getElem? (i := 97) (by decide +kernel), by decide +kernel, ⟨List.mem_of_getElem? (i := 1477) (by decide +kernel), List.mem_of_getElem? (i := 1478) (by decide +kernel), by decide +kernel⟩⟩
set_option maxRecDepth 100000 in
theorem mo_192 : mthOK 192 := ⟨by decide +kernel, ⟨by decide +kernel, by decide +kernel, by decide +kernel⟩, List.mem_of_getElem? (i := 1483) rfl, List.mem_of_getElem? (i := 97) (by decide +kernel), by decide +kernel, ⟨List.mem_of_getElem? (i := 1481) (by decide +kernel), List.mem_of_getElem? (i := 1482) (by decide +kernel), by decide +kernel⟩⟩
set_option maxRecDepth 100000 in
theorem mo_193 : mthOK 193 := ⟨by decide +kernel, ⟨by decide +kernel, by decide +kernel, by decide +kernel⟩, List.mem_of_getElem? (i := 1487) rfl, List.mem_of_getElem? (i := 97) (by decide +kernel), by decide +kernel, ⟨List.mem_of_getElem? (i := 1485) (by decide +kernel), List.mem_of_getElem? (i := 1486) (by decide +kernel), by decide +kernel⟩⟩
set_option maxRecDepth 100000 in
theorem mo_194 : mthOK 194 := ⟨by decide +kernel, ⟨by decide +kernel, by decide +kernel, by decide +kernel⟩, List.mem_of_getElem? (i := 1491) rfl, List.mem_of_getElem? (i := 97) (by decide +kernel), by decide +kernel, ⟨List.mem_of_getElem? (i := 1489) (by decide +kernel), List.mem_of_getElem? (i := 1490) (by decide +kernel), by decide +kernel⟩⟩
set_option maxRecDepth 100000 in
theorem mo_195 : mthOK 195 := ⟨by decide +kernel, ⟨by decide +kernel, by decide +kernel, by decide +kernel⟩, List.mem_of_getElem? (i := 1495) rfl, List.mem_of_getElem? (i := 97) (by decide +kernel), by decide +kernel, ⟨List.mem_of_getElem? (i := 1493) (by decide +kernel), List.mem_of_getElem? (i := 1494) (by decide +kernel), by decide +kernel⟩⟩
set_option maxRecDepth 100000 in
theorem mo_196 : mthOK 196 := ⟨by decide +kernel, ⟨by decide +kernel, by decide +kernel, by decide +kernel⟩, List.mem_of_getElem? (i := 1499) rfl, List.mem_of_getElem? (i := 97) (by decide +kernel), by decide +kernel, ⟨List.mem_of_getElem? (i := 1497) (by decide +kernel), List.mem_of_getElem? (i := 1498) (by decide +kernel), by decide +kernel⟩⟩
set_option maxRecDepth 100000 in
theorem mo_197 : mthOK 197 := ⟨by decide +kernel, ⟨by decide +kernel, by decide +kernel, by decide +kernel⟩, List.mem_of_getElem? (i := 1503) rfl, List.mem_of_getElem? (i := 97) (by decide +kernel), by decide +kernel, ⟨List.mem_of_getElem? (i := 1501) (by decide +kernel), List.mem_of_getElem? (i := 1502) (by decide +kernel), by decide +kernel⟩⟩
set_option maxRecDepth 100000 in
theorem mo_198 : mthOK 198 := ⟨by decide +kernel, ⟨by decide +kernel, by decide +kernel, by decide +kernel⟩, List.mem_of_getElem? (i := 1508) rfl, List.mem_of_getElem? (i := 97) (by decide +kernel), by decide +kernel, ⟨List.mem_of_getElem? (i := 1506) (by decide +kernel), List.mem_of_getElem? (i := 1507) (by decide +kernel), by decide +kernel⟩⟩
set_option maxRecDepth 100000 in
theorem mo_200 : mthOK 200 := ⟨by decide +kernel, ⟨by decide +kernel, by decide +kernel, by decide +kernel⟩, List.mem_of_getElem? (i := 491) rfl, List.mem_of_getElem? (i := 98) (by decide +kernel), by decide +kernel, ⟨List.mem_of_getElem? (i := 489) (by decide +kernel), List.mem_of_getElem? (i := 490) (by decide +kernel), by decide +kernel⟩⟩
set_option maxRecDepth 100000 in
theorem mo_201 : mthOK 201 := ⟨by decide +kernel, ⟨by decide +kernel, by decide +kernel, by decide +kernel⟩, List.mem_of_getElem? (i := 495) rfl, List.mem_of_getElem? (i := 98) (by decide +kernel), by decide +kernel, ⟨List.mem_of_getElem? (i := 493) (by decide +kernel), List.mem_of_getElem? (i := 494) (by decide +kernel), by decide +kernel⟩⟩
set_option maxRecDepth 100000 in
theorem mo_202 : mthOK 202 := ⟨by decide +kernel, ⟨by decide +kernel, by decide +kernel, by decide +kernel⟩, List.mem_of_getElem? (i := 499) rfl, List.mem_of_getElem? (i := 98) (by decide +kernel), by decide +kernel, ⟨List.mem_of_getElem? (i := 497) (by decide +kernel), List.mem_of_getElem? (i := 498) (by decide +kernel), by decide +kernel⟩⟩
set_option maxRecDepth 100000 in
theorem mo_203 : mthOK 203 := ⟨by decide +kernel, ⟨by decide +kernel, by decide +kernel, by decide +kernel⟩, List.mem_of_getElem? (i := 505) rfl, List.mem_of_getElem? (i := 98) (by decide +kernel), by decide +kernel, ⟨List.mem_of_getElem? (i := 503) (by decide +kernel), List.mem_of_getElem? (i := 504) (by decide +kernel), by decide +kernel⟩⟩
set_option maxRecDepth 100000 in
theorem mo_204 : mthOK 204 := ⟨by decide +kernel, ⟨by decide +kernel, by decide +kernel, by decide +kernel⟩, List.mem_of_getElem? (i := 509) rfl, List.mem_of_getElem? (i := 98) (by decide +kernel), by decide +kernel, ⟨List.mem_of_getElem? (i := 507) (by decide +kernel), List.mem_of_getElem? (i := 508) (by decide +kernel), by decide +kernel⟩⟩
set_option maxRecDepth 100000 in
theorem mo_205 : mthOK 205 := ⟨by decide +kernel, ⟨by decide +kernel, by decide +kernel, by decide +kernel⟩, List.mem_of_getElem? (i := 512) rfl, List.mem_of_getElem? (i := 99) (by decide +kernel), by decide +kernel, List.mem_of_getElem? (i := 511) (by decide +kernel)⟩
set_option maxRecDepth 100000 in
theorem mo_206 : mthOK 206 := ⟨by decide +kernel, ⟨by decide +kernel, by decide +kernel, by decide +kernel⟩, List.mem_of_getElem? (i := 515) rfl, List.mem_of_getElem? (i := 99) (by decide +kernel), by decide +kernel, List.mem_of_getElem? (i := 514) (by decide +kernel)⟩
set_option maxRecDepth 100000 in
theorem mo_207 : mthOK 207 := ⟨by decide +kernel, ⟨by decide +kernel, by decide +kernel, by decide +kernel⟩, List.mem_of_getElem? (i := 524) rfl, List.mem_of_getElem? (i := 99) (by decide +kernel), by decide +kernel, List.mem_of_getElem? (i := 523) (by decide +kernel)⟩
set_option maxRecDepth 100000 in
theorem mo_208 : mthOK 208 := ⟨by decide +kernel, ⟨by decide +kernel, by decide +kernel, by decide +kernel⟩, List.mem_of_getElem? (i := 518) rfl, List.mem_of_getElem? (i := 100) (by decide +kernel), by decide +kernel, List.mem_of_getElem? (i := 517) (by decide +kernel)⟩
set_option maxRecDepth 100000 in
theorem mo_209 : mthOK 209 := ⟨by decide +kernel, ⟨by decide +kernel, by decide +kernel, by decide +kernel⟩, List.mem_of_getElem? (i := 521) rfl, List.mem_of_getElem? (i := 100) (by decide +kernel), by decide +kernel, List.mem_of_getElem? (i := 520) (by decide +kernel)⟩
set_option maxRecDepth 100000 in
theorem mo_210 : mthOK 210 := ⟨by decide +kernel, ⟨by decide +kernel, by decide +kernel, by decide +kernel⟩, List.mem_of_getElem? (i := 813) rfl, List.mem_of_getElem? (i := 100) (by decide +kernel), by decide +kernel, List.mem_of_getElem? (i := 812) (by decide +kernel)⟩
set_option maxRecDepth 100000 in
theorem mo_211 : mthOK 211 := ⟨by decide +kernel, ⟨by decide +kernel, by decide +kernel, by decide +kernel⟩, List.mem_of_getElem? (i := 883) rfl, List.mem_of_getElem? (i := 100) (by decide +kernel), by decide +kernel, List.mem_of_getElem? (i := 882) (by decide +kernel)⟩
set_option maxRecDepth 100000 in
theorem mo_212 : mthOK 212 := ⟨by decide +kernel, ⟨by decide +kernel, by decide +kernel, by decide +kernel⟩, List.mem_of_getElem? (i := 916) rfl, List.mem_of_getElem? (i := 100) (by decide +kernel), by decide +kernel, List.mem_of_getElem? (i := 915) (by decide +kernel)⟩
theorem mth_ok : ∀ mi : Nat, mi < 213 → mi ≠ 199 → mthOK mi := by
  intro mi h hl
  match mi, h, hl with
  | 0, _, hl => exact mo_0
  | 1, _, hl => exact mo_1
  | 2, _, hl => exact mo_2
  | 3, _, hl => exact mo_3
  | 4, _, hl => exact mo_4
  | 5, _, hl => exact mo_5
  | 6, _, hl => exact mo_6
  | 7, _, hl => exact mo_7
  | 8, _, hl => exact mo_8
  | 9, _, hl => exact mo_9
  | 10, _, hl => exact mo_10
  | 11, _, hl => exact mo_11
  | 12, _, hl => exact mo_12
  | 13, _, hl => exact mo_13
  | 14, _, hl => exact mo_14
  | 15, _, hl => exact mo_15
  | 16, _, hl => exact mo_16
  | 17, _, hl => exact mo_17
  | 18, _, hl => exact mo_18
  | 19, _, hl => exact mo_19
  | 20, _, hl => exact mo_20
  | 21, _, hl => exact mo_21
  | 22, _, hl => exact mo_22
  | 23, _, hl => exact mo_23
  | 24, _, hl => exact mo_24
  | 25, _, hl => exact mo_25
  | 26, _, hl => exact mo_26
  | 27, _, hl => exact mo_27
  | 28, _, hl => exact mo_28
  | 29, _, hl => exact mo_29
  | 30, _, hl => exact mo_30
  | 31, _, hl => exact mo_31
  | 32, _, hl => exact mo_32
  | 33, _, hl => exact mo_33
  | 34, _, hl => exact mo_34
  | 35, _, hl => exact mo_35
  | 36, _, hl => exact mo_36
  | 37, _, hl => exact mo_37
  | 38, _, hl => exact mo_38
  | 39, _, hl => exact mo_39
  | 40, _, hl => exact mo_40
  | 41, _, hl => exact mo_41
  | 42, _, hl => exact mo_42
  | 43, _, hl => exact mo_43
  | 44, _, hl => exact mo_44
  | 45, _, hl => exact mo_45
  | 46, _, hl => exact mo_46
  | 47, _, hl => exact mo_47
  | 48, _, hl => exact mo_48
  | 49, _, hl => exact mo_49
  | 50, _, hl => exact mo_50
  | 51, _, hl => exact mo_51
  | 52, _, hl => exact mo_52
  | 53, _, hl => exact mo_53
  | 54, _, hl => exact mo_54
  | 55, _, hl => exact mo_55
  | 56, _, hl => exact mo_56
  | 57, _, hl => exact mo_57
  | 58, _, hl => exact mo_58
  | 59, _, hl => exact mo_59
  | 60, _, hl => exact mo_60
  | 61, _, hl => exact mo_61
  | 62, _, hl => exact mo_62
  | 63, _, hl => exact mo_63
  | 64, _, hl => exact mo_64
  | 65, _, hl => exact mo_65
  | 66, _, hl => exact mo_66
  | 67, _, hl => exact mo_67
  | 68, _, hl => exact mo_68
  | 69, _, hl => exact mo_69
  | 70, _, hl => exact mo_70
  | 71, _, hl => exact mo_71
  | 72, _, hl => exact mo_72
  | 73, _, hl => exact mo_73
  | 74, _, hl => exact mo_74
  | 75, _, hl => exact mo_75
  | 76, _, hl => exact mo_76
  | 77, _, hl => exact mo_77
  | 78, _, hl => exact mo_78
  | 79, _, hl => exact mo_79
  | 80, _, hl => exact mo_80
  | 81, _, hl => exact mo_81
  | 82, _, hl => exact mo_82
  | 83, _, hl => exact mo_83
  | 84, _, hl => exact mo_84
  | 85, _, hl => exact mo_85
  | 86, _, hl => exact mo_86
  | 87, _, hl => exact mo_87
  | 88, _, hl => exact mo_88
  | 89, _, hl => exact mo_89
  | 90, _, hl => exact mo_90
  | 91, _, hl => exact mo_91
  | 92, _, hl => exact mo_92
  | 93, _, hl => exact mo_93
  | 94, _, hl => exact mo_94
  | 95, _, hl => exact mo_95
  | 96, _, hl => exact mo_96
  | 97, _, hl => exact mo_97
  | 98, _, hl => exact mo_98
  | 99, _, hl => exact mo_99
  | 100, _, hl => exact mo_100
  | 101, _, hl => exact mo_101
  | 102, _, hl => exact mo_102
  | 103, _, hl => exact mo_103
  | 104, _, hl => exact mo_104
  | 105, _, hl => exact mo_105
  | 106, _, hl => exact mo_106
  | 107, _, hl => exact mo_107
  | 108, _, hl => exact mo_108
  | 109, _, hl => exact mo_109
  | 110, _, hl => exact mo_110
  | 111, _, hl => exact mo_111
  | 112, _, hl => exact mo_112
  | 113, _, hl => exact mo_113
  | 114, _, hl => exact mo_114
  | 115, _, hl => exact mo_115
  | 116, _, hl => exact mo_116
  | 117, _, hl => exact mo_117
  | 118, _, hl => exact mo_118
  | 119, _, hl => exact mo_119
  | 120, _, hl => exact mo_120
  | 121, _, hl => exact mo_121
  | 122, _, hl => exact mo_122
  | 123, _, hl => exact mo_123
  | 124, _, hl => exact mo_124
  | 125, _, hl => exact mo_125
  | 126, _, hl => exact mo_126
  | 127, _, hl => exact mo_127
  | 128, _, hl => exact mo_128
  | 129, _, hl => exact mo_129
  | 130, _, hl => exact mo_130
  | 131, _, hl => exact mo_131
  | 132, _, hl => exact mo_132
  | 133, _, hl => exact mo_133
  | 134, _, hl => exact mo_134
  | 135, _, hl => exact mo_135
  | 136, _, hl => exact mo_136
  | 137, _, hl => exact mo_137
  | 138, _, hl => exact mo_138
  | 139, _, hl => exact mo_139
  | 140, _, hl => exact mo_140
  | 141, _, hl => exact mo_141
  | 142, _, hl => exact mo_142
  | 143, _, hl => exact mo_143
  | 144, _, hl => exact mo_144
  | 145, _, hl => exact mo_145
  | 146, _, hl => exact mo_146
  | 147, _, hl => exact mo_147
  | 148, _, hl => exact mo_148
  | 149, _, hl => exact mo_149
  | 150, _, hl => exact mo_150
  | 151, _, hl => exact mo_151
  | 152, _, hl => exact mo_152
  | 153, _, hl => exact mo_153
  | 154, _, hl => exact mo_154
  | 155, _, hl => exact mo_155
  | 156, _, hl => exact mo_156
  | 157, _, hl => exact mo_157
  | 158, _, hl => exact mo_158
  | 159, _, hl => exact mo_159
  | 160, _, hl => exact mo_160
  | 161, _, hl => exact mo_161
  | 162, _, hl => exact mo_162
  | 163, _, hl => exact mo_163
  | 164, _, hl => exact mo_164
  | 165, _, hl => exact mo_165
  | 166, _, hl => exact mo_166
  | 167, _, hl => exact mo_167
  | 168, _, hl => exact mo_168
  | 169, _, hl => exact mo_169
  | 170, _, hl => exact mo_170
  | 171, _, hl => exact mo_171
  | 172, _, hl => exact mo_172
  | 173, _, hl => exact mo_173
  | 174, _, hl => exact mo_174
  | 175, _, hl => exact mo_175
  | 176, _, hl => exact mo_176
  | 177, _, hl => exact mo_177
  | 178, _, hl => exact mo_178
  | 179, _, hl => exact mo_179
  | 180, _, hl => exact mo_180
  | 181, _, hl => exact mo_181
  | 182, _, hl => exact mo_182
  | 183, _, hl => exact mo_183
  | 184, _, hl => exact mo_184
  | 185, _, hl => exact mo_185
  | 186, _, hl => exact mo_186
  | 187, _, hl => exact mo_187
  | 188, _, hl => exact mo_188
  | 189, _, hl => exact mo_189
  | 190, _, hl => exact mo_190
  | 191, _, hl => exact mo_191
  | 192, _, hl => exact mo_192
  | 193, _, hl => exact mo_193
  | 194, _, hl => exact mo_194
  | 195, _, hl => exact mo_195
  | 196, _, hl => exact mo_196
  | 197, _, hl => exact mo_197
  | 198, _, hl => exact mo_198
  | 199, _, hl => exact absurd rfl hl
  | 200, _, hl => exact mo_200
  | 201, _, hl => exact mo_201
  | 202, _, hl => exact mo_202
  | 203, _, hl => exact mo_203
  | 204, _, hl => exact mo_204
  | 205, _, hl => exact mo_205
  | 206, _, hl => exact mo_206
  | 207, _, hl => exact mo_207
  | 208, _, hl => exact mo_208
  | 209, _, hl => exact mo_209
  | 210, _, hl => exact mo_210
  | 211, _, hl => exact mo_211
  | 212, _, hl => exact mo_212
  | n + 213, h, _ => exact absurd h (by omega)
