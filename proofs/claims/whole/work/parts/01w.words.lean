/-! words in the tables, by their places -/
theorem qm_0 : Cond.initialized "QuorumLogLaw" ∈ qu_W := qu_in 0 (by decide +kernel) (by decide +kernel)
theorem qm_1 : Cond.initialized "QuorumLog" ∈ qu_W := qu_in 1 (by decide +kernel) (by decide +kernel)
theorem qm_2 : Cond.initialized "QuorumLog$Reads" ∈ qu_W := qu_in 2 (by decide +kernel) (by decide +kernel)
theorem qm_3 : Cond.initialized "QuorumLog$Snapshot" ∈ qu_W := qu_in 3 (by decide +kernel) (by decide +kernel)
theorem qm_4 : Cond.initialized "QuorumLog$Server" ∈ qu_W := qu_in 4 (by decide +kernel) (by decide +kernel)
theorem qm_5 : Cond.initialized "QuorumLog$Log" ∈ qu_W := qu_in 5 (by decide +kernel) (by decide +kernel)
theorem qm_6 : Cond.initialized "QuorumLog$Row" ∈ qu_W := qu_in 6 (by decide +kernel) (by decide +kernel)
theorem qm_7 : Cond.initialized "QuorumLog$Message" ∈ qu_W := qu_in 7 (by decide +kernel) (by decide +kernel)
theorem qm_8 : Cond.initialized "QuorumLogModel" ∈ qu_W := qu_in 8 (by decide +kernel) (by decide +kernel)
theorem qm_9 : Cond.initialized "java/lang/Integer" ∈ qu_W := qu_in 9 (by decide +kernel) (by decide +kernel)
theorem qm_10 : Cond.initialized "QuorumLog$Entry" ∈ qu_W := qu_in 10 (by decide +kernel) (by decide +kernel)
theorem qm_17 : Cond.initialized "java/lang/Math" ∈ qu_W := qu_in 17 (by decide +kernel) (by decide +kernel)
theorem qm_22 : Cond.code y_Q_init c_Q_init 5 none ∈ qu_W := qu_in 22 (by decide +kernel) (by decide +kernel)
theorem qm_23 : Cond.methodLink "QuorumLog" 1 Lib.objectInit ∈ qu_W := qu_in 23 (by decide +kernel) (by decide +kernel)
theorem qm_24 : Cond.instanceMethod Lib.objectInit ∈ qu_W := qu_in 24 (by decide +kernel) (by decide +kernel)
theorem qm_25 : Cond.code Lib.objectInit ⟨#[0xb1]⟩ 1 none ∈ qu_W := qu_in 25 (by decide +kernel) (by decide +kernel)
theorem qm_26 : Cond.classLink "QuorumLog" 9 "QuorumLog$Server" ∈ qu_W := qu_in 26 (by decide +kernel) (by decide +kernel)
theorem qm_28 : Cond.classLink "QuorumLog" 15 "QuorumLog$Reads" ∈ qu_W := qu_in 28 (by decide +kernel) (by decide +kernel)
theorem qm_29 : Cond.instantiable "QuorumLog$Reads" 6 ∈ qu_W := qu_in 29 (by decide +kernel) (by decide +kernel)
theorem qm_31 : Cond.instanceMethod y_R_init ∈ qu_W := qu_in 31 (by decide +kernel) (by decide +kernel)
theorem qm_32 : Cond.code y_R_init c_R_init 1 none ∈ qu_W := qu_in 32 (by decide +kernel) (by decide +kernel)
theorem qm_33 : Cond.methodLink "QuorumLog$Reads" 3 Lib.objectInit ∈ qu_W := qu_in 33 (by decide +kernel) (by decide +kernel)
theorem qm_34 : Cond.fieldLink "QuorumLog$Reads" 9 "QuorumLog$Reads" "leaders" "[I" ∈ qu_W := qu_in 34 (by decide +kernel) (by decide +kernel)
theorem qm_35 : Cond.fieldLink "QuorumLog$Reads" 15 "QuorumLog$Reads" "keys" "[I" ∈ qu_W := qu_in 35 (by decide +kernel) (by decide +kernel)
theorem qm_36 : Cond.fieldLink "QuorumLog" 312 "QuorumLog$Reads" "keys" "[I" ∈ qu_W := qu_in 36 (by decide +kernel) (by decide +kernel)
theorem qm_37 : Cond.fieldLink "QuorumLog$Reads" 18 "QuorumLog$Reads" "rounds" "[I" ∈ qu_W := qu_in 37 (by decide +kernel) (by decide +kernel)
theorem qm_38 : Cond.fieldLink "QuorumLog" 306 "QuorumLog$Reads" "rounds" "[I" ∈ qu_W := qu_in 38 (by decide +kernel) (by decide +kernel)
theorem qm_39 : Cond.fieldLink "QuorumLog$Reads" 21 "QuorumLog$Reads" "outcomes" "[I" ∈ qu_W := qu_in 39 (by decide +kernel) (by decide +kernel)
theorem qm_40 : Cond.fieldLink "QuorumLog" 160 "QuorumLog$Reads" "outcomes" "[I" ∈ qu_W := qu_in 40 (by decide +kernel) (by decide +kernel)
theorem qm_41 : Cond.fieldLink "QuorumLog$Reads" 24 "QuorumLog$Reads" "answers" "[I" ∈ qu_W := qu_in 41 (by decide +kernel) (by decide +kernel)
theorem qm_42 : Cond.fieldLink "QuorumLog" 164 "QuorumLog$Reads" "answers" "[I" ∈ qu_W := qu_in 42 (by decide +kernel) (by decide +kernel)
theorem qm_43 : Cond.fieldLink "QuorumLog$Reads" 27 "QuorumLog$Reads" "count" "I" ∈ qu_W := qu_in 43 (by decide +kernel) (by decide +kernel)
theorem qm_44 : Cond.fieldLink "QuorumLog" 144 "QuorumLog$Reads" "count" "I" ∈ qu_W := qu_in 44 (by decide +kernel) (by decide +kernel)
theorem qm_45 : Cond.laysFinal "QuorumLog$Reads" "QuorumLog$Reads" "leaders" "[I" ∈ qu_W := qu_in 45 (by decide +kernel) (by decide +kernel)
theorem qm_47 : Cond.laysFinal "QuorumLog$Reads" "QuorumLog$Reads" "keys" "[I" ∈ qu_W := qu_in 47 (by decide +kernel) (by decide +kernel)
theorem qm_49 : Cond.laysFinal "QuorumLog$Reads" "QuorumLog$Reads" "rounds" "[I" ∈ qu_W := qu_in 49 (by decide +kernel) (by decide +kernel)
theorem qm_51 : Cond.laysFinal "QuorumLog$Reads" "QuorumLog$Reads" "outcomes" "[I" ∈ qu_W := qu_in 51 (by decide +kernel) (by decide +kernel)
theorem qm_53 : Cond.laysFinal "QuorumLog$Reads" "QuorumLog$Reads" "answers" "[I" ∈ qu_W := qu_in 53 (by decide +kernel) (by decide +kernel)
theorem qm_55 : Cond.lays "QuorumLog$Reads" "QuorumLog$Reads" "count" "I" ∈ qu_W := qu_in 55 (by decide +kernel) (by decide +kernel)
theorem qm_58 : Cond.arrayClass .int ∈ qu_W := qu_in 58 (by decide +kernel) (by decide +kernel)
theorem qm_59 : Cond.classLink "QuorumLog" 22 "QuorumLog$Snapshot" ∈ qu_W := qu_in 59 (by decide +kernel) (by decide +kernel)
theorem qm_60 : Cond.instantiable "QuorumLog$Snapshot" 4 ∈ qu_W := qu_in 60 (by decide +kernel) (by decide +kernel)
theorem qm_61 : Cond.methodLink "QuorumLog" 24 y_N_init ∈ qu_W := qu_in 61 (by decide +kernel) (by decide +kernel)
theorem qm_62 : Cond.instanceMethod y_N_init ∈ qu_W := qu_in 62 (by decide +kernel) (by decide +kernel)
theorem qm_63 : Cond.code y_N_init c_N_init 5 none ∈ qu_W := qu_in 63 (by decide +kernel) (by decide +kernel)
theorem qm_64 : Cond.methodLink "QuorumLog$Snapshot" 1 Lib.objectInit ∈ qu_W := qu_in 64 (by decide +kernel) (by decide +kernel)
theorem qm_65 : Cond.fieldLink "QuorumLog$Snapshot" 7 "QuorumLog$Snapshot" "index" "I" ∈ qu_W := qu_in 65 (by decide +kernel) (by decide +kernel)
theorem qm_66 : Cond.fieldLink "QuorumLog$Log" 21 "QuorumLog$Snapshot" "index" "I" ∈ qu_W := qu_in 66 (by decide +kernel) (by decide +kernel)
theorem qm_67 : Cond.fieldLink "QuorumLog" 174 "QuorumLog$Snapshot" "index" "I" ∈ qu_W := qu_in 67 (by decide +kernel) (by decide +kernel)
theorem qm_68 : Cond.fieldLink "QuorumLog$Snapshot" 13 "QuorumLog$Snapshot" "term" "I" ∈ qu_W := qu_in 68 (by decide +kernel) (by decide +kernel)
theorem qm_69 : Cond.fieldLink "QuorumLog$Log" 38 "QuorumLog$Snapshot" "term" "I" ∈ qu_W := qu_in 69 (by decide +kernel) (by decide +kernel)
theorem qm_70 : Cond.fieldLink "QuorumLog$Snapshot" 16 "QuorumLog$Snapshot" "members" "I" ∈ qu_W := qu_in 70 (by decide +kernel) (by decide +kernel)
theorem qm_71 : Cond.fieldLink "QuorumLog$Log" 55 "QuorumLog$Snapshot" "members" "I" ∈ qu_W := qu_in 71 (by decide +kernel) (by decide +kernel)
theorem qm_72 : Cond.fieldLink "QuorumLog$Snapshot" 19 "QuorumLog$Snapshot" "values" "[I" ∈ qu_W := qu_in 72 (by decide +kernel) (by decide +kernel)
theorem qm_73 : Cond.fieldLink "QuorumLog$Log" 64 "QuorumLog$Snapshot" "values" "[I" ∈ qu_W := qu_in 73 (by decide +kernel) (by decide +kernel)
theorem qm_74 : Cond.laysFinal "QuorumLog$Snapshot" "QuorumLog$Snapshot" "index" "I" ∈ qu_W := qu_in 74 (by decide +kernel) (by decide +kernel)
theorem qm_76 : Cond.laysFinal "QuorumLog$Snapshot" "QuorumLog$Snapshot" "term" "I" ∈ qu_W := qu_in 76 (by decide +kernel) (by decide +kernel)
theorem qm_78 : Cond.laysFinal "QuorumLog$Snapshot" "QuorumLog$Snapshot" "members" "I" ∈ qu_W := qu_in 78 (by decide +kernel) (by decide +kernel)
theorem qm_80 : Cond.laysFinal "QuorumLog$Snapshot" "QuorumLog$Snapshot" "values" "[I" ∈ qu_W := qu_in 80 (by decide +kernel) (by decide +kernel)
theorem qm_83 : Cond.instantiable "QuorumLog$Server" 13 ∈ qu_W := qu_in 83 (by decide +kernel) (by decide +kernel)
theorem qm_84 : Cond.methodLink "QuorumLog" 27 y_S_init ∈ qu_W := qu_in 84 (by decide +kernel) (by decide +kernel)
theorem qm_85 : Cond.instanceMethod y_S_init ∈ qu_W := qu_in 85 (by decide +kernel) (by decide +kernel)
theorem qm_86 : Cond.code y_S_init c_S_init 3 none ∈ qu_W := qu_in 86 (by decide +kernel) (by decide +kernel)
theorem qm_87 : Cond.methodLink "QuorumLog$Server" 3 Lib.objectInit ∈ qu_W := qu_in 87 (by decide +kernel) (by decide +kernel)
theorem qm_88 : Cond.classLink "QuorumLog$Server" 35 "QuorumLog$Log" ∈ qu_W := qu_in 88 (by decide +kernel) (by decide +kernel)
theorem qm_89 : Cond.instantiable "QuorumLog$Log" 3 ∈ qu_W := qu_in 89 (by decide +kernel) (by decide +kernel)
theorem qm_90 : Cond.methodLink "QuorumLog$Server" 37 y_L_init ∈ qu_W := qu_in 90 (by decide +kernel) (by decide +kernel)
theorem qm_91 : Cond.instanceMethod y_L_init ∈ qu_W := qu_in 91 (by decide +kernel) (by decide +kernel)
theorem qm_92 : Cond.code y_L_init c_L_init 2 none ∈ qu_W := qu_in 92 (by decide +kernel) (by decide +kernel)
theorem qm_93 : Cond.methodLink "QuorumLog$Log" 3 Lib.objectInit ∈ qu_W := qu_in 93 (by decide +kernel) (by decide +kernel)
theorem qm_94 : Cond.classLink "QuorumLog$Log" 9 "QuorumLog$Entry" ∈ qu_W := qu_in 94 (by decide +kernel) (by decide +kernel)
theorem qm_96 : Cond.fieldLink "QuorumLog$Log" 17 "QuorumLog$Log" "snapshot" "LQuorumLog$Snapshot;" ∈ qu_W := qu_in 96 (by decide +kernel) (by decide +kernel)
theorem qm_97 : Cond.fieldLink "QuorumLog" 170 "QuorumLog$Log" "snapshot" "LQuorumLog$Snapshot;" ∈ qu_W := qu_in 97 (by decide +kernel) (by decide +kernel)
theorem qm_98 : Cond.fieldLink "QuorumLog$Log" 11 "QuorumLog$Log" "entries" "[LQuorumLog$Entry;" ∈ qu_W := qu_in 98 (by decide +kernel) (by decide +kernel)
theorem qm_99 : Cond.fieldLink "QuorumLog$Log" 27 "QuorumLog$Log" "count" "I" ∈ qu_W := qu_in 99 (by decide +kernel) (by decide +kernel)
theorem qm_100 : Cond.fieldLink "QuorumLog$Server" 52 "QuorumLog$Log" "count" "I" ∈ qu_W := qu_in 100 (by decide +kernel) (by decide +kernel)
theorem qm_101 : Cond.fieldLink "QuorumLog" 89 "QuorumLog$Log" "count" "I" ∈ qu_W := qu_in 101 (by decide +kernel) (by decide +kernel)
theorem qm_102 : Cond.lays "QuorumLog$Log" "QuorumLog$Log" "snapshot" "LQuorumLog$Snapshot;" ∈ qu_W := qu_in 102 (by decide +kernel) (by decide +kernel)
theorem qm_104 : Cond.laysFinal "QuorumLog$Log" "QuorumLog$Log" "entries" "[LQuorumLog$Entry;" ∈ qu_W := qu_in 104 (by decide +kernel) (by decide +kernel)
theorem qm_106 : Cond.lays "QuorumLog$Log" "QuorumLog$Log" "count" "I" ∈ qu_W := qu_in 106 (by decide +kernel) (by decide +kernel)
theorem qm_109 : Cond.fieldLink "QuorumLog$Server" 32 "QuorumLog$Server" "number" "I" ∈ qu_W := qu_in 109 (by decide +kernel) (by decide +kernel)
theorem qm_110 : Cond.fieldLink "QuorumLog" 55 "QuorumLog$Server" "number" "I" ∈ qu_W := qu_in 110 (by decide +kernel) (by decide +kernel)
theorem qm_111 : Cond.fieldLink "QuorumLog$Server" 40 "QuorumLog$Server" "log" "LQuorumLog$Log;" ∈ qu_W := qu_in 111 (by decide +kernel) (by decide +kernel)
theorem qm_112 : Cond.fieldLink "QuorumLog" 85 "QuorumLog$Server" "log" "LQuorumLog$Log;" ∈ qu_W := qu_in 112 (by decide +kernel) (by decide +kernel)
theorem qm_113 : Cond.fieldLink "QuorumLog$Server" 9 "QuorumLog$Server" "next" "[I" ∈ qu_W := qu_in 113 (by decide +kernel) (by decide +kernel)
theorem qm_114 : Cond.fieldLink "QuorumLog" 267 "QuorumLog$Server" "next" "[I" ∈ qu_W := qu_in 114 (by decide +kernel) (by decide +kernel)
theorem qm_115 : Cond.fieldLink "QuorumLog$Server" 15 "QuorumLog$Server" "match" "[I" ∈ qu_W := qu_in 115 (by decide +kernel) (by decide +kernel)
theorem qm_116 : Cond.fieldLink "QuorumLog" 270 "QuorumLog$Server" "match" "[I" ∈ qu_W := qu_in 116 (by decide +kernel) (by decide +kernel)
theorem qm_117 : Cond.fieldLink "QuorumLog$Server" 18 "QuorumLog$Server" "confirmed" "[I" ∈ qu_W := qu_in 117 (by decide +kernel) (by decide +kernel)
theorem qm_118 : Cond.fieldLink "QuorumLog" 273 "QuorumLog$Server" "confirmed" "[I" ∈ qu_W := qu_in 118 (by decide +kernel) (by decide +kernel)
theorem qm_119 : Cond.fieldLink "QuorumLog$Server" 21 "QuorumLog$Server" "up" "Z" ∈ qu_W := qu_in 119 (by decide +kernel) (by decide +kernel)
theorem qm_120 : Cond.fieldLink "QuorumLog" 167 "QuorumLog$Server" "up" "Z" ∈ qu_W := qu_in 120 (by decide +kernel) (by decide +kernel)
theorem qm_121 : Cond.fieldLink "QuorumLog" 47 "QuorumLog$Server" "heard" "Z" ∈ qu_W := qu_in 121 (by decide +kernel) (by decide +kernel)
theorem qm_122 : Cond.fieldLink "QuorumLog" 61 "QuorumLog$Server" "term" "I" ∈ qu_W := qu_in 122 (by decide +kernel) (by decide +kernel)
theorem qm_123 : Cond.fieldLink "QuorumLog$Server" 62 "QuorumLog$Server" "term" "I" ∈ qu_W := qu_in 123 (by decide +kernel) (by decide +kernel)
theorem qm_124 : Cond.fieldLink "QuorumLog$Server" 25 "QuorumLog$Server" "vote" "I" ∈ qu_W := qu_in 124 (by decide +kernel) (by decide +kernel)
theorem qm_125 : Cond.fieldLink "QuorumLog" 220 "QuorumLog$Server" "vote" "I" ∈ qu_W := qu_in 125 (by decide +kernel) (by decide +kernel)
theorem qm_126 : Cond.fieldLink "QuorumLog$Server" 29 "QuorumLog$Server" "role" "I" ∈ qu_W := qu_in 126 (by decide +kernel) (by decide +kernel)
theorem qm_127 : Cond.fieldLink "QuorumLog" 51 "QuorumLog$Server" "role" "I" ∈ qu_W := qu_in 127 (by decide +kernel) (by decide +kernel)
theorem qm_128 : Cond.fieldLink "QuorumLog$Server" 55 "QuorumLog$Server" "commit" "I" ∈ qu_W := qu_in 128 (by decide +kernel) (by decide +kernel)
theorem qm_129 : Cond.fieldLink "QuorumLog" 133 "QuorumLog$Server" "commit" "I" ∈ qu_W := qu_in 129 (by decide +kernel) (by decide +kernel)
theorem qm_130 : Cond.fieldLink "QuorumLog" 147 "QuorumLog$Server" "round" "I" ∈ qu_W := qu_in 130 (by decide +kernel) (by decide +kernel)
theorem qm_131 : Cond.fieldLink "QuorumLog" 58 "QuorumLog$Server" "yes" "I" ∈ qu_W := qu_in 131 (by decide +kernel) (by decide +kernel)
theorem qm_132 : Cond.laysFinal "QuorumLog$Server" "QuorumLog$Server" "number" "I" ∈ qu_W := qu_in 132 (by decide +kernel) (by decide +kernel)
theorem qm_134 : Cond.laysFinal "QuorumLog$Server" "QuorumLog$Server" "log" "LQuorumLog$Log;" ∈ qu_W := qu_in 134 (by decide +kernel) (by decide +kernel)
theorem qm_136 : Cond.laysFinal "QuorumLog$Server" "QuorumLog$Server" "next" "[I" ∈ qu_W := qu_in 136 (by decide +kernel) (by decide +kernel)
theorem qm_138 : Cond.laysFinal "QuorumLog$Server" "QuorumLog$Server" "match" "[I" ∈ qu_W := qu_in 138 (by decide +kernel) (by decide +kernel)
theorem qm_140 : Cond.laysFinal "QuorumLog$Server" "QuorumLog$Server" "confirmed" "[I" ∈ qu_W := qu_in 140 (by decide +kernel) (by decide +kernel)
theorem qm_142 : Cond.lays "QuorumLog$Server" "QuorumLog$Server" "up" "Z" ∈ qu_W := qu_in 142 (by decide +kernel) (by decide +kernel)
theorem qm_144 : Cond.lays "QuorumLog$Server" "QuorumLog$Server" "heard" "Z" ∈ qu_W := qu_in 144 (by decide +kernel) (by decide +kernel)
theorem qm_146 : Cond.lays "QuorumLog$Server" "QuorumLog$Server" "term" "I" ∈ qu_W := qu_in 146 (by decide +kernel) (by decide +kernel)
theorem qm_148 : Cond.lays "QuorumLog$Server" "QuorumLog$Server" "vote" "I" ∈ qu_W := qu_in 148 (by decide +kernel) (by decide +kernel)
theorem qm_150 : Cond.lays "QuorumLog$Server" "QuorumLog$Server" "role" "I" ∈ qu_W := qu_in 150 (by decide +kernel) (by decide +kernel)
theorem qm_152 : Cond.lays "QuorumLog$Server" "QuorumLog$Server" "commit" "I" ∈ qu_W := qu_in 152 (by decide +kernel) (by decide +kernel)
theorem qm_154 : Cond.lays "QuorumLog$Server" "QuorumLog$Server" "round" "I" ∈ qu_W := qu_in 154 (by decide +kernel) (by decide +kernel)
theorem qm_156 : Cond.lays "QuorumLog$Server" "QuorumLog$Server" "yes" "I" ∈ qu_W := qu_in 156 (by decide +kernel) (by decide +kernel)
theorem qm_159 : Cond.classLink "QuorumLog" 30 "QuorumLog$Row" ∈ qu_W := qu_in 159 (by decide +kernel) (by decide +kernel)
theorem qm_160 : Cond.instantiable "QuorumLog$Row" 3 ∈ qu_W := qu_in 160 (by decide +kernel) (by decide +kernel)
theorem qm_161 : Cond.methodLink "QuorumLog" 32 y_W_init ∈ qu_W := qu_in 161 (by decide +kernel) (by decide +kernel)
theorem qm_162 : Cond.instanceMethod y_W_init ∈ qu_W := qu_in 162 (by decide +kernel) (by decide +kernel)
theorem qm_163 : Cond.code y_W_init c_W_init 3 none ∈ qu_W := qu_in 163 (by decide +kernel) (by decide +kernel)
theorem qm_164 : Cond.methodLink "QuorumLog$Row" 3 Lib.objectInit ∈ qu_W := qu_in 164 (by decide +kernel) (by decide +kernel)
theorem qm_165 : Cond.classLink "QuorumLog$Row" 9 "QuorumLog$Message" ∈ qu_W := qu_in 165 (by decide +kernel) (by decide +kernel)
theorem qm_167 : Cond.instantiable "QuorumLog$Message" 12 ∈ qu_W := qu_in 167 (by decide +kernel) (by decide +kernel)
theorem qm_168 : Cond.methodLink "QuorumLog$Row" 17 y_M_init ∈ qu_W := qu_in 168 (by decide +kernel) (by decide +kernel)
theorem qm_169 : Cond.instanceMethod y_M_init ∈ qu_W := qu_in 169 (by decide +kernel) (by decide +kernel)
theorem qm_170 : Cond.code y_M_init c_M_init 2 none ∈ qu_W := qu_in 170 (by decide +kernel) (by decide +kernel)
theorem qm_171 : Cond.methodLink "QuorumLog$Message" 3 Lib.objectInit ∈ qu_W := qu_in 171 (by decide +kernel) (by decide +kernel)
theorem qm_172 : Cond.classLink "QuorumLog$Message" 9 "QuorumLog$Entry" ∈ qu_W := qu_in 172 (by decide +kernel) (by decide +kernel)
theorem qm_173 : Cond.fieldLink "QuorumLog$Message" 11 "QuorumLog$Message" "entries" "[LQuorumLog$Entry;" ∈ qu_W := qu_in 173 (by decide +kernel) (by decide +kernel)
theorem qm_174 : Cond.fieldLink "QuorumLog$Log" 80 "QuorumLog$Message" "entries" "[LQuorumLog$Entry;" ∈ qu_W := qu_in 174 (by decide +kernel) (by decide +kernel)
theorem qm_175 : Cond.fieldLink "QuorumLog" 295 "QuorumLog$Message" "entries" "[LQuorumLog$Entry;" ∈ qu_W := qu_in 175 (by decide +kernel) (by decide +kernel)
theorem qm_176 : Cond.fieldLink "QuorumLog$Message" 21 "QuorumLog$Message" "kind" "I" ∈ qu_W := qu_in 176 (by decide +kernel) (by decide +kernel)
theorem qm_177 : Cond.fieldLink "QuorumLog" 201 "QuorumLog$Message" "kind" "I" ∈ qu_W := qu_in 177 (by decide +kernel) (by decide +kernel)
theorem qm_178 : Cond.fieldLink "QuorumLog$Message" 25 "QuorumLog$Message" "sender" "I" ∈ qu_W := qu_in 178 (by decide +kernel) (by decide +kernel)
theorem qm_179 : Cond.fieldLink "QuorumLog" 209 "QuorumLog$Message" "sender" "I" ∈ qu_W := qu_in 179 (by decide +kernel) (by decide +kernel)
theorem qm_180 : Cond.fieldLink "QuorumLog$Message" 28 "QuorumLog$Message" "receiver" "I" ∈ qu_W := qu_in 180 (by decide +kernel) (by decide +kernel)
theorem qm_181 : Cond.fieldLink "QuorumLog" 192 "QuorumLog$Message" "receiver" "I" ∈ qu_W := qu_in 181 (by decide +kernel) (by decide +kernel)
theorem qm_182 : Cond.fieldLink "QuorumLog$Message" 31 "QuorumLog$Message" "term" "I" ∈ qu_W := qu_in 182 (by decide +kernel) (by decide +kernel)
theorem qm_183 : Cond.fieldLink "QuorumLog" 212 "QuorumLog$Message" "term" "I" ∈ qu_W := qu_in 183 (by decide +kernel) (by decide +kernel)
theorem qm_184 : Cond.fieldLink "QuorumLog$Message" 34 "QuorumLog$Message" "index" "I" ∈ qu_W := qu_in 184 (by decide +kernel) (by decide +kernel)
theorem qm_185 : Cond.fieldLink "QuorumLog$Log" 76 "QuorumLog$Message" "index" "I" ∈ qu_W := qu_in 185 (by decide +kernel) (by decide +kernel)
theorem qm_186 : Cond.fieldLink "QuorumLog" 213 "QuorumLog$Message" "index" "I" ∈ qu_W := qu_in 186 (by decide +kernel) (by decide +kernel)
theorem qm_187 : Cond.fieldLink "QuorumLog$Message" 37 "QuorumLog$Message" "logTerm" "I" ∈ qu_W := qu_in 187 (by decide +kernel) (by decide +kernel)
theorem qm_188 : Cond.fieldLink "QuorumLog$Log" 71 "QuorumLog$Message" "logTerm" "I" ∈ qu_W := qu_in 188 (by decide +kernel) (by decide +kernel)
theorem qm_189 : Cond.fieldLink "QuorumLog" 261 "QuorumLog$Message" "logTerm" "I" ∈ qu_W := qu_in 189 (by decide +kernel) (by decide +kernel)
theorem qm_190 : Cond.fieldLink "QuorumLog$Message" 40 "QuorumLog$Message" "size" "I" ∈ qu_W := qu_in 190 (by decide +kernel) (by decide +kernel)
theorem qm_191 : Cond.fieldLink "QuorumLog$Log" 77 "QuorumLog$Message" "size" "I" ∈ qu_W := qu_in 191 (by decide +kernel) (by decide +kernel)
theorem qm_192 : Cond.fieldLink "QuorumLog" 214 "QuorumLog$Message" "size" "I" ∈ qu_W := qu_in 192 (by decide +kernel) (by decide +kernel)
theorem qm_193 : Cond.fieldLink "QuorumLog$Message" 43 "QuorumLog$Message" "commit" "I" ∈ qu_W := qu_in 193 (by decide +kernel) (by decide +kernel)
theorem qm_194 : Cond.fieldLink "QuorumLog" 294 "QuorumLog$Message" "commit" "I" ∈ qu_W := qu_in 194 (by decide +kernel) (by decide +kernel)
theorem qm_195 : Cond.fieldLink "QuorumLog$Message" 46 "QuorumLog$Message" "round" "I" ∈ qu_W := qu_in 195 (by decide +kernel) (by decide +kernel)
theorem qm_196 : Cond.fieldLink "QuorumLog" 219 "QuorumLog$Message" "round" "I" ∈ qu_W := qu_in 196 (by decide +kernel) (by decide +kernel)
theorem qm_197 : Cond.fieldLink "QuorumLog$Message" 49 "QuorumLog$Message" "yes" "Z" ∈ qu_W := qu_in 197 (by decide +kernel) (by decide +kernel)
theorem qm_198 : Cond.fieldLink "QuorumLog" 217 "QuorumLog$Message" "yes" "Z" ∈ qu_W := qu_in 198 (by decide +kernel) (by decide +kernel)
theorem qm_199 : Cond.fieldLink "QuorumLog$Message" 17 "QuorumLog$Message" "snapshot" "LQuorumLog$Snapshot;" ∈ qu_W := qu_in 199 (by decide +kernel) (by decide +kernel)
theorem qm_200 : Cond.fieldLink "QuorumLog" 293 "QuorumLog$Message" "snapshot" "LQuorumLog$Snapshot;" ∈ qu_W := qu_in 200 (by decide +kernel) (by decide +kernel)
theorem qm_201 : Cond.laysFinal "QuorumLog$Message" "QuorumLog$Message" "entries" "[LQuorumLog$Entry;" ∈ qu_W := qu_in 201 (by decide +kernel) (by decide +kernel)
theorem qm_203 : Cond.lays "QuorumLog$Message" "QuorumLog$Message" "kind" "I" ∈ qu_W := qu_in 203 (by decide +kernel) (by decide +kernel)
theorem qm_205 : Cond.lays "QuorumLog$Message" "QuorumLog$Message" "sender" "I" ∈ qu_W := qu_in 205 (by decide +kernel) (by decide +kernel)
theorem qm_207 : Cond.lays "QuorumLog$Message" "QuorumLog$Message" "receiver" "I" ∈ qu_W := qu_in 207 (by decide +kernel) (by decide +kernel)
theorem qm_209 : Cond.lays "QuorumLog$Message" "QuorumLog$Message" "term" "I" ∈ qu_W := qu_in 209 (by decide +kernel) (by decide +kernel)
theorem qm_211 : Cond.lays "QuorumLog$Message" "QuorumLog$Message" "index" "I" ∈ qu_W := qu_in 211 (by decide +kernel) (by decide +kernel)
theorem qm_213 : Cond.lays "QuorumLog$Message" "QuorumLog$Message" "logTerm" "I" ∈ qu_W := qu_in 213 (by decide +kernel) (by decide +kernel)
theorem qm_215 : Cond.lays "QuorumLog$Message" "QuorumLog$Message" "size" "I" ∈ qu_W := qu_in 215 (by decide +kernel) (by decide +kernel)
theorem qm_217 : Cond.lays "QuorumLog$Message" "QuorumLog$Message" "commit" "I" ∈ qu_W := qu_in 217 (by decide +kernel) (by decide +kernel)
theorem qm_219 : Cond.lays "QuorumLog$Message" "QuorumLog$Message" "round" "I" ∈ qu_W := qu_in 219 (by decide +kernel) (by decide +kernel)
theorem qm_221 : Cond.lays "QuorumLog$Message" "QuorumLog$Message" "yes" "Z" ∈ qu_W := qu_in 221 (by decide +kernel) (by decide +kernel)
theorem qm_223 : Cond.lays "QuorumLog$Message" "QuorumLog$Message" "snapshot" "LQuorumLog$Snapshot;" ∈ qu_W := qu_in 223 (by decide +kernel) (by decide +kernel)
theorem qm_226 : Cond.fieldLink "QuorumLog$Row" 11 "QuorumLog$Row" "places" "[LQuorumLog$Message;" ∈ qu_W := qu_in 226 (by decide +kernel) (by decide +kernel)
theorem qm_227 : Cond.fieldLink "QuorumLog" 205 "QuorumLog$Row" "places" "[LQuorumLog$Message;" ∈ qu_W := qu_in 227 (by decide +kernel) (by decide +kernel)
theorem qm_228 : Cond.fieldLink "QuorumLog$Row" 20 "QuorumLog$Row" "taken" "LQuorumLog$Message;" ∈ qu_W := qu_in 228 (by decide +kernel) (by decide +kernel)
theorem qm_229 : Cond.fieldLink "QuorumLog$Row" 24 "QuorumLog$Row" "count" "I" ∈ qu_W := qu_in 229 (by decide +kernel) (by decide +kernel)
theorem qm_230 : Cond.fieldLink "QuorumLog" 204 "QuorumLog$Row" "count" "I" ∈ qu_W := qu_in 230 (by decide +kernel) (by decide +kernel)
theorem qm_231 : Cond.laysFinal "QuorumLog$Row" "QuorumLog$Row" "places" "[LQuorumLog$Message;" ∈ qu_W := qu_in 231 (by decide +kernel) (by decide +kernel)
theorem qm_233 : Cond.lays "QuorumLog$Row" "QuorumLog$Row" "taken" "LQuorumLog$Message;" ∈ qu_W := qu_in 233 (by decide +kernel) (by decide +kernel)
theorem qm_235 : Cond.lays "QuorumLog$Row" "QuorumLog$Row" "count" "I" ∈ qu_W := qu_in 235 (by decide +kernel) (by decide +kernel)
theorem qm_238 : Cond.fieldLink "QuorumLog" 11 "QuorumLog" "servers" "[LQuorumLog$Server;" ∈ qu_W := qu_in 238 (by decide +kernel) (by decide +kernel)
theorem qm_239 : Cond.fieldLink "QuorumLog" 35 "QuorumLog" "row" "LQuorumLog$Row;" ∈ qu_W := qu_in 239 (by decide +kernel) (by decide +kernel)
theorem qm_240 : Cond.fieldLink "QuorumLog" 18 "QuorumLog" "reads" "LQuorumLog$Reads;" ∈ qu_W := qu_in 240 (by decide +kernel) (by decide +kernel)
theorem qm_241 : Cond.laysFinal "QuorumLog" "QuorumLog" "servers" "[LQuorumLog$Server;" ∈ qu_W := qu_in 241 (by decide +kernel) (by decide +kernel)
theorem qm_243 : Cond.laysFinal "QuorumLog" "QuorumLog" "row" "LQuorumLog$Row;" ∈ qu_W := qu_in 243 (by decide +kernel) (by decide +kernel)
theorem qm_245 : Cond.laysFinal "QuorumLog" "QuorumLog" "reads" "LQuorumLog$Reads;" ∈ qu_W := qu_in 245 (by decide +kernel) (by decide +kernel)
theorem qm_251 : Cond.code y_Q_timer c_Q_timer 3 (some .boolean) ∈ qu_W := qu_in 251 (by decide +kernel) (by decide +kernel)
theorem qm_252 : Cond.methodLink "QuorumLog" 39 y_Q_isServer ∈ qu_W := qu_in 252 (by decide +kernel) (by decide +kernel)
theorem qm_253 : Cond.static y_Q_isServer ∈ qu_W := qu_in 253 (by decide +kernel) (by decide +kernel)
theorem qm_254 : Cond.code y_Q_isServer c_Q_isServer 1 (some .boolean) ∈ qu_W := qu_in 254 (by decide +kernel) (by decide +kernel)
theorem qm_255 : Cond.methodLink "QuorumLog" 43 y_S_mayAsk ∈ qu_W := qu_in 255 (by decide +kernel) (by decide +kernel)
theorem qm_256 : Cond.instanceMethod y_S_mayAsk ∈ qu_W := qu_in 256 (by decide +kernel) (by decide +kernel)
theorem qm_257 : Cond.selects "QuorumLog$Server" y_S_mayAsk y_S_mayAsk ∈ qu_W := qu_in 257 (by decide +kernel) (by decide +kernel)
theorem qm_258 : Cond.code y_S_mayAsk c_S_mayAsk 1 (some .boolean) ∈ qu_W := qu_in 258 (by decide +kernel) (by decide +kernel)
theorem qm_259 : Cond.methodLink "QuorumLog$Server" 44 y_L_configuration ∈ qu_W := qu_in 259 (by decide +kernel) (by decide +kernel)
theorem qm_260 : Cond.instanceMethod y_L_configuration ∈ qu_W := qu_in 260 (by decide +kernel) (by decide +kernel)
theorem qm_261 : Cond.selects "QuorumLog$Log" y_L_configuration y_L_configuration ∈ qu_W := qu_in 261 (by decide +kernel) (by decide +kernel)
theorem qm_262 : Cond.code y_L_configuration c_L_configuration 1 (some .int) ∈ qu_W := qu_in 262 (by decide +kernel) (by decide +kernel)
theorem qm_263 : Cond.methodLink "QuorumLog$Log" 30 y_L_last ∈ qu_W := qu_in 263 (by decide +kernel) (by decide +kernel)
theorem qm_264 : Cond.instanceMethod y_L_last ∈ qu_W := qu_in 264 (by decide +kernel) (by decide +kernel)
theorem qm_265 : Cond.selects "QuorumLog$Log" y_L_last y_L_last ∈ qu_W := qu_in 265 (by decide +kernel) (by decide +kernel)
theorem qm_266 : Cond.code y_L_last c_L_last 1 (some .int) ∈ qu_W := qu_in 266 (by decide +kernel) (by decide +kernel)
theorem qm_267 : Cond.methodLink "QuorumLog$Log" 49 y_L_latestMembersUpTo ∈ qu_W := qu_in 267 (by decide +kernel) (by decide +kernel)
theorem qm_268 : Cond.instanceMethod y_L_latestMembersUpTo ∈ qu_W := qu_in 268 (by decide +kernel) (by decide +kernel)
theorem qm_269 : Cond.selects "QuorumLog$Log" y_L_latestMembersUpTo y_L_latestMembersUpTo ∈ qu_W := qu_in 269 (by decide +kernel) (by decide +kernel)
theorem qm_270 : Cond.code y_L_latestMembersUpTo c_L_latestMembersUpTo 4 (some .int) ∈ qu_W := qu_in 270 (by decide +kernel) (by decide +kernel)
theorem qm_271 : Cond.methodLink "QuorumLog$Log" 41 y_L_find ∈ qu_W := qu_in 271 (by decide +kernel) (by decide +kernel)
theorem qm_272 : Cond.instanceMethod y_L_find ∈ qu_W := qu_in 272 (by decide +kernel) (by decide +kernel)
theorem qm_273 : Cond.selects "QuorumLog$Log" y_L_find y_L_find ∈ qu_W := qu_in 273 (by decide +kernel) (by decide +kernel)
theorem qm_274 : Cond.code y_L_find c_L_find 3 (some (.object "QuorumLog$Entry")) ∈ qu_W := qu_in 274 (by decide +kernel) (by decide +kernel)
theorem qm_275 : Cond.methodLink "QuorumLog$Log" 52 y_L_membersAt ∈ qu_W := qu_in 275 (by decide +kernel) (by decide +kernel)
theorem qm_276 : Cond.instanceMethod y_L_membersAt ∈ qu_W := qu_in 276 (by decide +kernel) (by decide +kernel)
theorem qm_277 : Cond.selects "QuorumLog$Log" y_L_membersAt y_L_membersAt ∈ qu_W := qu_in 277 (by decide +kernel) (by decide +kernel)
theorem qm_278 : Cond.code y_L_membersAt c_L_membersAt 3 (some .int) ∈ qu_W := qu_in 278 (by decide +kernel) (by decide +kernel)
theorem qm_280 : Cond.static y_Q_isIn ∈ qu_W := qu_in 280 (by decide +kernel) (by decide +kernel)
theorem qm_281 : Cond.code y_Q_isIn c_Q_isIn 2 (some .boolean) ∈ qu_W := qu_in 281 (by decide +kernel) (by decide +kernel)
theorem qm_282 : Cond.methodLink "QuorumLog" 64 y_Q_askAll ∈ qu_W := qu_in 282 (by decide +kernel) (by decide +kernel)
theorem qm_284 : Cond.instanceMethod y_Q_askAll ∈ qu_W := qu_in 284 (by decide +kernel) (by decide +kernel)
theorem qm_285 : Cond.code y_Q_askAll c_Q_askAll 7 none ∈ qu_W := qu_in 285 (by decide +kernel) (by decide +kernel)
theorem qm_286 : Cond.methodLink "QuorumLog" 115 y_L_configuration ∈ qu_W := qu_in 286 (by decide +kernel) (by decide +kernel)
theorem qm_287 : Cond.methodLink "QuorumLog" 250 y_Q_isIn ∈ qu_W := qu_in 287 (by decide +kernel) (by decide +kernel)
theorem qm_288 : Cond.methodLink "QuorumLog" 254 y_W_send ∈ qu_W := qu_in 288 (by decide +kernel) (by decide +kernel)
theorem qm_289 : Cond.instanceMethod y_W_send ∈ qu_W := qu_in 289 (by decide +kernel) (by decide +kernel)
theorem qm_290 : Cond.selects "QuorumLog$Row" y_W_send y_W_send ∈ qu_W := qu_in 290 (by decide +kernel) (by decide +kernel)
theorem qm_291 : Cond.code y_W_send c_W_send 6 (some (.object "QuorumLog$Message")) ∈ qu_W := qu_in 291 (by decide +kernel) (by decide +kernel)
theorem qm_292 : Cond.methodLink "QuorumLog$Row" 28 y_M_begin ∈ qu_W := qu_in 292 (by decide +kernel) (by decide +kernel)
theorem qm_293 : Cond.instanceMethod y_M_begin ∈ qu_W := qu_in 293 (by decide +kernel) (by decide +kernel)
theorem qm_294 : Cond.selects "QuorumLog$Message" y_M_begin y_M_begin ∈ qu_W := qu_in 294 (by decide +kernel) (by decide +kernel)
theorem qm_295 : Cond.code y_M_begin c_M_begin 5 none ∈ qu_W := qu_in 295 (by decide +kernel) (by decide +kernel)
theorem qm_296 : Cond.methodLink "QuorumLog" 126 y_L_last ∈ qu_W := qu_in 296 (by decide +kernel) (by decide +kernel)
theorem qm_297 : Cond.methodLink "QuorumLog" 258 y_L_lastTerm ∈ qu_W := qu_in 297 (by decide +kernel) (by decide +kernel)
theorem qm_298 : Cond.instanceMethod y_L_lastTerm ∈ qu_W := qu_in 298 (by decide +kernel) (by decide +kernel)
theorem qm_299 : Cond.selects "QuorumLog$Log" y_L_lastTerm y_L_lastTerm ∈ qu_W := qu_in 299 (by decide +kernel) (by decide +kernel)
theorem qm_300 : Cond.code y_L_lastTerm c_L_lastTerm 1 (some .int) ∈ qu_W := qu_in 300 (by decide +kernel) (by decide +kernel)
theorem qm_301 : Cond.methodLink "QuorumLog$Log" 34 y_L_termAt ∈ qu_W := qu_in 301 (by decide +kernel) (by decide +kernel)
theorem qm_302 : Cond.instanceMethod y_L_termAt ∈ qu_W := qu_in 302 (by decide +kernel) (by decide +kernel)
theorem qm_303 : Cond.selects "QuorumLog$Log" y_L_termAt y_L_termAt ∈ qu_W := qu_in 303 (by decide +kernel) (by decide +kernel)
theorem qm_304 : Cond.code y_L_termAt c_L_termAt 3 (some .int) ∈ qu_W := qu_in 304 (by decide +kernel) (by decide +kernel)
theorem qm_305 : Cond.methodLink "QuorumLog" 68 y_Q_standIfMostSaidYes ∈ qu_W := qu_in 305 (by decide +kernel) (by decide +kernel)
theorem qm_307 : Cond.instanceMethod y_Q_standIfMostSaidYes ∈ qu_W := qu_in 307 (by decide +kernel) (by decide +kernel)
theorem qm_308 : Cond.code y_Q_standIfMostSaidYes c_Q_standIfMostSaidYes 2 none ∈ qu_W := qu_in 308 (by decide +kernel) (by decide +kernel)
theorem qm_309 : Cond.methodLink "QuorumLog" 264 y_Q_areMost ∈ qu_W := qu_in 309 (by decide +kernel) (by decide +kernel)
theorem qm_310 : Cond.static y_Q_areMost ∈ qu_W := qu_in 310 (by decide +kernel) (by decide +kernel)
theorem qm_311 : Cond.code y_Q_areMost c_Q_areMost 2 (some .boolean) ∈ qu_W := qu_in 311 (by decide +kernel) (by decide +kernel)
theorem qm_312 : Cond.methodLink "QuorumLog" 243 y_I_bitCount ∈ qu_W := qu_in 312 (by decide +kernel) (by decide +kernel)
theorem qm_313 : Cond.static y_I_bitCount ∈ qu_W := qu_in 313 (by decide +kernel) (by decide +kernel)
theorem qm_314 : Cond.code y_I_bitCount c_I_bitCount 1 (some .int) ∈ qu_W := qu_in 314 (by decide +kernel) (by decide +kernel)
theorem qm_318 : Cond.methodLink "QuorumLog" 72 y_Q_leadIfMostSaidYes ∈ qu_W := qu_in 318 (by decide +kernel) (by decide +kernel)
theorem qm_320 : Cond.instanceMethod y_Q_leadIfMostSaidYes ∈ qu_W := qu_in 320 (by decide +kernel) (by decide +kernel)
theorem qm_321 : Cond.code y_Q_leadIfMostSaidYes c_Q_leadIfMostSaidYes 3 none ∈ qu_W := qu_in 321 (by decide +kernel) (by decide +kernel)
theorem qm_322 : Cond.classLink "QuorumLog" 101 "QuorumLog$Entry" ∈ qu_W := qu_in 322 (by decide +kernel) (by decide +kernel)
theorem qm_323 : Cond.instantiable "QuorumLog$Entry" 4 ∈ qu_W := qu_in 323 (by decide +kernel) (by decide +kernel)
theorem qm_324 : Cond.methodLink "QuorumLog" 103 y_E_init ∈ qu_W := qu_in 324 (by decide +kernel) (by decide +kernel)
theorem qm_325 : Cond.instanceMethod y_E_init ∈ qu_W := qu_in 325 (by decide +kernel) (by decide +kernel)
theorem qm_326 : Cond.code y_E_init c_E_init 5 none ∈ qu_W := qu_in 326 (by decide +kernel) (by decide +kernel)
theorem qm_327 : Cond.methodLink "QuorumLog$Entry" 1 Lib.objectInit ∈ qu_W := qu_in 327 (by decide +kernel) (by decide +kernel)
theorem qm_328 : Cond.fieldLink "QuorumLog$Entry" 7 "QuorumLog$Entry" "term" "I" ∈ qu_W := qu_in 328 (by decide +kernel) (by decide +kernel)
theorem qm_329 : Cond.fieldLink "QuorumLog$Log" 45 "QuorumLog$Entry" "term" "I" ∈ qu_W := qu_in 329 (by decide +kernel) (by decide +kernel)
theorem qm_330 : Cond.fieldLink "QuorumLog" 227 "QuorumLog$Entry" "term" "I" ∈ qu_W := qu_in 330 (by decide +kernel) (by decide +kernel)
theorem qm_331 : Cond.fieldLink "QuorumLog$Entry" 13 "QuorumLog$Entry" "sort" "I" ∈ qu_W := qu_in 331 (by decide +kernel) (by decide +kernel)
theorem qm_332 : Cond.fieldLink "QuorumLog$Log" 46 "QuorumLog$Entry" "sort" "I" ∈ qu_W := qu_in 332 (by decide +kernel) (by decide +kernel)
theorem qm_333 : Cond.fieldLink "QuorumLog" 228 "QuorumLog$Entry" "sort" "I" ∈ qu_W := qu_in 333 (by decide +kernel) (by decide +kernel)
theorem qm_334 : Cond.fieldLink "QuorumLog$Entry" 16 "QuorumLog$Entry" "subject" "I" ∈ qu_W := qu_in 334 (by decide +kernel) (by decide +kernel)
theorem qm_335 : Cond.fieldLink "QuorumLog$Log" 58 "QuorumLog$Entry" "subject" "I" ∈ qu_W := qu_in 335 (by decide +kernel) (by decide +kernel)
theorem qm_336 : Cond.fieldLink "QuorumLog" 231 "QuorumLog$Entry" "subject" "I" ∈ qu_W := qu_in 336 (by decide +kernel) (by decide +kernel)
theorem qm_337 : Cond.fieldLink "QuorumLog$Entry" 19 "QuorumLog$Entry" "value" "I" ∈ qu_W := qu_in 337 (by decide +kernel) (by decide +kernel)
theorem qm_338 : Cond.fieldLink "QuorumLog$Log" 61 "QuorumLog$Entry" "value" "I" ∈ qu_W := qu_in 338 (by decide +kernel) (by decide +kernel)
theorem qm_339 : Cond.fieldLink "QuorumLog" 234 "QuorumLog$Entry" "value" "I" ∈ qu_W := qu_in 339 (by decide +kernel) (by decide +kernel)
theorem qm_340 : Cond.laysFinal "QuorumLog$Entry" "QuorumLog$Entry" "term" "I" ∈ qu_W := qu_in 340 (by decide +kernel) (by decide +kernel)
theorem qm_342 : Cond.laysFinal "QuorumLog$Entry" "QuorumLog$Entry" "sort" "I" ∈ qu_W := qu_in 342 (by decide +kernel) (by decide +kernel)
theorem qm_344 : Cond.laysFinal "QuorumLog$Entry" "QuorumLog$Entry" "subject" "I" ∈ qu_W := qu_in 344 (by decide +kernel) (by decide +kernel)
theorem qm_346 : Cond.laysFinal "QuorumLog$Entry" "QuorumLog$Entry" "value" "I" ∈ qu_W := qu_in 346 (by decide +kernel) (by decide +kernel)
theorem qm_349 : Cond.methodLink "QuorumLog" 106 y_Q_append ∈ qu_W := qu_in 349 (by decide +kernel) (by decide +kernel)
theorem qm_351 : Cond.instanceMethod y_Q_append ∈ qu_W := qu_in 351 (by decide +kernel) (by decide +kernel)
theorem qm_352 : Cond.code y_Q_append c_Q_append 3 (some .int) ∈ qu_W := qu_in 352 (by decide +kernel) (by decide +kernel)
theorem qm_353 : Cond.methodLink "QuorumLog" 276 y_L_add ∈ qu_W := qu_in 353 (by decide +kernel) (by decide +kernel)
theorem qm_354 : Cond.instanceMethod y_L_add ∈ qu_W := qu_in 354 (by decide +kernel) (by decide +kernel)
theorem qm_355 : Cond.selects "QuorumLog$Log" y_L_add y_L_add ∈ qu_W := qu_in 355 (by decide +kernel) (by decide +kernel)
theorem qm_356 : Cond.code y_L_add c_L_add 2 (some .boolean) ∈ qu_W := qu_in 356 (by decide +kernel) (by decide +kernel)
theorem qm_357 : Cond.methodLink "QuorumLog" 280 y_Q_lookAtCommit ∈ qu_W := qu_in 357 (by decide +kernel) (by decide +kernel)
theorem qm_359 : Cond.instanceMethod y_Q_lookAtCommit ∈ qu_W := qu_in 359 (by decide +kernel) (by decide +kernel)
theorem qm_360 : Cond.code y_Q_lookAtCommit c_Q_lookAtCommit 4 none ∈ qu_W := qu_in 360 (by decide +kernel) (by decide +kernel)
theorem qm_361 : Cond.methodLink "QuorumLog" 283 y_L_termAt ∈ qu_W := qu_in 361 (by decide +kernel) (by decide +kernel)
theorem qm_362 : Cond.methodLink "QuorumLog" 286 y_S_holdersOf ∈ qu_W := qu_in 362 (by decide +kernel) (by decide +kernel)
theorem qm_363 : Cond.instanceMethod y_S_holdersOf ∈ qu_W := qu_in 363 (by decide +kernel) (by decide +kernel)
theorem qm_364 : Cond.selects "QuorumLog$Server" y_S_holdersOf y_S_holdersOf ∈ qu_W := qu_in 364 (by decide +kernel) (by decide +kernel)
theorem qm_365 : Cond.code y_S_holdersOf c_S_holdersOf 2 (some .int) ∈ qu_W := qu_in 365 (by decide +kernel) (by decide +kernel)
theorem qm_366 : Cond.methodLink "QuorumLog$Server" 69 y_S_reachedBy ∈ qu_W := qu_in 366 (by decide +kernel) (by decide +kernel)
theorem qm_368 : Cond.instanceMethod y_S_reachedBy ∈ qu_W := qu_in 368 (by decide +kernel) (by decide +kernel)
theorem qm_369 : Cond.code y_S_reachedBy c_S_reachedBy 5 (some .int) ∈ qu_W := qu_in 369 (by decide +kernel) (by decide +kernel)
theorem qm_370 : Cond.methodLink "QuorumLog" 129 y_L_latestMembersUpTo ∈ qu_W := qu_in 370 (by decide +kernel) (by decide +kernel)
theorem qm_371 : Cond.methodLink "QuorumLog" 184 y_Q_follow ∈ qu_W := qu_in 371 (by decide +kernel) (by decide +kernel)
theorem qm_373 : Cond.instanceMethod y_Q_follow ∈ qu_W := qu_in 373 (by decide +kernel) (by decide +kernel)
theorem qm_374 : Cond.code y_Q_follow c_Q_follow 2 none ∈ qu_W := qu_in 374 (by decide +kernel) (by decide +kernel)
theorem qm_375 : Cond.methodLink "QuorumLog" 315 y_R_failAllOf ∈ qu_W := qu_in 375 (by decide +kernel) (by decide +kernel)
theorem qm_376 : Cond.instanceMethod y_R_failAllOf ∈ qu_W := qu_in 376 (by decide +kernel) (by decide +kernel)
theorem qm_377 : Cond.selects "QuorumLog$Reads" y_R_failAllOf y_R_failAllOf ∈ qu_W := qu_in 377 (by decide +kernel) (by decide +kernel)
theorem qm_378 : Cond.code y_R_failAllOf c_R_failAllOf 3 none ∈ qu_W := qu_in 378 (by decide +kernel) (by decide +kernel)
theorem qm_379 : Cond.methodLink "QuorumLog$Reads" 31 y_R_isKeptBy ∈ qu_W := qu_in 379 (by decide +kernel) (by decide +kernel)
theorem qm_380 : Cond.instanceMethod y_R_isKeptBy ∈ qu_W := qu_in 380 (by decide +kernel) (by decide +kernel)
theorem qm_381 : Cond.selects "QuorumLog$Reads" y_R_isKeptBy y_R_isKeptBy ∈ qu_W := qu_in 381 (by decide +kernel) (by decide +kernel)
theorem qm_382 : Cond.code y_R_isKeptBy c_R_isKeptBy 3 (some .boolean) ∈ qu_W := qu_in 382 (by decide +kernel) (by decide +kernel)
theorem qm_383 : Cond.methodLink "QuorumLog" 78 y_Q_sendToAll ∈ qu_W := qu_in 383 (by decide +kernel) (by decide +kernel)
theorem qm_385 : Cond.instanceMethod y_Q_sendToAll ∈ qu_W := qu_in 385 (by decide +kernel) (by decide +kernel)
theorem qm_386 : Cond.code y_Q_sendToAll c_Q_sendToAll 4 none ∈ qu_W := qu_in 386 (by decide +kernel) (by decide +kernel)
theorem qm_387 : Cond.methodLink "QuorumLog" 289 y_Q_sendTo ∈ qu_W := qu_in 387 (by decide +kernel) (by decide +kernel)
theorem qm_389 : Cond.instanceMethod y_Q_sendTo ∈ qu_W := qu_in 389 (by decide +kernel) (by decide +kernel)
theorem qm_390 : Cond.code y_Q_sendTo c_Q_sendTo 6 none ∈ qu_W := qu_in 390 (by decide +kernel) (by decide +kernel)
theorem qm_391 : Cond.methodLink "QuorumLog" 299 y_L_copyBehind ∈ qu_W := qu_in 391 (by decide +kernel) (by decide +kernel)
theorem qm_392 : Cond.instanceMethod y_L_copyBehind ∈ qu_W := qu_in 392 (by decide +kernel) (by decide +kernel)
theorem qm_393 : Cond.selects "QuorumLog$Log" y_L_copyBehind y_L_copyBehind ∈ qu_W := qu_in 393 (by decide +kernel) (by decide +kernel)
theorem qm_394 : Cond.code y_L_copyBehind c_L_copyBehind 5 (some .int) ∈ qu_W := qu_in 394 (by decide +kernel) (by decide +kernel)
theorem qm_398 : Cond.code y_Q_beat c_Q_beat 2 (some .boolean) ∈ qu_W := qu_in 398 (by decide +kernel) (by decide +kernel)
theorem qm_399 : Cond.methodLink "QuorumLog" 75 y_S_leads ∈ qu_W := qu_in 399 (by decide +kernel) (by decide +kernel)
theorem qm_400 : Cond.instanceMethod y_S_leads ∈ qu_W := qu_in 400 (by decide +kernel) (by decide +kernel)
theorem qm_401 : Cond.selects "QuorumLog$Server" y_S_leads y_S_leads ∈ qu_W := qu_in 401 (by decide +kernel) (by decide +kernel)
theorem qm_402 : Cond.code y_S_leads c_S_leads 1 (some .boolean) ∈ qu_W := qu_in 402 (by decide +kernel) (by decide +kernel)
theorem qm_406 : Cond.code y_Q_outcome c_Q_outcome 2 (some .int) ∈ qu_W := qu_in 406 (by decide +kernel) (by decide +kernel)
theorem qm_407 : Cond.methodLink "QuorumLog" 157 y_R_holds ∈ qu_W := qu_in 407 (by decide +kernel) (by decide +kernel)
theorem qm_408 : Cond.instanceMethod y_R_holds ∈ qu_W := qu_in 408 (by decide +kernel) (by decide +kernel)
theorem qm_409 : Cond.selects "QuorumLog$Reads" y_R_holds y_R_holds ∈ qu_W := qu_in 409 (by decide +kernel) (by decide +kernel)
theorem qm_410 : Cond.code y_R_holds c_R_holds 2 (some .boolean) ∈ qu_W := qu_in 410 (by decide +kernel) (by decide +kernel)
theorem qm_414 : Cond.code y_Q_value c_Q_value 2 (some .int) ∈ qu_W := qu_in 414 (by decide +kernel) (by decide +kernel)
theorem qm_418 : Cond.code y_Q_compact c_Q_compact 3 (some .boolean) ∈ qu_W := qu_in 418 (by decide +kernel) (by decide +kernel)
theorem qm_419 : Cond.methodLink "QuorumLog" 177 y_L_snapshotAt ∈ qu_W := qu_in 419 (by decide +kernel) (by decide +kernel)
theorem qm_420 : Cond.instanceMethod y_L_snapshotAt ∈ qu_W := qu_in 420 (by decide +kernel) (by decide +kernel)
theorem qm_421 : Cond.selects "QuorumLog$Log" y_L_snapshotAt y_L_snapshotAt ∈ qu_W := qu_in 421 (by decide +kernel) (by decide +kernel)
theorem qm_422 : Cond.code y_L_snapshotAt c_L_snapshotAt 4 (some (.object "QuorumLog$Snapshot")) ∈ qu_W := qu_in 422 (by decide +kernel) (by decide +kernel)
theorem qm_423 : Cond.methodLink "QuorumLog$Log" 93 y_L_storedUpTo ∈ qu_W := qu_in 423 (by decide +kernel) (by decide +kernel)
theorem qm_424 : Cond.instanceMethod y_L_storedUpTo ∈ qu_W := qu_in 424 (by decide +kernel) (by decide +kernel)
theorem qm_425 : Cond.selects "QuorumLog$Log" y_L_storedUpTo y_L_storedUpTo ∈ qu_W := qu_in 425 (by decide +kernel) (by decide +kernel)
theorem qm_426 : Cond.code y_L_storedUpTo c_L_storedUpTo 5 (some .int) ∈ qu_W := qu_in 426 (by decide +kernel) (by decide +kernel)
theorem qm_427 : Cond.classLink "QuorumLog$Log" 22 "QuorumLog$Snapshot" ∈ qu_W := qu_in 427 (by decide +kernel) (by decide +kernel)
theorem qm_428 : Cond.methodLink "QuorumLog$Log" 97 y_N_init ∈ qu_W := qu_in 428 (by decide +kernel) (by decide +kernel)
theorem qm_429 : Cond.methodLink "QuorumLog" 181 y_L_beginBehind ∈ qu_W := qu_in 429 (by decide +kernel) (by decide +kernel)
theorem qm_430 : Cond.instanceMethod y_L_beginBehind ∈ qu_W := qu_in 430 (by decide +kernel) (by decide +kernel)
theorem qm_431 : Cond.selects "QuorumLog$Log" y_L_beginBehind y_L_beginBehind ∈ qu_W := qu_in 431 (by decide +kernel) (by decide +kernel)
theorem qm_432 : Cond.code y_L_beginBehind c_L_beginBehind 6 none ∈ qu_W := qu_in 432 (by decide +kernel) (by decide +kernel)
theorem qm_436 : Cond.code y_Q_crash c_Q_crash 3 (some .boolean) ∈ qu_W := qu_in 436 (by decide +kernel) (by decide +kernel)
theorem qm_440 : Cond.code y_Q_restart c_Q_restart 2 (some .boolean) ∈ qu_W := qu_in 440 (by decide +kernel) (by decide +kernel)
theorem qm_444 : Cond.code y_Q_deliver c_Q_deliver 4 (some .int) ∈ qu_W := qu_in 444 (by decide +kernel) (by decide +kernel)
theorem qm_445 : Cond.methodLink "QuorumLog" 187 y_W_holds ∈ qu_W := qu_in 445 (by decide +kernel) (by decide +kernel)
theorem qm_446 : Cond.instanceMethod y_W_holds ∈ qu_W := qu_in 446 (by decide +kernel) (by decide +kernel)
theorem qm_447 : Cond.selects "QuorumLog$Row" y_W_holds y_W_holds ∈ qu_W := qu_in 447 (by decide +kernel) (by decide +kernel)
theorem qm_448 : Cond.code y_W_holds c_W_holds 2 (some .boolean) ∈ qu_W := qu_in 448 (by decide +kernel) (by decide +kernel)
theorem qm_449 : Cond.methodLink "QuorumLog" 188 y_W_take ∈ qu_W := qu_in 449 (by decide +kernel) (by decide +kernel)
theorem qm_450 : Cond.instanceMethod y_W_take ∈ qu_W := qu_in 450 (by decide +kernel) (by decide +kernel)
theorem qm_451 : Cond.selects "QuorumLog$Row" y_W_take y_W_take ∈ qu_W := qu_in 451 (by decide +kernel) (by decide +kernel)
theorem qm_452 : Cond.code y_W_take c_W_take 4 (some (.object "QuorumLog$Message")) ∈ qu_W := qu_in 452 (by decide +kernel) (by decide +kernel)
theorem qm_453 : Cond.methodLink "QuorumLog" 197 y_Q_come ∈ qu_W := qu_in 453 (by decide +kernel) (by decide +kernel)
theorem qm_455 : Cond.instanceMethod y_Q_come ∈ qu_W := qu_in 455 (by decide +kernel) (by decide +kernel)
theorem qm_456 : Cond.code y_Q_come c_Q_come 3 none ∈ qu_W := qu_in 456 (by decide +kernel) (by decide +kernel)
theorem qm_457 : Cond.methodLink "QuorumLog" 319 y_Q_enterTerm ∈ qu_W := qu_in 457 (by decide +kernel) (by decide +kernel)
theorem qm_459 : Cond.instanceMethod y_Q_enterTerm ∈ qu_W := qu_in 459 (by decide +kernel) (by decide +kernel)
theorem qm_460 : Cond.code y_Q_enterTerm c_Q_enterTerm 3 none ∈ qu_W := qu_in 460 (by decide +kernel) (by decide +kernel)
theorem qm_461 : Cond.methodLink "QuorumLog" 322 y_Q_questionComes ∈ qu_W := qu_in 461 (by decide +kernel) (by decide +kernel)
theorem qm_463 : Cond.instanceMethod y_Q_questionComes ∈ qu_W := qu_in 463 (by decide +kernel) (by decide +kernel)
theorem qm_464 : Cond.code y_Q_questionComes c_Q_questionComes 5 none ∈ qu_W := qu_in 464 (by decide +kernel) (by decide +kernel)
theorem qm_465 : Cond.methodLink "QuorumLog" 343 y_L_isBehindOf ∈ qu_W := qu_in 465 (by decide +kernel) (by decide +kernel)
theorem qm_466 : Cond.instanceMethod y_L_isBehindOf ∈ qu_W := qu_in 466 (by decide +kernel) (by decide +kernel)
theorem qm_467 : Cond.selects "QuorumLog$Log" y_L_isBehindOf y_L_isBehindOf ∈ qu_W := qu_in 467 (by decide +kernel) (by decide +kernel)
theorem qm_468 : Cond.code y_L_isBehindOf c_L_isBehindOf 3 (some .boolean) ∈ qu_W := qu_in 468 (by decide +kernel) (by decide +kernel)
theorem qm_469 : Cond.methodLink "QuorumLog$Log" 68 y_L_lastTerm ∈ qu_W := qu_in 469 (by decide +kernel) (by decide +kernel)
theorem qm_470 : Cond.methodLink "QuorumLog" 325 y_Q_answerComes ∈ qu_W := qu_in 470 (by decide +kernel) (by decide +kernel)
theorem qm_472 : Cond.instanceMethod y_Q_answerComes ∈ qu_W := qu_in 472 (by decide +kernel) (by decide +kernel)
theorem qm_473 : Cond.code y_Q_answerComes c_Q_answerComes 3 none ∈ qu_W := qu_in 473 (by decide +kernel) (by decide +kernel)
theorem qm_474 : Cond.methodLink "QuorumLog" 328 y_Q_callComes ∈ qu_W := qu_in 474 (by decide +kernel) (by decide +kernel)
theorem qm_476 : Cond.instanceMethod y_Q_callComes ∈ qu_W := qu_in 476 (by decide +kernel) (by decide +kernel)
theorem qm_477 : Cond.code y_Q_callComes c_Q_callComes 6 none ∈ qu_W := qu_in 477 (by decide +kernel) (by decide +kernel)
theorem qm_478 : Cond.methodLink "QuorumLog" 331 y_Q_voteComes ∈ qu_W := qu_in 478 (by decide +kernel) (by decide +kernel)
theorem qm_480 : Cond.instanceMethod y_Q_voteComes ∈ qu_W := qu_in 480 (by decide +kernel) (by decide +kernel)
theorem qm_481 : Cond.code y_Q_voteComes c_Q_voteComes 3 none ∈ qu_W := qu_in 481 (by decide +kernel) (by decide +kernel)
theorem qm_482 : Cond.methodLink "QuorumLog" 334 y_Q_appendComes ∈ qu_W := qu_in 482 (by decide +kernel) (by decide +kernel)
theorem qm_484 : Cond.instanceMethod y_Q_appendComes ∈ qu_W := qu_in 484 (by decide +kernel) (by decide +kernel)
theorem qm_485 : Cond.code y_Q_appendComes c_Q_appendComes 4 none ∈ qu_W := qu_in 485 (by decide +kernel) (by decide +kernel)
theorem qm_486 : Cond.methodLink "QuorumLog" 347 y_Q_sendResult ∈ qu_W := qu_in 486 (by decide +kernel) (by decide +kernel)
theorem qm_488 : Cond.instanceMethod y_Q_sendResult ∈ qu_W := qu_in 488 (by decide +kernel) (by decide +kernel)
theorem qm_489 : Cond.code y_Q_sendResult c_Q_sendResult 7 none ∈ qu_W := qu_in 489 (by decide +kernel) (by decide +kernel)
theorem qm_490 : Cond.methodLink "QuorumLog" 351 y_L_fitsBehind ∈ qu_W := qu_in 490 (by decide +kernel) (by decide +kernel)
theorem qm_491 : Cond.instanceMethod y_L_fitsBehind ∈ qu_W := qu_in 491 (by decide +kernel) (by decide +kernel)
theorem qm_492 : Cond.selects "QuorumLog$Log" y_L_fitsBehind y_L_fitsBehind ∈ qu_W := qu_in 492 (by decide +kernel) (by decide +kernel)
theorem qm_493 : Cond.code y_L_fitsBehind c_L_fitsBehind 3 (some .boolean) ∈ qu_W := qu_in 493 (by decide +kernel) (by decide +kernel)
theorem qm_494 : Cond.methodLink "QuorumLog" 354 y_H_min ∈ qu_W := qu_in 494 (by decide +kernel) (by decide +kernel)
theorem qm_495 : Cond.static y_H_min ∈ qu_W := qu_in 495 (by decide +kernel) (by decide +kernel)
theorem qm_496 : Cond.code y_H_min c_H_min 2 (some .int) ∈ qu_W := qu_in 496 (by decide +kernel) (by decide +kernel)
theorem qm_497 : Cond.methodLink "QuorumLog" 360 y_H_max ∈ qu_W := qu_in 497 (by decide +kernel) (by decide +kernel)
theorem qm_498 : Cond.static y_H_max ∈ qu_W := qu_in 498 (by decide +kernel) (by decide +kernel)
theorem qm_499 : Cond.code y_H_max c_H_max 2 (some .int) ∈ qu_W := qu_in 499 (by decide +kernel) (by decide +kernel)
theorem qm_500 : Cond.methodLink "QuorumLog" 363 y_L_takeOver ∈ qu_W := qu_in 500 (by decide +kernel) (by decide +kernel)
theorem qm_501 : Cond.instanceMethod y_L_takeOver ∈ qu_W := qu_in 501 (by decide +kernel) (by decide +kernel)
theorem qm_502 : Cond.selects "QuorumLog$Log" y_L_takeOver y_L_takeOver ∈ qu_W := qu_in 502 (by decide +kernel) (by decide +kernel)
theorem qm_503 : Cond.code y_L_takeOver c_L_takeOver 4 (some .int) ∈ qu_W := qu_in 503 (by decide +kernel) (by decide +kernel)
theorem qm_504 : Cond.methodLink "QuorumLog$Log" 81 y_L_hasOrTakes ∈ qu_W := qu_in 504 (by decide +kernel) (by decide +kernel)
theorem qm_506 : Cond.instanceMethod y_L_hasOrTakes ∈ qu_W := qu_in 506 (by decide +kernel) (by decide +kernel)
theorem qm_507 : Cond.code y_L_hasOrTakes c_L_hasOrTakes 3 (some .boolean) ∈ qu_W := qu_in 507 (by decide +kernel) (by decide +kernel)
theorem qm_508 : Cond.methodLink "QuorumLog$Log" 85 y_L_cutFrom ∈ qu_W := qu_in 508 (by decide +kernel) (by decide +kernel)
theorem qm_509 : Cond.instanceMethod y_L_cutFrom ∈ qu_W := qu_in 509 (by decide +kernel) (by decide +kernel)
theorem qm_510 : Cond.selects "QuorumLog$Log" y_L_cutFrom y_L_cutFrom ∈ qu_W := qu_in 510 (by decide +kernel) (by decide +kernel)
theorem qm_511 : Cond.code y_L_cutFrom c_L_cutFrom 3 none ∈ qu_W := qu_in 511 (by decide +kernel) (by decide +kernel)
theorem qm_512 : Cond.methodLink "QuorumLog$Log" 89 y_L_add ∈ qu_W := qu_in 512 (by decide +kernel) (by decide +kernel)
theorem qm_513 : Cond.methodLink "QuorumLog" 337 y_Q_resultComes ∈ qu_W := qu_in 513 (by decide +kernel) (by decide +kernel)
theorem qm_515 : Cond.instanceMethod y_Q_resultComes ∈ qu_W := qu_in 515 (by decide +kernel) (by decide +kernel)
theorem qm_516 : Cond.code y_Q_resultComes c_Q_resultComes 5 none ∈ qu_W := qu_in 516 (by decide +kernel) (by decide +kernel)
theorem qm_517 : Cond.methodLink "QuorumLog" 154 y_Q_lookAtReads ∈ qu_W := qu_in 517 (by decide +kernel) (by decide +kernel)
theorem qm_519 : Cond.instanceMethod y_Q_lookAtReads ∈ qu_W := qu_in 519 (by decide +kernel) (by decide +kernel)
theorem qm_520 : Cond.code y_Q_lookAtReads c_Q_lookAtReads 4 none ∈ qu_W := qu_in 520 (by decide +kernel) (by decide +kernel)
theorem qm_521 : Cond.methodLink "QuorumLog" 303 y_R_isKeptBy ∈ qu_W := qu_in 521 (by decide +kernel) (by decide +kernel)
theorem qm_522 : Cond.methodLink "QuorumLog" 309 y_S_confirmersOf ∈ qu_W := qu_in 522 (by decide +kernel) (by decide +kernel)
theorem qm_523 : Cond.instanceMethod y_S_confirmersOf ∈ qu_W := qu_in 523 (by decide +kernel) (by decide +kernel)
theorem qm_524 : Cond.selects "QuorumLog$Server" y_S_confirmersOf y_S_confirmersOf ∈ qu_W := qu_in 524 (by decide +kernel) (by decide +kernel)
theorem qm_525 : Cond.code y_S_confirmersOf c_S_confirmersOf 2 (some .int) ∈ qu_W := qu_in 525 (by decide +kernel) (by decide +kernel)
theorem qm_526 : Cond.methodLink "QuorumLog" 240 y_S_storedNow ∈ qu_W := qu_in 526 (by decide +kernel) (by decide +kernel)
theorem qm_527 : Cond.instanceMethod y_S_storedNow ∈ qu_W := qu_in 527 (by decide +kernel) (by decide +kernel)
theorem qm_528 : Cond.selects "QuorumLog$Server" y_S_storedNow y_S_storedNow ∈ qu_W := qu_in 528 (by decide +kernel) (by decide +kernel)
theorem qm_529 : Cond.code y_S_storedNow c_S_storedNow 2 (some .int) ∈ qu_W := qu_in 529 (by decide +kernel) (by decide +kernel)
theorem qm_530 : Cond.methodLink "QuorumLog$Server" 65 y_L_storedUpTo ∈ qu_W := qu_in 530 (by decide +kernel) (by decide +kernel)
theorem qm_531 : Cond.methodLink "QuorumLog" 340 y_Q_installComes ∈ qu_W := qu_in 531 (by decide +kernel) (by decide +kernel)
theorem qm_533 : Cond.instanceMethod y_Q_installComes ∈ qu_W := qu_in 533 (by decide +kernel) (by decide +kernel)
theorem qm_534 : Cond.code y_Q_installComes c_Q_installComes 3 none ∈ qu_W := qu_in 534 (by decide +kernel) (by decide +kernel)
theorem qm_538 : Cond.code y_Q_lose c_Q_lose 2 (some .boolean) ∈ qu_W := qu_in 538 (by decide +kernel) (by decide +kernel)
theorem qm_542 : Cond.code y_Q_waiting c_Q_waiting 1 (some .int) ∈ qu_W := qu_in 542 (by decide +kernel) (by decide +kernel)
theorem qm_546 : Cond.code y_Q_message c_Q_message 4 (some .int) ∈ qu_W := qu_in 546 (by decide +kernel) (by decide +kernel)
theorem qm_550 : Cond.code y_Q_state c_Q_state 4 (some .int) ∈ qu_W := qu_in 550 (by decide +kernel) (by decide +kernel)
theorem qm_554 : Cond.code y_Q_entry c_Q_entry 5 (some .int) ∈ qu_W := qu_in 554 (by decide +kernel) (by decide +kernel)
theorem qm_555 : Cond.methodLink "QuorumLog" 223 y_L_find ∈ qu_W := qu_in 555 (by decide +kernel) (by decide +kernel)
theorem qm_559 : Cond.code y_Q_stored c_Q_stored 3 (some .int) ∈ qu_W := qu_in 559 (by decide +kernel) (by decide +kernel)
theorem qm_560 : Cond.methodLink "QuorumLog" 237 y_Q_isKey ∈ qu_W := qu_in 560 (by decide +kernel) (by decide +kernel)
theorem qm_561 : Cond.static y_Q_isKey ∈ qu_W := qu_in 561 (by decide +kernel) (by decide +kernel)
theorem qm_562 : Cond.code y_Q_isKey c_Q_isKey 1 (some .boolean) ∈ qu_W := qu_in 562 (by decide +kernel) (by decide +kernel)
theorem qm_565 : Cond.code y_Z_cell c_Z_cell 2 (some .int) ∈ qu_W := qu_in 565 (by decide +kernel) (by decide +kernel)
theorem qm_572 : Cond.methodLink "QuorumLogLaw" 7 y_Q_put ∈ qu_W := qu_in 572 (by decide +kernel) (by decide +kernel)
theorem qm_573 : Cond.instanceMethod y_Q_put ∈ qu_W := qu_in 573 (by decide +kernel) (by decide +kernel)
theorem qm_574 : Cond.selects "QuorumLog" y_Q_put y_Q_put ∈ qu_W := qu_in 574 (by decide +kernel) (by decide +kernel)
theorem qm_575 : Cond.code y_Q_put c_Q_put 5 (some .int) ∈ qu_W := qu_in 575 (by decide +kernel) (by decide +kernel)
theorem qm_576 : Cond.methodLink "QuorumLog" 81 y_Q_leaderFor ∈ qu_W := qu_in 576 (by decide +kernel) (by decide +kernel)
theorem qm_578 : Cond.instanceMethod y_Q_leaderFor ∈ qu_W := qu_in 578 (by decide +kernel) (by decide +kernel)
theorem qm_579 : Cond.code y_Q_leaderFor c_Q_leaderFor 3 (some (.object "QuorumLog$Server")) ∈ qu_W := qu_in 579 (by decide +kernel) (by decide +kernel)
theorem qm_683 : Cond.methodLink "QuorumLogLaw" 19 y_Q_change ∈ qu_W := qu_in 683 (by decide +kernel) (by decide +kernel)
theorem qm_684 : Cond.instanceMethod y_Q_change ∈ qu_W := qu_in 684 (by decide +kernel) (by decide +kernel)
theorem qm_685 : Cond.selects "QuorumLog" y_Q_change y_Q_change ∈ qu_W := qu_in 685 (by decide +kernel) (by decide +kernel)
theorem qm_686 : Cond.code y_Q_change c_Q_change 8 (some .int) ∈ qu_W := qu_in 686 (by decide +kernel) (by decide +kernel)
theorem qm_689 : Cond.methodLink "QuorumLog" 136 y_S_hasCommitOfItsTerm ∈ qu_W := qu_in 689 (by decide +kernel) (by decide +kernel)
theorem qm_690 : Cond.instanceMethod y_S_hasCommitOfItsTerm ∈ qu_W := qu_in 690 (by decide +kernel) (by decide +kernel)
theorem qm_691 : Cond.selects "QuorumLog$Server" y_S_hasCommitOfItsTerm y_S_hasCommitOfItsTerm ∈ qu_W := qu_in 691 (by decide +kernel) (by decide +kernel)
theorem qm_692 : Cond.code y_S_hasCommitOfItsTerm c_S_hasCommitOfItsTerm 1 (some .boolean) ∈ qu_W := qu_in 692 (by decide +kernel) (by decide +kernel)
theorem qm_693 : Cond.methodLink "QuorumLog$Server" 58 y_L_termAt ∈ qu_W := qu_in 693 (by decide +kernel) (by decide +kernel)
theorem qm_698 : Cond.methodLink "QuorumLogLaw" 23 y_Q_read ∈ qu_W := qu_in 698 (by decide +kernel) (by decide +kernel)
theorem qm_699 : Cond.instanceMethod y_Q_read ∈ qu_W := qu_in 699 (by decide +kernel) (by decide +kernel)
theorem qm_700 : Cond.selects "QuorumLog" y_Q_read y_Q_read ∈ qu_W := qu_in 700 (by decide +kernel) (by decide +kernel)
theorem qm_701 : Cond.code y_Q_read c_Q_read 5 (some .int) ∈ qu_W := qu_in 701 (by decide +kernel) (by decide +kernel)
theorem qm_702 : Cond.methodLink "QuorumLog" 141 y_R_keptBy ∈ qu_W := qu_in 702 (by decide +kernel) (by decide +kernel)
theorem qm_703 : Cond.instanceMethod y_R_keptBy ∈ qu_W := qu_in 703 (by decide +kernel) (by decide +kernel)
theorem qm_704 : Cond.selects "QuorumLog$Reads" y_R_keptBy y_R_keptBy ∈ qu_W := qu_in 704 (by decide +kernel) (by decide +kernel)
theorem qm_705 : Cond.code y_R_keptBy c_R_keptBy 4 (some .int) ∈ qu_W := qu_in 705 (by decide +kernel) (by decide +kernel)
theorem qm_707 : Cond.methodLink "QuorumLog" 150 y_R_keep ∈ qu_W := qu_in 707 (by decide +kernel) (by decide +kernel)
theorem qm_708 : Cond.instanceMethod y_R_keep ∈ qu_W := qu_in 708 (by decide +kernel) (by decide +kernel)
theorem qm_709 : Cond.selects "QuorumLog$Reads" y_R_keep y_R_keep ∈ qu_W := qu_in 709 (by decide +kernel) (by decide +kernel)
theorem qm_710 : Cond.code y_R_keep c_R_keep 5 (some .int) ∈ qu_W := qu_in 710 (by decide +kernel) (by decide +kernel)
theorem qm_715 : Cond.code y_D_init c_D_init 3 none ∈ qu_W := qu_in 715 (by decide +kernel) (by decide +kernel)
theorem qm_716 : Cond.methodLink "QuorumLogModel" 1 Lib.objectInit ∈ qu_W := qu_in 716 (by decide +kernel) (by decide +kernel)
theorem qm_717 : Cond.fieldLink "QuorumLogModel" 92 "QuorumLogModel" "code" "I" ∈ qu_W := qu_in 717 (by decide +kernel) (by decide +kernel)
theorem qm_718 : Cond.fieldLink "QuorumLogModel" 7 "QuorumLogModel" "down" "[Z" ∈ qu_W := qu_in 718 (by decide +kernel) (by decide +kernel)
theorem qm_719 : Cond.fieldLink "QuorumLogModel" 13 "QuorumLogModel" "term" "[I" ∈ qu_W := qu_in 719 (by decide +kernel) (by decide +kernel)
theorem qm_720 : Cond.fieldLink "QuorumLogModel" 17 "QuorumLogModel" "vote" "[I" ∈ qu_W := qu_in 720 (by decide +kernel) (by decide +kernel)
theorem qm_721 : Cond.fieldLink "QuorumLogModel" 20 "QuorumLogModel" "snapIndex" "[I" ∈ qu_W := qu_in 721 (by decide +kernel) (by decide +kernel)
theorem qm_722 : Cond.fieldLink "QuorumLogModel" 23 "QuorumLogModel" "snapTerm" "[I" ∈ qu_W := qu_in 722 (by decide +kernel) (by decide +kernel)
theorem qm_723 : Cond.fieldLink "QuorumLogModel" 26 "QuorumLogModel" "snapMembers" "[I" ∈ qu_W := qu_in 723 (by decide +kernel) (by decide +kernel)
theorem qm_724 : Cond.fieldLink "QuorumLogModel" 29 "QuorumLogModel" "snapValue" "[I" ∈ qu_W := qu_in 724 (by decide +kernel) (by decide +kernel)
theorem qm_725 : Cond.fieldLink "QuorumLogModel" 32 "QuorumLogModel" "size" "[I" ∈ qu_W := qu_in 725 (by decide +kernel) (by decide +kernel)
theorem qm_726 : Cond.fieldLink "QuorumLogModel" 35 "QuorumLogModel" "logTerm" "[I" ∈ qu_W := qu_in 726 (by decide +kernel) (by decide +kernel)
theorem qm_727 : Cond.fieldLink "QuorumLogModel" 38 "QuorumLogModel" "logSort" "[I" ∈ qu_W := qu_in 727 (by decide +kernel) (by decide +kernel)
theorem qm_728 : Cond.fieldLink "QuorumLogModel" 41 "QuorumLogModel" "logKey" "[I" ∈ qu_W := qu_in 728 (by decide +kernel) (by decide +kernel)
theorem qm_729 : Cond.fieldLink "QuorumLogModel" 44 "QuorumLogModel" "logValue" "[I" ∈ qu_W := qu_in 729 (by decide +kernel) (by decide +kernel)
theorem qm_730 : Cond.fieldLink "QuorumLogModel" 47 "QuorumLogModel" "role" "[I" ∈ qu_W := qu_in 730 (by decide +kernel) (by decide +kernel)
theorem qm_731 : Cond.fieldLink "QuorumLogModel" 50 "QuorumLogModel" "commit" "[I" ∈ qu_W := qu_in 731 (by decide +kernel) (by decide +kernel)
theorem qm_732 : Cond.fieldLink "QuorumLogModel" 53 "QuorumLogModel" "heard" "[Z" ∈ qu_W := qu_in 732 (by decide +kernel) (by decide +kernel)
theorem qm_733 : Cond.fieldLink "QuorumLogModel" 56 "QuorumLogModel" "yes" "[I" ∈ qu_W := qu_in 733 (by decide +kernel) (by decide +kernel)
theorem qm_734 : Cond.fieldLink "QuorumLogModel" 59 "QuorumLogModel" "next" "[I" ∈ qu_W := qu_in 734 (by decide +kernel) (by decide +kernel)
theorem qm_735 : Cond.fieldLink "QuorumLogModel" 62 "QuorumLogModel" "match" "[I" ∈ qu_W := qu_in 735 (by decide +kernel) (by decide +kernel)
theorem qm_736 : Cond.fieldLink "QuorumLogModel" 65 "QuorumLogModel" "confirmed" "[I" ∈ qu_W := qu_in 736 (by decide +kernel) (by decide +kernel)
theorem qm_737 : Cond.fieldLink "QuorumLogModel" 68 "QuorumLogModel" "round" "[I" ∈ qu_W := qu_in 737 (by decide +kernel) (by decide +kernel)
theorem qm_738 : Cond.fieldLink "QuorumLogModel" 136 "QuorumLogModel" "reads" "I" ∈ qu_W := qu_in 738 (by decide +kernel) (by decide +kernel)
theorem qm_739 : Cond.fieldLink "QuorumLogModel" 71 "QuorumLogModel" "readOf" "[I" ∈ qu_W := qu_in 739 (by decide +kernel) (by decide +kernel)
theorem qm_740 : Cond.fieldLink "QuorumLogModel" 74 "QuorumLogModel" "readKey" "[I" ∈ qu_W := qu_in 740 (by decide +kernel) (by decide +kernel)
theorem qm_741 : Cond.fieldLink "QuorumLogModel" 77 "QuorumLogModel" "readRound" "[I" ∈ qu_W := qu_in 741 (by decide +kernel) (by decide +kernel)
theorem qm_742 : Cond.fieldLink "QuorumLogModel" 80 "QuorumLogModel" "readOutcome" "[I" ∈ qu_W := qu_in 742 (by decide +kernel) (by decide +kernel)
theorem qm_743 : Cond.fieldLink "QuorumLogModel" 83 "QuorumLogModel" "readValue" "[I" ∈ qu_W := qu_in 743 (by decide +kernel) (by decide +kernel)
theorem qm_744 : Cond.fieldLink "QuorumLogModel" 119 "QuorumLogModel" "waiting" "I" ∈ qu_W := qu_in 744 (by decide +kernel) (by decide +kernel)
theorem qm_745 : Cond.fieldLink "QuorumLogModel" 86 "QuorumLogModel" "mail" "[I" ∈ qu_W := qu_in 745 (by decide +kernel) (by decide +kernel)
theorem qm_746 : Cond.fieldLink "QuorumLogModel" 89 "QuorumLogModel" "come" "[I" ∈ qu_W := qu_in 746 (by decide +kernel) (by decide +kernel)
theorem qm_747 : Cond.lays "QuorumLogModel" "QuorumLogModel" "code" "I" ∈ qu_W := qu_in 747 (by decide +kernel) (by decide +kernel)
theorem qm_749 : Cond.laysFinal "QuorumLogModel" "QuorumLogModel" "down" "[Z" ∈ qu_W := qu_in 749 (by decide +kernel) (by decide +kernel)
theorem qm_751 : Cond.laysFinal "QuorumLogModel" "QuorumLogModel" "term" "[I" ∈ qu_W := qu_in 751 (by decide +kernel) (by decide +kernel)
theorem qm_753 : Cond.laysFinal "QuorumLogModel" "QuorumLogModel" "vote" "[I" ∈ qu_W := qu_in 753 (by decide +kernel) (by decide +kernel)
theorem qm_755 : Cond.laysFinal "QuorumLogModel" "QuorumLogModel" "snapIndex" "[I" ∈ qu_W := qu_in 755 (by decide +kernel) (by decide +kernel)
theorem qm_757 : Cond.laysFinal "QuorumLogModel" "QuorumLogModel" "snapTerm" "[I" ∈ qu_W := qu_in 757 (by decide +kernel) (by decide +kernel)
theorem qm_759 : Cond.laysFinal "QuorumLogModel" "QuorumLogModel" "snapMembers" "[I" ∈ qu_W := qu_in 759 (by decide +kernel) (by decide +kernel)
theorem qm_761 : Cond.laysFinal "QuorumLogModel" "QuorumLogModel" "snapValue" "[I" ∈ qu_W := qu_in 761 (by decide +kernel) (by decide +kernel)
theorem qm_763 : Cond.laysFinal "QuorumLogModel" "QuorumLogModel" "size" "[I" ∈ qu_W := qu_in 763 (by decide +kernel) (by decide +kernel)
theorem qm_765 : Cond.laysFinal "QuorumLogModel" "QuorumLogModel" "logTerm" "[I" ∈ qu_W := qu_in 765 (by decide +kernel) (by decide +kernel)
theorem qm_767 : Cond.laysFinal "QuorumLogModel" "QuorumLogModel" "logSort" "[I" ∈ qu_W := qu_in 767 (by decide +kernel) (by decide +kernel)
theorem qm_769 : Cond.laysFinal "QuorumLogModel" "QuorumLogModel" "logKey" "[I" ∈ qu_W := qu_in 769 (by decide +kernel) (by decide +kernel)
theorem qm_771 : Cond.laysFinal "QuorumLogModel" "QuorumLogModel" "logValue" "[I" ∈ qu_W := qu_in 771 (by decide +kernel) (by decide +kernel)
theorem qm_773 : Cond.laysFinal "QuorumLogModel" "QuorumLogModel" "role" "[I" ∈ qu_W := qu_in 773 (by decide +kernel) (by decide +kernel)
theorem qm_775 : Cond.laysFinal "QuorumLogModel" "QuorumLogModel" "commit" "[I" ∈ qu_W := qu_in 775 (by decide +kernel) (by decide +kernel)
theorem qm_777 : Cond.laysFinal "QuorumLogModel" "QuorumLogModel" "heard" "[Z" ∈ qu_W := qu_in 777 (by decide +kernel) (by decide +kernel)
theorem qm_779 : Cond.laysFinal "QuorumLogModel" "QuorumLogModel" "yes" "[I" ∈ qu_W := qu_in 779 (by decide +kernel) (by decide +kernel)
theorem qm_781 : Cond.laysFinal "QuorumLogModel" "QuorumLogModel" "next" "[I" ∈ qu_W := qu_in 781 (by decide +kernel) (by decide +kernel)
theorem qm_783 : Cond.laysFinal "QuorumLogModel" "QuorumLogModel" "match" "[I" ∈ qu_W := qu_in 783 (by decide +kernel) (by decide +kernel)
theorem qm_785 : Cond.laysFinal "QuorumLogModel" "QuorumLogModel" "confirmed" "[I" ∈ qu_W := qu_in 785 (by decide +kernel) (by decide +kernel)
theorem qm_787 : Cond.laysFinal "QuorumLogModel" "QuorumLogModel" "round" "[I" ∈ qu_W := qu_in 787 (by decide +kernel) (by decide +kernel)
theorem qm_789 : Cond.lays "QuorumLogModel" "QuorumLogModel" "reads" "I" ∈ qu_W := qu_in 789 (by decide +kernel) (by decide +kernel)
theorem qm_791 : Cond.laysFinal "QuorumLogModel" "QuorumLogModel" "readOf" "[I" ∈ qu_W := qu_in 791 (by decide +kernel) (by decide +kernel)
theorem qm_793 : Cond.laysFinal "QuorumLogModel" "QuorumLogModel" "readKey" "[I" ∈ qu_W := qu_in 793 (by decide +kernel) (by decide +kernel)
theorem qm_795 : Cond.laysFinal "QuorumLogModel" "QuorumLogModel" "readRound" "[I" ∈ qu_W := qu_in 795 (by decide +kernel) (by decide +kernel)
theorem qm_797 : Cond.laysFinal "QuorumLogModel" "QuorumLogModel" "readOutcome" "[I" ∈ qu_W := qu_in 797 (by decide +kernel) (by decide +kernel)
theorem qm_799 : Cond.laysFinal "QuorumLogModel" "QuorumLogModel" "readValue" "[I" ∈ qu_W := qu_in 799 (by decide +kernel) (by decide +kernel)
theorem qm_801 : Cond.lays "QuorumLogModel" "QuorumLogModel" "waiting" "I" ∈ qu_W := qu_in 801 (by decide +kernel) (by decide +kernel)
theorem qm_803 : Cond.laysFinal "QuorumLogModel" "QuorumLogModel" "mail" "[I" ∈ qu_W := qu_in 803 (by decide +kernel) (by decide +kernel)
theorem qm_805 : Cond.laysFinal "QuorumLogModel" "QuorumLogModel" "come" "[I" ∈ qu_W := qu_in 805 (by decide +kernel) (by decide +kernel)
theorem qm_808 : Cond.arrayClass .boolean ∈ qu_W := qu_in 808 (by decide +kernel) (by decide +kernel)
theorem qm_812 : Cond.code y_D_thrown c_D_thrown 1 (some .int) ∈ qu_W := qu_in 812 (by decide +kernel) (by decide +kernel)
theorem qm_816 : Cond.code y_D_timer c_D_timer 2 (some .boolean) ∈ qu_W := qu_in 816 (by decide +kernel) (by decide +kernel)
theorem qm_817 : Cond.methodLink "QuorumLogModel" 143 y_D_isServer ∈ qu_W := qu_in 817 (by decide +kernel) (by decide +kernel)
theorem qm_818 : Cond.static y_D_isServer ∈ qu_W := qu_in 818 (by decide +kernel) (by decide +kernel)
theorem qm_819 : Cond.code y_D_isServer c_D_isServer 1 (some .boolean) ∈ qu_W := qu_in 819 (by decide +kernel) (by decide +kernel)
theorem qm_820 : Cond.methodLink "QuorumLogModel" 147 y_D_isMine ∈ qu_W := qu_in 820 (by decide +kernel) (by decide +kernel)
theorem qm_822 : Cond.instanceMethod y_D_isMine ∈ qu_W := qu_in 822 (by decide +kernel) (by decide +kernel)
theorem qm_823 : Cond.code y_D_isMine c_D_isMine 2 (some .boolean) ∈ qu_W := qu_in 823 (by decide +kernel) (by decide +kernel)
theorem qm_824 : Cond.methodLink "QuorumLogModel" 113 y_D_config ∈ qu_W := qu_in 824 (by decide +kernel) (by decide +kernel)
theorem qm_826 : Cond.instanceMethod y_D_config ∈ qu_W := qu_in 826 (by decide +kernel) (by decide +kernel)
theorem qm_827 : Cond.code y_D_config c_D_config 2 (some .int) ∈ qu_W := qu_in 827 (by decide +kernel) (by decide +kernel)
theorem qm_828 : Cond.methodLink "QuorumLogModel" 96 y_D_last ∈ qu_W := qu_in 828 (by decide +kernel) (by decide +kernel)
theorem qm_830 : Cond.instanceMethod y_D_last ∈ qu_W := qu_in 830 (by decide +kernel) (by decide +kernel)
theorem qm_831 : Cond.code y_D_last c_D_last 2 (some .int) ∈ qu_W := qu_in 831 (by decide +kernel) (by decide +kernel)
theorem qm_832 : Cond.methodLink "QuorumLogModel" 110 y_D_membersAt ∈ qu_W := qu_in 832 (by decide +kernel) (by decide +kernel)
theorem qm_834 : Cond.instanceMethod y_D_membersAt ∈ qu_W := qu_in 834 (by decide +kernel) (by decide +kernel)
theorem qm_835 : Cond.code y_D_membersAt c_D_membersAt 4 (some .int) ∈ qu_W := qu_in 835 (by decide +kernel) (by decide +kernel)
theorem qm_836 : Cond.methodLink "QuorumLogModel" 107 y_D_latestMembers ∈ qu_W := qu_in 836 (by decide +kernel) (by decide +kernel)
theorem qm_838 : Cond.instanceMethod y_D_latestMembers ∈ qu_W := qu_in 838 (by decide +kernel) (by decide +kernel)
theorem qm_839 : Cond.code y_D_latestMembers c_D_latestMembers 5 (some .int) ∈ qu_W := qu_in 839 (by decide +kernel) (by decide +kernel)
theorem qm_840 : Cond.methodLink "QuorumLogModel" 100 y_D_cell ∈ qu_W := qu_in 840 (by decide +kernel) (by decide +kernel)
theorem qm_842 : Cond.instanceMethod y_D_cell ∈ qu_W := qu_in 842 (by decide +kernel) (by decide +kernel)
theorem qm_843 : Cond.code y_D_cell c_D_cell 3 (some .int) ∈ qu_W := qu_in 843 (by decide +kernel) (by decide +kernel)
theorem qm_844 : Cond.methodLink "QuorumLogModel" 150 y_D_askAll ∈ qu_W := qu_in 844 (by decide +kernel) (by decide +kernel)
theorem qm_846 : Cond.instanceMethod y_D_askAll ∈ qu_W := qu_in 846 (by decide +kernel) (by decide +kernel)
theorem qm_847 : Cond.code y_D_askAll c_D_askAll 6 none ∈ qu_W := qu_in 847 (by decide +kernel) (by decide +kernel)
theorem qm_848 : Cond.methodLink "QuorumLogModel" 122 y_D_begin ∈ qu_W := qu_in 848 (by decide +kernel) (by decide +kernel)
theorem qm_850 : Cond.instanceMethod y_D_begin ∈ qu_W := qu_in 850 (by decide +kernel) (by decide +kernel)
theorem qm_851 : Cond.code y_D_begin c_D_begin 6 none ∈ qu_W := qu_in 851 (by decide +kernel) (by decide +kernel)
theorem qm_852 : Cond.methodLink "QuorumLogModel" 126 y_D_lastTerm ∈ qu_W := qu_in 852 (by decide +kernel) (by decide +kernel)
theorem qm_854 : Cond.instanceMethod y_D_lastTerm ∈ qu_W := qu_in 854 (by decide +kernel) (by decide +kernel)
theorem qm_855 : Cond.code y_D_lastTerm c_D_lastTerm 2 (some .int) ∈ qu_W := qu_in 855 (by decide +kernel) (by decide +kernel)
theorem qm_856 : Cond.methodLink "QuorumLogModel" 104 y_D_termAt ∈ qu_W := qu_in 856 (by decide +kernel) (by decide +kernel)
theorem qm_858 : Cond.instanceMethod y_D_termAt ∈ qu_W := qu_in 858 (by decide +kernel) (by decide +kernel)
theorem qm_859 : Cond.code y_D_termAt c_D_termAt 4 (some .int) ∈ qu_W := qu_in 859 (by decide +kernel) (by decide +kernel)
theorem qm_860 : Cond.methodLink "QuorumLogModel" 129 y_D_post ∈ qu_W := qu_in 860 (by decide +kernel) (by decide +kernel)
theorem qm_862 : Cond.instanceMethod y_D_post ∈ qu_W := qu_in 862 (by decide +kernel) (by decide +kernel)
theorem qm_863 : Cond.code y_D_post c_D_post 2 none ∈ qu_W := qu_in 863 (by decide +kernel) (by decide +kernel)
theorem qm_864 : Cond.methodLink "QuorumLogModel" 154 y_D_weigh ∈ qu_W := qu_in 864 (by decide +kernel) (by decide +kernel)
theorem qm_866 : Cond.instanceMethod y_D_weigh ∈ qu_W := qu_in 866 (by decide +kernel) (by decide +kernel)
theorem qm_867 : Cond.code y_D_weigh c_D_weigh 2 none ∈ qu_W := qu_in 867 (by decide +kernel) (by decide +kernel)
theorem qm_868 : Cond.methodLink "QuorumLogModel" 157 y_D_most ∈ qu_W := qu_in 868 (by decide +kernel) (by decide +kernel)
theorem qm_870 : Cond.instanceMethod y_D_most ∈ qu_W := qu_in 870 (by decide +kernel) (by decide +kernel)
theorem qm_871 : Cond.code y_D_most c_D_most 4 (some .boolean) ∈ qu_W := qu_in 871 (by decide +kernel) (by decide +kernel)
theorem qm_872 : Cond.methodLink "QuorumLogModel" 116 y_D_count ∈ qu_W := qu_in 872 (by decide +kernel) (by decide +kernel)
theorem qm_873 : Cond.static y_D_count ∈ qu_W := qu_in 873 (by decide +kernel) (by decide +kernel)
theorem qm_874 : Cond.code y_D_count c_D_count 3 (some .int) ∈ qu_W := qu_in 874 (by decide +kernel) (by decide +kernel)
theorem qm_875 : Cond.methodLink "QuorumLogModel" 161 y_D_lead ∈ qu_W := qu_in 875 (by decide +kernel) (by decide +kernel)
theorem qm_877 : Cond.instanceMethod y_D_lead ∈ qu_W := qu_in 877 (by decide +kernel) (by decide +kernel)
theorem qm_878 : Cond.code y_D_lead c_D_lead 3 none ∈ qu_W := qu_in 878 (by decide +kernel) (by decide +kernel)
theorem qm_879 : Cond.methodLink "QuorumLogModel" 164 y_D_append ∈ qu_W := qu_in 879 (by decide +kernel) (by decide +kernel)
theorem qm_881 : Cond.instanceMethod y_D_append ∈ qu_W := qu_in 881 (by decide +kernel) (by decide +kernel)
theorem qm_882 : Cond.code y_D_append c_D_append 6 (some .int) ∈ qu_W := qu_in 882 (by decide +kernel) (by decide +kernel)
theorem qm_883 : Cond.methodLink "QuorumLogModel" 168 y_D_push ∈ qu_W := qu_in 883 (by decide +kernel) (by decide +kernel)
theorem qm_885 : Cond.instanceMethod y_D_push ∈ qu_W := qu_in 885 (by decide +kernel) (by decide +kernel)
theorem qm_886 : Cond.code y_D_push c_D_push 7 none ∈ qu_W := qu_in 886 (by decide +kernel) (by decide +kernel)
theorem qm_887 : Cond.methodLink "QuorumLogModel" 172 y_D_lookAtCommit ∈ qu_W := qu_in 887 (by decide +kernel) (by decide +kernel)
theorem qm_889 : Cond.instanceMethod y_D_lookAtCommit ∈ qu_W := qu_in 889 (by decide +kernel) (by decide +kernel)
theorem qm_890 : Cond.code y_D_lookAtCommit c_D_lookAtCommit 4 none ∈ qu_W := qu_in 890 (by decide +kernel) (by decide +kernel)
theorem qm_891 : Cond.methodLink "QuorumLogModel" 178 y_D_having ∈ qu_W := qu_in 891 (by decide +kernel) (by decide +kernel)
theorem qm_893 : Cond.instanceMethod y_D_having ∈ qu_W := qu_in 893 (by decide +kernel) (by decide +kernel)
theorem qm_894 : Cond.code y_D_having c_D_having 5 (some .int) ∈ qu_W := qu_in 894 (by decide +kernel) (by decide +kernel)
theorem qm_895 : Cond.methodLink "QuorumLogModel" 139 y_D_follow ∈ qu_W := qu_in 895 (by decide +kernel) (by decide +kernel)
theorem qm_897 : Cond.instanceMethod y_D_follow ∈ qu_W := qu_in 897 (by decide +kernel) (by decide +kernel)
theorem qm_898 : Cond.code y_D_follow c_D_follow 4 none ∈ qu_W := qu_in 898 (by decide +kernel) (by decide +kernel)
theorem qm_899 : Cond.methodLink "QuorumLogModel" 175 y_D_sendAll ∈ qu_W := qu_in 899 (by decide +kernel) (by decide +kernel)
theorem qm_901 : Cond.instanceMethod y_D_sendAll ∈ qu_W := qu_in 901 (by decide +kernel) (by decide +kernel)
theorem qm_902 : Cond.code y_D_sendAll c_D_sendAll 4 none ∈ qu_W := qu_in 902 (by decide +kernel) (by decide +kernel)
theorem qm_903 : Cond.methodLink "QuorumLogModel" 132 y_D_sendTo ∈ qu_W := qu_in 903 (by decide +kernel) (by decide +kernel)
theorem qm_905 : Cond.instanceMethod y_D_sendTo ∈ qu_W := qu_in 905 (by decide +kernel) (by decide +kernel)
theorem qm_906 : Cond.code y_D_sendTo c_D_sendTo 8 none ∈ qu_W := qu_in 906 (by decide +kernel) (by decide +kernel)
theorem qm_910 : Cond.code y_D_beat c_D_beat 2 (some .boolean) ∈ qu_W := qu_in 910 (by decide +kernel) (by decide +kernel)
theorem qm_911 : Cond.methodLink "QuorumLogModel" 185 y_D_leads ∈ qu_W := qu_in 911 (by decide +kernel) (by decide +kernel)
theorem qm_913 : Cond.instanceMethod y_D_leads ∈ qu_W := qu_in 913 (by decide +kernel) (by decide +kernel)
theorem qm_914 : Cond.code y_D_leads c_D_leads 2 (some .boolean) ∈ qu_W := qu_in 914 (by decide +kernel) (by decide +kernel)
theorem qm_918 : Cond.code y_D_put c_D_put 4 (some .int) ∈ qu_W := qu_in 918 (by decide +kernel) (by decide +kernel)
theorem qm_919 : Cond.methodLink "QuorumLogModel" 188 y_D_isKey ∈ qu_W := qu_in 919 (by decide +kernel) (by decide +kernel)
theorem qm_920 : Cond.static y_D_isKey ∈ qu_W := qu_in 920 (by decide +kernel) (by decide +kernel)
theorem qm_921 : Cond.code y_D_isKey c_D_isKey 1 (some .boolean) ∈ qu_W := qu_in 921 (by decide +kernel) (by decide +kernel)
theorem qm_922 : Cond.methodLink "QuorumLogModel" 191 y_D_fail ∈ qu_W := qu_in 922 (by decide +kernel) (by decide +kernel)
theorem qm_924 : Cond.instanceMethod y_D_fail ∈ qu_W := qu_in 924 (by decide +kernel) (by decide +kernel)
theorem qm_925 : Cond.code y_D_fail c_D_fail 2 (some .int) ∈ qu_W := qu_in 925 (by decide +kernel) (by decide +kernel)
theorem qm_929 : Cond.code y_D_change c_D_change 6 (some .int) ∈ qu_W := qu_in 929 (by decide +kernel) (by decide +kernel)
theorem qm_930 : Cond.methodLink "QuorumLogModel" 194 y_D_isOld ∈ qu_W := qu_in 930 (by decide +kernel) (by decide +kernel)
theorem qm_932 : Cond.instanceMethod y_D_isOld ∈ qu_W := qu_in 932 (by decide +kernel) (by decide +kernel)
theorem qm_933 : Cond.code y_D_isOld c_D_isOld 2 (some .boolean) ∈ qu_W := qu_in 933 (by decide +kernel) (by decide +kernel)
theorem qm_937 : Cond.code y_D_read c_D_read 5 (some .int) ∈ qu_W := qu_in 937 (by decide +kernel) (by decide +kernel)
theorem qm_938 : Cond.methodLink "QuorumLogModel" 197 y_D_lookAtReads ∈ qu_W := qu_in 938 (by decide +kernel) (by decide +kernel)
theorem qm_940 : Cond.instanceMethod y_D_lookAtReads ∈ qu_W := qu_in 940 (by decide +kernel) (by decide +kernel)
theorem qm_941 : Cond.code y_D_lookAtReads c_D_lookAtReads 5 none ∈ qu_W := qu_in 941 (by decide +kernel) (by decide +kernel)
theorem qm_942 : Cond.methodLink "QuorumLogModel" 181 y_D_valueAt ∈ qu_W := qu_in 942 (by decide +kernel) (by decide +kernel)
theorem qm_944 : Cond.instanceMethod y_D_valueAt ∈ qu_W := qu_in 944 (by decide +kernel) (by decide +kernel)
theorem qm_945 : Cond.code y_D_valueAt c_D_valueAt 7 (some .int) ∈ qu_W := qu_in 945 (by decide +kernel) (by decide +kernel)
theorem qm_949 : Cond.code y_D_outcome c_D_outcome 2 (some .int) ∈ qu_W := qu_in 949 (by decide +kernel) (by decide +kernel)
theorem qm_953 : Cond.code y_D_value c_D_value 2 (some .int) ∈ qu_W := qu_in 953 (by decide +kernel) (by decide +kernel)
theorem qm_957 : Cond.code y_D_compact c_D_compact 7 (some .boolean) ∈ qu_W := qu_in 957 (by decide +kernel) (by decide +kernel)
theorem qm_958 : Cond.methodLink "QuorumLogModel" 200 y_D_shift ∈ qu_W := qu_in 958 (by decide +kernel) (by decide +kernel)
theorem qm_960 : Cond.instanceMethod y_D_shift ∈ qu_W := qu_in 960 (by decide +kernel) (by decide +kernel)
theorem qm_961 : Cond.code y_D_shift c_D_shift 6 none ∈ qu_W := qu_in 961 (by decide +kernel) (by decide +kernel)
theorem qm_965 : Cond.code y_D_crash c_D_crash 2 (some .boolean) ∈ qu_W := qu_in 965 (by decide +kernel) (by decide +kernel)
theorem qm_969 : Cond.code y_D_restart c_D_restart 2 (some .boolean) ∈ qu_W := qu_in 969 (by decide +kernel) (by decide +kernel)
theorem qm_973 : Cond.code y_D_deliver c_D_deliver 4 (some .int) ∈ qu_W := qu_in 973 (by decide +kernel) (by decide +kernel)
theorem qm_974 : Cond.methodLink "QuorumLogModel" 203 y_D_takeOut ∈ qu_W := qu_in 974 (by decide +kernel) (by decide +kernel)
theorem qm_976 : Cond.instanceMethod y_D_takeOut ∈ qu_W := qu_in 976 (by decide +kernel) (by decide +kernel)
theorem qm_977 : Cond.code y_D_takeOut c_D_takeOut 3 none ∈ qu_W := qu_in 977 (by decide +kernel) (by decide +kernel)
theorem qm_978 : Cond.methodLink "QuorumLogModel" 206 y_D_newTerm ∈ qu_W := qu_in 978 (by decide +kernel) (by decide +kernel)
theorem qm_980 : Cond.instanceMethod y_D_newTerm ∈ qu_W := qu_in 980 (by decide +kernel) (by decide +kernel)
theorem qm_981 : Cond.code y_D_newTerm c_D_newTerm 3 none ∈ qu_W := qu_in 981 (by decide +kernel) (by decide +kernel)
theorem qm_982 : Cond.methodLink "QuorumLogModel" 209 y_D_question ∈ qu_W := qu_in 982 (by decide +kernel) (by decide +kernel)
theorem qm_984 : Cond.instanceMethod y_D_question ∈ qu_W := qu_in 984 (by decide +kernel) (by decide +kernel)
theorem qm_985 : Cond.code y_D_question c_D_question 5 none ∈ qu_W := qu_in 985 (by decide +kernel) (by decide +kernel)
theorem qm_986 : Cond.methodLink "QuorumLogModel" 230 y_D_liesBefore ∈ qu_W := qu_in 986 (by decide +kernel) (by decide +kernel)
theorem qm_988 : Cond.instanceMethod y_D_liesBefore ∈ qu_W := qu_in 988 (by decide +kernel) (by decide +kernel)
theorem qm_989 : Cond.code y_D_liesBefore c_D_liesBefore 4 (some .boolean) ∈ qu_W := qu_in 989 (by decide +kernel) (by decide +kernel)
theorem qm_990 : Cond.methodLink "QuorumLogModel" 234 y_D_reply ∈ qu_W := qu_in 990 (by decide +kernel) (by decide +kernel)
theorem qm_992 : Cond.instanceMethod y_D_reply ∈ qu_W := qu_in 992 (by decide +kernel) (by decide +kernel)
theorem qm_993 : Cond.code y_D_reply c_D_reply 6 none ∈ qu_W := qu_in 993 (by decide +kernel) (by decide +kernel)
theorem qm_994 : Cond.methodLink "QuorumLogModel" 212 y_D_answered ∈ qu_W := qu_in 994 (by decide +kernel) (by decide +kernel)
theorem qm_996 : Cond.instanceMethod y_D_answered ∈ qu_W := qu_in 996 (by decide +kernel) (by decide +kernel)
theorem qm_997 : Cond.code y_D_answered c_D_answered 4 none ∈ qu_W := qu_in 997 (by decide +kernel) (by decide +kernel)
theorem qm_998 : Cond.methodLink "QuorumLogModel" 215 y_D_called ∈ qu_W := qu_in 998 (by decide +kernel) (by decide +kernel)
theorem qm_1000 : Cond.instanceMethod y_D_called ∈ qu_W := qu_in 1000 (by decide +kernel) (by decide +kernel)
theorem qm_1001 : Cond.code y_D_called c_D_called 5 none ∈ qu_W := qu_in 1001 (by decide +kernel) (by decide +kernel)
theorem qm_1002 : Cond.methodLink "QuorumLogModel" 218 y_D_voted ∈ qu_W := qu_in 1002 (by decide +kernel) (by decide +kernel)
theorem qm_1004 : Cond.instanceMethod y_D_voted ∈ qu_W := qu_in 1004 (by decide +kernel) (by decide +kernel)
theorem qm_1005 : Cond.code y_D_voted c_D_voted 4 none ∈ qu_W := qu_in 1005 (by decide +kernel) (by decide +kernel)
theorem qm_1006 : Cond.methodLink "QuorumLogModel" 221 y_D_appended ∈ qu_W := qu_in 1006 (by decide +kernel) (by decide +kernel)
theorem qm_1008 : Cond.instanceMethod y_D_appended ∈ qu_W := qu_in 1008 (by decide +kernel) (by decide +kernel)
theorem qm_1009 : Cond.code y_D_appended c_D_appended 7 none ∈ qu_W := qu_in 1009 (by decide +kernel) (by decide +kernel)
theorem qm_1010 : Cond.methodLink "QuorumLogModel" 238 y_D_result ∈ qu_W := qu_in 1010 (by decide +kernel) (by decide +kernel)
theorem qm_1012 : Cond.instanceMethod y_D_result ∈ qu_W := qu_in 1012 (by decide +kernel) (by decide +kernel)
theorem qm_1013 : Cond.code y_D_result c_D_result 6 none ∈ qu_W := qu_in 1013 (by decide +kernel) (by decide +kernel)
theorem qm_1014 : Cond.methodLink "QuorumLogModel" 242 y_D_takeEntry ∈ qu_W := qu_in 1014 (by decide +kernel) (by decide +kernel)
theorem qm_1016 : Cond.instanceMethod y_D_takeEntry ∈ qu_W := qu_in 1016 (by decide +kernel) (by decide +kernel)
theorem qm_1017 : Cond.code y_D_takeEntry c_D_takeEntry 4 (some .boolean) ∈ qu_W := qu_in 1017 (by decide +kernel) (by decide +kernel)
theorem qm_1018 : Cond.methodLink "QuorumLogModel" 224 y_D_resulted ∈ qu_W := qu_in 1018 (by decide +kernel) (by decide +kernel)
theorem qm_1020 : Cond.instanceMethod y_D_resulted ∈ qu_W := qu_in 1020 (by decide +kernel) (by decide +kernel)
theorem qm_1021 : Cond.code y_D_resulted c_D_resulted 7 none ∈ qu_W := qu_in 1021 (by decide +kernel) (by decide +kernel)
theorem qm_1022 : Cond.methodLink "QuorumLogModel" 227 y_D_installed ∈ qu_W := qu_in 1022 (by decide +kernel) (by decide +kernel)
theorem qm_1024 : Cond.instanceMethod y_D_installed ∈ qu_W := qu_in 1024 (by decide +kernel) (by decide +kernel)
theorem qm_1025 : Cond.code y_D_installed c_D_installed 5 none ∈ qu_W := qu_in 1025 (by decide +kernel) (by decide +kernel)
theorem qm_1029 : Cond.code y_D_lose c_D_lose 2 (some .boolean) ∈ qu_W := qu_in 1029 (by decide +kernel) (by decide +kernel)
theorem qm_1033 : Cond.code y_D_waiting c_D_waiting 1 (some .int) ∈ qu_W := qu_in 1033 (by decide +kernel) (by decide +kernel)
theorem qm_1037 : Cond.code y_D_message c_D_message 4 (some .int) ∈ qu_W := qu_in 1037 (by decide +kernel) (by decide +kernel)
theorem qm_1041 : Cond.code y_D_state c_D_state 3 (some .int) ∈ qu_W := qu_in 1041 (by decide +kernel) (by decide +kernel)
theorem qm_1045 : Cond.code y_D_entry c_D_entry 5 (some .int) ∈ qu_W := qu_in 1045 (by decide +kernel) (by decide +kernel)
theorem qm_1049 : Cond.code y_D_stored c_D_stored 3 (some .int) ∈ qu_W := qu_in 1049 (by decide +kernel) (by decide +kernel)
theorem qm_1050 : Cond.arrayClass .long ∈ qu_W := qu_in 1050 (by decide +kernel) (by decide +kernel)
theorem qs_0 : Cond.selects "QuorumLog" y_Q_askAll y_Q_askAll ∈ qu_W := qu_is 0 (by decide +kernel) (by decide +kernel)
theorem qs_1 : Cond.selects "QuorumLog" y_Q_standIfMostSaidYes y_Q_standIfMostSaidYes ∈ qu_W := qu_is 1 (by decide +kernel) (by decide +kernel)
theorem qs_2 : Cond.selects "QuorumLog" y_Q_leadIfMostSaidYes y_Q_leadIfMostSaidYes ∈ qu_W := qu_is 2 (by decide +kernel) (by decide +kernel)
theorem qs_3 : Cond.selects "QuorumLog" y_Q_append y_Q_append ∈ qu_W := qu_is 3 (by decide +kernel) (by decide +kernel)
theorem qs_4 : Cond.selects "QuorumLog" y_Q_lookAtCommit y_Q_lookAtCommit ∈ qu_W := qu_is 4 (by decide +kernel) (by decide +kernel)
theorem qs_5 : Cond.selects "QuorumLog$Server" y_S_reachedBy y_S_reachedBy ∈ qu_W := qu_is 5 (by decide +kernel) (by decide +kernel)
theorem qs_6 : Cond.selects "QuorumLog" y_Q_follow y_Q_follow ∈ qu_W := qu_is 6 (by decide +kernel) (by decide +kernel)
theorem qs_7 : Cond.selects "QuorumLog" y_Q_sendToAll y_Q_sendToAll ∈ qu_W := qu_is 7 (by decide +kernel) (by decide +kernel)
theorem qs_8 : Cond.selects "QuorumLog" y_Q_sendTo y_Q_sendTo ∈ qu_W := qu_is 8 (by decide +kernel) (by decide +kernel)
theorem qs_9 : Cond.selects "QuorumLog" y_Q_come y_Q_come ∈ qu_W := qu_is 9 (by decide +kernel) (by decide +kernel)
theorem qs_10 : Cond.selects "QuorumLog" y_Q_enterTerm y_Q_enterTerm ∈ qu_W := qu_is 10 (by decide +kernel) (by decide +kernel)
theorem qs_11 : Cond.selects "QuorumLog" y_Q_questionComes y_Q_questionComes ∈ qu_W := qu_is 11 (by decide +kernel) (by decide +kernel)
theorem qs_12 : Cond.selects "QuorumLog" y_Q_answerComes y_Q_answerComes ∈ qu_W := qu_is 12 (by decide +kernel) (by decide +kernel)
theorem qs_13 : Cond.selects "QuorumLog" y_Q_callComes y_Q_callComes ∈ qu_W := qu_is 13 (by decide +kernel) (by decide +kernel)
theorem qs_14 : Cond.selects "QuorumLog" y_Q_voteComes y_Q_voteComes ∈ qu_W := qu_is 14 (by decide +kernel) (by decide +kernel)
theorem qs_15 : Cond.selects "QuorumLog" y_Q_appendComes y_Q_appendComes ∈ qu_W := qu_is 15 (by decide +kernel) (by decide +kernel)
theorem qs_16 : Cond.selects "QuorumLog" y_Q_sendResult y_Q_sendResult ∈ qu_W := qu_is 16 (by decide +kernel) (by decide +kernel)
theorem qs_17 : Cond.selects "QuorumLog$Log" y_L_hasOrTakes y_L_hasOrTakes ∈ qu_W := qu_is 17 (by decide +kernel) (by decide +kernel)
theorem qs_18 : Cond.selects "QuorumLog" y_Q_resultComes y_Q_resultComes ∈ qu_W := qu_is 18 (by decide +kernel) (by decide +kernel)
theorem qs_19 : Cond.selects "QuorumLog" y_Q_lookAtReads y_Q_lookAtReads ∈ qu_W := qu_is 19 (by decide +kernel) (by decide +kernel)
theorem qs_20 : Cond.selects "QuorumLog" y_Q_installComes y_Q_installComes ∈ qu_W := qu_is 20 (by decide +kernel) (by decide +kernel)
theorem qs_21 : Cond.selects "QuorumLog" y_Q_leaderFor y_Q_leaderFor ∈ qu_W := qu_is 21 (by decide +kernel) (by decide +kernel)
theorem qs_23 : Cond.selects "QuorumLogModel" y_D_isMine y_D_isMine ∈ qu_W := qu_is 23 (by decide +kernel) (by decide +kernel)
theorem qs_24 : Cond.selects "QuorumLogModel" y_D_config y_D_config ∈ qu_W := qu_is 24 (by decide +kernel) (by decide +kernel)
theorem qs_25 : Cond.selects "QuorumLogModel" y_D_last y_D_last ∈ qu_W := qu_is 25 (by decide +kernel) (by decide +kernel)
theorem qs_26 : Cond.selects "QuorumLogModel" y_D_membersAt y_D_membersAt ∈ qu_W := qu_is 26 (by decide +kernel) (by decide +kernel)
theorem qs_27 : Cond.selects "QuorumLogModel" y_D_latestMembers y_D_latestMembers ∈ qu_W := qu_is 27 (by decide +kernel) (by decide +kernel)
theorem qs_28 : Cond.selects "QuorumLogModel" y_D_cell y_D_cell ∈ qu_W := qu_is 28 (by decide +kernel) (by decide +kernel)
theorem qs_29 : Cond.selects "QuorumLogModel" y_D_askAll y_D_askAll ∈ qu_W := qu_is 29 (by decide +kernel) (by decide +kernel)
theorem qs_30 : Cond.selects "QuorumLogModel" y_D_begin y_D_begin ∈ qu_W := qu_is 30 (by decide +kernel) (by decide +kernel)
theorem qs_31 : Cond.selects "QuorumLogModel" y_D_lastTerm y_D_lastTerm ∈ qu_W := qu_is 31 (by decide +kernel) (by decide +kernel)
theorem qs_32 : Cond.selects "QuorumLogModel" y_D_termAt y_D_termAt ∈ qu_W := qu_is 32 (by decide +kernel) (by decide +kernel)
theorem qs_33 : Cond.selects "QuorumLogModel" y_D_post y_D_post ∈ qu_W := qu_is 33 (by decide +kernel) (by decide +kernel)
theorem qs_34 : Cond.selects "QuorumLogModel" y_D_weigh y_D_weigh ∈ qu_W := qu_is 34 (by decide +kernel) (by decide +kernel)
theorem qs_35 : Cond.selects "QuorumLogModel" y_D_most y_D_most ∈ qu_W := qu_is 35 (by decide +kernel) (by decide +kernel)
theorem qs_36 : Cond.selects "QuorumLogModel" y_D_lead y_D_lead ∈ qu_W := qu_is 36 (by decide +kernel) (by decide +kernel)
theorem qs_37 : Cond.selects "QuorumLogModel" y_D_append y_D_append ∈ qu_W := qu_is 37 (by decide +kernel) (by decide +kernel)
theorem qs_38 : Cond.selects "QuorumLogModel" y_D_push y_D_push ∈ qu_W := qu_is 38 (by decide +kernel) (by decide +kernel)
theorem qs_39 : Cond.selects "QuorumLogModel" y_D_lookAtCommit y_D_lookAtCommit ∈ qu_W := qu_is 39 (by decide +kernel) (by decide +kernel)
theorem qs_40 : Cond.selects "QuorumLogModel" y_D_having y_D_having ∈ qu_W := qu_is 40 (by decide +kernel) (by decide +kernel)
theorem qs_41 : Cond.selects "QuorumLogModel" y_D_follow y_D_follow ∈ qu_W := qu_is 41 (by decide +kernel) (by decide +kernel)
theorem qs_42 : Cond.selects "QuorumLogModel" y_D_sendAll y_D_sendAll ∈ qu_W := qu_is 42 (by decide +kernel) (by decide +kernel)
theorem qs_43 : Cond.selects "QuorumLogModel" y_D_sendTo y_D_sendTo ∈ qu_W := qu_is 43 (by decide +kernel) (by decide +kernel)
theorem qs_44 : Cond.selects "QuorumLogModel" y_D_leads y_D_leads ∈ qu_W := qu_is 44 (by decide +kernel) (by decide +kernel)
theorem qs_45 : Cond.selects "QuorumLogModel" y_D_fail y_D_fail ∈ qu_W := qu_is 45 (by decide +kernel) (by decide +kernel)
theorem qs_46 : Cond.selects "QuorumLogModel" y_D_isOld y_D_isOld ∈ qu_W := qu_is 46 (by decide +kernel) (by decide +kernel)
theorem qs_47 : Cond.selects "QuorumLogModel" y_D_lookAtReads y_D_lookAtReads ∈ qu_W := qu_is 47 (by decide +kernel) (by decide +kernel)
theorem qs_48 : Cond.selects "QuorumLogModel" y_D_valueAt y_D_valueAt ∈ qu_W := qu_is 48 (by decide +kernel) (by decide +kernel)
theorem qs_49 : Cond.selects "QuorumLogModel" y_D_shift y_D_shift ∈ qu_W := qu_is 49 (by decide +kernel) (by decide +kernel)
theorem qs_50 : Cond.selects "QuorumLogModel" y_D_takeOut y_D_takeOut ∈ qu_W := qu_is 50 (by decide +kernel) (by decide +kernel)
theorem qs_51 : Cond.selects "QuorumLogModel" y_D_newTerm y_D_newTerm ∈ qu_W := qu_is 51 (by decide +kernel) (by decide +kernel)
theorem qs_52 : Cond.selects "QuorumLogModel" y_D_question y_D_question ∈ qu_W := qu_is 52 (by decide +kernel) (by decide +kernel)
theorem qs_53 : Cond.selects "QuorumLogModel" y_D_liesBefore y_D_liesBefore ∈ qu_W := qu_is 53 (by decide +kernel) (by decide +kernel)
theorem qs_54 : Cond.selects "QuorumLogModel" y_D_reply y_D_reply ∈ qu_W := qu_is 54 (by decide +kernel) (by decide +kernel)
theorem qs_55 : Cond.selects "QuorumLogModel" y_D_answered y_D_answered ∈ qu_W := qu_is 55 (by decide +kernel) (by decide +kernel)
theorem qs_56 : Cond.selects "QuorumLogModel" y_D_called y_D_called ∈ qu_W := qu_is 56 (by decide +kernel) (by decide +kernel)
theorem qs_57 : Cond.selects "QuorumLogModel" y_D_voted y_D_voted ∈ qu_W := qu_is 57 (by decide +kernel) (by decide +kernel)
theorem qs_58 : Cond.selects "QuorumLogModel" y_D_appended y_D_appended ∈ qu_W := qu_is 58 (by decide +kernel) (by decide +kernel)
theorem qs_59 : Cond.selects "QuorumLogModel" y_D_result y_D_result ∈ qu_W := qu_is 59 (by decide +kernel) (by decide +kernel)
theorem qs_60 : Cond.selects "QuorumLogModel" y_D_takeEntry y_D_takeEntry ∈ qu_W := qu_is 60 (by decide +kernel) (by decide +kernel)
theorem qs_61 : Cond.selects "QuorumLogModel" y_D_resulted y_D_resulted ∈ qu_W := qu_is 61 (by decide +kernel) (by decide +kernel)
theorem qs_62 : Cond.selects "QuorumLogModel" y_D_installed y_D_installed ∈ qu_W := qu_is 62 (by decide +kernel) (by decide +kernel)
theorem oi_1 : Cond.instanceMethod Lib.objectInit ∈ qu_W := qm_24
theorem oi_2 : Cond.code Lib.objectInit ⟨#[0xb1]⟩ 1 none ∈ qu_W := qm_25
theorem ac_int : Cond.arrayClass .int ∈ qu_W := qm_58
theorem ac_boolean : Cond.arrayClass .boolean ∈ qu_W := qm_808
theorem ac_long : Cond.arrayClass .long ∈ qu_W := qm_1050
theorem uw_Q : ∀ w ∈ u_ws "QuorumLog" T_Q 3, w ∈ qu_W := show ∀ w ∈ [u_lay "QuorumLog" T_Q 0, u_lay "QuorumLog" T_Q 1, u_lay "QuorumLog" T_Q 2], w ∈ qu_W from List.forall_mem_cons.mpr ⟨qm_241, List.forall_mem_cons.mpr ⟨qm_243, List.forall_mem_cons.mpr ⟨qm_245, fun _ h => absurd h List.not_mem_nil⟩⟩⟩
theorem uw_E : ∀ w ∈ u_ws "QuorumLog$Entry" T_E 4, w ∈ qu_W := show ∀ w ∈ [u_lay "QuorumLog$Entry" T_E 0, u_lay "QuorumLog$Entry" T_E 1, u_lay "QuorumLog$Entry" T_E 2, u_lay "QuorumLog$Entry" T_E 3], w ∈ qu_W from List.forall_mem_cons.mpr ⟨qm_340, List.forall_mem_cons.mpr ⟨qm_342, List.forall_mem_cons.mpr ⟨qm_344, List.forall_mem_cons.mpr ⟨qm_346, fun _ h => absurd h List.not_mem_nil⟩⟩⟩⟩
theorem uw_L : ∀ w ∈ u_ws "QuorumLog$Log" T_L 3, w ∈ qu_W := show ∀ w ∈ [u_lay "QuorumLog$Log" T_L 0, u_lay "QuorumLog$Log" T_L 1, u_lay "QuorumLog$Log" T_L 2], w ∈ qu_W from List.forall_mem_cons.mpr ⟨qm_102, List.forall_mem_cons.mpr ⟨qm_104, List.forall_mem_cons.mpr ⟨qm_106, fun _ h => absurd h List.not_mem_nil⟩⟩⟩
theorem uw_M : ∀ w ∈ u_ws "QuorumLog$Message" T_M 12, w ∈ qu_W := show ∀ w ∈ [u_lay "QuorumLog$Message" T_M 0, u_lay "QuorumLog$Message" T_M 1, u_lay "QuorumLog$Message" T_M 2, u_lay "QuorumLog$Message" T_M 3, u_lay "QuorumLog$Message" T_M 4, u_lay "QuorumLog$Message" T_M 5, u_lay "QuorumLog$Message" T_M 6, u_lay "QuorumLog$Message" T_M 7, u_lay "QuorumLog$Message" T_M 8, u_lay "QuorumLog$Message" T_M 9, u_lay "QuorumLog$Message" T_M 10, u_lay "QuorumLog$Message" T_M 11], w ∈ qu_W from List.forall_mem_cons.mpr ⟨qm_201, List.forall_mem_cons.mpr ⟨qm_203, List.forall_mem_cons.mpr ⟨qm_205, List.forall_mem_cons.mpr ⟨qm_207, List.forall_mem_cons.mpr ⟨qm_209, List.forall_mem_cons.mpr ⟨qm_211, List.forall_mem_cons.mpr ⟨qm_213, List.forall_mem_cons.mpr ⟨qm_215, List.forall_mem_cons.mpr ⟨qm_217, List.forall_mem_cons.mpr ⟨qm_219, List.forall_mem_cons.mpr ⟨qm_221, List.forall_mem_cons.mpr ⟨qm_223, fun _ h => absurd h List.not_mem_nil⟩⟩⟩⟩⟩⟩⟩⟩⟩⟩⟩⟩
theorem uw_R : ∀ w ∈ u_ws "QuorumLog$Reads" T_R 6, w ∈ qu_W := show ∀ w ∈ [u_lay "QuorumLog$Reads" T_R 0, u_lay "QuorumLog$Reads" T_R 1, u_lay "QuorumLog$Reads" T_R 2, u_lay "QuorumLog$Reads" T_R 3, u_lay "QuorumLog$Reads" T_R 4, u_lay "QuorumLog$Reads" T_R 5], w ∈ qu_W from List.forall_mem_cons.mpr ⟨qm_45, List.forall_mem_cons.mpr ⟨qm_47, List.forall_mem_cons.mpr ⟨qm_49, List.forall_mem_cons.mpr ⟨qm_51, List.forall_mem_cons.mpr ⟨qm_53, List.forall_mem_cons.mpr ⟨qm_55, fun _ h => absurd h List.not_mem_nil⟩⟩⟩⟩⟩⟩
theorem uw_W : ∀ w ∈ u_ws "QuorumLog$Row" T_W 3, w ∈ qu_W := show ∀ w ∈ [u_lay "QuorumLog$Row" T_W 0, u_lay "QuorumLog$Row" T_W 1, u_lay "QuorumLog$Row" T_W 2], w ∈ qu_W from List.forall_mem_cons.mpr ⟨qm_231, List.forall_mem_cons.mpr ⟨qm_233, List.forall_mem_cons.mpr ⟨qm_235, fun _ h => absurd h List.not_mem_nil⟩⟩⟩
theorem uw_S : ∀ w ∈ u_ws "QuorumLog$Server" T_S 13, w ∈ qu_W := show ∀ w ∈ [u_lay "QuorumLog$Server" T_S 0, u_lay "QuorumLog$Server" T_S 1, u_lay "QuorumLog$Server" T_S 2, u_lay "QuorumLog$Server" T_S 3, u_lay "QuorumLog$Server" T_S 4, u_lay "QuorumLog$Server" T_S 5, u_lay "QuorumLog$Server" T_S 6, u_lay "QuorumLog$Server" T_S 7, u_lay "QuorumLog$Server" T_S 8, u_lay "QuorumLog$Server" T_S 9, u_lay "QuorumLog$Server" T_S 10, u_lay "QuorumLog$Server" T_S 11, u_lay "QuorumLog$Server" T_S 12], w ∈ qu_W from List.forall_mem_cons.mpr ⟨qm_132, List.forall_mem_cons.mpr ⟨qm_134, List.forall_mem_cons.mpr ⟨qm_136, List.forall_mem_cons.mpr ⟨qm_138, List.forall_mem_cons.mpr ⟨qm_140, List.forall_mem_cons.mpr ⟨qm_142, List.forall_mem_cons.mpr ⟨qm_144, List.forall_mem_cons.mpr ⟨qm_146, List.forall_mem_cons.mpr ⟨qm_148, List.forall_mem_cons.mpr ⟨qm_150, List.forall_mem_cons.mpr ⟨qm_152, List.forall_mem_cons.mpr ⟨qm_154, List.forall_mem_cons.mpr ⟨qm_156, fun _ h => absurd h List.not_mem_nil⟩⟩⟩⟩⟩⟩⟩⟩⟩⟩⟩⟩⟩
theorem uw_N : ∀ w ∈ u_ws "QuorumLog$Snapshot" T_N 4, w ∈ qu_W := show ∀ w ∈ [u_lay "QuorumLog$Snapshot" T_N 0, u_lay "QuorumLog$Snapshot" T_N 1, u_lay "QuorumLog$Snapshot" T_N 2, u_lay "QuorumLog$Snapshot" T_N 3], w ∈ qu_W from List.forall_mem_cons.mpr ⟨qm_74, List.forall_mem_cons.mpr ⟨qm_76, List.forall_mem_cons.mpr ⟨qm_78, List.forall_mem_cons.mpr ⟨qm_80, fun _ h => absurd h List.not_mem_nil⟩⟩⟩⟩
theorem uw_D : ∀ w ∈ u_ws "QuorumLogModel" T_D 30, w ∈ qu_W := show ∀ w ∈ [u_lay "QuorumLogModel" T_D 0, u_lay "QuorumLogModel" T_D 1, u_lay "QuorumLogModel" T_D 2, u_lay "QuorumLogModel" T_D 3, u_lay "QuorumLogModel" T_D 4, u_lay "QuorumLogModel" T_D 5, u_lay "QuorumLogModel" T_D 6, u_lay "QuorumLogModel" T_D 7, u_lay "QuorumLogModel" T_D 8, u_lay "QuorumLogModel" T_D 9, u_lay "QuorumLogModel" T_D 10, u_lay "QuorumLogModel" T_D 11, u_lay "QuorumLogModel" T_D 12, u_lay "QuorumLogModel" T_D 13, u_lay "QuorumLogModel" T_D 14, u_lay "QuorumLogModel" T_D 15, u_lay "QuorumLogModel" T_D 16, u_lay "QuorumLogModel" T_D 17, u_lay "QuorumLogModel" T_D 18, u_lay "QuorumLogModel" T_D 19, u_lay "QuorumLogModel" T_D 20, u_lay "QuorumLogModel" T_D 21, u_lay "QuorumLogModel" T_D 22, u_lay "QuorumLogModel" T_D 23, u_lay "QuorumLogModel" T_D 24, u_lay "QuorumLogModel" T_D 25, u_lay "QuorumLogModel" T_D 26, u_lay "QuorumLogModel" T_D 27, u_lay "QuorumLogModel" T_D 28, u_lay "QuorumLogModel" T_D 29], w ∈ qu_W from List.forall_mem_cons.mpr ⟨qm_747, List.forall_mem_cons.mpr ⟨qm_749, List.forall_mem_cons.mpr ⟨qm_751, List.forall_mem_cons.mpr ⟨qm_753, List.forall_mem_cons.mpr ⟨qm_755, List.forall_mem_cons.mpr ⟨qm_757, List.forall_mem_cons.mpr ⟨qm_759, List.forall_mem_cons.mpr ⟨qm_761, List.forall_mem_cons.mpr ⟨qm_763, List.forall_mem_cons.mpr ⟨qm_765, List.forall_mem_cons.mpr ⟨qm_767, List.forall_mem_cons.mpr ⟨qm_769, List.forall_mem_cons.mpr ⟨qm_771, List.forall_mem_cons.mpr ⟨qm_773, List.forall_mem_cons.mpr ⟨qm_775, List.forall_mem_cons.mpr ⟨qm_777, List.forall_mem_cons.mpr ⟨qm_779, List.forall_mem_cons.mpr ⟨qm_781, List.forall_mem_cons.mpr ⟨qm_783, List.forall_mem_cons.mpr ⟨qm_785, List.forall_mem_cons.mpr ⟨qm_787, List.forall_mem_cons.mpr ⟨qm_789, List.forall_mem_cons.mpr ⟨qm_791, List.forall_mem_cons.mpr ⟨qm_793, List.forall_mem_cons.mpr ⟨qm_795, List.forall_mem_cons.mpr ⟨qm_797, List.forall_mem_cons.mpr ⟨qm_799, List.forall_mem_cons.mpr ⟨qm_801, List.forall_mem_cons.mpr ⟨qm_803, List.forall_mem_cons.mpr ⟨qm_805, fun _ h => absurd h List.not_mem_nil⟩⟩⟩⟩⟩⟩⟩⟩⟩⟩⟩⟩⟩⟩⟩⟩⟩⟩⟩⟩⟩⟩⟩⟩⟩⟩⟩⟩⟩⟩
theorem w_Q_init : Cond.code y_Q_init c_Q_init 5 none ∈ qu_W ∧ Cond.initialized y_Q_init.cls ∈ qu_W := ⟨qm_22, qm_1⟩
theorem p_Q_init : (parseMethodDescriptor y_Q_init.desc).map (fun d => d.parameters.length) = some 1 := by decide +kernel
theorem w_R_init : Cond.code y_R_init c_R_init 1 none ∈ qu_W ∧ Cond.initialized y_R_init.cls ∈ qu_W := ⟨qm_32, qm_2⟩
theorem p_R_init : (parseMethodDescriptor y_R_init.desc).map (fun d => d.parameters.length) = some 0 := by decide +kernel
theorem w_N_init : Cond.code y_N_init c_N_init 5 none ∈ qu_W ∧ Cond.initialized y_N_init.cls ∈ qu_W := ⟨qm_63, qm_3⟩
theorem p_N_init : (parseMethodDescriptor y_N_init.desc).map (fun d => d.parameters.length) = some 4 := by decide +kernel
theorem w_S_init : Cond.code y_S_init c_S_init 3 none ∈ qu_W ∧ Cond.initialized y_S_init.cls ∈ qu_W := ⟨qm_86, qm_4⟩
theorem p_S_init : (parseMethodDescriptor y_S_init.desc).map (fun d => d.parameters.length) = some 2 := by decide +kernel
theorem w_L_init : Cond.code y_L_init c_L_init 2 none ∈ qu_W ∧ Cond.initialized y_L_init.cls ∈ qu_W := ⟨qm_92, qm_5⟩
theorem p_L_init : (parseMethodDescriptor y_L_init.desc).map (fun d => d.parameters.length) = some 1 := by decide +kernel
theorem w_W_init : Cond.code y_W_init c_W_init 3 none ∈ qu_W ∧ Cond.initialized y_W_init.cls ∈ qu_W := ⟨qm_163, qm_6⟩
theorem p_W_init : (parseMethodDescriptor y_W_init.desc).map (fun d => d.parameters.length) = some 1 := by decide +kernel
theorem w_M_init : Cond.code y_M_init c_M_init 2 none ∈ qu_W ∧ Cond.initialized y_M_init.cls ∈ qu_W := ⟨qm_170, qm_7⟩
theorem p_M_init : (parseMethodDescriptor y_M_init.desc).map (fun d => d.parameters.length) = some 1 := by decide +kernel
theorem w_Q_timer : Cond.code y_Q_timer c_Q_timer 3 (some .boolean) ∈ qu_W ∧ Cond.initialized y_Q_timer.cls ∈ qu_W := ⟨qm_251, qm_1⟩
theorem p_Q_timer : (parseMethodDescriptor y_Q_timer.desc).map (fun d => d.parameters.length) = some 1 := by decide +kernel
theorem w_Q_isServer : Cond.code y_Q_isServer c_Q_isServer 1 (some .boolean) ∈ qu_W ∧ Cond.initialized y_Q_isServer.cls ∈ qu_W := ⟨qm_254, qm_1⟩
theorem p_Q_isServer : (parseMethodDescriptor y_Q_isServer.desc).map (fun d => d.parameters.length) = some 1 := by decide +kernel
theorem w_S_mayAsk : Cond.code y_S_mayAsk c_S_mayAsk 1 (some .boolean) ∈ qu_W ∧ Cond.initialized y_S_mayAsk.cls ∈ qu_W := ⟨qm_258, qm_4⟩
theorem p_S_mayAsk : (parseMethodDescriptor y_S_mayAsk.desc).map (fun d => d.parameters.length) = some 0 := by decide +kernel
theorem w_L_configuration : Cond.code y_L_configuration c_L_configuration 1 (some .int) ∈ qu_W ∧ Cond.initialized y_L_configuration.cls ∈ qu_W := ⟨qm_262, qm_5⟩
theorem p_L_configuration : (parseMethodDescriptor y_L_configuration.desc).map (fun d => d.parameters.length) = some 0 := by decide +kernel
theorem w_L_last : Cond.code y_L_last c_L_last 1 (some .int) ∈ qu_W ∧ Cond.initialized y_L_last.cls ∈ qu_W := ⟨qm_266, qm_5⟩
theorem p_L_last : (parseMethodDescriptor y_L_last.desc).map (fun d => d.parameters.length) = some 0 := by decide +kernel
theorem w_L_latestMembersUpTo : Cond.code y_L_latestMembersUpTo c_L_latestMembersUpTo 4 (some .int) ∈ qu_W ∧ Cond.initialized y_L_latestMembersUpTo.cls ∈ qu_W := ⟨qm_270, qm_5⟩
theorem p_L_latestMembersUpTo : (parseMethodDescriptor y_L_latestMembersUpTo.desc).map (fun d => d.parameters.length) = some 1 := by decide +kernel
theorem w_L_find : Cond.code y_L_find c_L_find 3 (some (.object "QuorumLog$Entry")) ∈ qu_W ∧ Cond.initialized y_L_find.cls ∈ qu_W := ⟨qm_274, qm_5⟩
theorem p_L_find : (parseMethodDescriptor y_L_find.desc).map (fun d => d.parameters.length) = some 1 := by decide +kernel
theorem w_L_membersAt : Cond.code y_L_membersAt c_L_membersAt 3 (some .int) ∈ qu_W ∧ Cond.initialized y_L_membersAt.cls ∈ qu_W := ⟨qm_278, qm_5⟩
theorem p_L_membersAt : (parseMethodDescriptor y_L_membersAt.desc).map (fun d => d.parameters.length) = some 1 := by decide +kernel
theorem w_Q_isIn : Cond.code y_Q_isIn c_Q_isIn 2 (some .boolean) ∈ qu_W ∧ Cond.initialized y_Q_isIn.cls ∈ qu_W := ⟨qm_281, qm_1⟩
theorem p_Q_isIn : (parseMethodDescriptor y_Q_isIn.desc).map (fun d => d.parameters.length) = some 2 := by decide +kernel
theorem w_Q_askAll : Cond.code y_Q_askAll c_Q_askAll 7 none ∈ qu_W ∧ Cond.initialized y_Q_askAll.cls ∈ qu_W := ⟨qm_285, qm_1⟩
theorem p_Q_askAll : (parseMethodDescriptor y_Q_askAll.desc).map (fun d => d.parameters.length) = some 3 := by decide +kernel
theorem w_W_send : Cond.code y_W_send c_W_send 6 (some (.object "QuorumLog$Message")) ∈ qu_W ∧ Cond.initialized y_W_send.cls ∈ qu_W := ⟨qm_291, qm_6⟩
theorem p_W_send : (parseMethodDescriptor y_W_send.desc).map (fun d => d.parameters.length) = some 4 := by decide +kernel
theorem w_M_begin : Cond.code y_M_begin c_M_begin 5 none ∈ qu_W ∧ Cond.initialized y_M_begin.cls ∈ qu_W := ⟨qm_295, qm_7⟩
theorem p_M_begin : (parseMethodDescriptor y_M_begin.desc).map (fun d => d.parameters.length) = some 4 := by decide +kernel
theorem w_L_lastTerm : Cond.code y_L_lastTerm c_L_lastTerm 1 (some .int) ∈ qu_W ∧ Cond.initialized y_L_lastTerm.cls ∈ qu_W := ⟨qm_300, qm_5⟩
theorem p_L_lastTerm : (parseMethodDescriptor y_L_lastTerm.desc).map (fun d => d.parameters.length) = some 0 := by decide +kernel
theorem w_L_termAt : Cond.code y_L_termAt c_L_termAt 3 (some .int) ∈ qu_W ∧ Cond.initialized y_L_termAt.cls ∈ qu_W := ⟨qm_304, qm_5⟩
theorem p_L_termAt : (parseMethodDescriptor y_L_termAt.desc).map (fun d => d.parameters.length) = some 1 := by decide +kernel
theorem w_Q_standIfMostSaidYes : Cond.code y_Q_standIfMostSaidYes c_Q_standIfMostSaidYes 2 none ∈ qu_W ∧ Cond.initialized y_Q_standIfMostSaidYes.cls ∈ qu_W := ⟨qm_308, qm_1⟩
theorem p_Q_standIfMostSaidYes : (parseMethodDescriptor y_Q_standIfMostSaidYes.desc).map (fun d => d.parameters.length) = some 1 := by decide +kernel
theorem w_Q_areMost : Cond.code y_Q_areMost c_Q_areMost 2 (some .boolean) ∈ qu_W ∧ Cond.initialized y_Q_areMost.cls ∈ qu_W := ⟨qm_311, qm_1⟩
theorem p_Q_areMost : (parseMethodDescriptor y_Q_areMost.desc).map (fun d => d.parameters.length) = some 2 := by decide +kernel
theorem w_Q_leadIfMostSaidYes : Cond.code y_Q_leadIfMostSaidYes c_Q_leadIfMostSaidYes 3 none ∈ qu_W ∧ Cond.initialized y_Q_leadIfMostSaidYes.cls ∈ qu_W := ⟨qm_321, qm_1⟩
theorem p_Q_leadIfMostSaidYes : (parseMethodDescriptor y_Q_leadIfMostSaidYes.desc).map (fun d => d.parameters.length) = some 1 := by decide +kernel
theorem w_E_init : Cond.code y_E_init c_E_init 5 none ∈ qu_W ∧ Cond.initialized y_E_init.cls ∈ qu_W := ⟨qm_326, qm_10⟩
theorem p_E_init : (parseMethodDescriptor y_E_init.desc).map (fun d => d.parameters.length) = some 4 := by decide +kernel
theorem w_Q_append : Cond.code y_Q_append c_Q_append 3 (some .int) ∈ qu_W ∧ Cond.initialized y_Q_append.cls ∈ qu_W := ⟨qm_352, qm_1⟩
theorem p_Q_append : (parseMethodDescriptor y_Q_append.desc).map (fun d => d.parameters.length) = some 2 := by decide +kernel
theorem w_L_add : Cond.code y_L_add c_L_add 2 (some .boolean) ∈ qu_W ∧ Cond.initialized y_L_add.cls ∈ qu_W := ⟨qm_356, qm_5⟩
theorem p_L_add : (parseMethodDescriptor y_L_add.desc).map (fun d => d.parameters.length) = some 1 := by decide +kernel
theorem w_Q_lookAtCommit : Cond.code y_Q_lookAtCommit c_Q_lookAtCommit 4 none ∈ qu_W ∧ Cond.initialized y_Q_lookAtCommit.cls ∈ qu_W := ⟨qm_360, qm_1⟩
theorem p_Q_lookAtCommit : (parseMethodDescriptor y_Q_lookAtCommit.desc).map (fun d => d.parameters.length) = some 1 := by decide +kernel
theorem w_S_holdersOf : Cond.code y_S_holdersOf c_S_holdersOf 2 (some .int) ∈ qu_W ∧ Cond.initialized y_S_holdersOf.cls ∈ qu_W := ⟨qm_365, qm_4⟩
theorem p_S_holdersOf : (parseMethodDescriptor y_S_holdersOf.desc).map (fun d => d.parameters.length) = some 1 := by decide +kernel
theorem w_S_reachedBy : Cond.code y_S_reachedBy c_S_reachedBy 5 (some .int) ∈ qu_W ∧ Cond.initialized y_S_reachedBy.cls ∈ qu_W := ⟨qm_369, qm_4⟩
theorem p_S_reachedBy : (parseMethodDescriptor y_S_reachedBy.desc).map (fun d => d.parameters.length) = some 2 := by decide +kernel
theorem w_Q_follow : Cond.code y_Q_follow c_Q_follow 2 none ∈ qu_W ∧ Cond.initialized y_Q_follow.cls ∈ qu_W := ⟨qm_374, qm_1⟩
theorem p_Q_follow : (parseMethodDescriptor y_Q_follow.desc).map (fun d => d.parameters.length) = some 1 := by decide +kernel
theorem w_R_failAllOf : Cond.code y_R_failAllOf c_R_failAllOf 3 none ∈ qu_W ∧ Cond.initialized y_R_failAllOf.cls ∈ qu_W := ⟨qm_378, qm_2⟩
theorem p_R_failAllOf : (parseMethodDescriptor y_R_failAllOf.desc).map (fun d => d.parameters.length) = some 1 := by decide +kernel
theorem w_R_isKeptBy : Cond.code y_R_isKeptBy c_R_isKeptBy 3 (some .boolean) ∈ qu_W ∧ Cond.initialized y_R_isKeptBy.cls ∈ qu_W := ⟨qm_382, qm_2⟩
theorem p_R_isKeptBy : (parseMethodDescriptor y_R_isKeptBy.desc).map (fun d => d.parameters.length) = some 2 := by decide +kernel
theorem w_Q_sendToAll : Cond.code y_Q_sendToAll c_Q_sendToAll 4 none ∈ qu_W ∧ Cond.initialized y_Q_sendToAll.cls ∈ qu_W := ⟨qm_386, qm_1⟩
theorem p_Q_sendToAll : (parseMethodDescriptor y_Q_sendToAll.desc).map (fun d => d.parameters.length) = some 1 := by decide +kernel
theorem w_Q_sendTo : Cond.code y_Q_sendTo c_Q_sendTo 6 none ∈ qu_W ∧ Cond.initialized y_Q_sendTo.cls ∈ qu_W := ⟨qm_390, qm_1⟩
theorem p_Q_sendTo : (parseMethodDescriptor y_Q_sendTo.desc).map (fun d => d.parameters.length) = some 2 := by decide +kernel
theorem w_L_copyBehind : Cond.code y_L_copyBehind c_L_copyBehind 5 (some .int) ∈ qu_W ∧ Cond.initialized y_L_copyBehind.cls ∈ qu_W := ⟨qm_394, qm_5⟩
theorem p_L_copyBehind : (parseMethodDescriptor y_L_copyBehind.desc).map (fun d => d.parameters.length) = some 2 := by decide +kernel
theorem w_Q_beat : Cond.code y_Q_beat c_Q_beat 2 (some .boolean) ∈ qu_W ∧ Cond.initialized y_Q_beat.cls ∈ qu_W := ⟨qm_398, qm_1⟩
theorem p_Q_beat : (parseMethodDescriptor y_Q_beat.desc).map (fun d => d.parameters.length) = some 1 := by decide +kernel
theorem w_S_leads : Cond.code y_S_leads c_S_leads 1 (some .boolean) ∈ qu_W ∧ Cond.initialized y_S_leads.cls ∈ qu_W := ⟨qm_402, qm_4⟩
theorem p_S_leads : (parseMethodDescriptor y_S_leads.desc).map (fun d => d.parameters.length) = some 0 := by decide +kernel
theorem w_Q_outcome : Cond.code y_Q_outcome c_Q_outcome 2 (some .int) ∈ qu_W ∧ Cond.initialized y_Q_outcome.cls ∈ qu_W := ⟨qm_406, qm_1⟩
theorem p_Q_outcome : (parseMethodDescriptor y_Q_outcome.desc).map (fun d => d.parameters.length) = some 1 := by decide +kernel
theorem w_R_holds : Cond.code y_R_holds c_R_holds 2 (some .boolean) ∈ qu_W ∧ Cond.initialized y_R_holds.cls ∈ qu_W := ⟨qm_410, qm_2⟩
theorem p_R_holds : (parseMethodDescriptor y_R_holds.desc).map (fun d => d.parameters.length) = some 1 := by decide +kernel
theorem w_Q_value : Cond.code y_Q_value c_Q_value 2 (some .int) ∈ qu_W ∧ Cond.initialized y_Q_value.cls ∈ qu_W := ⟨qm_414, qm_1⟩
theorem p_Q_value : (parseMethodDescriptor y_Q_value.desc).map (fun d => d.parameters.length) = some 1 := by decide +kernel
theorem w_Q_compact : Cond.code y_Q_compact c_Q_compact 3 (some .boolean) ∈ qu_W ∧ Cond.initialized y_Q_compact.cls ∈ qu_W := ⟨qm_418, qm_1⟩
theorem p_Q_compact : (parseMethodDescriptor y_Q_compact.desc).map (fun d => d.parameters.length) = some 1 := by decide +kernel
theorem w_L_snapshotAt : Cond.code y_L_snapshotAt c_L_snapshotAt 4 (some (.object "QuorumLog$Snapshot")) ∈ qu_W ∧ Cond.initialized y_L_snapshotAt.cls ∈ qu_W := ⟨qm_422, qm_5⟩
theorem p_L_snapshotAt : (parseMethodDescriptor y_L_snapshotAt.desc).map (fun d => d.parameters.length) = some 1 := by decide +kernel
theorem w_L_storedUpTo : Cond.code y_L_storedUpTo c_L_storedUpTo 5 (some .int) ∈ qu_W ∧ Cond.initialized y_L_storedUpTo.cls ∈ qu_W := ⟨qm_426, qm_5⟩
theorem p_L_storedUpTo : (parseMethodDescriptor y_L_storedUpTo.desc).map (fun d => d.parameters.length) = some 2 := by decide +kernel
theorem w_L_beginBehind : Cond.code y_L_beginBehind c_L_beginBehind 6 none ∈ qu_W ∧ Cond.initialized y_L_beginBehind.cls ∈ qu_W := ⟨qm_432, qm_5⟩
theorem p_L_beginBehind : (parseMethodDescriptor y_L_beginBehind.desc).map (fun d => d.parameters.length) = some 1 := by decide +kernel
theorem w_Q_crash : Cond.code y_Q_crash c_Q_crash 3 (some .boolean) ∈ qu_W ∧ Cond.initialized y_Q_crash.cls ∈ qu_W := ⟨qm_436, qm_1⟩
theorem p_Q_crash : (parseMethodDescriptor y_Q_crash.desc).map (fun d => d.parameters.length) = some 1 := by decide +kernel
theorem w_Q_restart : Cond.code y_Q_restart c_Q_restart 2 (some .boolean) ∈ qu_W ∧ Cond.initialized y_Q_restart.cls ∈ qu_W := ⟨qm_440, qm_1⟩
theorem p_Q_restart : (parseMethodDescriptor y_Q_restart.desc).map (fun d => d.parameters.length) = some 1 := by decide +kernel
theorem w_Q_deliver : Cond.code y_Q_deliver c_Q_deliver 4 (some .int) ∈ qu_W ∧ Cond.initialized y_Q_deliver.cls ∈ qu_W := ⟨qm_444, qm_1⟩
theorem p_Q_deliver : (parseMethodDescriptor y_Q_deliver.desc).map (fun d => d.parameters.length) = some 1 := by decide +kernel
theorem w_W_holds : Cond.code y_W_holds c_W_holds 2 (some .boolean) ∈ qu_W ∧ Cond.initialized y_W_holds.cls ∈ qu_W := ⟨qm_448, qm_6⟩
theorem p_W_holds : (parseMethodDescriptor y_W_holds.desc).map (fun d => d.parameters.length) = some 1 := by decide +kernel
theorem w_W_take : Cond.code y_W_take c_W_take 4 (some (.object "QuorumLog$Message")) ∈ qu_W ∧ Cond.initialized y_W_take.cls ∈ qu_W := ⟨qm_452, qm_6⟩
theorem p_W_take : (parseMethodDescriptor y_W_take.desc).map (fun d => d.parameters.length) = some 1 := by decide +kernel
theorem w_Q_come : Cond.code y_Q_come c_Q_come 3 none ∈ qu_W ∧ Cond.initialized y_Q_come.cls ∈ qu_W := ⟨qm_456, qm_1⟩
theorem p_Q_come : (parseMethodDescriptor y_Q_come.desc).map (fun d => d.parameters.length) = some 2 := by decide +kernel
theorem w_Q_enterTerm : Cond.code y_Q_enterTerm c_Q_enterTerm 3 none ∈ qu_W ∧ Cond.initialized y_Q_enterTerm.cls ∈ qu_W := ⟨qm_460, qm_1⟩
theorem p_Q_enterTerm : (parseMethodDescriptor y_Q_enterTerm.desc).map (fun d => d.parameters.length) = some 2 := by decide +kernel
theorem w_Q_questionComes : Cond.code y_Q_questionComes c_Q_questionComes 5 none ∈ qu_W ∧ Cond.initialized y_Q_questionComes.cls ∈ qu_W := ⟨qm_464, qm_1⟩
theorem p_Q_questionComes : (parseMethodDescriptor y_Q_questionComes.desc).map (fun d => d.parameters.length) = some 2 := by decide +kernel
theorem w_L_isBehindOf : Cond.code y_L_isBehindOf c_L_isBehindOf 3 (some .boolean) ∈ qu_W ∧ Cond.initialized y_L_isBehindOf.cls ∈ qu_W := ⟨qm_468, qm_5⟩
theorem p_L_isBehindOf : (parseMethodDescriptor y_L_isBehindOf.desc).map (fun d => d.parameters.length) = some 1 := by decide +kernel
theorem w_Q_answerComes : Cond.code y_Q_answerComes c_Q_answerComes 3 none ∈ qu_W ∧ Cond.initialized y_Q_answerComes.cls ∈ qu_W := ⟨qm_473, qm_1⟩
theorem p_Q_answerComes : (parseMethodDescriptor y_Q_answerComes.desc).map (fun d => d.parameters.length) = some 2 := by decide +kernel
theorem w_Q_callComes : Cond.code y_Q_callComes c_Q_callComes 6 none ∈ qu_W ∧ Cond.initialized y_Q_callComes.cls ∈ qu_W := ⟨qm_477, qm_1⟩
theorem p_Q_callComes : (parseMethodDescriptor y_Q_callComes.desc).map (fun d => d.parameters.length) = some 2 := by decide +kernel
theorem w_Q_voteComes : Cond.code y_Q_voteComes c_Q_voteComes 3 none ∈ qu_W ∧ Cond.initialized y_Q_voteComes.cls ∈ qu_W := ⟨qm_481, qm_1⟩
theorem p_Q_voteComes : (parseMethodDescriptor y_Q_voteComes.desc).map (fun d => d.parameters.length) = some 2 := by decide +kernel
theorem w_Q_appendComes : Cond.code y_Q_appendComes c_Q_appendComes 4 none ∈ qu_W ∧ Cond.initialized y_Q_appendComes.cls ∈ qu_W := ⟨qm_485, qm_1⟩
theorem p_Q_appendComes : (parseMethodDescriptor y_Q_appendComes.desc).map (fun d => d.parameters.length) = some 2 := by decide +kernel
theorem w_Q_sendResult : Cond.code y_Q_sendResult c_Q_sendResult 7 none ∈ qu_W ∧ Cond.initialized y_Q_sendResult.cls ∈ qu_W := ⟨qm_489, qm_1⟩
theorem p_Q_sendResult : (parseMethodDescriptor y_Q_sendResult.desc).map (fun d => d.parameters.length) = some 5 := by decide +kernel
theorem w_L_fitsBehind : Cond.code y_L_fitsBehind c_L_fitsBehind 3 (some .boolean) ∈ qu_W ∧ Cond.initialized y_L_fitsBehind.cls ∈ qu_W := ⟨qm_493, qm_5⟩
theorem p_L_fitsBehind : (parseMethodDescriptor y_L_fitsBehind.desc).map (fun d => d.parameters.length) = some 2 := by decide +kernel
theorem w_L_takeOver : Cond.code y_L_takeOver c_L_takeOver 4 (some .int) ∈ qu_W ∧ Cond.initialized y_L_takeOver.cls ∈ qu_W := ⟨qm_503, qm_5⟩
theorem p_L_takeOver : (parseMethodDescriptor y_L_takeOver.desc).map (fun d => d.parameters.length) = some 1 := by decide +kernel
theorem w_L_hasOrTakes : Cond.code y_L_hasOrTakes c_L_hasOrTakes 3 (some .boolean) ∈ qu_W ∧ Cond.initialized y_L_hasOrTakes.cls ∈ qu_W := ⟨qm_507, qm_5⟩
theorem p_L_hasOrTakes : (parseMethodDescriptor y_L_hasOrTakes.desc).map (fun d => d.parameters.length) = some 2 := by decide +kernel
theorem w_L_cutFrom : Cond.code y_L_cutFrom c_L_cutFrom 3 none ∈ qu_W ∧ Cond.initialized y_L_cutFrom.cls ∈ qu_W := ⟨qm_511, qm_5⟩
theorem p_L_cutFrom : (parseMethodDescriptor y_L_cutFrom.desc).map (fun d => d.parameters.length) = some 1 := by decide +kernel
theorem w_Q_resultComes : Cond.code y_Q_resultComes c_Q_resultComes 5 none ∈ qu_W ∧ Cond.initialized y_Q_resultComes.cls ∈ qu_W := ⟨qm_516, qm_1⟩
theorem p_Q_resultComes : (parseMethodDescriptor y_Q_resultComes.desc).map (fun d => d.parameters.length) = some 2 := by decide +kernel
theorem w_Q_lookAtReads : Cond.code y_Q_lookAtReads c_Q_lookAtReads 4 none ∈ qu_W ∧ Cond.initialized y_Q_lookAtReads.cls ∈ qu_W := ⟨qm_520, qm_1⟩
theorem p_Q_lookAtReads : (parseMethodDescriptor y_Q_lookAtReads.desc).map (fun d => d.parameters.length) = some 1 := by decide +kernel
theorem w_S_confirmersOf : Cond.code y_S_confirmersOf c_S_confirmersOf 2 (some .int) ∈ qu_W ∧ Cond.initialized y_S_confirmersOf.cls ∈ qu_W := ⟨qm_525, qm_4⟩
theorem p_S_confirmersOf : (parseMethodDescriptor y_S_confirmersOf.desc).map (fun d => d.parameters.length) = some 1 := by decide +kernel
theorem w_S_storedNow : Cond.code y_S_storedNow c_S_storedNow 2 (some .int) ∈ qu_W ∧ Cond.initialized y_S_storedNow.cls ∈ qu_W := ⟨qm_529, qm_4⟩
theorem p_S_storedNow : (parseMethodDescriptor y_S_storedNow.desc).map (fun d => d.parameters.length) = some 1 := by decide +kernel
theorem w_Q_installComes : Cond.code y_Q_installComes c_Q_installComes 3 none ∈ qu_W ∧ Cond.initialized y_Q_installComes.cls ∈ qu_W := ⟨qm_534, qm_1⟩
theorem p_Q_installComes : (parseMethodDescriptor y_Q_installComes.desc).map (fun d => d.parameters.length) = some 2 := by decide +kernel
theorem w_Q_lose : Cond.code y_Q_lose c_Q_lose 2 (some .boolean) ∈ qu_W ∧ Cond.initialized y_Q_lose.cls ∈ qu_W := ⟨qm_538, qm_1⟩
theorem p_Q_lose : (parseMethodDescriptor y_Q_lose.desc).map (fun d => d.parameters.length) = some 1 := by decide +kernel
theorem w_Q_waiting : Cond.code y_Q_waiting c_Q_waiting 1 (some .int) ∈ qu_W ∧ Cond.initialized y_Q_waiting.cls ∈ qu_W := ⟨qm_542, qm_1⟩
theorem p_Q_waiting : (parseMethodDescriptor y_Q_waiting.desc).map (fun d => d.parameters.length) = some 0 := by decide +kernel
theorem w_Q_message : Cond.code y_Q_message c_Q_message 4 (some .int) ∈ qu_W ∧ Cond.initialized y_Q_message.cls ∈ qu_W := ⟨qm_546, qm_1⟩
theorem p_Q_message : (parseMethodDescriptor y_Q_message.desc).map (fun d => d.parameters.length) = some 2 := by decide +kernel
theorem w_Q_state : Cond.code y_Q_state c_Q_state 4 (some .int) ∈ qu_W ∧ Cond.initialized y_Q_state.cls ∈ qu_W := ⟨qm_550, qm_1⟩
theorem p_Q_state : (parseMethodDescriptor y_Q_state.desc).map (fun d => d.parameters.length) = some 2 := by decide +kernel
theorem w_Q_entry : Cond.code y_Q_entry c_Q_entry 5 (some .int) ∈ qu_W ∧ Cond.initialized y_Q_entry.cls ∈ qu_W := ⟨qm_554, qm_1⟩
theorem p_Q_entry : (parseMethodDescriptor y_Q_entry.desc).map (fun d => d.parameters.length) = some 3 := by decide +kernel
theorem w_Q_stored : Cond.code y_Q_stored c_Q_stored 3 (some .int) ∈ qu_W ∧ Cond.initialized y_Q_stored.cls ∈ qu_W := ⟨qm_559, qm_1⟩
theorem p_Q_stored : (parseMethodDescriptor y_Q_stored.desc).map (fun d => d.parameters.length) = some 2 := by decide +kernel
theorem w_Q_isKey : Cond.code y_Q_isKey c_Q_isKey 1 (some .boolean) ∈ qu_W ∧ Cond.initialized y_Q_isKey.cls ∈ qu_W := ⟨qm_562, qm_1⟩
theorem p_Q_isKey : (parseMethodDescriptor y_Q_isKey.desc).map (fun d => d.parameters.length) = some 1 := by decide +kernel
theorem w_Z_cell : Cond.code y_Z_cell c_Z_cell 2 (some .int) ∈ qu_W ∧ Cond.initialized y_Z_cell.cls ∈ qu_W := ⟨qm_565, qm_0⟩
theorem p_Z_cell : (parseMethodDescriptor y_Z_cell.desc).map (fun d => d.parameters.length) = some 2 := by decide +kernel
theorem w_Q_put : Cond.code y_Q_put c_Q_put 5 (some .int) ∈ qu_W ∧ Cond.initialized y_Q_put.cls ∈ qu_W := ⟨qm_575, qm_1⟩
theorem p_Q_put : (parseMethodDescriptor y_Q_put.desc).map (fun d => d.parameters.length) = some 3 := by decide +kernel
theorem w_Q_leaderFor : Cond.code y_Q_leaderFor c_Q_leaderFor 3 (some (.object "QuorumLog$Server")) ∈ qu_W ∧ Cond.initialized y_Q_leaderFor.cls ∈ qu_W := ⟨qm_579, qm_1⟩
theorem p_Q_leaderFor : (parseMethodDescriptor y_Q_leaderFor.desc).map (fun d => d.parameters.length) = some 2 := by decide +kernel
theorem w_Q_change : Cond.code y_Q_change c_Q_change 8 (some .int) ∈ qu_W ∧ Cond.initialized y_Q_change.cls ∈ qu_W := ⟨qm_686, qm_1⟩
theorem p_Q_change : (parseMethodDescriptor y_Q_change.desc).map (fun d => d.parameters.length) = some 3 := by decide +kernel
theorem w_S_hasCommitOfItsTerm : Cond.code y_S_hasCommitOfItsTerm c_S_hasCommitOfItsTerm 1 (some .boolean) ∈ qu_W ∧ Cond.initialized y_S_hasCommitOfItsTerm.cls ∈ qu_W := ⟨qm_692, qm_4⟩
theorem p_S_hasCommitOfItsTerm : (parseMethodDescriptor y_S_hasCommitOfItsTerm.desc).map (fun d => d.parameters.length) = some 0 := by decide +kernel
theorem w_Q_read : Cond.code y_Q_read c_Q_read 5 (some .int) ∈ qu_W ∧ Cond.initialized y_Q_read.cls ∈ qu_W := ⟨qm_701, qm_1⟩
theorem p_Q_read : (parseMethodDescriptor y_Q_read.desc).map (fun d => d.parameters.length) = some 2 := by decide +kernel
theorem w_R_keptBy : Cond.code y_R_keptBy c_R_keptBy 4 (some .int) ∈ qu_W ∧ Cond.initialized y_R_keptBy.cls ∈ qu_W := ⟨qm_705, qm_2⟩
theorem p_R_keptBy : (parseMethodDescriptor y_R_keptBy.desc).map (fun d => d.parameters.length) = some 1 := by decide +kernel
theorem w_R_keep : Cond.code y_R_keep c_R_keep 5 (some .int) ∈ qu_W ∧ Cond.initialized y_R_keep.cls ∈ qu_W := ⟨qm_710, qm_2⟩
theorem p_R_keep : (parseMethodDescriptor y_R_keep.desc).map (fun d => d.parameters.length) = some 3 := by decide +kernel
theorem w_D_init : Cond.code y_D_init c_D_init 3 none ∈ qu_W ∧ Cond.initialized y_D_init.cls ∈ qu_W := ⟨qm_715, qm_8⟩
theorem p_D_init : (parseMethodDescriptor y_D_init.desc).map (fun d => d.parameters.length) = some 1 := by decide +kernel
theorem w_D_thrown : Cond.code y_D_thrown c_D_thrown 1 (some .int) ∈ qu_W ∧ Cond.initialized y_D_thrown.cls ∈ qu_W := ⟨qm_812, qm_8⟩
theorem p_D_thrown : (parseMethodDescriptor y_D_thrown.desc).map (fun d => d.parameters.length) = some 0 := by decide +kernel
theorem w_D_timer : Cond.code y_D_timer c_D_timer 2 (some .boolean) ∈ qu_W ∧ Cond.initialized y_D_timer.cls ∈ qu_W := ⟨qm_816, qm_8⟩
theorem p_D_timer : (parseMethodDescriptor y_D_timer.desc).map (fun d => d.parameters.length) = some 1 := by decide +kernel
theorem w_D_isServer : Cond.code y_D_isServer c_D_isServer 1 (some .boolean) ∈ qu_W ∧ Cond.initialized y_D_isServer.cls ∈ qu_W := ⟨qm_819, qm_8⟩
theorem p_D_isServer : (parseMethodDescriptor y_D_isServer.desc).map (fun d => d.parameters.length) = some 1 := by decide +kernel
theorem w_D_isMine : Cond.code y_D_isMine c_D_isMine 2 (some .boolean) ∈ qu_W ∧ Cond.initialized y_D_isMine.cls ∈ qu_W := ⟨qm_823, qm_8⟩
theorem p_D_isMine : (parseMethodDescriptor y_D_isMine.desc).map (fun d => d.parameters.length) = some 1 := by decide +kernel
theorem w_D_config : Cond.code y_D_config c_D_config 2 (some .int) ∈ qu_W ∧ Cond.initialized y_D_config.cls ∈ qu_W := ⟨qm_827, qm_8⟩
theorem p_D_config : (parseMethodDescriptor y_D_config.desc).map (fun d => d.parameters.length) = some 1 := by decide +kernel
theorem w_D_last : Cond.code y_D_last c_D_last 2 (some .int) ∈ qu_W ∧ Cond.initialized y_D_last.cls ∈ qu_W := ⟨qm_831, qm_8⟩
theorem p_D_last : (parseMethodDescriptor y_D_last.desc).map (fun d => d.parameters.length) = some 1 := by decide +kernel
theorem w_D_membersAt : Cond.code y_D_membersAt c_D_membersAt 4 (some .int) ∈ qu_W ∧ Cond.initialized y_D_membersAt.cls ∈ qu_W := ⟨qm_835, qm_8⟩
theorem p_D_membersAt : (parseMethodDescriptor y_D_membersAt.desc).map (fun d => d.parameters.length) = some 2 := by decide +kernel
theorem w_D_latestMembers : Cond.code y_D_latestMembers c_D_latestMembers 5 (some .int) ∈ qu_W ∧ Cond.initialized y_D_latestMembers.cls ∈ qu_W := ⟨qm_839, qm_8⟩
theorem p_D_latestMembers : (parseMethodDescriptor y_D_latestMembers.desc).map (fun d => d.parameters.length) = some 2 := by decide +kernel
theorem w_D_cell : Cond.code y_D_cell c_D_cell 3 (some .int) ∈ qu_W ∧ Cond.initialized y_D_cell.cls ∈ qu_W := ⟨qm_843, qm_8⟩
theorem p_D_cell : (parseMethodDescriptor y_D_cell.desc).map (fun d => d.parameters.length) = some 2 := by decide +kernel
theorem w_D_askAll : Cond.code y_D_askAll c_D_askAll 6 none ∈ qu_W ∧ Cond.initialized y_D_askAll.cls ∈ qu_W := ⟨qm_847, qm_8⟩
theorem p_D_askAll : (parseMethodDescriptor y_D_askAll.desc).map (fun d => d.parameters.length) = some 3 := by decide +kernel
theorem w_D_begin : Cond.code y_D_begin c_D_begin 6 none ∈ qu_W ∧ Cond.initialized y_D_begin.cls ∈ qu_W := ⟨qm_851, qm_8⟩
theorem p_D_begin : (parseMethodDescriptor y_D_begin.desc).map (fun d => d.parameters.length) = some 4 := by decide +kernel
theorem w_D_lastTerm : Cond.code y_D_lastTerm c_D_lastTerm 2 (some .int) ∈ qu_W ∧ Cond.initialized y_D_lastTerm.cls ∈ qu_W := ⟨qm_855, qm_8⟩
theorem p_D_lastTerm : (parseMethodDescriptor y_D_lastTerm.desc).map (fun d => d.parameters.length) = some 1 := by decide +kernel
theorem w_D_termAt : Cond.code y_D_termAt c_D_termAt 4 (some .int) ∈ qu_W ∧ Cond.initialized y_D_termAt.cls ∈ qu_W := ⟨qm_859, qm_8⟩
theorem p_D_termAt : (parseMethodDescriptor y_D_termAt.desc).map (fun d => d.parameters.length) = some 2 := by decide +kernel
theorem w_D_post : Cond.code y_D_post c_D_post 2 none ∈ qu_W ∧ Cond.initialized y_D_post.cls ∈ qu_W := ⟨qm_863, qm_8⟩
theorem p_D_post : (parseMethodDescriptor y_D_post.desc).map (fun d => d.parameters.length) = some 0 := by decide +kernel
theorem w_D_weigh : Cond.code y_D_weigh c_D_weigh 2 none ∈ qu_W ∧ Cond.initialized y_D_weigh.cls ∈ qu_W := ⟨qm_867, qm_8⟩
theorem p_D_weigh : (parseMethodDescriptor y_D_weigh.desc).map (fun d => d.parameters.length) = some 1 := by decide +kernel
theorem w_D_most : Cond.code y_D_most c_D_most 4 (some .boolean) ∈ qu_W ∧ Cond.initialized y_D_most.cls ∈ qu_W := ⟨qm_871, qm_8⟩
theorem p_D_most : (parseMethodDescriptor y_D_most.desc).map (fun d => d.parameters.length) = some 2 := by decide +kernel
theorem w_D_count : Cond.code y_D_count c_D_count 3 (some .int) ∈ qu_W ∧ Cond.initialized y_D_count.cls ∈ qu_W := ⟨qm_874, qm_8⟩
theorem p_D_count : (parseMethodDescriptor y_D_count.desc).map (fun d => d.parameters.length) = some 1 := by decide +kernel
theorem w_D_lead : Cond.code y_D_lead c_D_lead 3 none ∈ qu_W ∧ Cond.initialized y_D_lead.cls ∈ qu_W := ⟨qm_878, qm_8⟩
theorem p_D_lead : (parseMethodDescriptor y_D_lead.desc).map (fun d => d.parameters.length) = some 1 := by decide +kernel
theorem w_D_append : Cond.code y_D_append c_D_append 6 (some .int) ∈ qu_W ∧ Cond.initialized y_D_append.cls ∈ qu_W := ⟨qm_882, qm_8⟩
theorem p_D_append : (parseMethodDescriptor y_D_append.desc).map (fun d => d.parameters.length) = some 4 := by decide +kernel
theorem w_D_push : Cond.code y_D_push c_D_push 7 none ∈ qu_W ∧ Cond.initialized y_D_push.cls ∈ qu_W := ⟨qm_886, qm_8⟩
theorem p_D_push : (parseMethodDescriptor y_D_push.desc).map (fun d => d.parameters.length) = some 5 := by decide +kernel
theorem w_D_lookAtCommit : Cond.code y_D_lookAtCommit c_D_lookAtCommit 4 none ∈ qu_W ∧ Cond.initialized y_D_lookAtCommit.cls ∈ qu_W := ⟨qm_890, qm_8⟩
theorem p_D_lookAtCommit : (parseMethodDescriptor y_D_lookAtCommit.desc).map (fun d => d.parameters.length) = some 1 := by decide +kernel
theorem w_D_having : Cond.code y_D_having c_D_having 5 (some .int) ∈ qu_W ∧ Cond.initialized y_D_having.cls ∈ qu_W := ⟨qm_894, qm_8⟩
theorem p_D_having : (parseMethodDescriptor y_D_having.desc).map (fun d => d.parameters.length) = some 2 := by decide +kernel
theorem w_D_follow : Cond.code y_D_follow c_D_follow 4 none ∈ qu_W ∧ Cond.initialized y_D_follow.cls ∈ qu_W := ⟨qm_898, qm_8⟩
theorem p_D_follow : (parseMethodDescriptor y_D_follow.desc).map (fun d => d.parameters.length) = some 1 := by decide +kernel
theorem w_D_sendAll : Cond.code y_D_sendAll c_D_sendAll 4 none ∈ qu_W ∧ Cond.initialized y_D_sendAll.cls ∈ qu_W := ⟨qm_902, qm_8⟩
theorem p_D_sendAll : (parseMethodDescriptor y_D_sendAll.desc).map (fun d => d.parameters.length) = some 1 := by decide +kernel
theorem w_D_sendTo : Cond.code y_D_sendTo c_D_sendTo 8 none ∈ qu_W ∧ Cond.initialized y_D_sendTo.cls ∈ qu_W := ⟨qm_906, qm_8⟩
theorem p_D_sendTo : (parseMethodDescriptor y_D_sendTo.desc).map (fun d => d.parameters.length) = some 2 := by decide +kernel
theorem w_D_beat : Cond.code y_D_beat c_D_beat 2 (some .boolean) ∈ qu_W ∧ Cond.initialized y_D_beat.cls ∈ qu_W := ⟨qm_910, qm_8⟩
theorem p_D_beat : (parseMethodDescriptor y_D_beat.desc).map (fun d => d.parameters.length) = some 1 := by decide +kernel
theorem w_D_leads : Cond.code y_D_leads c_D_leads 2 (some .boolean) ∈ qu_W ∧ Cond.initialized y_D_leads.cls ∈ qu_W := ⟨qm_914, qm_8⟩
theorem p_D_leads : (parseMethodDescriptor y_D_leads.desc).map (fun d => d.parameters.length) = some 1 := by decide +kernel
theorem w_D_put : Cond.code y_D_put c_D_put 4 (some .int) ∈ qu_W ∧ Cond.initialized y_D_put.cls ∈ qu_W := ⟨qm_918, qm_8⟩
theorem p_D_put : (parseMethodDescriptor y_D_put.desc).map (fun d => d.parameters.length) = some 3 := by decide +kernel
theorem w_D_isKey : Cond.code y_D_isKey c_D_isKey 1 (some .boolean) ∈ qu_W ∧ Cond.initialized y_D_isKey.cls ∈ qu_W := ⟨qm_921, qm_8⟩
theorem p_D_isKey : (parseMethodDescriptor y_D_isKey.desc).map (fun d => d.parameters.length) = some 1 := by decide +kernel
theorem w_D_fail : Cond.code y_D_fail c_D_fail 2 (some .int) ∈ qu_W ∧ Cond.initialized y_D_fail.cls ∈ qu_W := ⟨qm_925, qm_8⟩
theorem p_D_fail : (parseMethodDescriptor y_D_fail.desc).map (fun d => d.parameters.length) = some 1 := by decide +kernel
theorem w_D_change : Cond.code y_D_change c_D_change 6 (some .int) ∈ qu_W ∧ Cond.initialized y_D_change.cls ∈ qu_W := ⟨qm_929, qm_8⟩
theorem p_D_change : (parseMethodDescriptor y_D_change.desc).map (fun d => d.parameters.length) = some 3 := by decide +kernel
theorem w_D_isOld : Cond.code y_D_isOld c_D_isOld 2 (some .boolean) ∈ qu_W ∧ Cond.initialized y_D_isOld.cls ∈ qu_W := ⟨qm_933, qm_8⟩
theorem p_D_isOld : (parseMethodDescriptor y_D_isOld.desc).map (fun d => d.parameters.length) = some 1 := by decide +kernel
theorem w_D_read : Cond.code y_D_read c_D_read 5 (some .int) ∈ qu_W ∧ Cond.initialized y_D_read.cls ∈ qu_W := ⟨qm_937, qm_8⟩
theorem p_D_read : (parseMethodDescriptor y_D_read.desc).map (fun d => d.parameters.length) = some 2 := by decide +kernel
theorem w_D_lookAtReads : Cond.code y_D_lookAtReads c_D_lookAtReads 5 none ∈ qu_W ∧ Cond.initialized y_D_lookAtReads.cls ∈ qu_W := ⟨qm_941, qm_8⟩
theorem p_D_lookAtReads : (parseMethodDescriptor y_D_lookAtReads.desc).map (fun d => d.parameters.length) = some 1 := by decide +kernel
theorem w_D_valueAt : Cond.code y_D_valueAt c_D_valueAt 7 (some .int) ∈ qu_W ∧ Cond.initialized y_D_valueAt.cls ∈ qu_W := ⟨qm_945, qm_8⟩
theorem p_D_valueAt : (parseMethodDescriptor y_D_valueAt.desc).map (fun d => d.parameters.length) = some 3 := by decide +kernel
theorem w_D_outcome : Cond.code y_D_outcome c_D_outcome 2 (some .int) ∈ qu_W ∧ Cond.initialized y_D_outcome.cls ∈ qu_W := ⟨qm_949, qm_8⟩
theorem p_D_outcome : (parseMethodDescriptor y_D_outcome.desc).map (fun d => d.parameters.length) = some 1 := by decide +kernel
theorem w_D_value : Cond.code y_D_value c_D_value 2 (some .int) ∈ qu_W ∧ Cond.initialized y_D_value.cls ∈ qu_W := ⟨qm_953, qm_8⟩
theorem p_D_value : (parseMethodDescriptor y_D_value.desc).map (fun d => d.parameters.length) = some 1 := by decide +kernel
theorem w_D_compact : Cond.code y_D_compact c_D_compact 7 (some .boolean) ∈ qu_W ∧ Cond.initialized y_D_compact.cls ∈ qu_W := ⟨qm_957, qm_8⟩
theorem p_D_compact : (parseMethodDescriptor y_D_compact.desc).map (fun d => d.parameters.length) = some 1 := by decide +kernel
theorem w_D_shift : Cond.code y_D_shift c_D_shift 6 none ∈ qu_W ∧ Cond.initialized y_D_shift.cls ∈ qu_W := ⟨qm_961, qm_8⟩
theorem p_D_shift : (parseMethodDescriptor y_D_shift.desc).map (fun d => d.parameters.length) = some 2 := by decide +kernel
theorem w_D_crash : Cond.code y_D_crash c_D_crash 2 (some .boolean) ∈ qu_W ∧ Cond.initialized y_D_crash.cls ∈ qu_W := ⟨qm_965, qm_8⟩
theorem p_D_crash : (parseMethodDescriptor y_D_crash.desc).map (fun d => d.parameters.length) = some 1 := by decide +kernel
theorem w_D_restart : Cond.code y_D_restart c_D_restart 2 (some .boolean) ∈ qu_W ∧ Cond.initialized y_D_restart.cls ∈ qu_W := ⟨qm_969, qm_8⟩
theorem p_D_restart : (parseMethodDescriptor y_D_restart.desc).map (fun d => d.parameters.length) = some 1 := by decide +kernel
theorem w_D_deliver : Cond.code y_D_deliver c_D_deliver 4 (some .int) ∈ qu_W ∧ Cond.initialized y_D_deliver.cls ∈ qu_W := ⟨qm_973, qm_8⟩
theorem p_D_deliver : (parseMethodDescriptor y_D_deliver.desc).map (fun d => d.parameters.length) = some 1 := by decide +kernel
theorem w_D_takeOut : Cond.code y_D_takeOut c_D_takeOut 3 none ∈ qu_W ∧ Cond.initialized y_D_takeOut.cls ∈ qu_W := ⟨qm_977, qm_8⟩
theorem p_D_takeOut : (parseMethodDescriptor y_D_takeOut.desc).map (fun d => d.parameters.length) = some 1 := by decide +kernel
theorem w_D_newTerm : Cond.code y_D_newTerm c_D_newTerm 3 none ∈ qu_W ∧ Cond.initialized y_D_newTerm.cls ∈ qu_W := ⟨qm_981, qm_8⟩
theorem p_D_newTerm : (parseMethodDescriptor y_D_newTerm.desc).map (fun d => d.parameters.length) = some 2 := by decide +kernel
theorem w_D_question : Cond.code y_D_question c_D_question 5 none ∈ qu_W ∧ Cond.initialized y_D_question.cls ∈ qu_W := ⟨qm_985, qm_8⟩
theorem p_D_question : (parseMethodDescriptor y_D_question.desc).map (fun d => d.parameters.length) = some 3 := by decide +kernel
theorem w_D_liesBefore : Cond.code y_D_liesBefore c_D_liesBefore 4 (some .boolean) ∈ qu_W ∧ Cond.initialized y_D_liesBefore.cls ∈ qu_W := ⟨qm_989, qm_8⟩
theorem p_D_liesBefore : (parseMethodDescriptor y_D_liesBefore.desc).map (fun d => d.parameters.length) = some 3 := by decide +kernel
theorem w_D_reply : Cond.code y_D_reply c_D_reply 6 none ∈ qu_W ∧ Cond.initialized y_D_reply.cls ∈ qu_W := ⟨qm_993, qm_8⟩
theorem p_D_reply : (parseMethodDescriptor y_D_reply.desc).map (fun d => d.parameters.length) = some 5 := by decide +kernel
theorem w_D_answered : Cond.code y_D_answered c_D_answered 4 none ∈ qu_W ∧ Cond.initialized y_D_answered.cls ∈ qu_W := ⟨qm_997, qm_8⟩
theorem p_D_answered : (parseMethodDescriptor y_D_answered.desc).map (fun d => d.parameters.length) = some 3 := by decide +kernel
theorem w_D_called : Cond.code y_D_called c_D_called 5 none ∈ qu_W ∧ Cond.initialized y_D_called.cls ∈ qu_W := ⟨qm_1001, qm_8⟩
theorem p_D_called : (parseMethodDescriptor y_D_called.desc).map (fun d => d.parameters.length) = some 3 := by decide +kernel
theorem w_D_voted : Cond.code y_D_voted c_D_voted 4 none ∈ qu_W ∧ Cond.initialized y_D_voted.cls ∈ qu_W := ⟨qm_1005, qm_8⟩
theorem p_D_voted : (parseMethodDescriptor y_D_voted.desc).map (fun d => d.parameters.length) = some 3 := by decide +kernel
theorem w_D_appended : Cond.code y_D_appended c_D_appended 7 none ∈ qu_W ∧ Cond.initialized y_D_appended.cls ∈ qu_W := ⟨qm_1009, qm_8⟩
theorem p_D_appended : (parseMethodDescriptor y_D_appended.desc).map (fun d => d.parameters.length) = some 2 := by decide +kernel
theorem w_D_result : Cond.code y_D_result c_D_result 6 none ∈ qu_W ∧ Cond.initialized y_D_result.cls ∈ qu_W := ⟨qm_1013, qm_8⟩
theorem p_D_result : (parseMethodDescriptor y_D_result.desc).map (fun d => d.parameters.length) = some 5 := by decide +kernel
theorem w_D_takeEntry : Cond.code y_D_takeEntry c_D_takeEntry 4 (some .boolean) ∈ qu_W ∧ Cond.initialized y_D_takeEntry.cls ∈ qu_W := ⟨qm_1017, qm_8⟩
theorem p_D_takeEntry : (parseMethodDescriptor y_D_takeEntry.desc).map (fun d => d.parameters.length) = some 3 := by decide +kernel
theorem w_D_resulted : Cond.code y_D_resulted c_D_resulted 7 none ∈ qu_W ∧ Cond.initialized y_D_resulted.cls ∈ qu_W := ⟨qm_1021, qm_8⟩
theorem p_D_resulted : (parseMethodDescriptor y_D_resulted.desc).map (fun d => d.parameters.length) = some 2 := by decide +kernel
theorem w_D_installed : Cond.code y_D_installed c_D_installed 5 none ∈ qu_W ∧ Cond.initialized y_D_installed.cls ∈ qu_W := ⟨qm_1025, qm_8⟩
theorem p_D_installed : (parseMethodDescriptor y_D_installed.desc).map (fun d => d.parameters.length) = some 2 := by decide +kernel
theorem w_D_lose : Cond.code y_D_lose c_D_lose 2 (some .boolean) ∈ qu_W ∧ Cond.initialized y_D_lose.cls ∈ qu_W := ⟨qm_1029, qm_8⟩
theorem p_D_lose : (parseMethodDescriptor y_D_lose.desc).map (fun d => d.parameters.length) = some 1 := by decide +kernel
theorem w_D_waiting : Cond.code y_D_waiting c_D_waiting 1 (some .int) ∈ qu_W ∧ Cond.initialized y_D_waiting.cls ∈ qu_W := ⟨qm_1033, qm_8⟩
theorem p_D_waiting : (parseMethodDescriptor y_D_waiting.desc).map (fun d => d.parameters.length) = some 0 := by decide +kernel
theorem w_D_message : Cond.code y_D_message c_D_message 4 (some .int) ∈ qu_W ∧ Cond.initialized y_D_message.cls ∈ qu_W := ⟨qm_1037, qm_8⟩
theorem p_D_message : (parseMethodDescriptor y_D_message.desc).map (fun d => d.parameters.length) = some 2 := by decide +kernel
theorem w_D_state : Cond.code y_D_state c_D_state 3 (some .int) ∈ qu_W ∧ Cond.initialized y_D_state.cls ∈ qu_W := ⟨qm_1041, qm_8⟩
theorem p_D_state : (parseMethodDescriptor y_D_state.desc).map (fun d => d.parameters.length) = some 2 := by decide +kernel
theorem w_D_entry : Cond.code y_D_entry c_D_entry 5 (some .int) ∈ qu_W ∧ Cond.initialized y_D_entry.cls ∈ qu_W := ⟨qm_1045, qm_8⟩
theorem p_D_entry : (parseMethodDescriptor y_D_entry.desc).map (fun d => d.parameters.length) = some 3 := by decide +kernel
theorem w_D_stored : Cond.code y_D_stored c_D_stored 3 (some .int) ∈ qu_W ∧ Cond.initialized y_D_stored.cls ∈ qu_W := ⟨qm_1049, qm_8⟩
theorem p_D_stored : (parseMethodDescriptor y_D_stored.desc).map (fun d => d.parameters.length) = some 2 := by decide +kernel
theorem w_I_bitCount : Cond.code y_I_bitCount c_I_bitCount 1 (some .int) ∈ qu_W ∧ Cond.initialized y_I_bitCount.cls ∈ qu_W := ⟨qm_314, qm_9⟩
theorem p_I_bitCount : (parseMethodDescriptor y_I_bitCount.desc).map (fun d => d.parameters.length) = some 1 := by decide +kernel
theorem w_H_min : Cond.code y_H_min c_H_min 2 (some .int) ∈ qu_W ∧ Cond.initialized y_H_min.cls ∈ qu_W := ⟨qm_496, qm_17⟩
theorem p_H_min : (parseMethodDescriptor y_H_min.desc).map (fun d => d.parameters.length) = some 2 := by decide +kernel
theorem w_H_max : Cond.code y_H_max c_H_max 2 (some .int) ∈ qu_W ∧ Cond.initialized y_H_max.cls ∈ qu_W := ⟨qm_499, qm_17⟩
theorem p_H_max : (parseMethodDescriptor y_H_max.desc).map (fun d => d.parameters.length) = some 2 := by decide +kernel
