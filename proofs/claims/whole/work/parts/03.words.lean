theorem wd_0 : Cond.selects r_Pd y_Pd_startAgain y_Pd_startAgain ∈ gg_L := gg_a0 0 rfl rfl
theorem wd_1 : Cond.selects r_Po y_Po_grow y_Po_grow ∈ gg_L := gg_a0 1 rfl rfl
theorem wd_2 : Cond.selects r_Dg y_Dg_digest y_Dg_digest ∈ gg_L := gg_a0 2 rfl rfl
theorem wd_3 : Cond.selects r_Dg y_Dg_takeWords y_Dg_takeWords ∈ gg_L := gg_a0 3 rfl rfl
theorem wd_4 : Cond.selects r_Dg y_Dg_spreadWords y_Dg_spreadWords ∈ gg_L := gg_a0 4 rfl rfl
theorem wd_5 : Cond.selects r_Dg y_Dg_mixWords y_Dg_mixWords ∈ gg_L := gg_a0 5 rfl rfl
theorem wd_6 : Cond.selects r_Dg y_Dg_handOut y_Dg_handOut ∈ gg_L := gg_a0 6 rfl rfl
theorem wd_7 : Cond.selects r_Ge y_Ge_reseed y_Ge_reseed ∈ gg_L := gg_a0 7 rfl rfl
theorem wd_8 : Cond.selects r_Ge y_Ge_countOn y_Ge_countOn ∈ gg_L := gg_a0 8 rfl rfl
theorem wd_9 : Cond.selects r_Ci y_Ci_makeTurnedWord y_Ci_makeTurnedWord ∈ gg_L := gg_a0 9 rfl rfl
theorem wd_10 : Cond.selects r_Ci y_Ci_addRoundKey y_Ci_addRoundKey ∈ gg_L := gg_a0 10 rfl rfl
theorem wd_11 : Cond.selects r_Ci y_Ci_substituteAndMove y_Ci_substituteAndMove ∈ gg_L := gg_a0 11 rfl rfl
theorem wd_12 : Cond.selects r_Ci y_Ci_mixColumns y_Ci_mixColumns ∈ gg_L := gg_a0 12 rfl rfl
theorem wd_13 : Cond.selects r_Pd y_Pd_saveNewSeed y_Pd_saveNewSeed ∈ gg_L := gg_a0 13 rfl rfl
theorem wd_14 : Cond.selects r_Dk y_Dk_write y_Dk_write ∈ gg_L := gg_a0 14 rfl rfl
theorem wd_15 : Cond.selects r_Pd y_Pd_byteOfPool y_Pd_byteOfPool ∈ gg_L := gg_a0 15 rfl rfl
theorem wd_16 : Cond.selects r_Pd y_Pd_sizeOfPool y_Pd_sizeOfPool ∈ gg_L := gg_a0 16 rfl rfl
theorem wd_17 : Cond.selects r_Mo y_Mo_first y_Mo_first ∈ gg_L := gg_a0 17 rfl rfl
theorem wd_18 : Cond.selects r_Mo y_Mo_draws y_Mo_draws ∈ gg_L := gg_a0 18 rfl rfl
theorem wd_19 : Cond.selects r_Mo y_Mo_ofPool y_Mo_ofPool ∈ gg_L := gg_a0 19 rfl rfl
theorem wd_20 : Cond.selects r_Mo y_Mo_twice y_Mo_twice ∈ gg_L := gg_a0 20 rfl rfl
theorem wd_21 : Cond.selects r_Mo y_Mo_digests y_Mo_digests ∈ gg_L := gg_a0 21 rfl rfl
theorem wd_22 : Cond.selects r_Mo y_Mo_round y_Mo_round ∈ gg_L := gg_a0 22 rfl rfl
theorem wd_23 : Cond.selects r_Mo y_Mo_padded y_Mo_padded ∈ gg_L := gg_a0 23 rfl rfl
theorem wd_24 : Cond.selects r_Mo y_Mo_reseeds y_Mo_reseeds ∈ gg_L := gg_a0 24 rfl rfl
theorem wd_25 : Cond.selects r_Mo y_Mo_counts y_Mo_counts ∈ gg_L := gg_a0 25 rfl rfl
theorem wd_26 : Cond.selects r_Mo y_Mo_isSeeded y_Mo_isSeeded ∈ gg_L := gg_a0 26 rfl rfl
theorem wd_27 : Cond.selects r_Mo y_Mo_generatesAll y_Mo_generatesAll ∈ gg_L := gg_a0 27 rfl rfl
theorem wd_28 : Cond.selects r_Mo y_Mo_generates y_Mo_generates ∈ gg_L := gg_a0 28 rfl rfl
theorem wd_29 : Cond.selects r_Mo y_Mo_schedules y_Mo_schedules ∈ gg_L := gg_a0 29 rfl rfl
theorem wd_30 : Cond.selects r_Mo y_Mo_s y_Mo_s ∈ gg_L := gg_a0 30 rfl rfl
theorem wd_31 : Cond.selects r_Mo y_Mo_saves y_Mo_saves ∈ gg_L := gg_a0 31 rfl rfl
theorem wd_32 : Cond.selects r_Mo y_Mo_writes y_Mo_writes ∈ gg_L := gg_a0 32 rfl rfl
theorem wd_33 : Cond.initialized r_La ∈ gg_L := gg_a1 0 rfl rfl
theorem wd_34 : Cond.initialized r_Pd ∈ gg_L := gg_a1 1 rfl rfl
theorem wd_35 : Cond.initialized r_Ge ∈ gg_L := gg_a1 2 rfl rfl
theorem wd_36 : Cond.initialized r_Po ∈ gg_L := gg_a1 3 rfl rfl
theorem wd_37 : Cond.initialized r_Dg ∈ gg_L := gg_a1 4 rfl rfl
theorem wd_38 : Cond.initialized r_Ci ∈ gg_L := gg_a1 5 rfl rfl
theorem wd_39 : Cond.initialized r_Dk ∈ gg_L := gg_a1 6 rfl rfl
theorem wd_40 : Cond.initialized r_Mo ∈ gg_L := gg_a1 7 rfl rfl
theorem wd_41 : Cond.initialized r_Sy ∈ gg_L := gg_a1 8 rfl rfl
theorem wd_42 : Cond.initialized r_In ∈ gg_L := gg_a1 9 rfl rfl
theorem wd_43 : Cond.classLink r_La 7 r_Pd ∈ gg_L := gg_a1 10 rfl rfl
theorem wd_44 : Cond.instantiable r_Pd 5 ∈ gg_L := gg_a1 11 rfl rfl
theorem wd_45 : Cond.methodLink r_La 9 y_Pd_new ∈ gg_L := gg_a1 12 rfl rfl
theorem wd_46 : Cond.instanceMethod y_Pd_new ∈ gg_L := gg_a1 13 rfl rfl
theorem wd_47 : Cond.code y_Pd_new c_Pd_new 1 none ∈ gg_L := gg_a1 14 rfl rfl
theorem wd_48 : Cond.methodLink r_Pd 1 objectInit ∈ gg_L := gg_a1 15 rfl rfl
theorem wd_49 : Cond.instanceMethod objectInit ∈ gg_L := gg_a1 16 rfl rfl
theorem wd_50 : Cond.code objectInit ⟨#[0xb1]⟩ 1 none ∈ gg_L := gg_a1 17 rfl rfl
theorem wd_51 : Cond.classLink r_Pd 7 r_Ge ∈ gg_L := gg_a1 18 rfl rfl
theorem wd_52 : Cond.instantiable r_Ge 10 ∈ gg_L := gg_a1 19 rfl rfl
theorem wd_53 : Cond.methodLink r_Pd 9 y_Ge_new ∈ gg_L := gg_a1 20 rfl rfl
theorem wd_54 : Cond.instanceMethod y_Ge_new ∈ gg_L := gg_a1 21 rfl rfl
theorem wd_55 : Cond.code y_Ge_new c_Ge_new 2 none ∈ gg_L := gg_a1 22 rfl rfl
theorem wd_56 : Cond.methodLink r_Ge 3 objectInit ∈ gg_L := gg_a1 23 rfl rfl
theorem wd_57 : Cond.classLink r_Ge 20 r_Po ∈ gg_L := gg_a1 24 rfl rfl
theorem wd_59 : Cond.instantiable r_Po 2 ∈ gg_L := gg_a1 26 rfl rfl
theorem wd_60 : Cond.methodLink r_Ge 26 y_Po_new ∈ gg_L := gg_a1 27 rfl rfl
theorem wd_61 : Cond.instanceMethod y_Po_new ∈ gg_L := gg_a1 28 rfl rfl
theorem wd_62 : Cond.code y_Po_new c_Po_new 1 none ∈ gg_L := gg_a1 29 rfl rfl
theorem wd_63 : Cond.methodLink r_Po 3 objectInit ∈ gg_L := gg_a1 30 rfl rfl
theorem wd_64 : Cond.fieldLink r_Po 9 "PoolDice$Pool" "bytes" "[I" ∈ gg_L := gg_a1 31 rfl rfl
theorem wd_65 : Cond.fieldLink r_Ge 65 "PoolDice$Pool" "bytes" "[I" ∈ gg_L := gg_a1 32 rfl rfl
theorem wd_66 : Cond.fieldLink r_Po 13 "PoolDice$Pool" "size" "I" ∈ gg_L := gg_a1 33 rfl rfl
theorem wd_67 : Cond.fieldLink r_Ge 55 "PoolDice$Pool" "size" "I" ∈ gg_L := gg_a1 34 rfl rfl
theorem wd_68 : Cond.fieldLink r_Pd 134 "PoolDice$Pool" "size" "I" ∈ gg_L := gg_a1 35 rfl rfl
theorem wd_69 : Cond.lays "PoolDice$Pool" "PoolDice$Pool" "bytes" "[I" ∈ gg_L := gg_a1 36 rfl rfl
theorem wd_71 : Cond.lays "PoolDice$Pool" "PoolDice$Pool" "size" "I" ∈ gg_L := gg_a1 38 rfl rfl
theorem wd_74 : Cond.arrayClass .int ∈ gg_L := gg_a1 41 rfl rfl
theorem wd_75 : Cond.classLink r_Ge 37 r_Dg ∈ gg_L := gg_a1 42 rfl rfl
theorem wd_76 : Cond.instantiable r_Dg 3 ∈ gg_L := gg_a1 43 rfl rfl
theorem wd_77 : Cond.methodLink r_Ge 39 y_Dg_new ∈ gg_L := gg_a1 44 rfl rfl
theorem wd_78 : Cond.instanceMethod y_Dg_new ∈ gg_L := gg_a1 45 rfl rfl
theorem wd_79 : Cond.code y_Dg_new c_Dg_new 1 none ∈ gg_L := gg_a1 46 rfl rfl
theorem wd_80 : Cond.methodLink r_Dg 1 objectInit ∈ gg_L := gg_a1 47 rfl rfl
theorem wd_81 : Cond.fieldLink r_Dg 7 "PoolDice$Digest" "START" "[I" ∈ gg_L := gg_a1 48 rfl rfl
theorem wd_83 : Cond.fieldLink r_Dg 13 "PoolDice$Digest" "hash" "[I" ∈ gg_L := gg_a1 50 rfl rfl
theorem wd_84 : Cond.fieldLink r_Dg 16 "PoolDice$Digest" "w" "[I" ∈ gg_L := gg_a1 51 rfl rfl
theorem wd_85 : Cond.fieldLink r_Dg 19 "PoolDice$Digest" "once" "[I" ∈ gg_L := gg_a1 52 rfl rfl
theorem wd_86 : Cond.laysFinal "PoolDice$Digest" "PoolDice$Digest" "hash" "[I" ∈ gg_L := gg_a1 53 rfl rfl
theorem wd_88 : Cond.laysFinal "PoolDice$Digest" "PoolDice$Digest" "w" "[I" ∈ gg_L := gg_a1 55 rfl rfl
theorem wd_90 : Cond.laysFinal "PoolDice$Digest" "PoolDice$Digest" "once" "[I" ∈ gg_L := gg_a1 57 rfl rfl
theorem wd_93 : Cond.classLink r_Ge 9 r_Ci ∈ gg_L := gg_a1 60 rfl rfl
theorem wd_94 : Cond.instantiable r_Ci 3 ∈ gg_L := gg_a1 61 rfl rfl
theorem wd_95 : Cond.methodLink r_Ge 44 y_Ci_new ∈ gg_L := gg_a1 62 rfl rfl
theorem wd_96 : Cond.instanceMethod y_Ci_new ∈ gg_L := gg_a1 63 rfl rfl
theorem wd_97 : Cond.code y_Ci_new c_Ci_new 1 none ∈ gg_L := gg_a1 64 rfl rfl
theorem wd_98 : Cond.methodLink r_Ci 1 objectInit ∈ gg_L := gg_a1 65 rfl rfl
theorem wd_99 : Cond.fieldLink r_Ci 9 "PoolDice$Cipher" "roundKeys" "[I" ∈ gg_L := gg_a1 66 rfl rfl
theorem wd_100 : Cond.fieldLink r_Ci 13 "PoolDice$Cipher" "state" "[I" ∈ gg_L := gg_a1 67 rfl rfl
theorem wd_101 : Cond.fieldLink r_Ci 16 "PoolDice$Cipher" "moved" "[I" ∈ gg_L := gg_a1 68 rfl rfl
theorem wd_102 : Cond.laysFinal "PoolDice$Cipher" "PoolDice$Cipher" "roundKeys" "[I" ∈ gg_L := gg_a1 69 rfl rfl
theorem wd_104 : Cond.laysFinal "PoolDice$Cipher" "PoolDice$Cipher" "state" "[I" ∈ gg_L := gg_a1 71 rfl rfl
theorem wd_106 : Cond.laysFinal "PoolDice$Cipher" "PoolDice$Cipher" "moved" "[I" ∈ gg_L := gg_a1 73 rfl rfl
theorem wd_109 : Cond.fieldLink r_Ge 11 "PoolDice$Generator" "key" "[I" ∈ gg_L := gg_a1 76 rfl rfl
theorem wd_110 : Cond.fieldLink r_Pd 94 "PoolDice$Generator" "key" "[I" ∈ gg_L := gg_a1 77 rfl rfl
theorem wd_111 : Cond.fieldLink r_Ge 17 "PoolDice$Generator" "counter" "[I" ∈ gg_L := gg_a1 78 rfl rfl
theorem wd_112 : Cond.fieldLink r_Pd 97 "PoolDice$Generator" "counter" "[I" ∈ gg_L := gg_a1 79 rfl rfl
theorem wd_113 : Cond.fieldLink r_Ge 22 "PoolDice$Generator" "pools" "[LPoolDice$Pool;" ∈ gg_L := gg_a1 80 rfl rfl
theorem wd_114 : Cond.fieldLink r_Pd 48 "PoolDice$Generator" "pools" "[LPoolDice$Pool;" ∈ gg_L := gg_a1 81 rfl rfl
theorem wd_115 : Cond.fieldLink r_Ge 27 "PoolDice$Generator" "reseeds" "I" ∈ gg_L := gg_a1 82 rfl rfl
theorem wd_116 : Cond.fieldLink r_Pd 104 "PoolDice$Generator" "reseeds" "I" ∈ gg_L := gg_a1 83 rfl rfl
theorem wd_117 : Cond.fieldLink r_Ge 31 "PoolDice$Generator" "clock" "I" ∈ gg_L := gg_a1 84 rfl rfl
theorem wd_118 : Cond.fieldLink r_Pd 107 "PoolDice$Generator" "clock" "I" ∈ gg_L := gg_a1 85 rfl rfl
theorem wd_119 : Cond.fieldLink r_Ge 34 "PoolDice$Generator" "latest" "I" ∈ gg_L := gg_a1 86 rfl rfl
theorem wd_120 : Cond.fieldLink r_Pd 110 "PoolDice$Generator" "latest" "I" ∈ gg_L := gg_a1 87 rfl rfl
theorem wd_121 : Cond.fieldLink r_Ge 40 "PoolDice$Generator" "digest" "LPoolDice$Digest;" ∈ gg_L := gg_a1 88 rfl rfl
theorem wd_122 : Cond.fieldLink r_Ge 45 "PoolDice$Generator" "cipher" "LPoolDice$Cipher;" ∈ gg_L := gg_a1 89 rfl rfl
theorem wd_123 : Cond.fieldLink r_Ge 49 "PoolDice$Generator" "keyAndRow" "[I" ∈ gg_L := gg_a1 90 rfl rfl
theorem wd_124 : Cond.fieldLink r_Ge 52 "PoolDice$Generator" "twice" "[I" ∈ gg_L := gg_a1 91 rfl rfl
theorem wd_125 : Cond.laysFinal "PoolDice$Generator" "PoolDice$Generator" "key" "[I" ∈ gg_L := gg_a1 92 rfl rfl
theorem wd_127 : Cond.laysFinal "PoolDice$Generator" "PoolDice$Generator" "counter" "[I" ∈ gg_L := gg_a1 94 rfl rfl
theorem wd_129 : Cond.laysFinal "PoolDice$Generator" "PoolDice$Generator" "pools" "[LPoolDice$Pool;" ∈ gg_L := gg_a1 96 rfl rfl
theorem wd_131 : Cond.lays "PoolDice$Generator" "PoolDice$Generator" "reseeds" "I" ∈ gg_L := gg_a1 98 rfl rfl
theorem wd_133 : Cond.lays "PoolDice$Generator" "PoolDice$Generator" "clock" "I" ∈ gg_L := gg_a1 100 rfl rfl
theorem wd_135 : Cond.lays "PoolDice$Generator" "PoolDice$Generator" "latest" "I" ∈ gg_L := gg_a1 102 rfl rfl
theorem wd_137 : Cond.laysFinal "PoolDice$Generator" "PoolDice$Generator" "digest" "LPoolDice$Digest;" ∈ gg_L := gg_a1 104 rfl rfl
theorem wd_139 : Cond.laysFinal "PoolDice$Generator" "PoolDice$Generator" "cipher" "LPoolDice$Cipher;" ∈ gg_L := gg_a1 106 rfl rfl
theorem wd_141 : Cond.laysFinal "PoolDice$Generator" "PoolDice$Generator" "keyAndRow" "[I" ∈ gg_L := gg_a1 108 rfl rfl
theorem wd_143 : Cond.laysFinal "PoolDice$Generator" "PoolDice$Generator" "twice" "[I" ∈ gg_L := gg_a1 110 rfl rfl
theorem wd_146 : Cond.classLink r_Pd 16 r_Dk ∈ gg_L := gg_a1 113 rfl rfl
theorem wd_147 : Cond.instantiable r_Dk 3 ∈ gg_L := gg_a1 114 rfl rfl
theorem wd_148 : Cond.methodLink r_Pd 18 y_Dk_new ∈ gg_L := gg_a1 115 rfl rfl
theorem wd_149 : Cond.instanceMethod y_Dk_new ∈ gg_L := gg_a1 116 rfl rfl
theorem wd_150 : Cond.code y_Dk_new c_Dk_new 1 none ∈ gg_L := gg_a1 117 rfl rfl
theorem wd_151 : Cond.methodLink r_Dk 3 objectInit ∈ gg_L := gg_a1 118 rfl rfl
theorem wd_152 : Cond.fieldLink r_Dk 9 "PoolDice$Disk" "bytes" "[I" ∈ gg_L := gg_a1 119 rfl rfl
theorem wd_153 : Cond.fieldLink r_Pd 87 "PoolDice$Disk" "bytes" "[I" ∈ gg_L := gg_a1 120 rfl rfl
theorem wd_154 : Cond.fieldLink r_Dk 15 "PoolDice$Disk" "writes" "I" ∈ gg_L := gg_a1 121 rfl rfl
theorem wd_155 : Cond.fieldLink r_Pd 116 "PoolDice$Disk" "writes" "I" ∈ gg_L := gg_a1 122 rfl rfl
theorem wd_156 : Cond.fieldLink r_Dk 19 "PoolDice$Disk" "tillCrash" "I" ∈ gg_L := gg_a1 123 rfl rfl
theorem wd_157 : Cond.fieldLink r_Pd 113 "PoolDice$Disk" "tillCrash" "I" ∈ gg_L := gg_a1 124 rfl rfl
theorem wd_158 : Cond.laysFinal "PoolDice$Disk" "PoolDice$Disk" "bytes" "[I" ∈ gg_L := gg_a1 125 rfl rfl
theorem wd_160 : Cond.lays "PoolDice$Disk" "PoolDice$Disk" "writes" "I" ∈ gg_L := gg_a1 127 rfl rfl
theorem wd_162 : Cond.lays "PoolDice$Disk" "PoolDice$Disk" "tillCrash" "I" ∈ gg_L := gg_a1 129 rfl rfl
theorem wd_165 : Cond.fieldLink r_Pd 10 "PoolDice" "generator" "LPoolDice$Generator;" ∈ gg_L := gg_a1 132 rfl rfl
theorem wd_166 : Cond.fieldLink r_Pd 19 "PoolDice" "disk" "LPoolDice$Disk;" ∈ gg_L := gg_a1 133 rfl rfl
theorem wd_167 : Cond.fieldLink r_Pd 23 "PoolDice" "given" "[I" ∈ gg_L := gg_a1 134 rfl rfl
theorem wd_168 : Cond.fieldLink r_Pd 27 "PoolDice" "givenCount" "I" ∈ gg_L := gg_a1 135 rfl rfl
theorem wd_169 : Cond.fieldLink r_Pd 31 "PoolDice" "newSeed" "[I" ∈ gg_L := gg_a1 136 rfl rfl
theorem wd_170 : Cond.laysFinal "PoolDice" "PoolDice" "generator" "LPoolDice$Generator;" ∈ gg_L := gg_a1 137 rfl rfl
theorem wd_172 : Cond.laysFinal "PoolDice" "PoolDice" "disk" "LPoolDice$Disk;" ∈ gg_L := gg_a1 139 rfl rfl
theorem wd_174 : Cond.laysFinal "PoolDice" "PoolDice" "given" "[I" ∈ gg_L := gg_a1 141 rfl rfl
theorem wd_176 : Cond.lays "PoolDice" "PoolDice" "givenCount" "I" ∈ gg_L := gg_a1 143 rfl rfl
theorem wd_178 : Cond.laysFinal "PoolDice" "PoolDice" "newSeed" "[I" ∈ gg_L := gg_a1 145 rfl rfl
theorem wd_181 : Cond.methodLink r_La 13 y_Pd_init ∈ gg_L := gg_a1 148 rfl rfl
theorem wd_182 : Cond.instanceMethod y_Pd_init ∈ gg_L := gg_a1 149 rfl rfl
theorem wd_183 : Cond.selects r_Pd y_Pd_init y_Pd_init ∈ gg_L := gg_a1 150 rfl rfl
theorem wd_184 : Cond.code y_Pd_init c_Pd_init 1 none ∈ gg_L := gg_a1 151 rfl rfl
theorem wd_185 : Cond.methodLink r_Pd 34 y_Pd_startAgain ∈ gg_L := gg_a1 152 rfl rfl
theorem wd_187 : Cond.instanceMethod y_Pd_startAgain ∈ gg_L := gg_a1 154 rfl rfl
theorem wd_188 : Cond.code y_Pd_startAgain c_Pd_startAgain 1 none ∈ gg_L := gg_a1 155 rfl rfl
theorem wd_189 : Cond.methodLink r_Pd 122 y_Ge_reset ∈ gg_L := gg_a1 156 rfl rfl
theorem wd_190 : Cond.instanceMethod y_Ge_reset ∈ gg_L := gg_a1 157 rfl rfl
theorem wd_191 : Cond.selects r_Ge y_Ge_reset y_Ge_reset ∈ gg_L := gg_a1 158 rfl rfl
theorem wd_192 : Cond.code y_Ge_reset c_Ge_reset 2 none ∈ gg_L := gg_a1 159 rfl rfl
theorem wd_193 : Cond.methodLink r_Pd 37 y_Dk_tellCrash ∈ gg_L := gg_a1 160 rfl rfl
theorem wd_194 : Cond.instanceMethod y_Dk_tellCrash ∈ gg_L := gg_a1 161 rfl rfl
theorem wd_195 : Cond.selects r_Dk y_Dk_tellCrash y_Dk_tellCrash ∈ gg_L := gg_a1 162 rfl rfl
theorem wd_196 : Cond.code y_Dk_tellCrash c_Dk_tellCrash 2 none ∈ gg_L := gg_a1 163 rfl rfl
theorem wd_197 : Cond.methodLink r_La 17 y_Pd_event ∈ gg_L := gg_a1 164 rfl rfl
theorem wd_198 : Cond.instanceMethod y_Pd_event ∈ gg_L := gg_a1 165 rfl rfl
theorem wd_199 : Cond.selects r_Pd y_Pd_event y_Pd_event ∈ gg_L := gg_a1 166 rfl rfl
theorem wd_200 : Cond.code y_Pd_event c_Pd_event 4 (some .boolean) ∈ gg_L := gg_a1 167 rfl rfl
theorem wd_201 : Cond.methodLink r_Pd 41 y_Pd_isByte ∈ gg_L := gg_a1 168 rfl rfl
theorem wd_202 : Cond.static y_Pd_isByte ∈ gg_L := gg_a1 169 rfl rfl
theorem wd_203 : Cond.code y_Pd_isByte c_Pd_isByte 1 (some .boolean) ∈ gg_L := gg_a1 170 rfl rfl
theorem wd_204 : Cond.methodLink r_Pd 45 y_Pd_isPool ∈ gg_L := gg_a1 171 rfl rfl
theorem wd_205 : Cond.static y_Pd_isPool ∈ gg_L := gg_a1 172 rfl rfl
theorem wd_206 : Cond.code y_Pd_isPool c_Pd_isPool 1 (some .boolean) ∈ gg_L := gg_a1 173 rfl rfl
theorem wd_207 : Cond.methodLink r_Pd 52 y_Po_add ∈ gg_L := gg_a1 174 rfl rfl
theorem wd_208 : Cond.instanceMethod y_Po_add ∈ gg_L := gg_a1 175 rfl rfl
theorem wd_209 : Cond.selects r_Po y_Po_add y_Po_add ∈ gg_L := gg_a1 176 rfl rfl
theorem wd_210 : Cond.code y_Po_add c_Po_add 3 (some .boolean) ∈ gg_L := gg_a1 177 rfl rfl
theorem wd_211 : Cond.methodLink r_Po 17 y_Po_grow ∈ gg_L := gg_a1 178 rfl rfl
theorem wd_213 : Cond.instanceMethod y_Po_grow ∈ gg_L := gg_a1 180 rfl rfl
theorem wd_214 : Cond.code y_Po_grow c_Po_grow 2 none ∈ gg_L := gg_a1 181 rfl rfl
theorem wd_215 : Cond.methodLink r_Po 20 arraycopyName ∈ gg_L := gg_a1 182 rfl rfl
theorem wd_216 : Cond.static arraycopyName ∈ gg_L := gg_a1 183 rfl rfl
theorem wd_217 : Cond.native arraycopyName ∈ gg_L := gg_a1 184 rfl rfl
theorem wd_218 : Cond.methodLink r_La 22 y_Pd_tick ∈ gg_L := gg_a1 185 rfl rfl
theorem wd_219 : Cond.instanceMethod y_Pd_tick ∈ gg_L := gg_a1 186 rfl rfl
theorem wd_220 : Cond.selects r_Pd y_Pd_tick y_Pd_tick ∈ gg_L := gg_a1 187 rfl rfl
theorem wd_221 : Cond.code y_Pd_tick c_Pd_tick 2 (some .int) ∈ gg_L := gg_a1 188 rfl rfl
theorem wd_222 : Cond.methodLink r_Pd 58 y_Ge_passTime ∈ gg_L := gg_a1 189 rfl rfl
theorem wd_223 : Cond.instanceMethod y_Ge_passTime ∈ gg_L := gg_a1 190 rfl rfl
theorem wd_224 : Cond.selects r_Ge y_Ge_passTime y_Ge_passTime ∈ gg_L := gg_a1 191 rfl rfl
theorem wd_225 : Cond.code y_Ge_passTime c_Ge_passTime 2 (some .int) ∈ gg_L := gg_a1 192 rfl rfl
theorem wd_226 : Cond.constant r_Ge 60 (2147483647) ∈ gg_L := gg_a1 193 rfl rfl
theorem wd_227 : Cond.methodLink r_La 27 y_Pd_request ∈ gg_L := gg_a1 194 rfl rfl
theorem wd_228 : Cond.instanceMethod y_Pd_request ∈ gg_L := gg_a1 195 rfl rfl
theorem wd_229 : Cond.selects r_Pd y_Pd_request y_Pd_request ∈ gg_L := gg_a1 196 rfl rfl
theorem wd_230 : Cond.code y_Pd_request c_Pd_request 2 (some .int) ∈ gg_L := gg_a1 197 rfl rfl
theorem wd_231 : Cond.methodLink r_Pd 62 y_Ge_isDrawingDue ∈ gg_L := gg_a1 198 rfl rfl
theorem wd_232 : Cond.instanceMethod y_Ge_isDrawingDue ∈ gg_L := gg_a1 199 rfl rfl
theorem wd_233 : Cond.selects r_Ge y_Ge_isDrawingDue y_Ge_isDrawingDue ∈ gg_L := gg_a1 200 rfl rfl
theorem wd_234 : Cond.code y_Ge_isDrawingDue c_Ge_isDrawingDue 1 (some .boolean) ∈ gg_L := gg_a1 201 rfl rfl
theorem wd_235 : Cond.methodLink r_Pd 66 y_Ge_draw ∈ gg_L := gg_a1 202 rfl rfl
theorem wd_236 : Cond.instanceMethod y_Ge_draw ∈ gg_L := gg_a1 203 rfl rfl
theorem wd_237 : Cond.selects r_Ge y_Ge_draw y_Ge_draw ∈ gg_L := gg_a1 204 rfl rfl
theorem wd_238 : Cond.code y_Ge_draw c_Ge_draw 3 none ∈ gg_L := gg_a1 205 rfl rfl
theorem wd_239 : Cond.methodLink r_Ge 61 y_Ge_isMultiple ∈ gg_L := gg_a1 206 rfl rfl
theorem wd_240 : Cond.static y_Ge_isMultiple ∈ gg_L := gg_a1 207 rfl rfl
theorem wd_241 : Cond.code y_Ge_isMultiple c_Ge_isMultiple 2 (some .boolean) ∈ gg_L := gg_a1 208 rfl rfl
theorem wd_242 : Cond.methodLink r_Ge 68 y_Dg_twice ∈ gg_L := gg_a1 209 rfl rfl
theorem wd_243 : Cond.instanceMethod y_Dg_twice ∈ gg_L := gg_a1 210 rfl rfl
theorem wd_244 : Cond.selects r_Dg y_Dg_twice y_Dg_twice ∈ gg_L := gg_a1 211 rfl rfl
theorem wd_245 : Cond.code y_Dg_twice c_Dg_twice 5 none ∈ gg_L := gg_a1 212 rfl rfl
theorem wd_246 : Cond.methodLink r_Dg 22 y_Dg_digest ∈ gg_L := gg_a1 213 rfl rfl
theorem wd_248 : Cond.instanceMethod y_Dg_digest ∈ gg_L := gg_a1 215 rfl rfl
theorem wd_249 : Cond.code y_Dg_digest c_Dg_digest 5 none ∈ gg_L := gg_a1 216 rfl rfl
theorem wd_250 : Cond.methodLink r_Dg 29 arraycopyName ∈ gg_L := gg_a1 217 rfl rfl
theorem wd_251 : Cond.methodLink r_Dg 35 y_Dg_takeWords ∈ gg_L := gg_a1 218 rfl rfl
theorem wd_253 : Cond.instanceMethod y_Dg_takeWords ∈ gg_L := gg_a1 220 rfl rfl
theorem wd_254 : Cond.code y_Dg_takeWords c_Dg_takeWords 8 none ∈ gg_L := gg_a1 221 rfl rfl
theorem wd_255 : Cond.methodLink r_Dg 45 y_Dg_filledByte ∈ gg_L := gg_a1 222 rfl rfl
theorem wd_256 : Cond.static y_Dg_filledByte ∈ gg_L := gg_a1 223 rfl rfl
theorem wd_257 : Cond.code y_Dg_filledByte c_Dg_filledByte 6 (some .int) ∈ gg_L := gg_a1 224 rfl rfl
theorem wd_258 : Cond.constantLong r_Dg 49 (8) ∈ gg_L := gg_a1 225 rfl rfl
theorem wd_259 : Cond.methodLink r_Dg 39 y_Dg_spreadWords ∈ gg_L := gg_a1 226 rfl rfl
theorem wd_261 : Cond.instanceMethod y_Dg_spreadWords ∈ gg_L := gg_a1 228 rfl rfl
theorem wd_262 : Cond.code y_Dg_spreadWords c_Dg_spreadWords 6 none ∈ gg_L := gg_a1 229 rfl rfl
theorem wd_263 : Cond.methodLink r_Dg 51 y_In_rotateRight ∈ gg_L := gg_a1 230 rfl rfl
theorem wd_264 : Cond.static y_In_rotateRight ∈ gg_L := gg_a1 231 rfl rfl
theorem wd_265 : Cond.code y_In_rotateRight c_In_rotateRight 2 (some .int) ∈ gg_L := gg_a1 232 rfl rfl
theorem wd_266 : Cond.methodLink r_Dg 42 y_Dg_mixWords ∈ gg_L := gg_a1 233 rfl rfl
theorem wd_268 : Cond.instanceMethod y_Dg_mixWords ∈ gg_L := gg_a1 235 rfl rfl
theorem wd_269 : Cond.code y_Dg_mixWords c_Dg_mixWords 14 none ∈ gg_L := gg_a1 236 rfl rfl
theorem wd_270 : Cond.fieldLink r_Dg 57 "PoolDice$Digest" "K" "[I" ∈ gg_L := gg_a1 237 rfl rfl
theorem wd_272 : Cond.methodLink r_Dg 26 y_Dg_handOut ∈ gg_L := gg_a1 239 rfl rfl
theorem wd_274 : Cond.instanceMethod y_Dg_handOut ∈ gg_L := gg_a2 1 rfl rfl
theorem wd_275 : Cond.code y_Dg_handOut c_Dg_handOut 4 none ∈ gg_L := gg_a2 2 rfl rfl
theorem wd_276 : Cond.methodLink r_Ge 71 y_Ge_reseed ∈ gg_L := gg_a2 3 rfl rfl
theorem wd_278 : Cond.instanceMethod y_Ge_reseed ∈ gg_L := gg_a2 5 rfl rfl
theorem wd_279 : Cond.code y_Ge_reseed c_Ge_reseed 2 none ∈ gg_L := gg_a2 6 rfl rfl
theorem wd_280 : Cond.methodLink r_Ge 75 arraycopyName ∈ gg_L := gg_a2 7 rfl rfl
theorem wd_281 : Cond.methodLink r_Ge 81 y_Ge_countOn ∈ gg_L := gg_a2 8 rfl rfl
theorem wd_283 : Cond.instanceMethod y_Ge_countOn ∈ gg_L := gg_a2 10 rfl rfl
theorem wd_284 : Cond.code y_Ge_countOn c_Ge_countOn 2 none ∈ gg_L := gg_a2 11 rfl rfl
theorem wd_285 : Cond.methodLink r_Pd 69 y_Ge_isSeeded ∈ gg_L := gg_a2 12 rfl rfl
theorem wd_286 : Cond.instanceMethod y_Ge_isSeeded ∈ gg_L := gg_a2 13 rfl rfl
theorem wd_287 : Cond.selects r_Ge y_Ge_isSeeded y_Ge_isSeeded ∈ gg_L := gg_a2 14 rfl rfl
theorem wd_288 : Cond.code y_Ge_isSeeded c_Ge_isSeeded 2 (some .boolean) ∈ gg_L := gg_a2 15 rfl rfl
theorem wd_289 : Cond.methodLink r_Pd 72 y_Ge_generate ∈ gg_L := gg_a2 16 rfl rfl
theorem wd_290 : Cond.instanceMethod y_Ge_generate ∈ gg_L := gg_a2 17 rfl rfl
theorem wd_291 : Cond.selects r_Ge y_Ge_generate y_Ge_generate ∈ gg_L := gg_a2 18 rfl rfl
theorem wd_292 : Cond.code y_Ge_generate c_Ge_generate 4 none ∈ gg_L := gg_a2 19 rfl rfl
theorem wd_293 : Cond.methodLink r_Ge 84 y_Ci_takeKey ∈ gg_L := gg_a2 20 rfl rfl
theorem wd_294 : Cond.instanceMethod y_Ci_takeKey ∈ gg_L := gg_a2 21 rfl rfl
theorem wd_295 : Cond.selects r_Ci y_Ci_takeKey y_Ci_takeKey ∈ gg_L := gg_a2 22 rfl rfl
theorem wd_296 : Cond.code y_Ci_takeKey c_Ci_takeKey 5 none ∈ gg_L := gg_a2 23 rfl rfl
theorem wd_297 : Cond.methodLink r_Ci 19 arraycopyName ∈ gg_L := gg_a2 24 rfl rfl
theorem wd_298 : Cond.methodLink r_Ci 25 y_Ci_makeTurnedWord ∈ gg_L := gg_a2 25 rfl rfl
theorem wd_300 : Cond.instanceMethod y_Ci_makeTurnedWord ∈ gg_L := gg_a2 27 rfl rfl
theorem wd_301 : Cond.code y_Ci_makeTurnedWord c_Ci_makeTurnedWord 5 none ∈ gg_L := gg_a2 28 rfl rfl
theorem wd_302 : Cond.fieldLink r_Ci 33 "PoolDice$Cipher" "S" "[I" ∈ gg_L := gg_a2 29 rfl rfl
theorem wd_304 : Cond.methodLink r_Ci 29 y_Ci_timesX ∈ gg_L := gg_a2 31 rfl rfl
theorem wd_305 : Cond.static y_Ci_timesX ∈ gg_L := gg_a2 32 rfl rfl
theorem wd_306 : Cond.code y_Ci_timesX c_Ci_timesX 1 (some .int) ∈ gg_L := gg_a2 33 rfl rfl
theorem wd_307 : Cond.methodLink r_Ge 88 y_Ci_encrypt ∈ gg_L := gg_a2 34 rfl rfl
theorem wd_308 : Cond.instanceMethod y_Ci_encrypt ∈ gg_L := gg_a2 35 rfl rfl
theorem wd_309 : Cond.selects r_Ci y_Ci_encrypt y_Ci_encrypt ∈ gg_L := gg_a2 36 rfl rfl
theorem wd_310 : Cond.code y_Ci_encrypt c_Ci_encrypt 5 none ∈ gg_L := gg_a2 37 rfl rfl
theorem wd_311 : Cond.methodLink r_Ci 36 y_Ci_addRoundKey ∈ gg_L := gg_a2 38 rfl rfl
theorem wd_313 : Cond.instanceMethod y_Ci_addRoundKey ∈ gg_L := gg_a2 40 rfl rfl
theorem wd_314 : Cond.code y_Ci_addRoundKey c_Ci_addRoundKey 3 none ∈ gg_L := gg_a2 41 rfl rfl
theorem wd_315 : Cond.methodLink r_Ci 40 y_Ci_substituteAndMove ∈ gg_L := gg_a2 42 rfl rfl
theorem wd_317 : Cond.instanceMethod y_Ci_substituteAndMove ∈ gg_L := gg_a2 44 rfl rfl
theorem wd_318 : Cond.code y_Ci_substituteAndMove c_Ci_substituteAndMove 2 none ∈ gg_L := gg_a2 45 rfl rfl
theorem wd_319 : Cond.methodLink r_Ci 43 y_Ci_mixColumns ∈ gg_L := gg_a2 46 rfl rfl
theorem wd_321 : Cond.instanceMethod y_Ci_mixColumns ∈ gg_L := gg_a2 48 rfl rfl
theorem wd_322 : Cond.code y_Ci_mixColumns c_Ci_mixColumns 7 none ∈ gg_L := gg_a2 49 rfl rfl
theorem wd_323 : Cond.methodLink r_La 31 y_Pd_out ∈ gg_L := gg_a2 50 rfl rfl
theorem wd_324 : Cond.instanceMethod y_Pd_out ∈ gg_L := gg_a2 51 rfl rfl
theorem wd_325 : Cond.selects r_Pd y_Pd_out y_Pd_out ∈ gg_L := gg_a2 52 rfl rfl
theorem wd_326 : Cond.code y_Pd_out c_Pd_out 2 (some .int) ∈ gg_L := gg_a2 53 rfl rfl
theorem wd_327 : Cond.methodLink r_Pd 76 y_Pd_byteAt ∈ gg_L := gg_a2 54 rfl rfl
theorem wd_328 : Cond.static y_Pd_byteAt ∈ gg_L := gg_a2 55 rfl rfl
theorem wd_329 : Cond.code y_Pd_byteAt c_Pd_byteAt 3 (some .int) ∈ gg_L := gg_a2 56 rfl rfl
theorem wd_330 : Cond.methodLink r_La 35 y_Pd_save ∈ gg_L := gg_a2 57 rfl rfl
theorem wd_331 : Cond.instanceMethod y_Pd_save ∈ gg_L := gg_a2 58 rfl rfl
theorem wd_332 : Cond.selects r_Pd y_Pd_save y_Pd_save ∈ gg_L := gg_a2 59 rfl rfl
theorem wd_333 : Cond.code y_Pd_save c_Pd_save 1 (some .int) ∈ gg_L := gg_a2 60 rfl rfl
theorem wd_334 : Cond.methodLink r_Pd 80 y_Pd_saveNewSeed ∈ gg_L := gg_a2 61 rfl rfl
theorem wd_336 : Cond.instanceMethod y_Pd_saveNewSeed ∈ gg_L := gg_a2 63 rfl rfl
theorem wd_337 : Cond.code y_Pd_saveNewSeed c_Pd_saveNewSeed 1 (some .int) ∈ gg_L := gg_a2 64 rfl rfl
theorem wd_338 : Cond.methodLink r_Pd 125 y_Dk_store ∈ gg_L := gg_a2 65 rfl rfl
theorem wd_339 : Cond.instanceMethod y_Dk_store ∈ gg_L := gg_a2 66 rfl rfl
theorem wd_340 : Cond.selects r_Dk y_Dk_store y_Dk_store ∈ gg_L := gg_a2 67 rfl rfl
theorem wd_341 : Cond.code y_Dk_store c_Dk_store 5 (some .boolean) ∈ gg_L := gg_a2 68 rfl rfl
theorem wd_342 : Cond.methodLink r_Dk 22 y_Dk_write ∈ gg_L := gg_a2 69 rfl rfl
theorem wd_344 : Cond.instanceMethod y_Dk_write ∈ gg_L := gg_a2 71 rfl rfl
theorem wd_345 : Cond.code y_Dk_write c_Dk_write 3 (some .boolean) ∈ gg_L := gg_a2 72 rfl rfl
theorem wd_346 : Cond.methodLink r_La 40 y_Pd_load ∈ gg_L := gg_a2 73 rfl rfl
theorem wd_347 : Cond.instanceMethod y_Pd_load ∈ gg_L := gg_a2 74 rfl rfl
theorem wd_348 : Cond.selects r_Pd y_Pd_load y_Pd_load ∈ gg_L := gg_a2 75 rfl rfl
theorem wd_349 : Cond.code y_Pd_load c_Pd_load 2 (some .int) ∈ gg_L := gg_a2 76 rfl rfl
theorem wd_350 : Cond.methodLink r_Pd 84 y_Dk_seedPlace ∈ gg_L := gg_a2 77 rfl rfl
theorem wd_351 : Cond.instanceMethod y_Dk_seedPlace ∈ gg_L := gg_a2 78 rfl rfl
theorem wd_352 : Cond.selects r_Dk y_Dk_seedPlace y_Dk_seedPlace ∈ gg_L := gg_a2 79 rfl rfl
theorem wd_353 : Cond.code y_Dk_seedPlace c_Dk_seedPlace 1 (some .int) ∈ gg_L := gg_a2 80 rfl rfl
theorem wd_354 : Cond.methodLink r_Pd 90 y_Ge_reseedWith ∈ gg_L := gg_a2 81 rfl rfl
theorem wd_355 : Cond.instanceMethod y_Ge_reseedWith ∈ gg_L := gg_a2 82 rfl rfl
theorem wd_356 : Cond.selects r_Ge y_Ge_reseedWith y_Ge_reseedWith ∈ gg_L := gg_a2 83 rfl rfl
theorem wd_357 : Cond.code y_Ge_reseedWith c_Ge_reseedWith 4 none ∈ gg_L := gg_a2 84 rfl rfl
theorem wd_358 : Cond.methodLink r_La 44 y_Pd_crash ∈ gg_L := gg_a2 85 rfl rfl
theorem wd_359 : Cond.instanceMethod y_Pd_crash ∈ gg_L := gg_a2 86 rfl rfl
theorem wd_360 : Cond.selects r_Pd y_Pd_crash y_Pd_crash ∈ gg_L := gg_a2 87 rfl rfl
theorem wd_361 : Cond.code y_Pd_crash c_Pd_crash 2 none ∈ gg_L := gg_a2 88 rfl rfl
theorem wd_362 : Cond.methodLink r_La 49 y_Pd_byteOf ∈ gg_L := gg_a2 89 rfl rfl
theorem wd_363 : Cond.instanceMethod y_Pd_byteOf ∈ gg_L := gg_a2 90 rfl rfl
theorem wd_364 : Cond.selects r_Pd y_Pd_byteOf y_Pd_byteOf ∈ gg_L := gg_a2 91 rfl rfl
theorem wd_365 : Cond.code y_Pd_byteOf c_Pd_byteOf 3 (some .int) ∈ gg_L := gg_a2 92 rfl rfl
theorem wd_366 : Cond.methodLink r_Pd 100 y_Pd_byteOfPool ∈ gg_L := gg_a2 93 rfl rfl
theorem wd_368 : Cond.instanceMethod y_Pd_byteOfPool ∈ gg_L := gg_a2 95 rfl rfl
theorem wd_369 : Cond.code y_Pd_byteOfPool c_Pd_byteOfPool 4 (some .int) ∈ gg_L := gg_a2 96 rfl rfl
theorem wd_370 : Cond.methodLink r_Pd 131 y_Ge_byteOfTwice ∈ gg_L := gg_a2 97 rfl rfl
theorem wd_371 : Cond.instanceMethod y_Ge_byteOfTwice ∈ gg_L := gg_a2 98 rfl rfl
theorem wd_372 : Cond.selects r_Ge y_Ge_byteOfTwice y_Ge_byteOfTwice ∈ gg_L := gg_a2 99 rfl rfl
theorem wd_373 : Cond.code y_Ge_byteOfTwice c_Ge_byteOfTwice 3 (some .int) ∈ gg_L := gg_a2 100 rfl rfl
theorem wd_374 : Cond.methodLink r_La 54 y_Pd_spoil ∈ gg_L := gg_a2 101 rfl rfl
theorem wd_375 : Cond.instanceMethod y_Pd_spoil ∈ gg_L := gg_a2 102 rfl rfl
theorem wd_376 : Cond.selects r_Pd y_Pd_spoil y_Pd_spoil ∈ gg_L := gg_a2 103 rfl rfl
theorem wd_377 : Cond.code y_Pd_spoil c_Pd_spoil 3 (some .boolean) ∈ gg_L := gg_a2 104 rfl rfl
theorem wd_378 : Cond.methodLink r_La 59 y_Pd_about ∈ gg_L := gg_a2 105 rfl rfl
theorem wd_379 : Cond.instanceMethod y_Pd_about ∈ gg_L := gg_a2 106 rfl rfl
theorem wd_380 : Cond.selects r_Pd y_Pd_about y_Pd_about ∈ gg_L := gg_a2 107 rfl rfl
theorem wd_381 : Cond.code y_Pd_about c_Pd_about 2 (some .int) ∈ gg_L := gg_a2 108 rfl rfl
theorem wd_382 : Cond.methodLink r_Pd 119 y_Pd_sizeOfPool ∈ gg_L := gg_a2 109 rfl rfl
theorem wd_384 : Cond.instanceMethod y_Pd_sizeOfPool ∈ gg_L := gg_a2 111 rfl rfl
theorem wd_385 : Cond.code y_Pd_sizeOfPool c_Pd_sizeOfPool 3 (some .int) ∈ gg_L := gg_a2 112 rfl rfl
theorem wd_386 : Cond.classLink r_La 10 r_Mo ∈ gg_L := gg_a2 113 rfl rfl
theorem wd_387 : Cond.instantiable r_Mo 25 ∈ gg_L := gg_a2 114 rfl rfl
theorem wd_388 : Cond.methodLink r_La 12 y_Mo_new ∈ gg_L := gg_a2 115 rfl rfl
theorem wd_389 : Cond.instanceMethod y_Mo_new ∈ gg_L := gg_a2 116 rfl rfl
theorem wd_390 : Cond.code y_Mo_new c_Mo_new 1 none ∈ gg_L := gg_a2 117 rfl rfl
theorem wd_391 : Cond.methodLink r_Mo 1 objectInit ∈ gg_L := gg_a2 118 rfl rfl
theorem wd_392 : Cond.constant r_Mo 23 (51200) ∈ gg_L := gg_a2 119 rfl rfl
theorem wd_393 : Cond.fieldLink r_Mo 63 "PoolDiceModel" "code" "I" ∈ gg_L := gg_a2 120 rfl rfl
theorem wd_394 : Cond.fieldLink r_Mo 7 "PoolDiceModel" "key" "[I" ∈ gg_L := gg_a2 121 rfl rfl
theorem wd_395 : Cond.fieldLink r_Mo 13 "PoolDiceModel" "counter" "[I" ∈ gg_L := gg_a2 122 rfl rfl
theorem wd_396 : Cond.fieldLink r_Mo 188 "PoolDiceModel" "reseeds" "I" ∈ gg_L := gg_a2 123 rfl rfl
theorem wd_397 : Cond.fieldLink r_Mo 191 "PoolDiceModel" "clock" "I" ∈ gg_L := gg_a2 124 rfl rfl
theorem wd_398 : Cond.fieldLink r_Mo 16 "PoolDiceModel" "latest" "I" ∈ gg_L := gg_a2 125 rfl rfl
theorem wd_399 : Cond.fieldLink r_Mo 20 "PoolDiceModel" "lengths" "[I" ∈ gg_L := gg_a2 126 rfl rfl
theorem wd_400 : Cond.fieldLink r_Mo 24 "PoolDiceModel" "pools" "[I" ∈ gg_L := gg_a2 127 rfl rfl
theorem wd_401 : Cond.fieldLink r_Mo 27 "PoolDiceModel" "out" "[I" ∈ gg_L := gg_a2 128 rfl rfl
theorem wd_402 : Cond.fieldLink r_Mo 194 "PoolDiceModel" "outs" "I" ∈ gg_L := gg_a2 129 rfl rfl
theorem wd_403 : Cond.fieldLink r_Mo 30 "PoolDiceModel" "disk" "[I" ∈ gg_L := gg_a2 130 rfl rfl
theorem wd_404 : Cond.fieldLink r_Mo 197 "PoolDiceModel" "told" "I" ∈ gg_L := gg_a2 131 rfl rfl
theorem wd_405 : Cond.fieldLink r_Mo 223 "PoolDiceModel" "writes" "I" ∈ gg_L := gg_a2 132 rfl rfl
theorem wd_406 : Cond.fieldLink r_Mo 33 "PoolDiceModel" "row" "[I" ∈ gg_L := gg_a2 133 rfl rfl
theorem wd_407 : Cond.fieldLink r_Mo 138 "PoolDiceModel" "length" "I" ∈ gg_L := gg_a2 134 rfl rfl
theorem wd_408 : Cond.fieldLink r_Mo 36 "PoolDiceModel" "words" "[I" ∈ gg_L := gg_a2 135 rfl rfl
theorem wd_409 : Cond.fieldLink r_Mo 39 "PoolDiceModel" "h" "[I" ∈ gg_L := gg_a2 136 rfl rfl
theorem wd_410 : Cond.fieldLink r_Mo 42 "PoolDiceModel" "digest" "[I" ∈ gg_L := gg_a2 137 rfl rfl
theorem wd_411 : Cond.fieldLink r_Mo 45 "PoolDiceModel" "drawn" "[I" ∈ gg_L := gg_a2 138 rfl rfl
theorem wd_412 : Cond.fieldLink r_Mo 48 "PoolDiceModel" "made" "[I" ∈ gg_L := gg_a2 139 rfl rfl
theorem wd_413 : Cond.fieldLink r_Mo 51 "PoolDiceModel" "block" "[I" ∈ gg_L := gg_a2 140 rfl rfl
theorem wd_414 : Cond.fieldLink r_Mo 54 "PoolDiceModel" "other" "[I" ∈ gg_L := gg_a2 141 rfl rfl
theorem wd_415 : Cond.fieldLink r_Mo 57 "PoolDiceModel" "schedule" "[I" ∈ gg_L := gg_a2 142 rfl rfl
theorem wd_416 : Cond.fieldLink r_Mo 60 "PoolDiceModel" "turns" "[I" ∈ gg_L := gg_a2 143 rfl rfl
theorem wd_417 : Cond.fieldLink r_Mo 168 "PoolDiceModel" "ready" "Z" ∈ gg_L := gg_a2 144 rfl rfl
theorem wd_418 : Cond.lays "PoolDiceModel" "PoolDiceModel" "code" "I" ∈ gg_L := gg_a2 145 rfl rfl
theorem wd_420 : Cond.laysFinal "PoolDiceModel" "PoolDiceModel" "key" "[I" ∈ gg_L := gg_a2 147 rfl rfl
theorem wd_422 : Cond.laysFinal "PoolDiceModel" "PoolDiceModel" "counter" "[I" ∈ gg_L := gg_a2 149 rfl rfl
theorem wd_424 : Cond.lays "PoolDiceModel" "PoolDiceModel" "reseeds" "I" ∈ gg_L := gg_a2 151 rfl rfl
theorem wd_426 : Cond.lays "PoolDiceModel" "PoolDiceModel" "clock" "I" ∈ gg_L := gg_a2 153 rfl rfl
theorem wd_428 : Cond.lays "PoolDiceModel" "PoolDiceModel" "latest" "I" ∈ gg_L := gg_a2 155 rfl rfl
theorem wd_430 : Cond.laysFinal "PoolDiceModel" "PoolDiceModel" "lengths" "[I" ∈ gg_L := gg_a2 157 rfl rfl
theorem wd_432 : Cond.laysFinal "PoolDiceModel" "PoolDiceModel" "pools" "[I" ∈ gg_L := gg_a2 159 rfl rfl
theorem wd_434 : Cond.laysFinal "PoolDiceModel" "PoolDiceModel" "out" "[I" ∈ gg_L := gg_a2 161 rfl rfl
theorem wd_436 : Cond.lays "PoolDiceModel" "PoolDiceModel" "outs" "I" ∈ gg_L := gg_a2 163 rfl rfl
theorem wd_438 : Cond.laysFinal "PoolDiceModel" "PoolDiceModel" "disk" "[I" ∈ gg_L := gg_a2 165 rfl rfl
theorem wd_440 : Cond.lays "PoolDiceModel" "PoolDiceModel" "told" "I" ∈ gg_L := gg_a2 167 rfl rfl
theorem wd_442 : Cond.lays "PoolDiceModel" "PoolDiceModel" "writes" "I" ∈ gg_L := gg_a2 169 rfl rfl
theorem wd_444 : Cond.laysFinal "PoolDiceModel" "PoolDiceModel" "row" "[I" ∈ gg_L := gg_a2 171 rfl rfl
theorem wd_446 : Cond.lays "PoolDiceModel" "PoolDiceModel" "length" "I" ∈ gg_L := gg_a2 173 rfl rfl
theorem wd_448 : Cond.laysFinal "PoolDiceModel" "PoolDiceModel" "words" "[I" ∈ gg_L := gg_a2 175 rfl rfl
theorem wd_450 : Cond.laysFinal "PoolDiceModel" "PoolDiceModel" "h" "[I" ∈ gg_L := gg_a2 177 rfl rfl
theorem wd_452 : Cond.laysFinal "PoolDiceModel" "PoolDiceModel" "digest" "[I" ∈ gg_L := gg_a2 179 rfl rfl
theorem wd_454 : Cond.laysFinal "PoolDiceModel" "PoolDiceModel" "drawn" "[I" ∈ gg_L := gg_a2 181 rfl rfl
theorem wd_456 : Cond.laysFinal "PoolDiceModel" "PoolDiceModel" "made" "[I" ∈ gg_L := gg_a2 183 rfl rfl
theorem wd_458 : Cond.laysFinal "PoolDiceModel" "PoolDiceModel" "block" "[I" ∈ gg_L := gg_a2 185 rfl rfl
theorem wd_460 : Cond.laysFinal "PoolDiceModel" "PoolDiceModel" "other" "[I" ∈ gg_L := gg_a2 187 rfl rfl
theorem wd_462 : Cond.laysFinal "PoolDiceModel" "PoolDiceModel" "schedule" "[I" ∈ gg_L := gg_a2 189 rfl rfl
theorem wd_464 : Cond.laysFinal "PoolDiceModel" "PoolDiceModel" "turns" "[I" ∈ gg_L := gg_a2 191 rfl rfl
theorem wd_466 : Cond.lays "PoolDiceModel" "PoolDiceModel" "ready" "Z" ∈ gg_L := gg_a2 193 rfl rfl
theorem wd_469 : Cond.methodLink r_La 16 y_Mo_init ∈ gg_L := gg_a2 196 rfl rfl
theorem wd_470 : Cond.instanceMethod y_Mo_init ∈ gg_L := gg_a2 197 rfl rfl
theorem wd_471 : Cond.selects r_Mo y_Mo_init y_Mo_init ∈ gg_L := gg_a2 198 rfl rfl
theorem wd_472 : Cond.code y_Mo_init c_Mo_init 1 none ∈ gg_L := gg_a2 199 rfl rfl
theorem wd_473 : Cond.methodLink r_Mo 200 y_Mo_first ∈ gg_L := gg_a2 200 rfl rfl
theorem wd_475 : Cond.instanceMethod y_Mo_first ∈ gg_L := gg_a2 202 rfl rfl
theorem wd_476 : Cond.code y_Mo_first c_Mo_first 2 none ∈ gg_L := gg_a2 203 rfl rfl
theorem wd_477 : Cond.methodLink r_La 21 y_Mo_event ∈ gg_L := gg_a2 204 rfl rfl
theorem wd_478 : Cond.instanceMethod y_Mo_event ∈ gg_L := gg_a2 205 rfl rfl
theorem wd_479 : Cond.selects r_Mo y_Mo_event y_Mo_event ∈ gg_L := gg_a2 206 rfl rfl
theorem wd_480 : Cond.code y_Mo_event c_Mo_event 5 (some .boolean) ∈ gg_L := gg_a2 207 rfl rfl
theorem wd_481 : Cond.methodLink r_Mo 203 y_Mo_in ∈ gg_L := gg_a2 208 rfl rfl
theorem wd_482 : Cond.static y_Mo_in ∈ gg_L := gg_a2 209 rfl rfl
theorem wd_483 : Cond.code y_Mo_in c_Mo_in 2 (some .boolean) ∈ gg_L := gg_a2 210 rfl rfl
theorem wd_484 : Cond.methodLink r_La 26 y_Mo_tick ∈ gg_L := gg_a2 211 rfl rfl
theorem wd_485 : Cond.instanceMethod y_Mo_tick ∈ gg_L := gg_a2 212 rfl rfl
theorem wd_486 : Cond.selects r_Mo y_Mo_tick y_Mo_tick ∈ gg_L := gg_a2 213 rfl rfl
theorem wd_487 : Cond.code y_Mo_tick c_Mo_tick 2 (some .int) ∈ gg_L := gg_a2 214 rfl rfl
theorem wd_488 : Cond.constant r_Mo 207 (2147483647) ∈ gg_L := gg_a2 215 rfl rfl
theorem wd_489 : Cond.methodLink r_La 30 y_Mo_request ∈ gg_L := gg_a2 216 rfl rfl
theorem wd_490 : Cond.instanceMethod y_Mo_request ∈ gg_L := gg_a2 217 rfl rfl
theorem wd_491 : Cond.selects r_Mo y_Mo_request y_Mo_request ∈ gg_L := gg_a2 218 rfl rfl
theorem wd_492 : Cond.code y_Mo_request c_Mo_request 3 (some .int) ∈ gg_L := gg_a2 219 rfl rfl
theorem wd_493 : Cond.methodLink r_Mo 213 y_Mo_draws ∈ gg_L := gg_a2 220 rfl rfl
theorem wd_495 : Cond.instanceMethod y_Mo_draws ∈ gg_L := gg_a2 222 rfl rfl
theorem wd_496 : Cond.code y_Mo_draws c_Mo_draws 5 none ∈ gg_L := gg_a2 223 rfl rfl
theorem wd_497 : Cond.methodLink r_Mo 208 y_Mo_ofPool ∈ gg_L := gg_a2 224 rfl rfl
theorem wd_499 : Cond.instanceMethod y_Mo_ofPool ∈ gg_L := gg_a2 226 rfl rfl
theorem wd_500 : Cond.code y_Mo_ofPool c_Mo_ofPool 3 none ∈ gg_L := gg_a2 227 rfl rfl
theorem wd_501 : Cond.methodLink r_Mo 162 y_Mo_twice ∈ gg_L := gg_a2 228 rfl rfl
theorem wd_503 : Cond.instanceMethod y_Mo_twice ∈ gg_L := gg_a2 230 rfl rfl
theorem wd_504 : Cond.code y_Mo_twice c_Mo_twice 2 none ∈ gg_L := gg_a2 231 rfl rfl
theorem wd_505 : Cond.methodLink r_Mo 159 y_Mo_digests ∈ gg_L := gg_a2 232 rfl rfl
theorem wd_507 : Cond.instanceMethod y_Mo_digests ∈ gg_L := gg_a2 234 rfl rfl
theorem wd_508 : Cond.code y_Mo_digests c_Mo_digests 3 none ∈ gg_L := gg_a2 235 rfl rfl
theorem wd_509 : Cond.methodLink r_Mo 152 y_Mo_start ∈ gg_L := gg_a2 236 rfl rfl
theorem wd_510 : Cond.static y_Mo_start ∈ gg_L := gg_a2 237 rfl rfl
theorem wd_511 : Cond.code y_Mo_start c_Mo_start 1 (some .int) ∈ gg_L := gg_a2 238 rfl rfl
theorem wd_512 : Cond.constant r_Mo 130 (1779033703) ∈ gg_L := gg_a2 239 rfl rfl
theorem wd_513 : Cond.constant r_Mo 131 (-1150833019) ∈ gg_L := gg_a3 0 rfl rfl
theorem wd_514 : Cond.constant r_Mo 132 (1013904242) ∈ gg_L := gg_a3 1 rfl rfl
theorem wd_515 : Cond.constant r_Mo 133 (-1521486534) ∈ gg_L := gg_a3 2 rfl rfl
theorem wd_516 : Cond.constant r_Mo 134 (1359893119) ∈ gg_L := gg_a3 3 rfl rfl
theorem wd_517 : Cond.constant r_Mo 135 (-1694144372) ∈ gg_L := gg_a3 4 rfl rfl
theorem wd_518 : Cond.constant r_Mo 136 (528734635) ∈ gg_L := gg_a3 5 rfl rfl
theorem wd_519 : Cond.constant r_Mo 137 (1541459225) ∈ gg_L := gg_a3 6 rfl rfl
theorem wd_520 : Cond.methodLink r_Mo 155 y_Mo_round ∈ gg_L := gg_a3 7 rfl rfl
theorem wd_522 : Cond.instanceMethod y_Mo_round ∈ gg_L := gg_a3 9 rfl rfl
theorem wd_523 : Cond.code y_Mo_round c_Mo_round 14 none ∈ gg_L := gg_a3 10 rfl rfl
theorem wd_524 : Cond.methodLink r_Mo 141 y_Mo_padded ∈ gg_L := gg_a3 11 rfl rfl
theorem wd_526 : Cond.instanceMethod y_Mo_padded ∈ gg_L := gg_a3 13 rfl rfl
theorem wd_527 : Cond.code y_Mo_padded c_Mo_padded 4 (some .int) ∈ gg_L := gg_a3 14 rfl rfl
theorem wd_528 : Cond.methodLink r_Mo 145 y_Mo_right ∈ gg_L := gg_a3 15 rfl rfl
theorem wd_529 : Cond.static y_Mo_right ∈ gg_L := gg_a3 16 rfl rfl
theorem wd_530 : Cond.code y_Mo_right c_Mo_right 2 (some .int) ∈ gg_L := gg_a3 17 rfl rfl
theorem wd_531 : Cond.methodLink r_Mo 148 y_Mo_constant ∈ gg_L := gg_a3 18 rfl rfl
theorem wd_532 : Cond.static y_Mo_constant ∈ gg_L := gg_a3 19 rfl rfl
theorem wd_533 : Cond.code y_Mo_constant c_Mo_constant 1 (some .int) ∈ gg_L := gg_a3 20 rfl rfl
theorem wd_534 : Cond.constant r_Mo 66 (1116352408) ∈ gg_L := gg_a3 21 rfl rfl
theorem wd_535 : Cond.constant r_Mo 67 (1899447441) ∈ gg_L := gg_a3 22 rfl rfl
theorem wd_536 : Cond.constant r_Mo 68 (-1245643825) ∈ gg_L := gg_a3 23 rfl rfl
theorem wd_537 : Cond.constant r_Mo 69 (-373957723) ∈ gg_L := gg_a3 24 rfl rfl
theorem wd_538 : Cond.constant r_Mo 70 (961987163) ∈ gg_L := gg_a3 25 rfl rfl
theorem wd_539 : Cond.constant r_Mo 71 (1508970993) ∈ gg_L := gg_a3 26 rfl rfl
theorem wd_540 : Cond.constant r_Mo 72 (-1841331548) ∈ gg_L := gg_a3 27 rfl rfl
theorem wd_541 : Cond.constant r_Mo 73 (-1424204075) ∈ gg_L := gg_a3 28 rfl rfl
theorem wd_542 : Cond.constant r_Mo 74 (-670586216) ∈ gg_L := gg_a3 29 rfl rfl
theorem wd_543 : Cond.constant r_Mo 75 (310598401) ∈ gg_L := gg_a3 30 rfl rfl
theorem wd_544 : Cond.constant r_Mo 76 (607225278) ∈ gg_L := gg_a3 31 rfl rfl
theorem wd_545 : Cond.constant r_Mo 77 (1426881987) ∈ gg_L := gg_a3 32 rfl rfl
theorem wd_546 : Cond.constant r_Mo 78 (1925078388) ∈ gg_L := gg_a3 33 rfl rfl
theorem wd_547 : Cond.constant r_Mo 79 (-2132889090) ∈ gg_L := gg_a3 34 rfl rfl
theorem wd_548 : Cond.constant r_Mo 80 (-1680079193) ∈ gg_L := gg_a3 35 rfl rfl
theorem wd_549 : Cond.constant r_Mo 81 (-1046744716) ∈ gg_L := gg_a3 36 rfl rfl
theorem wd_550 : Cond.constant r_Mo 82 (-459576895) ∈ gg_L := gg_a3 37 rfl rfl
theorem wd_551 : Cond.constant r_Mo 83 (-272742522) ∈ gg_L := gg_a3 38 rfl rfl
theorem wd_552 : Cond.constant r_Mo 84 (264347078) ∈ gg_L := gg_a3 39 rfl rfl
theorem wd_553 : Cond.constant r_Mo 85 (604807628) ∈ gg_L := gg_a3 40 rfl rfl
theorem wd_554 : Cond.constant r_Mo 86 (770255983) ∈ gg_L := gg_a3 41 rfl rfl
theorem wd_555 : Cond.constant r_Mo 87 (1249150122) ∈ gg_L := gg_a3 42 rfl rfl
theorem wd_556 : Cond.constant r_Mo 88 (1555081692) ∈ gg_L := gg_a3 43 rfl rfl
theorem wd_557 : Cond.constant r_Mo 89 (1996064986) ∈ gg_L := gg_a3 44 rfl rfl
theorem wd_558 : Cond.constant r_Mo 90 (-1740746414) ∈ gg_L := gg_a3 45 rfl rfl
theorem wd_559 : Cond.constant r_Mo 91 (-1473132947) ∈ gg_L := gg_a3 46 rfl rfl
theorem wd_560 : Cond.constant r_Mo 92 (-1341970488) ∈ gg_L := gg_a3 47 rfl rfl
theorem wd_561 : Cond.constant r_Mo 93 (-1084653625) ∈ gg_L := gg_a3 48 rfl rfl
theorem wd_562 : Cond.constant r_Mo 94 (-958395405) ∈ gg_L := gg_a3 49 rfl rfl
theorem wd_563 : Cond.constant r_Mo 95 (-710438585) ∈ gg_L := gg_a3 50 rfl rfl
theorem wd_564 : Cond.constant r_Mo 96 (113926993) ∈ gg_L := gg_a3 51 rfl rfl
theorem wd_565 : Cond.constant r_Mo 97 (338241895) ∈ gg_L := gg_a3 52 rfl rfl
theorem wd_566 : Cond.constant r_Mo 98 (666307205) ∈ gg_L := gg_a3 53 rfl rfl
theorem wd_567 : Cond.constant r_Mo 99 (773529912) ∈ gg_L := gg_a3 54 rfl rfl
theorem wd_568 : Cond.constant r_Mo 100 (1294757372) ∈ gg_L := gg_a3 55 rfl rfl
theorem wd_569 : Cond.constant r_Mo 101 (1396182291) ∈ gg_L := gg_a3 56 rfl rfl
theorem wd_570 : Cond.constant r_Mo 102 (1695183700) ∈ gg_L := gg_a3 57 rfl rfl
theorem wd_571 : Cond.constant r_Mo 103 (1986661051) ∈ gg_L := gg_a3 58 rfl rfl
theorem wd_572 : Cond.constant r_Mo 104 (-2117940946) ∈ gg_L := gg_a3 59 rfl rfl
theorem wd_573 : Cond.constant r_Mo 105 (-1838011259) ∈ gg_L := gg_a3 60 rfl rfl
theorem wd_574 : Cond.constant r_Mo 106 (-1564481375) ∈ gg_L := gg_a3 61 rfl rfl
theorem wd_575 : Cond.constant r_Mo 107 (-1474664885) ∈ gg_L := gg_a3 62 rfl rfl
theorem wd_576 : Cond.constant r_Mo 108 (-1035236496) ∈ gg_L := gg_a3 63 rfl rfl
theorem wd_577 : Cond.constant r_Mo 109 (-949202525) ∈ gg_L := gg_a3 64 rfl rfl
theorem wd_578 : Cond.constant r_Mo 110 (-778901479) ∈ gg_L := gg_a3 65 rfl rfl
theorem wd_579 : Cond.constant r_Mo 111 (-694614492) ∈ gg_L := gg_a3 66 rfl rfl
theorem wd_580 : Cond.constant r_Mo 112 (-200395387) ∈ gg_L := gg_a3 67 rfl rfl
theorem wd_581 : Cond.constant r_Mo 113 (275423344) ∈ gg_L := gg_a3 68 rfl rfl
theorem wd_582 : Cond.constant r_Mo 114 (430227734) ∈ gg_L := gg_a3 69 rfl rfl
theorem wd_583 : Cond.constant r_Mo 115 (506948616) ∈ gg_L := gg_a3 70 rfl rfl
theorem wd_584 : Cond.constant r_Mo 116 (659060556) ∈ gg_L := gg_a3 71 rfl rfl
theorem wd_585 : Cond.constant r_Mo 117 (883997877) ∈ gg_L := gg_a3 72 rfl rfl
theorem wd_586 : Cond.constant r_Mo 118 (958139571) ∈ gg_L := gg_a3 73 rfl rfl
theorem wd_587 : Cond.constant r_Mo 119 (1322822218) ∈ gg_L := gg_a3 74 rfl rfl
theorem wd_588 : Cond.constant r_Mo 120 (1537002063) ∈ gg_L := gg_a3 75 rfl rfl
theorem wd_589 : Cond.constant r_Mo 121 (1747873779) ∈ gg_L := gg_a3 76 rfl rfl
theorem wd_590 : Cond.constant r_Mo 122 (1955562222) ∈ gg_L := gg_a3 77 rfl rfl
theorem wd_591 : Cond.constant r_Mo 123 (2024104815) ∈ gg_L := gg_a3 78 rfl rfl
theorem wd_592 : Cond.constant r_Mo 124 (-2067236844) ∈ gg_L := gg_a3 79 rfl rfl
theorem wd_593 : Cond.constant r_Mo 125 (-1933114872) ∈ gg_L := gg_a3 80 rfl rfl
theorem wd_594 : Cond.constant r_Mo 126 (-1866530822) ∈ gg_L := gg_a3 81 rfl rfl
theorem wd_595 : Cond.constant r_Mo 127 (-1538233109) ∈ gg_L := gg_a3 82 rfl rfl
theorem wd_596 : Cond.constant r_Mo 128 (-1090935817) ∈ gg_L := gg_a3 83 rfl rfl
theorem wd_597 : Cond.constant r_Mo 129 (-965641998) ∈ gg_L := gg_a3 84 rfl rfl
theorem wd_598 : Cond.methodLink r_Mo 211 y_Mo_reseeds ∈ gg_L := gg_a3 85 rfl rfl
theorem wd_600 : Cond.instanceMethod y_Mo_reseeds ∈ gg_L := gg_a3 87 rfl rfl
theorem wd_601 : Cond.code y_Mo_reseeds c_Mo_reseeds 3 none ∈ gg_L := gg_a3 88 rfl rfl
theorem wd_602 : Cond.methodLink r_Mo 181 y_Mo_counts ∈ gg_L := gg_a3 89 rfl rfl
theorem wd_604 : Cond.instanceMethod y_Mo_counts ∈ gg_L := gg_a3 91 rfl rfl
theorem wd_605 : Cond.code y_Mo_counts c_Mo_counts 2 none ∈ gg_L := gg_a3 92 rfl rfl
theorem wd_606 : Cond.methodLink r_Mo 216 y_Mo_isSeeded ∈ gg_L := gg_a3 93 rfl rfl
theorem wd_608 : Cond.instanceMethod y_Mo_isSeeded ∈ gg_L := gg_a3 95 rfl rfl
theorem wd_609 : Cond.code y_Mo_isSeeded c_Mo_isSeeded 3 (some .boolean) ∈ gg_L := gg_a3 96 rfl rfl
theorem wd_610 : Cond.methodLink r_Mo 220 y_Mo_generatesAll ∈ gg_L := gg_a3 97 rfl rfl
theorem wd_612 : Cond.instanceMethod y_Mo_generatesAll ∈ gg_L := gg_a3 99 rfl rfl
theorem wd_613 : Cond.code y_Mo_generatesAll c_Mo_generatesAll 4 none ∈ gg_L := gg_a3 100 rfl rfl
theorem wd_614 : Cond.methodLink r_Mo 184 y_Mo_generates ∈ gg_L := gg_a3 101 rfl rfl
theorem wd_616 : Cond.instanceMethod y_Mo_generates ∈ gg_L := gg_a3 103 rfl rfl
theorem wd_617 : Cond.code y_Mo_generates c_Mo_generates 7 none ∈ gg_L := gg_a3 104 rfl rfl
theorem wd_618 : Cond.methodLink r_Mo 178 y_Mo_schedules ∈ gg_L := gg_a3 105 rfl rfl
theorem wd_620 : Cond.instanceMethod y_Mo_schedules ∈ gg_L := gg_a3 107 rfl rfl
theorem wd_621 : Cond.code y_Mo_schedules c_Mo_schedules 6 none ∈ gg_L := gg_a3 108 rfl rfl
theorem wd_622 : Cond.methodLink r_Mo 175 y_Mo_s ∈ gg_L := gg_a3 109 rfl rfl
theorem wd_624 : Cond.instanceMethod y_Mo_s ∈ gg_L := gg_a3 111 rfl rfl
theorem wd_625 : Cond.code y_Mo_s c_Mo_s 3 (some .int) ∈ gg_L := gg_a3 112 rfl rfl
theorem wd_626 : Cond.methodLink r_Mo 172 y_Mo_turned ∈ gg_L := gg_a3 113 rfl rfl
theorem wd_627 : Cond.static y_Mo_turned ∈ gg_L := gg_a3 114 rfl rfl
theorem wd_628 : Cond.code y_Mo_turned c_Mo_turned 5 (some .int) ∈ gg_L := gg_a3 115 rfl rfl
theorem wd_629 : Cond.methodLink r_Mo 165 y_Mo_times ∈ gg_L := gg_a3 116 rfl rfl
theorem wd_630 : Cond.static y_Mo_times ∈ gg_L := gg_a3 117 rfl rfl
theorem wd_631 : Cond.code y_Mo_times c_Mo_times 5 (some .int) ∈ gg_L := gg_a3 118 rfl rfl
theorem wd_632 : Cond.methodLink r_La 34 y_Mo_out ∈ gg_L := gg_a3 119 rfl rfl
theorem wd_633 : Cond.instanceMethod y_Mo_out ∈ gg_L := gg_a3 120 rfl rfl
theorem wd_634 : Cond.selects r_Mo y_Mo_out y_Mo_out ∈ gg_L := gg_a3 121 rfl rfl
theorem wd_635 : Cond.code y_Mo_out c_Mo_out 2 (some .int) ∈ gg_L := gg_a3 122 rfl rfl
theorem wd_636 : Cond.methodLink r_La 39 y_Mo_save ∈ gg_L := gg_a3 123 rfl rfl
theorem wd_637 : Cond.instanceMethod y_Mo_save ∈ gg_L := gg_a3 124 rfl rfl
theorem wd_638 : Cond.selects r_Mo y_Mo_save y_Mo_save ∈ gg_L := gg_a3 125 rfl rfl
theorem wd_639 : Cond.code y_Mo_save c_Mo_save 1 (some .int) ∈ gg_L := gg_a3 126 rfl rfl
theorem wd_640 : Cond.methodLink r_Mo 228 y_Mo_saves ∈ gg_L := gg_a3 127 rfl rfl
theorem wd_642 : Cond.instanceMethod y_Mo_saves ∈ gg_L := gg_a3 129 rfl rfl
theorem wd_643 : Cond.code y_Mo_saves c_Mo_saves 3 (some .int) ∈ gg_L := gg_a3 130 rfl rfl
theorem wd_644 : Cond.methodLink r_Mo 226 y_Mo_writes ∈ gg_L := gg_a3 131 rfl rfl
theorem wd_646 : Cond.instanceMethod y_Mo_writes ∈ gg_L := gg_a3 133 rfl rfl
theorem wd_647 : Cond.code y_Mo_writes c_Mo_writes 3 (some .boolean) ∈ gg_L := gg_a3 134 rfl rfl
theorem wd_648 : Cond.methodLink r_La 43 y_Mo_load ∈ gg_L := gg_a3 135 rfl rfl
theorem wd_649 : Cond.instanceMethod y_Mo_load ∈ gg_L := gg_a3 136 rfl rfl
theorem wd_650 : Cond.selects r_Mo y_Mo_load y_Mo_load ∈ gg_L := gg_a3 137 rfl rfl
theorem wd_651 : Cond.code y_Mo_load c_Mo_load 2 (some .int) ∈ gg_L := gg_a3 138 rfl rfl
theorem wd_652 : Cond.methodLink r_La 48 y_Mo_crash ∈ gg_L := gg_a3 139 rfl rfl
theorem wd_653 : Cond.instanceMethod y_Mo_crash ∈ gg_L := gg_a3 140 rfl rfl
theorem wd_654 : Cond.selects r_Mo y_Mo_crash y_Mo_crash ∈ gg_L := gg_a3 141 rfl rfl
theorem wd_655 : Cond.code y_Mo_crash c_Mo_crash 2 none ∈ gg_L := gg_a3 142 rfl rfl
theorem wd_656 : Cond.methodLink r_La 53 y_Mo_byteOf ∈ gg_L := gg_a3 143 rfl rfl
theorem wd_657 : Cond.instanceMethod y_Mo_byteOf ∈ gg_L := gg_a3 144 rfl rfl
theorem wd_658 : Cond.selects r_Mo y_Mo_byteOf y_Mo_byteOf ∈ gg_L := gg_a3 145 rfl rfl
theorem wd_659 : Cond.code y_Mo_byteOf c_Mo_byteOf 3 (some .int) ∈ gg_L := gg_a3 146 rfl rfl
theorem wd_660 : Cond.methodLink r_La 58 y_Mo_spoil ∈ gg_L := gg_a3 147 rfl rfl
theorem wd_661 : Cond.instanceMethod y_Mo_spoil ∈ gg_L := gg_a3 148 rfl rfl
theorem wd_662 : Cond.selects r_Mo y_Mo_spoil y_Mo_spoil ∈ gg_L := gg_a3 149 rfl rfl
theorem wd_663 : Cond.code y_Mo_spoil c_Mo_spoil 3 (some .boolean) ∈ gg_L := gg_a3 150 rfl rfl
theorem wd_664 : Cond.methodLink r_La 62 y_Mo_about ∈ gg_L := gg_a3 151 rfl rfl
theorem wd_665 : Cond.instanceMethod y_Mo_about ∈ gg_L := gg_a3 152 rfl rfl
theorem wd_666 : Cond.selects r_Mo y_Mo_about y_Mo_about ∈ gg_L := gg_a3 153 rfl rfl
theorem wd_667 : Cond.code y_Mo_about c_Mo_about 2 (some .int) ∈ gg_L := gg_a3 154 rfl rfl
theorem i_Ci : ∀ w ∈ u_ws r_Ci f_Ci 3, w ∈ gg_L := by
  intro w hw
  obtain ⟨k, hk, rfl⟩ := List.mem_map.mp hw
  have hk := List.mem_range.mp hk
  rcases Nat.lt_or_ge k 1 with h0 | h0
  · obtain rfl : k = 0 := by omega
    exact wd_102
  rcases Nat.lt_or_ge k 2 with h1 | h1
  · obtain rfl : k = 1 := by omega
    exact wd_104
  obtain rfl : k = 2 := by omega
  exact wd_106
theorem i_Dg : ∀ w ∈ u_ws r_Dg f_Dg 3, w ∈ gg_L := by
  intro w hw
  obtain ⟨k, hk, rfl⟩ := List.mem_map.mp hw
  have hk := List.mem_range.mp hk
  rcases Nat.lt_or_ge k 1 with h0 | h0
  · obtain rfl : k = 0 := by omega
    exact wd_86
  rcases Nat.lt_or_ge k 2 with h1 | h1
  · obtain rfl : k = 1 := by omega
    exact wd_88
  obtain rfl : k = 2 := by omega
  exact wd_90
theorem i_Dk : ∀ w ∈ u_ws r_Dk f_Dk 3, w ∈ gg_L := by
  intro w hw
  obtain ⟨k, hk, rfl⟩ := List.mem_map.mp hw
  have hk := List.mem_range.mp hk
  rcases Nat.lt_or_ge k 1 with h0 | h0
  · obtain rfl : k = 0 := by omega
    exact wd_158
  rcases Nat.lt_or_ge k 2 with h1 | h1
  · obtain rfl : k = 1 := by omega
    exact wd_160
  obtain rfl : k = 2 := by omega
  exact wd_162
theorem i_Ge : ∀ w ∈ u_ws r_Ge f_Ge 10, w ∈ gg_L := by
  intro w hw
  obtain ⟨k, hk, rfl⟩ := List.mem_map.mp hw
  have hk := List.mem_range.mp hk
  rcases Nat.lt_or_ge k 1 with h0 | h0
  · obtain rfl : k = 0 := by omega
    exact wd_125
  rcases Nat.lt_or_ge k 2 with h1 | h1
  · obtain rfl : k = 1 := by omega
    exact wd_127
  rcases Nat.lt_or_ge k 3 with h2 | h2
  · obtain rfl : k = 2 := by omega
    exact wd_129
  rcases Nat.lt_or_ge k 4 with h3 | h3
  · obtain rfl : k = 3 := by omega
    exact wd_131
  rcases Nat.lt_or_ge k 5 with h4 | h4
  · obtain rfl : k = 4 := by omega
    exact wd_133
  rcases Nat.lt_or_ge k 6 with h5 | h5
  · obtain rfl : k = 5 := by omega
    exact wd_135
  rcases Nat.lt_or_ge k 7 with h6 | h6
  · obtain rfl : k = 6 := by omega
    exact wd_137
  rcases Nat.lt_or_ge k 8 with h7 | h7
  · obtain rfl : k = 7 := by omega
    exact wd_139
  rcases Nat.lt_or_ge k 9 with h8 | h8
  · obtain rfl : k = 8 := by omega
    exact wd_141
  obtain rfl : k = 9 := by omega
  exact wd_143
theorem i_Po : ∀ w ∈ u_ws r_Po f_Po 2, w ∈ gg_L := by
  intro w hw
  obtain ⟨k, hk, rfl⟩ := List.mem_map.mp hw
  have hk := List.mem_range.mp hk
  rcases Nat.lt_or_ge k 1 with h0 | h0
  · obtain rfl : k = 0 := by omega
    exact wd_69
  obtain rfl : k = 1 := by omega
  exact wd_71
theorem i_Pd : ∀ w ∈ u_ws r_Pd f_Pd 5, w ∈ gg_L := by
  intro w hw
  obtain ⟨k, hk, rfl⟩ := List.mem_map.mp hw
  have hk := List.mem_range.mp hk
  rcases Nat.lt_or_ge k 1 with h0 | h0
  · obtain rfl : k = 0 := by omega
    exact wd_170
  rcases Nat.lt_or_ge k 2 with h1 | h1
  · obtain rfl : k = 1 := by omega
    exact wd_172
  rcases Nat.lt_or_ge k 3 with h2 | h2
  · obtain rfl : k = 2 := by omega
    exact wd_174
  rcases Nat.lt_or_ge k 4 with h3 | h3
  · obtain rfl : k = 3 := by omega
    exact wd_176
  obtain rfl : k = 4 := by omega
  exact wd_178
theorem i_Mo : ∀ w ∈ u_ws r_Mo f_Mo 25, w ∈ gg_L := by
  intro w hw
  obtain ⟨k, hk, rfl⟩ := List.mem_map.mp hw
  have hk := List.mem_range.mp hk
  rcases Nat.lt_or_ge k 1 with h0 | h0
  · obtain rfl : k = 0 := by omega
    exact wd_418
  rcases Nat.lt_or_ge k 2 with h1 | h1
  · obtain rfl : k = 1 := by omega
    exact wd_420
  rcases Nat.lt_or_ge k 3 with h2 | h2
  · obtain rfl : k = 2 := by omega
    exact wd_422
  rcases Nat.lt_or_ge k 4 with h3 | h3
  · obtain rfl : k = 3 := by omega
    exact wd_424
  rcases Nat.lt_or_ge k 5 with h4 | h4
  · obtain rfl : k = 4 := by omega
    exact wd_426
  rcases Nat.lt_or_ge k 6 with h5 | h5
  · obtain rfl : k = 5 := by omega
    exact wd_428
  rcases Nat.lt_or_ge k 7 with h6 | h6
  · obtain rfl : k = 6 := by omega
    exact wd_430
  rcases Nat.lt_or_ge k 8 with h7 | h7
  · obtain rfl : k = 7 := by omega
    exact wd_432
  rcases Nat.lt_or_ge k 9 with h8 | h8
  · obtain rfl : k = 8 := by omega
    exact wd_434
  rcases Nat.lt_or_ge k 10 with h9 | h9
  · obtain rfl : k = 9 := by omega
    exact wd_436
  rcases Nat.lt_or_ge k 11 with h10 | h10
  · obtain rfl : k = 10 := by omega
    exact wd_438
  rcases Nat.lt_or_ge k 12 with h11 | h11
  · obtain rfl : k = 11 := by omega
    exact wd_440
  rcases Nat.lt_or_ge k 13 with h12 | h12
  · obtain rfl : k = 12 := by omega
    exact wd_442
  rcases Nat.lt_or_ge k 14 with h13 | h13
  · obtain rfl : k = 13 := by omega
    exact wd_444
  rcases Nat.lt_or_ge k 15 with h14 | h14
  · obtain rfl : k = 14 := by omega
    exact wd_446
  rcases Nat.lt_or_ge k 16 with h15 | h15
  · obtain rfl : k = 15 := by omega
    exact wd_448
  rcases Nat.lt_or_ge k 17 with h16 | h16
  · obtain rfl : k = 16 := by omega
    exact wd_450
  rcases Nat.lt_or_ge k 18 with h17 | h17
  · obtain rfl : k = 17 := by omega
    exact wd_452
  rcases Nat.lt_or_ge k 19 with h18 | h18
  · obtain rfl : k = 18 := by omega
    exact wd_454
  rcases Nat.lt_or_ge k 20 with h19 | h19
  · obtain rfl : k = 19 := by omega
    exact wd_456
  rcases Nat.lt_or_ge k 21 with h20 | h20
  · obtain rfl : k = 20 := by omega
    exact wd_458
  rcases Nat.lt_or_ge k 22 with h21 | h21
  · obtain rfl : k = 21 := by omega
    exact wd_460
  rcases Nat.lt_or_ge k 23 with h22 | h22
  · obtain rfl : k = 22 := by omega
    exact wd_462
  rcases Nat.lt_or_ge k 24 with h23 | h23
  · obtain rfl : k = 23 := by omega
    exact wd_464
  obtain rfl : k = 24 := by omega
  exact wd_466
