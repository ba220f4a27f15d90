theorem dX0_init_0 : decode cX0_init 0 = .ok (.aload_n 0, 1) := by decide +kernel
theorem dX0_init_1 : decode cX0_init 1 = .ok (.invokespecial 3, 3) := by decide +kernel
theorem dX0_init_4 : decode cX0_init 4 = .ok (.aload_n 0, 1) := by decide +kernel
theorem dX0_init_5 : decode cX0_init 5 = .ok (.bipush 6, 2) := by decide +kernel
theorem dX0_init_7 : decode cX0_init 7 = .ok (.newarray .int, 2) := by decide +kernel
theorem dX0_init_9 : decode cX0_init 9 = .ok (.putfield 9, 3) := by decide +kernel
theorem dX0_init_12 : decode cX0_init 12 = .ok (.aload_n 0, 1) := by decide +kernel
theorem dX0_init_13 : decode cX0_init 13 = .ok (.iconst 3, 1) := by decide +kernel
theorem dX0_init_14 : decode cX0_init 14 = .ok (.newarray .int, 2) := by decide +kernel
theorem dX0_init_16 : decode cX0_init 16 = .ok (.dup, 1) := by decide +kernel
theorem dX0_init_17 : decode cX0_init 17 = .ok (.iconst 0, 1) := by decide +kernel
theorem dX0_init_18 : decode cX0_init 18 = .ok (.iconst 1, 1) := by decide +kernel
theorem dX0_init_19 : decode cX0_init 19 = .ok (.iastore, 1) := by decide +kernel
theorem dX0_init_20 : decode cX0_init 20 = .ok (.dup, 1) := by decide +kernel
theorem dX0_init_21 : decode cX0_init 21 = .ok (.iconst 1, 1) := by decide +kernel
theorem dX0_init_22 : decode cX0_init 22 = .ok (.iconst 1, 1) := by decide +kernel
theorem dX0_init_23 : decode cX0_init 23 = .ok (.iastore, 1) := by decide +kernel
theorem dX0_init_24 : decode cX0_init 24 = .ok (.dup, 1) := by decide +kernel
theorem dX0_init_25 : decode cX0_init 25 = .ok (.iconst 2, 1) := by decide +kernel
theorem dX0_init_26 : decode cX0_init 26 = .ok (.bipush 8, 2) := by decide +kernel
theorem dX0_init_28 : decode cX0_init 28 = .ok (.iastore, 1) := by decide +kernel
theorem dX0_init_29 : decode cX0_init 29 = .ok (.putfield 15, 3) := by decide +kernel
theorem dX0_init_32 : decode cX0_init 32 = .ok (.aload_n 0, 1) := by decide +kernel
theorem dX0_init_33 : decode cX0_init 33 = .ok (.sipush 200, 3) := by decide +kernel
theorem dX0_init_36 : decode cX0_init 36 = .ok (.newarray .int, 2) := by decide +kernel
theorem dX0_init_38 : decode cX0_init 38 = .ok (.putfield 18, 3) := by decide +kernel
theorem dX0_init_41 : decode cX0_init 41 = .ok (.aload_n 0, 1) := by decide +kernel
theorem dX0_init_42 : decode cX0_init 42 = .ok (.sipush 200, 3) := by decide +kernel
theorem dX0_init_45 : decode cX0_init 45 = .ok (.newarray .int, 2) := by decide +kernel
theorem dX0_init_47 : decode cX0_init 47 = .ok (.putfield 21, 3) := by decide +kernel
theorem dX0_init_50 : decode cX0_init 50 = .ok (.aload_n 0, 1) := by decide +kernel
theorem dX0_init_51 : decode cX0_init 51 = .ok (.sipush 200, 3) := by decide +kernel
theorem dX0_init_54 : decode cX0_init 54 = .ok (.newarray .int, 2) := by decide +kernel
theorem dX0_init_56 : decode cX0_init 56 = .ok (.putfield 24, 3) := by decide +kernel
theorem dX0_init_59 : decode cX0_init 59 = .ok (.aload_n 0, 1) := by decide +kernel
theorem dX0_init_60 : decode cX0_init 60 = .ok (.sipush 200, 3) := by decide +kernel
theorem dX0_init_63 : decode cX0_init 63 = .ok (.newarray .int, 2) := by decide +kernel
theorem dX0_init_65 : decode cX0_init 65 = .ok (.putfield 27, 3) := by decide +kernel
theorem dX0_init_68 : decode cX0_init 68 = .ok (.aload_n 0, 1) := by decide +kernel
theorem dX0_init_69 : decode cX0_init 69 = .ok (.bipush 6, 2) := by decide +kernel
theorem dX0_init_71 : decode cX0_init 71 = .ok (.sipush 200, 3) := by decide +kernel
theorem dX0_init_74 : decode cX0_init 74 = .ok (.multianewarray 30 2, 4) := by decide +kernel
theorem dX0_init_78 : decode cX0_init 78 = .ok (.putfield 32, 3) := by decide +kernel
theorem dX0_init_81 : decode cX0_init 81 = .ok (.aload_n 0, 1) := by decide +kernel
theorem dX0_init_82 : decode cX0_init 82 = .ok (.bipush 6, 2) := by decide +kernel
theorem dX0_init_84 : decode cX0_init 84 = .ok (.sipush 200, 3) := by decide +kernel
theorem dX0_init_87 : decode cX0_init 87 = .ok (.multianewarray 30 2, 4) := by decide +kernel
theorem dX0_init_91 : decode cX0_init 91 = .ok (.putfield 35, 3) := by decide +kernel
theorem dX0_init_94 : decode cX0_init 94 = .ok (.aload_n 0, 1) := by decide +kernel
theorem dX0_init_95 : decode cX0_init 95 = .ok (.bipush 6, 2) := by decide +kernel
theorem dX0_init_97 : decode cX0_init 97 = .ok (.sipush 400, 3) := by decide +kernel
theorem dX0_init_100 : decode cX0_init 100 = .ok (.multianewarray 30 2, 4) := by decide +kernel
theorem dX0_init_104 : decode cX0_init 104 = .ok (.putfield 38, 3) := by decide +kernel
theorem dX0_init_107 : decode cX0_init 107 = .ok (.aload_n 0, 1) := by decide +kernel
theorem dX0_init_108 : decode cX0_init 108 = .ok (.bipush 60, 2) := by decide +kernel
theorem dX0_init_110 : decode cX0_init 110 = .ok (.newarray .int, 2) := by decide +kernel
theorem dX0_init_112 : decode cX0_init 112 = .ok (.putfield 41, 3) := by decide +kernel
theorem dX0_init_115 : decode cX0_init 115 = .ok (.return_, 1) := by decide +kernel
theorem dX0_become_0 : decode cX0_become 0 = .ok (.aload_n 0, 1) := by decide +kernel
theorem dX0_become_1 : decode cX0_become 1 = .ok (.aload_n 1, 1) := by decide +kernel
theorem dX0_become_2 : decode cX0_become 2 = .ok (.getfield 44, 3) := by decide +kernel
theorem dX0_become_5 : decode cX0_become 5 = .ok (.putfield 44, 3) := by decide +kernel
theorem dX0_become_8 : decode cX0_become 8 = .ok (.aload_n 0, 1) := by decide +kernel
theorem dX0_become_9 : decode cX0_become 9 = .ok (.aload_n 1, 1) := by decide +kernel
theorem dX0_become_10 : decode cX0_become 10 = .ok (.getfield 48, 3) := by decide +kernel
theorem dX0_become_13 : decode cX0_become 13 = .ok (.putfield 48, 3) := by decide +kernel
theorem dX0_become_16 : decode cX0_become 16 = .ok (.aload_n 1, 1) := by decide +kernel
theorem dX0_become_17 : decode cX0_become 17 = .ok (.getfield 9, 3) := by decide +kernel
theorem dX0_become_20 : decode cX0_become 20 = .ok (.iconst 0, 1) := by decide +kernel
theorem dX0_become_21 : decode cX0_become 21 = .ok (.aload_n 0, 1) := by decide +kernel
theorem dX0_become_22 : decode cX0_become 22 = .ok (.getfield 9, 3) := by decide +kernel
theorem dX0_become_25 : decode cX0_become 25 = .ok (.iconst 0, 1) := by decide +kernel
theorem dX0_become_26 : decode cX0_become 26 = .ok (.aload_n 0, 1) := by decide +kernel
theorem dX0_become_27 : decode cX0_become 27 = .ok (.getfield 9, 3) := by decide +kernel
theorem dX0_become_30 : decode cX0_become 30 = .ok (.arraylength, 1) := by decide +kernel
theorem dX0_become_31 : decode cX0_become 31 = .ok (.invokestatic 51, 3) := by decide +kernel
theorem dX0_become_34 : decode cX0_become 34 = .ok (.aload_n 1, 1) := by decide +kernel
theorem dX0_become_35 : decode cX0_become 35 = .ok (.getfield 15, 3) := by decide +kernel
theorem dX0_become_38 : decode cX0_become 38 = .ok (.iconst 0, 1) := by decide +kernel
theorem dX0_become_39 : decode cX0_become 39 = .ok (.aload_n 0, 1) := by decide +kernel
theorem dX0_become_40 : decode cX0_become 40 = .ok (.getfield 15, 3) := by decide +kernel
theorem dX0_become_43 : decode cX0_become 43 = .ok (.iconst 0, 1) := by decide +kernel
theorem dX0_become_44 : decode cX0_become 44 = .ok (.aload_n 0, 1) := by decide +kernel
theorem dX0_become_45 : decode cX0_become 45 = .ok (.getfield 15, 3) := by decide +kernel
theorem dX0_become_48 : decode cX0_become 48 = .ok (.arraylength, 1) := by decide +kernel
theorem dX0_become_49 : decode cX0_become 49 = .ok (.invokestatic 51, 3) := by decide +kernel
theorem dX0_become_52 : decode cX0_become 52 = .ok (.aload_n 1, 1) := by decide +kernel
theorem dX0_become_53 : decode cX0_become 53 = .ok (.getfield 18, 3) := by decide +kernel
theorem dX0_become_56 : decode cX0_become 56 = .ok (.iconst 0, 1) := by decide +kernel
theorem dX0_become_57 : decode cX0_become 57 = .ok (.aload_n 0, 1) := by decide +kernel
theorem dX0_become_58 : decode cX0_become 58 = .ok (.getfield 18, 3) := by decide +kernel
theorem dX0_become_61 : decode cX0_become 61 = .ok (.iconst 0, 1) := by decide +kernel
theorem dX0_become_62 : decode cX0_become 62 = .ok (.aload_n 0, 1) := by decide +kernel
theorem dX0_become_63 : decode cX0_become 63 = .ok (.getfield 48, 3) := by decide +kernel
theorem dX0_become_66 : decode cX0_become 66 = .ok (.invokestatic 51, 3) := by decide +kernel
theorem dX0_become_69 : decode cX0_become 69 = .ok (.aload_n 1, 1) := by decide +kernel
theorem dX0_become_70 : decode cX0_become 70 = .ok (.getfield 21, 3) := by decide +kernel
theorem dX0_become_73 : decode cX0_become 73 = .ok (.iconst 0, 1) := by decide +kernel
theorem dX0_become_74 : decode cX0_become 74 = .ok (.aload_n 0, 1) := by decide +kernel
theorem dX0_become_75 : decode cX0_become 75 = .ok (.getfield 21, 3) := by decide +kernel
theorem dX0_become_78 : decode cX0_become 78 = .ok (.iconst 0, 1) := by decide +kernel
theorem dX0_become_79 : decode cX0_become 79 = .ok (.aload_n 0, 1) := by decide +kernel
theorem dX0_become_80 : decode cX0_become 80 = .ok (.getfield 48, 3) := by decide +kernel
theorem dX0_become_83 : decode cX0_become 83 = .ok (.invokestatic 51, 3) := by decide +kernel
theorem dX0_become_86 : decode cX0_become 86 = .ok (.aload_n 1, 1) := by decide +kernel
theorem dX0_become_87 : decode cX0_become 87 = .ok (.getfield 24, 3) := by decide +kernel
theorem dX0_become_90 : decode cX0_become 90 = .ok (.iconst 0, 1) := by decide +kernel
theorem dX0_become_91 : decode cX0_become 91 = .ok (.aload_n 0, 1) := by decide +kernel
theorem dX0_become_92 : decode cX0_become 92 = .ok (.getfield 24, 3) := by decide +kernel
theorem dX0_become_95 : decode cX0_become 95 = .ok (.iconst 0, 1) := by decide +kernel
theorem dX0_become_96 : decode cX0_become 96 = .ok (.aload_n 0, 1) := by decide +kernel
theorem dX0_become_97 : decode cX0_become 97 = .ok (.getfield 48, 3) := by decide +kernel
theorem dX0_become_100 : decode cX0_become 100 = .ok (.invokestatic 51, 3) := by decide +kernel
theorem dX0_become_103 : decode cX0_become 103 = .ok (.aload_n 1, 1) := by decide +kernel
theorem dX0_become_104 : decode cX0_become 104 = .ok (.getfield 27, 3) := by decide +kernel
theorem dX0_become_107 : decode cX0_become 107 = .ok (.iconst 0, 1) := by decide +kernel
theorem dX0_become_108 : decode cX0_become 108 = .ok (.aload_n 0, 1) := by decide +kernel
theorem dX0_become_109 : decode cX0_become 109 = .ok (.getfield 27, 3) := by decide +kernel
theorem dX0_become_112 : decode cX0_become 112 = .ok (.iconst 0, 1) := by decide +kernel
theorem dX0_become_113 : decode cX0_become 113 = .ok (.aload_n 0, 1) := by decide +kernel
theorem dX0_become_114 : decode cX0_become 114 = .ok (.getfield 48, 3) := by decide +kernel
theorem dX0_become_117 : decode cX0_become 117 = .ok (.invokestatic 51, 3) := by decide +kernel
theorem dX0_become_120 : decode cX0_become 120 = .ok (.aload_n 1, 1) := by decide +kernel
theorem dX0_become_121 : decode cX0_become 121 = .ok (.getfield 41, 3) := by decide +kernel
theorem dX0_become_124 : decode cX0_become 124 = .ok (.iconst 0, 1) := by decide +kernel
theorem dX0_become_125 : decode cX0_become 125 = .ok (.aload_n 0, 1) := by decide +kernel
theorem dX0_become_126 : decode cX0_become 126 = .ok (.getfield 41, 3) := by decide +kernel
theorem dX0_become_129 : decode cX0_become 129 = .ok (.iconst 0, 1) := by decide +kernel
theorem dX0_become_130 : decode cX0_become 130 = .ok (.aload_n 0, 1) := by decide +kernel
theorem dX0_become_131 : decode cX0_become 131 = .ok (.getfield 41, 3) := by decide +kernel
theorem dX0_become_134 : decode cX0_become 134 = .ok (.arraylength, 1) := by decide +kernel
theorem dX0_become_135 : decode cX0_become 135 = .ok (.invokestatic 51, 3) := by decide +kernel
theorem dX0_become_138 : decode cX0_become 138 = .ok (.iconst 0, 1) := by decide +kernel
theorem dX0_become_139 : decode cX0_become 139 = .ok (.istore_n 2, 1) := by decide +kernel
theorem dX0_become_140 : decode cX0_become 140 = .ok (.iload_n 2, 1) := by decide +kernel
theorem dX0_become_141 : decode cX0_become 141 = .ok (.bipush 6, 2) := by decide +kernel
theorem dX0_become_143 : decode cX0_become 143 = .ok (.if_icmp .ge 72, 3) := by decide +kernel
theorem dX0_become_146 : decode cX0_become 146 = .ok (.aload_n 1, 1) := by decide +kernel
theorem dX0_become_147 : decode cX0_become 147 = .ok (.getfield 32, 3) := by decide +kernel
theorem dX0_become_150 : decode cX0_become 150 = .ok (.iload_n 2, 1) := by decide +kernel
theorem dX0_become_151 : decode cX0_become 151 = .ok (.aaload, 1) := by decide +kernel
theorem dX0_become_152 : decode cX0_become 152 = .ok (.iconst 0, 1) := by decide +kernel
theorem dX0_become_153 : decode cX0_become 153 = .ok (.aload_n 0, 1) := by decide +kernel
theorem dX0_become_154 : decode cX0_become 154 = .ok (.getfield 32, 3) := by decide +kernel
theorem dX0_become_157 : decode cX0_become 157 = .ok (.iload_n 2, 1) := by decide +kernel
theorem dX0_become_158 : decode cX0_become 158 = .ok (.aaload, 1) := by decide +kernel
theorem dX0_become_159 : decode cX0_become 159 = .ok (.iconst 0, 1) := by decide +kernel
theorem dX0_become_160 : decode cX0_become 160 = .ok (.aload_n 0, 1) := by decide +kernel
theorem dX0_become_161 : decode cX0_become 161 = .ok (.getfield 48, 3) := by decide +kernel
theorem dX0_become_164 : decode cX0_become 164 = .ok (.invokestatic 51, 3) := by decide +kernel
theorem dX0_become_167 : decode cX0_become 167 = .ok (.aload_n 1, 1) := by decide +kernel
theorem dX0_become_168 : decode cX0_become 168 = .ok (.getfield 35, 3) := by decide +kernel
theorem dX0_become_171 : decode cX0_become 171 = .ok (.iload_n 2, 1) := by decide +kernel
theorem dX0_become_172 : decode cX0_become 172 = .ok (.aaload, 1) := by decide +kernel
theorem dX0_become_173 : decode cX0_become 173 = .ok (.iconst 0, 1) := by decide +kernel
theorem dX0_become_174 : decode cX0_become 174 = .ok (.aload_n 0, 1) := by decide +kernel
theorem dX0_become_175 : decode cX0_become 175 = .ok (.getfield 35, 3) := by decide +kernel
theorem dX0_become_178 : decode cX0_become 178 = .ok (.iload_n 2, 1) := by decide +kernel
theorem dX0_become_179 : decode cX0_become 179 = .ok (.aaload, 1) := by decide +kernel
theorem dX0_become_180 : decode cX0_become 180 = .ok (.iconst 0, 1) := by decide +kernel
theorem dX0_become_181 : decode cX0_become 181 = .ok (.aload_n 0, 1) := by decide +kernel
theorem dX0_become_182 : decode cX0_become 182 = .ok (.getfield 48, 3) := by decide +kernel
theorem dX0_become_185 : decode cX0_become 185 = .ok (.invokestatic 51, 3) := by decide +kernel
theorem dX0_become_188 : decode cX0_become 188 = .ok (.aload_n 1, 1) := by decide +kernel
theorem dX0_become_189 : decode cX0_become 189 = .ok (.getfield 38, 3) := by decide +kernel
theorem dX0_become_192 : decode cX0_become 192 = .ok (.iload_n 2, 1) := by decide +kernel
theorem dX0_become_193 : decode cX0_become 193 = .ok (.aaload, 1) := by decide +kernel
theorem dX0_become_194 : decode cX0_become 194 = .ok (.iconst 0, 1) := by decide +kernel
theorem dX0_become_195 : decode cX0_become 195 = .ok (.aload_n 0, 1) := by decide +kernel
theorem dX0_become_196 : decode cX0_become 196 = .ok (.getfield 38, 3) := by decide +kernel
theorem dX0_become_199 : decode cX0_become 199 = .ok (.iload_n 2, 1) := by decide +kernel
theorem dX0_become_200 : decode cX0_become 200 = .ok (.aaload, 1) := by decide +kernel
theorem dX0_become_201 : decode cX0_become 201 = .ok (.iconst 0, 1) := by decide +kernel
theorem dX0_become_202 : decode cX0_become 202 = .ok (.aload_n 0, 1) := by decide +kernel
theorem dX0_become_203 : decode cX0_become 203 = .ok (.getfield 44, 3) := by decide +kernel
theorem dX0_become_206 : decode cX0_become 206 = .ok (.invokestatic 51, 3) := by decide +kernel
theorem dX0_become_209 : decode cX0_become 209 = .ok (.iinc 2 1, 3) := by decide +kernel
theorem dX0_become_212 : decode cX0_become 212 = .ok (.goto (-72), 3) := by decide +kernel
theorem dX0_become_215 : decode cX0_become 215 = .ok (.return_, 1) := by decide +kernel
theorem dX0_canSpeak_0 : decode cX0_canSpeak 0 = .ok (.aload_n 0, 1) := by decide +kernel
theorem dX0_canSpeak_1 : decode cX0_canSpeak 1 = .ok (.getfield 48, 3) := by decide +kernel
theorem dX0_canSpeak_4 : decode cX0_canSpeak 4 = .ok (.sipush 200, 3) := by decide +kernel
theorem dX0_canSpeak_7 : decode cX0_canSpeak 7 = .ok (.if_icmp .ge 17, 3) := by decide +kernel
theorem dX0_canSpeak_10 : decode cX0_canSpeak 10 = .ok (.aload_n 0, 1) := by decide +kernel
theorem dX0_canSpeak_11 : decode cX0_canSpeak 11 = .ok (.getfield 44, 3) := by decide +kernel
theorem dX0_canSpeak_14 : decode cX0_canSpeak 14 = .ok (.sipush 400, 3) := by decide +kernel
theorem dX0_canSpeak_17 : decode cX0_canSpeak 17 = .ok (.if_icmp .ge 7, 3) := by decide +kernel
theorem dX0_canSpeak_20 : decode cX0_canSpeak 20 = .ok (.iconst 1, 1) := by decide +kernel
theorem dX0_canSpeak_21 : decode cX0_canSpeak 21 = .ok (.goto 4, 3) := by decide +kernel
theorem dX0_canSpeak_24 : decode cX0_canSpeak 24 = .ok (.iconst 0, 1) := by decide +kernel
theorem dX0_canSpeak_25 : decode cX0_canSpeak 25 = .ok (.ireturn, 1) := by decide +kernel
theorem dX0_speak_0 : decode cX0_speak 0 = .ok (.aload_n 0, 1) := by decide +kernel
theorem dX0_speak_1 : decode cX0_speak 1 = .ok (.getfield 48, 3) := by decide +kernel
theorem dX0_speak_4 : decode cX0_speak 4 = .ok (.istore 4, 2) := by decide +kernel
theorem dX0_speak_6 : decode cX0_speak 6 = .ok (.aload_n 0, 1) := by decide +kernel
theorem dX0_speak_7 : decode cX0_speak 7 = .ok (.getfield 18, 3) := by decide +kernel
theorem dX0_speak_10 : decode cX0_speak 10 = .ok (.iload 4, 2) := by decide +kernel
theorem dX0_speak_12 : decode cX0_speak 12 = .ok (.iload_n 1, 1) := by decide +kernel
theorem dX0_speak_13 : decode cX0_speak 13 = .ok (.iastore, 1) := by decide +kernel
theorem dX0_speak_14 : decode cX0_speak 14 = .ok (.aload_n 0, 1) := by decide +kernel
theorem dX0_speak_15 : decode cX0_speak 15 = .ok (.getfield 21, 3) := by decide +kernel
theorem dX0_speak_18 : decode cX0_speak 18 = .ok (.iload 4, 2) := by decide +kernel
theorem dX0_speak_20 : decode cX0_speak 20 = .ok (.iload_n 2, 1) := by decide +kernel
theorem dX0_speak_21 : decode cX0_speak 21 = .ok (.iastore, 1) := by decide +kernel
theorem dX0_speak_22 : decode cX0_speak 22 = .ok (.aload_n 0, 1) := by decide +kernel
theorem dX0_speak_23 : decode cX0_speak 23 = .ok (.getfield 24, 3) := by decide +kernel
theorem dX0_speak_26 : decode cX0_speak 26 = .ok (.iload 4, 2) := by decide +kernel
theorem dX0_speak_28 : decode cX0_speak 28 = .ok (.iload_n 3, 1) := by decide +kernel
theorem dX0_speak_29 : decode cX0_speak 29 = .ok (.iastore, 1) := by decide +kernel
theorem dX0_speak_30 : decode cX0_speak 30 = .ok (.aload_n 0, 1) := by decide +kernel
theorem dX0_speak_31 : decode cX0_speak 31 = .ok (.getfield 27, 3) := by decide +kernel
theorem dX0_speak_34 : decode cX0_speak 34 = .ok (.iload 4, 2) := by decide +kernel
theorem dX0_speak_36 : decode cX0_speak 36 = .ok (.aload_n 0, 1) := by decide +kernel
theorem dX0_speak_37 : decode cX0_speak 37 = .ok (.getfield 44, 3) := by decide +kernel
theorem dX0_speak_40 : decode cX0_speak 40 = .ok (.iastore, 1) := by decide +kernel
theorem dX0_speak_41 : decode cX0_speak 41 = .ok (.iconst 0, 1) := by decide +kernel
theorem dX0_speak_42 : decode cX0_speak 42 = .ok (.istore 5, 2) := by decide +kernel
theorem dX0_speak_44 : decode cX0_speak 44 = .ok (.iload 5, 2) := by decide +kernel
theorem dX0_speak_46 : decode cX0_speak 46 = .ok (.bipush 6, 2) := by decide +kernel
theorem dX0_speak_48 : decode cX0_speak 48 = .ok (.if_icmp .ge 56, 3) := by decide +kernel
theorem dX0_speak_51 : decode cX0_speak 51 = .ok (.aload_n 0, 1) := by decide +kernel
theorem dX0_speak_52 : decode cX0_speak 52 = .ok (.iload_n 1, 1) := by decide +kernel
theorem dX0_speak_53 : decode cX0_speak 53 = .ok (.iload 5, 2) := by decide +kernel
theorem dX0_speak_55 : decode cX0_speak 55 = .ok (.invokevirtual 57, 3) := by decide +kernel
theorem dX0_speak_58 : decode cX0_speak 58 = .ok (.istore 6, 2) := by decide +kernel
theorem dX0_speak_60 : decode cX0_speak 60 = .ok (.aload_n 0, 1) := by decide +kernel
theorem dX0_speak_61 : decode cX0_speak 61 = .ok (.getfield 32, 3) := by decide +kernel
theorem dX0_speak_64 : decode cX0_speak 64 = .ok (.iload 5, 2) := by decide +kernel
theorem dX0_speak_66 : decode cX0_speak 66 = .ok (.aaload, 1) := by decide +kernel
theorem dX0_speak_67 : decode cX0_speak 67 = .ok (.iload 4, 2) := by decide +kernel
theorem dX0_speak_69 : decode cX0_speak 69 = .ok (.iload 6, 2) := by decide +kernel
theorem dX0_speak_71 : decode cX0_speak 71 = .ok (.iconst (-1), 1) := by decide +kernel
theorem dX0_speak_72 : decode cX0_speak 72 = .ok (.if_icmp .ne 7, 3) := by decide +kernel
theorem dX0_speak_75 : decode cX0_speak 75 = .ok (.iconst (-1), 1) := by decide +kernel
theorem dX0_speak_76 : decode cX0_speak 76 = .ok (.goto 10, 3) := by decide +kernel
theorem dX0_speak_79 : decode cX0_speak 79 = .ok (.aload_n 0, 1) := by decide +kernel
theorem dX0_speak_80 : decode cX0_speak 80 = .ok (.getfield 44, 3) := by decide +kernel
theorem dX0_speak_83 : decode cX0_speak 83 = .ok (.iload 6, 2) := by decide +kernel
theorem dX0_speak_85 : decode cX0_speak 85 = .ok (.iadd, 1) := by decide +kernel
theorem dX0_speak_86 : decode cX0_speak 86 = .ok (.iastore, 1) := by decide +kernel
theorem dX0_speak_87 : decode cX0_speak 87 = .ok (.aload_n 0, 1) := by decide +kernel
theorem dX0_speak_88 : decode cX0_speak 88 = .ok (.getfield 35, 3) := by decide +kernel
theorem dX0_speak_91 : decode cX0_speak 91 = .ok (.iload 5, 2) := by decide +kernel
theorem dX0_speak_93 : decode cX0_speak 93 = .ok (.aaload, 1) := by decide +kernel
theorem dX0_speak_94 : decode cX0_speak 94 = .ok (.iload 4, 2) := by decide +kernel
theorem dX0_speak_96 : decode cX0_speak 96 = .ok (.iconst (-1), 1) := by decide +kernel
theorem dX0_speak_97 : decode cX0_speak 97 = .ok (.iastore, 1) := by decide +kernel
theorem dX0_speak_98 : decode cX0_speak 98 = .ok (.iinc 5 1, 3) := by decide +kernel
theorem dX0_speak_101 : decode cX0_speak 101 = .ok (.goto (-57), 3) := by decide +kernel
theorem dX0_speak_104 : decode cX0_speak 104 = .ok (.iload_n 3, 1) := by decide +kernel
theorem dX0_speak_105 : decode cX0_speak 105 = .ok (.iconst (-1), 1) := by decide +kernel
theorem dX0_speak_106 : decode cX0_speak 106 = .ok (.if_icmp .eq 17, 3) := by decide +kernel
theorem dX0_speak_109 : decode cX0_speak 109 = .ok (.aload_n 0, 1) := by decide +kernel
theorem dX0_speak_110 : decode cX0_speak 110 = .ok (.getfield 41, 3) := by decide +kernel
theorem dX0_speak_113 : decode cX0_speak 113 = .ok (.iload_n 1, 1) := by decide +kernel
theorem dX0_speak_114 : decode cX0_speak 114 = .ok (.iload_n 3, 1) := by decide +kernel
theorem dX0_speak_115 : decode cX0_speak 115 = .ok (.invokestatic 61, 3) := by decide +kernel
theorem dX0_speak_118 : decode cX0_speak 118 = .ok (.dup2, 1) := by decide +kernel
theorem dX0_speak_119 : decode cX0_speak 119 = .ok (.iaload, 1) := by decide +kernel
theorem dX0_speak_120 : decode cX0_speak 120 = .ok (.iconst 1, 1) := by decide +kernel
theorem dX0_speak_121 : decode cX0_speak 121 = .ok (.iadd, 1) := by decide +kernel
theorem dX0_speak_122 : decode cX0_speak 122 = .ok (.iastore, 1) := by decide +kernel
theorem dX0_speak_123 : decode cX0_speak 123 = .ok (.aload_n 0, 1) := by decide +kernel
theorem dX0_speak_124 : decode cX0_speak 124 = .ok (.dup, 1) := by decide +kernel
theorem dX0_speak_125 : decode cX0_speak 125 = .ok (.getfield 48, 3) := by decide +kernel
theorem dX0_speak_128 : decode cX0_speak 128 = .ok (.iconst 1, 1) := by decide +kernel
theorem dX0_speak_129 : decode cX0_speak 129 = .ok (.iadd, 1) := by decide +kernel
theorem dX0_speak_130 : decode cX0_speak 130 = .ok (.putfield 48, 3) := by decide +kernel
theorem dX0_speak_133 : decode cX0_speak 133 = .ok (.aload_n 0, 1) := by decide +kernel
theorem dX0_speak_134 : decode cX0_speak 134 = .ok (.invokevirtual 64, 3) := by decide +kernel
theorem dX0_speak_137 : decode cX0_speak 137 = .ok (.iload 4, 2) := by decide +kernel
theorem dX0_speak_139 : decode cX0_speak 139 = .ok (.ireturn, 1) := by decide +kernel
theorem dX0_canRest_0 : decode cX0_canRest 0 = .ok (.aload_n 0, 1) := by decide +kernel
theorem dX0_canRest_1 : decode cX0_canRest 1 = .ok (.getfield 44, 3) := by decide +kernel
theorem dX0_canRest_4 : decode cX0_canRest 4 = .ok (.iload_n 1, 1) := by decide +kernel
theorem dX0_canRest_5 : decode cX0_canRest 5 = .ok (.iadd, 1) := by decide +kernel
theorem dX0_canRest_6 : decode cX0_canRest 6 = .ok (.sipush 400, 3) := by decide +kernel
theorem dX0_canRest_9 : decode cX0_canRest 9 = .ok (.if_icmp .gt 7, 3) := by decide +kernel
theorem dX0_canRest_12 : decode cX0_canRest 12 = .ok (.iconst 1, 1) := by decide +kernel
theorem dX0_canRest_13 : decode cX0_canRest 13 = .ok (.goto 4, 3) := by decide +kernel
theorem dX0_canRest_16 : decode cX0_canRest 16 = .ok (.iconst 0, 1) := by decide +kernel
theorem dX0_canRest_17 : decode cX0_canRest 17 = .ok (.ireturn, 1) := by decide +kernel
theorem dX0_rest_0 : decode cX0_rest 0 = .ok (.iconst 0, 1) := by decide +kernel
theorem dX0_rest_1 : decode cX0_rest 1 = .ok (.istore_n 2, 1) := by decide +kernel
theorem dX0_rest_2 : decode cX0_rest 2 = .ok (.iload_n 2, 1) := by decide +kernel
theorem dX0_rest_3 : decode cX0_rest 3 = .ok (.iload_n 1, 1) := by decide +kernel
theorem dX0_rest_4 : decode cX0_rest 4 = .ok (.if_icmp .ge 13, 3) := by decide +kernel
theorem dX0_rest_7 : decode cX0_rest 7 = .ok (.aload_n 0, 1) := by decide +kernel
theorem dX0_rest_8 : decode cX0_rest 8 = .ok (.invokevirtual 64, 3) := by decide +kernel
theorem dX0_rest_11 : decode cX0_rest 11 = .ok (.iinc 2 1, 3) := by decide +kernel
theorem dX0_rest_14 : decode cX0_rest 14 = .ok (.goto (-12), 3) := by decide +kernel
theorem dX0_rest_17 : decode cX0_rest 17 = .ok (.return_, 1) := by decide +kernel
theorem dX0_endBeat_0 : decode cX0_endBeat 0 = .ok (.iconst 0, 1) := by decide +kernel
theorem dX0_endBeat_1 : decode cX0_endBeat 1 = .ok (.istore_n 1, 1) := by decide +kernel
theorem dX0_endBeat_2 : decode cX0_endBeat 2 = .ok (.iload_n 1, 1) := by decide +kernel
theorem dX0_endBeat_3 : decode cX0_endBeat 3 = .ok (.bipush 6, 2) := by decide +kernel
theorem dX0_endBeat_5 : decode cX0_endBeat 5 = .ok (.if_icmp .ge 60, 3) := by decide +kernel
theorem dX0_endBeat_8 : decode cX0_endBeat 8 = .ok (.aload_n 0, 1) := by decide +kernel
theorem dX0_endBeat_9 : decode cX0_endBeat 9 = .ok (.iload_n 1, 1) := by decide +kernel
theorem dX0_endBeat_10 : decode cX0_endBeat 10 = .ok (.aload_n 0, 1) := by decide +kernel
theorem dX0_endBeat_11 : decode cX0_endBeat 11 = .ok (.getfield 44, 3) := by decide +kernel
theorem dX0_endBeat_14 : decode cX0_endBeat 14 = .ok (.invokevirtual 67, 3) := by decide +kernel
theorem dX0_endBeat_17 : decode cX0_endBeat 17 = .ok (.istore_n 2, 1) := by decide +kernel
theorem dX0_endBeat_18 : decode cX0_endBeat 18 = .ok (.aload_n 0, 1) := by decide +kernel
theorem dX0_endBeat_19 : decode cX0_endBeat 19 = .ok (.getfield 38, 3) := by decide +kernel
theorem dX0_endBeat_22 : decode cX0_endBeat 22 = .ok (.iload_n 1, 1) := by decide +kernel
theorem dX0_endBeat_23 : decode cX0_endBeat 23 = .ok (.aaload, 1) := by decide +kernel
theorem dX0_endBeat_24 : decode cX0_endBeat 24 = .ok (.aload_n 0, 1) := by decide +kernel
theorem dX0_endBeat_25 : decode cX0_endBeat 25 = .ok (.getfield 44, 3) := by decide +kernel
theorem dX0_endBeat_28 : decode cX0_endBeat 28 = .ok (.iload_n 2, 1) := by decide +kernel
theorem dX0_endBeat_29 : decode cX0_endBeat 29 = .ok (.iastore, 1) := by decide +kernel
theorem dX0_endBeat_30 : decode cX0_endBeat 30 = .ok (.iload_n 2, 1) := by decide +kernel
theorem dX0_endBeat_31 : decode cX0_endBeat 31 = .ok (.iconst (-1), 1) := by decide +kernel
theorem dX0_endBeat_32 : decode cX0_endBeat 32 = .ok (.if_icmp .eq 27, 3) := by decide +kernel
theorem dX0_endBeat_35 : decode cX0_endBeat 35 = .ok (.aload_n 0, 1) := by decide +kernel
theorem dX0_endBeat_36 : decode cX0_endBeat 36 = .ok (.getfield 35, 3) := by decide +kernel
theorem dX0_endBeat_39 : decode cX0_endBeat 39 = .ok (.iload_n 1, 1) := by decide +kernel
theorem dX0_endBeat_40 : decode cX0_endBeat 40 = .ok (.aaload, 1) := by decide +kernel
theorem dX0_endBeat_41 : decode cX0_endBeat 41 = .ok (.iload_n 2, 1) := by decide +kernel
theorem dX0_endBeat_42 : decode cX0_endBeat 42 = .ok (.iaload, 1) := by decide +kernel
theorem dX0_endBeat_43 : decode cX0_endBeat 43 = .ok (.iconst (-1), 1) := by decide +kernel
theorem dX0_endBeat_44 : decode cX0_endBeat 44 = .ok (.if_icmp .ne 15, 3) := by decide +kernel
theorem dX0_endBeat_47 : decode cX0_endBeat 47 = .ok (.aload_n 0, 1) := by decide +kernel
theorem dX0_endBeat_48 : decode cX0_endBeat 48 = .ok (.getfield 35, 3) := by decide +kernel
theorem dX0_endBeat_51 : decode cX0_endBeat 51 = .ok (.iload_n 1, 1) := by decide +kernel
theorem dX0_endBeat_52 : decode cX0_endBeat 52 = .ok (.aaload, 1) := by decide +kernel
theorem dX0_endBeat_53 : decode cX0_endBeat 53 = .ok (.iload_n 2, 1) := by decide +kernel
theorem dX0_endBeat_54 : decode cX0_endBeat 54 = .ok (.aload_n 0, 1) := by decide +kernel
theorem dX0_endBeat_55 : decode cX0_endBeat 55 = .ok (.getfield 44, 3) := by decide +kernel
theorem dX0_endBeat_58 : decode cX0_endBeat 58 = .ok (.iastore, 1) := by decide +kernel
theorem dX0_endBeat_59 : decode cX0_endBeat 59 = .ok (.iinc 1 1, 3) := by decide +kernel
theorem dX0_endBeat_62 : decode cX0_endBeat 62 = .ok (.goto (-60), 3) := by decide +kernel
theorem dX0_endBeat_65 : decode cX0_endBeat 65 = .ok (.aload_n 0, 1) := by decide +kernel
theorem dX0_endBeat_66 : decode cX0_endBeat 66 = .ok (.dup, 1) := by decide +kernel
theorem dX0_endBeat_67 : decode cX0_endBeat 67 = .ok (.getfield 44, 3) := by decide +kernel
theorem dX0_endBeat_70 : decode cX0_endBeat 70 = .ok (.iconst 1, 1) := by decide +kernel
theorem dX0_endBeat_71 : decode cX0_endBeat 71 = .ok (.iadd, 1) := by decide +kernel
theorem dX0_endBeat_72 : decode cX0_endBeat 72 = .ok (.putfield 44, 3) := by decide +kernel
theorem dX0_endBeat_75 : decode cX0_endBeat 75 = .ok (.return_, 1) := by decide +kernel
theorem dX0_delayBetween_0 : decode cX0_delayBetween 0 = .ok (.iload_n 1, 1) := by decide +kernel
theorem dX0_delayBetween_1 : decode cX0_delayBetween 1 = .ok (.iload_n 2, 1) := by decide +kernel
theorem dX0_delayBetween_2 : decode cX0_delayBetween 2 = .ok (.isub, 1) := by decide +kernel
theorem dX0_delayBetween_3 : decode cX0_delayBetween 3 = .ok (.invokestatic 70, 3) := by decide +kernel
theorem dX0_delayBetween_6 : decode cX0_delayBetween 6 = .ok (.istore_n 3, 1) := by decide +kernel
theorem dX0_delayBetween_7 : decode cX0_delayBetween 7 = .ok (.iload_n 3, 1) := by decide +kernel
theorem dX0_delayBetween_8 : decode cX0_delayBetween 8 = .ok (.bipush 6, 2) := by decide +kernel
theorem dX0_delayBetween_10 : decode cX0_delayBetween 10 = .ok (.iload_n 3, 1) := by decide +kernel
theorem dX0_delayBetween_11 : decode cX0_delayBetween 11 = .ok (.isub, 1) := by decide +kernel
theorem dX0_delayBetween_12 : decode cX0_delayBetween 12 = .ok (.invokestatic 76, 3) := by decide +kernel
theorem dX0_delayBetween_15 : decode cX0_delayBetween 15 = .ok (.istore 4, 2) := by decide +kernel
theorem dX0_delayBetween_17 : decode cX0_delayBetween 17 = .ok (.aload_n 0, 1) := by decide +kernel
theorem dX0_delayBetween_18 : decode cX0_delayBetween 18 = .ok (.getfield 15, 3) := by decide +kernel
theorem dX0_delayBetween_21 : decode cX0_delayBetween 21 = .ok (.iconst 0, 1) := by decide +kernel
theorem dX0_delayBetween_22 : decode cX0_delayBetween 22 = .ok (.iaload, 1) := by decide +kernel
theorem dX0_delayBetween_23 : decode cX0_delayBetween 23 = .ok (.aload_n 0, 1) := by decide +kernel
theorem dX0_delayBetween_24 : decode cX0_delayBetween 24 = .ok (.getfield 15, 3) := by decide +kernel
theorem dX0_delayBetween_27 : decode cX0_delayBetween 27 = .ok (.iconst 1, 1) := by decide +kernel
theorem dX0_delayBetween_28 : decode cX0_delayBetween 28 = .ok (.iaload, 1) := by decide +kernel
theorem dX0_delayBetween_29 : decode cX0_delayBetween 29 = .ok (.iload 4, 2) := by decide +kernel
theorem dX0_delayBetween_31 : decode cX0_delayBetween 31 = .ok (.imul, 1) := by decide +kernel
theorem dX0_delayBetween_32 : decode cX0_delayBetween 32 = .ok (.iadd, 1) := by decide +kernel
theorem dX0_delayBetween_33 : decode cX0_delayBetween 33 = .ok (.istore 5, 2) := by decide +kernel
theorem dX0_delayBetween_35 : decode cX0_delayBetween 35 = .ok (.aload_n 0, 1) := by decide +kernel
theorem dX0_delayBetween_36 : decode cX0_delayBetween 36 = .ok (.getfield 9, 3) := by decide +kernel
theorem dX0_delayBetween_39 : decode cX0_delayBetween 39 = .ok (.iload_n 2, 1) := by decide +kernel
theorem dX0_delayBetween_40 : decode cX0_delayBetween 40 = .ok (.iaload, 1) := by decide +kernel
theorem dX0_delayBetween_41 : decode cX0_delayBetween 41 = .ok (.tableswitch 58 1 3 #[27, 40, 45], 27) := by decide +kernel
theorem dX0_delayBetween_68 : decode cX0_delayBetween 68 = .ok (.iload 4, 2) := by decide +kernel
theorem dX0_delayBetween_70 : decode cX0_delayBetween 70 = .ok (.iconst 3, 1) := by decide +kernel
theorem dX0_delayBetween_71 : decode cX0_delayBetween 71 = .ok (.if_icmp .ne 7, 3) := by decide +kernel
theorem dX0_delayBetween_74 : decode cX0_delayBetween 74 = .ok (.iconst (-1), 1) := by decide +kernel
theorem dX0_delayBetween_75 : decode cX0_delayBetween 75 = .ok (.goto 5, 3) := by decide +kernel
theorem dX0_delayBetween_78 : decode cX0_delayBetween 78 = .ok (.iload 5, 2) := by decide +kernel
theorem dX0_delayBetween_80 : decode cX0_delayBetween 80 = .ok (.ireturn, 1) := by decide +kernel
theorem dX0_delayBetween_81 : decode cX0_delayBetween 81 = .ok (.iload 5, 2) := by decide +kernel
theorem dX0_delayBetween_83 : decode cX0_delayBetween 83 = .ok (.iconst 2, 1) := by decide +kernel
theorem dX0_delayBetween_84 : decode cX0_delayBetween 84 = .ok (.iadd, 1) := by decide +kernel
theorem dX0_delayBetween_85 : decode cX0_delayBetween 85 = .ok (.ireturn, 1) := by decide +kernel
theorem dX0_delayBetween_86 : decode cX0_delayBetween 86 = .ok (.iload 4, 2) := by decide +kernel
theorem dX0_delayBetween_88 : decode cX0_delayBetween 88 = .ok (.iconst 1, 1) := by decide +kernel
theorem dX0_delayBetween_89 : decode cX0_delayBetween 89 = .ok (.if_icmp .ne 7, 3) := by decide +kernel
theorem dX0_delayBetween_92 : decode cX0_delayBetween 92 = .ok (.iconst (-1), 1) := by decide +kernel
theorem dX0_delayBetween_93 : decode cX0_delayBetween 93 = .ok (.goto 5, 3) := by decide +kernel
theorem dX0_delayBetween_96 : decode cX0_delayBetween 96 = .ok (.iload 5, 2) := by decide +kernel
theorem dX0_delayBetween_98 : decode cX0_delayBetween 98 = .ok (.ireturn, 1) := by decide +kernel
theorem dX0_delayBetween_99 : decode cX0_delayBetween 99 = .ok (.iload 5, 2) := by decide +kernel
theorem dX0_delayBetween_101 : decode cX0_delayBetween 101 = .ok (.ireturn, 1) := by decide +kernel
theorem dX0_secondLast_0 : decode cX0_secondLast 0 = .ok (.aload_n 0, 1) := by decide +kernel
theorem dX0_secondLast_1 : decode cX0_secondLast 1 = .ok (.getfield 32, 3) := by decide +kernel
theorem dX0_secondLast_4 : decode cX0_secondLast 4 = .ok (.iload_n 1, 1) := by decide +kernel
theorem dX0_secondLast_5 : decode cX0_secondLast 5 = .ok (.aaload, 1) := by decide +kernel
theorem dX0_secondLast_6 : decode cX0_secondLast 6 = .ok (.astore_n 3, 1) := by decide +kernel
theorem dX0_secondLast_7 : decode cX0_secondLast 7 = .ok (.iload_n 2, 1) := by decide +kernel
theorem dX0_secondLast_8 : decode cX0_secondLast 8 = .ok (.aload_n 0, 1) := by decide +kernel
theorem dX0_secondLast_9 : decode cX0_secondLast 9 = .ok (.getfield 15, 3) := by decide +kernel
theorem dX0_secondLast_12 : decode cX0_secondLast 12 = .ok (.iconst 2, 1) := by decide +kernel
theorem dX0_secondLast_13 : decode cX0_secondLast 13 = .ok (.iaload, 1) := by decide +kernel
theorem dX0_secondLast_14 : decode cX0_secondLast 14 = .ok (.isub, 1) := by decide +kernel
theorem dX0_secondLast_15 : decode cX0_secondLast 15 = .ok (.istore 4, 2) := by decide +kernel
theorem dX0_secondLast_17 : decode cX0_secondLast 17 = .ok (.iconst (-1), 1) := by decide +kernel
theorem dX0_secondLast_18 : decode cX0_secondLast 18 = .ok (.istore 5, 2) := by decide +kernel
theorem dX0_secondLast_20 : decode cX0_secondLast 20 = .ok (.iconst (-1), 1) := by decide +kernel
theorem dX0_secondLast_21 : decode cX0_secondLast 21 = .ok (.istore 6, 2) := by decide +kernel
theorem dX0_secondLast_23 : decode cX0_secondLast 23 = .ok (.aload_n 0, 1) := by decide +kernel
theorem dX0_secondLast_24 : decode cX0_secondLast 24 = .ok (.getfield 48, 3) := by decide +kernel
theorem dX0_secondLast_27 : decode cX0_secondLast 27 = .ok (.iconst 1, 1) := by decide +kernel
theorem dX0_secondLast_28 : decode cX0_secondLast 28 = .ok (.isub, 1) := by decide +kernel
theorem dX0_secondLast_29 : decode cX0_secondLast 29 = .ok (.istore 7, 2) := by decide +kernel
theorem dX0_secondLast_31 : decode cX0_secondLast 31 = .ok (.iload 7, 2) := by decide +kernel
theorem dX0_secondLast_33 : decode cX0_secondLast 33 = .ok (.ifCond .lt 97, 3) := by decide +kernel
theorem dX0_secondLast_36 : decode cX0_secondLast 36 = .ok (.aload_n 0, 1) := by decide +kernel
theorem dX0_secondLast_37 : decode cX0_secondLast 37 = .ok (.getfield 27, 3) := by decide +kernel
theorem dX0_secondLast_40 : decode cX0_secondLast 40 = .ok (.iload 7, 2) := by decide +kernel
theorem dX0_secondLast_42 : decode cX0_secondLast 42 = .ok (.iaload, 1) := by decide +kernel
theorem dX0_secondLast_43 : decode cX0_secondLast 43 = .ok (.iload 4, 2) := by decide +kernel
theorem dX0_secondLast_45 : decode cX0_secondLast 45 = .ok (.bipush 19, 2) := by decide +kernel
theorem dX0_secondLast_47 : decode cX0_secondLast 47 = .ok (.isub, 1) := by decide +kernel
theorem dX0_secondLast_48 : decode cX0_secondLast 48 = .ok (.if_icmp .lt 82, 3) := by decide +kernel
theorem dX0_secondLast_51 : decode cX0_secondLast 51 = .ok (.aload_n 3, 1) := by decide +kernel
theorem dX0_secondLast_52 : decode cX0_secondLast 52 = .ok (.iload 7, 2) := by decide +kernel
theorem dX0_secondLast_54 : decode cX0_secondLast 54 = .ok (.iaload, 1) := by decide +kernel
theorem dX0_secondLast_55 : decode cX0_secondLast 55 = .ok (.istore 8, 2) := by decide +kernel
theorem dX0_secondLast_57 : decode cX0_secondLast 57 = .ok (.iload 8, 2) := by decide +kernel
theorem dX0_secondLast_59 : decode cX0_secondLast 59 = .ok (.iconst (-1), 1) := by decide +kernel
theorem dX0_secondLast_60 : decode cX0_secondLast 60 = .ok (.if_icmp .eq 64, 3) := by decide +kernel
theorem dX0_secondLast_63 : decode cX0_secondLast 63 = .ok (.iload 8, 2) := by decide +kernel
theorem dX0_secondLast_65 : decode cX0_secondLast 65 = .ok (.iload 4, 2) := by decide +kernel
theorem dX0_secondLast_67 : decode cX0_secondLast 67 = .ok (.if_icmp .lt 57, 3) := by decide +kernel
theorem dX0_secondLast_70 : decode cX0_secondLast 70 = .ok (.iload 8, 2) := by decide +kernel
theorem dX0_secondLast_72 : decode cX0_secondLast 72 = .ok (.iload_n 2, 1) := by decide +kernel
theorem dX0_secondLast_73 : decode cX0_secondLast 73 = .ok (.if_icmp .le 6, 3) := by decide +kernel
theorem dX0_secondLast_76 : decode cX0_secondLast 76 = .ok (.goto 48, 3) := by decide +kernel
theorem dX0_secondLast_79 : decode cX0_secondLast 79 = .ok (.iload 5, 2) := by decide +kernel
theorem dX0_secondLast_81 : decode cX0_secondLast 81 = .ok (.iconst (-1), 1) := by decide +kernel
theorem dX0_secondLast_82 : decode cX0_secondLast 82 = .ok (.if_icmp .eq 12, 3) := by decide +kernel
theorem dX0_secondLast_85 : decode cX0_secondLast 85 = .ok (.iload 8, 2) := by decide +kernel
theorem dX0_secondLast_87 : decode cX0_secondLast 87 = .ok (.aload_n 3, 1) := by decide +kernel
theorem dX0_secondLast_88 : decode cX0_secondLast 88 = .ok (.iload 5, 2) := by decide +kernel
theorem dX0_secondLast_90 : decode cX0_secondLast 90 = .ok (.iaload, 1) := by decide +kernel
theorem dX0_secondLast_91 : decode cX0_secondLast 91 = .ok (.if_icmp .le 14, 3) := by decide +kernel
theorem dX0_secondLast_94 : decode cX0_secondLast 94 = .ok (.iload 5, 2) := by decide +kernel
theorem dX0_secondLast_96 : decode cX0_secondLast 96 = .ok (.istore 6, 2) := by decide +kernel
theorem dX0_secondLast_98 : decode cX0_secondLast 98 = .ok (.iload 7, 2) := by decide +kernel
theorem dX0_secondLast_100 : decode cX0_secondLast 100 = .ok (.istore 5, 2) := by decide +kernel
theorem dX0_secondLast_102 : decode cX0_secondLast 102 = .ok (.goto 22, 3) := by decide +kernel
theorem dX0_secondLast_105 : decode cX0_secondLast 105 = .ok (.iload 6, 2) := by decide +kernel
theorem dX0_secondLast_107 : decode cX0_secondLast 107 = .ok (.iconst (-1), 1) := by decide +kernel
theorem dX0_secondLast_108 : decode cX0_secondLast 108 = .ok (.if_icmp .eq 12, 3) := by decide +kernel
theorem dX0_secondLast_111 : decode cX0_secondLast 111 = .ok (.iload 8, 2) := by decide +kernel
theorem dX0_secondLast_113 : decode cX0_secondLast 113 = .ok (.aload_n 3, 1) := by decide +kernel
theorem dX0_secondLast_114 : decode cX0_secondLast 114 = .ok (.iload 6, 2) := by decide +kernel
theorem dX0_secondLast_116 : decode cX0_secondLast 116 = .ok (.iaload, 1) := by decide +kernel
theorem dX0_secondLast_117 : decode cX0_secondLast 117 = .ok (.if_icmp .le 7, 3) := by decide +kernel
theorem dX0_secondLast_120 : decode cX0_secondLast 120 = .ok (.iload 7, 2) := by decide +kernel
theorem dX0_secondLast_122 : decode cX0_secondLast 122 = .ok (.istore 6, 2) := by decide +kernel
theorem dX0_secondLast_124 : decode cX0_secondLast 124 = .ok (.iinc 7 (-1), 3) := by decide +kernel
theorem dX0_secondLast_127 : decode cX0_secondLast 127 = .ok (.goto (-96), 3) := by decide +kernel
theorem dX0_secondLast_130 : decode cX0_secondLast 130 = .ok (.iload 6, 2) := by decide +kernel
theorem dX0_secondLast_132 : decode cX0_secondLast 132 = .ok (.ireturn, 1) := by decide +kernel
theorem dX0_messagePlace_0 : decode cX0_messagePlace 0 = .ok (.iload_n 0, 1) := by decide +kernel
theorem dX0_messagePlace_1 : decode cX0_messagePlace 1 = .ok (.bipush 10, 2) := by decide +kernel
theorem dX0_messagePlace_3 : decode cX0_messagePlace 3 = .ok (.imul, 1) := by decide +kernel
theorem dX0_messagePlace_4 : decode cX0_messagePlace 4 = .ok (.iload_n 1, 1) := by decide +kernel
theorem dX0_messagePlace_5 : decode cX0_messagePlace 5 = .ok (.iadd, 1) := by decide +kernel
theorem dX0_messagePlace_6 : decode cX0_messagePlace 6 = .ok (.ireturn, 1) := by decide +kernel
theorem dX1_init_0 : decode cX1_init 0 = .ok (.aload_n 0, 1) := by decide +kernel
theorem dX1_init_1 : decode cX1_init 1 = .ok (.invokespecial 3, 3) := by decide +kernel
theorem dX1_init_4 : decode cX1_init 4 = .ok (.aload_n 0, 1) := by decide +kernel
theorem dX1_init_5 : decode cX1_init 5 = .ok (.ldc2_w 9, 3) := by decide +kernel
theorem dX1_init_8 : decode cX1_init 8 = .ok (.putfield 11, 3) := by decide +kernel
theorem dX1_init_11 : decode cX1_init 11 = .ok (.return_, 1) := by decide +kernel
theorem dX1_take_0 : decode cX1_take 0 = .ok (.aload_n 0, 1) := by decide +kernel
theorem dX1_take_1 : decode cX1_take 1 = .ok (.ldc2_w 15, 3) := by decide +kernel
theorem dX1_take_4 : decode cX1_take 4 = .ok (.aload_n 0, 1) := by decide +kernel
theorem dX1_take_5 : decode cX1_take 5 = .ok (.getfield 11, 3) := by decide +kernel
theorem dX1_take_8 : decode cX1_take 8 = .ok (.lmul, 1) := by decide +kernel
theorem dX1_take_9 : decode cX1_take 9 = .ok (.lload_n 1, 1) := by decide +kernel
theorem dX1_take_10 : decode cX1_take 10 = .ok (.ladd, 1) := by decide +kernel
theorem dX1_take_11 : decode cX1_take 11 = .ok (.putfield 11, 3) := by decide +kernel
theorem dX1_take_14 : decode cX1_take 14 = .ok (.return_, 1) := by decide +kernel
theorem dX1_bitsOf_0 : decode cX1_bitsOf 0 = .ok (.dload_n 0, 1) := by decide +kernel
theorem dX1_bitsOf_1 : decode cX1_bitsOf 1 = .ok (.dconst 0, 1) := by decide +kernel
theorem dX1_bitsOf_2 : decode cX1_bitsOf 2 = .ok (.dcmp .g, 1) := by decide +kernel
theorem dX1_bitsOf_3 : decode cX1_bitsOf 3 = .ok (.ifCond .gt 5, 3) := by decide +kernel
theorem dX1_bitsOf_6 : decode cX1_bitsOf 6 = .ok (.lconst 0, 1) := by decide +kernel
theorem dX1_bitsOf_7 : decode cX1_bitsOf 7 = .ok (.lreturn, 1) := by decide +kernel
theorem dX1_bitsOf_8 : decode cX1_bitsOf 8 = .ok (.dload_n 0, 1) := by decide +kernel
theorem dX1_bitsOf_9 : decode cX1_bitsOf 9 = .ok (.dstore_n 2, 1) := by decide +kernel
theorem dX1_bitsOf_10 : decode cX1_bitsOf 10 = .ok (.sipush 1023, 3) := by decide +kernel
theorem dX1_bitsOf_13 : decode cX1_bitsOf 13 = .ok (.istore 4, 2) := by decide +kernel
theorem dX1_bitsOf_15 : decode cX1_bitsOf 15 = .ok (.iconst 0, 1) := by decide +kernel
theorem dX1_bitsOf_16 : decode cX1_bitsOf 16 = .ok (.istore 5, 2) := by decide +kernel
theorem dX1_bitsOf_18 : decode cX1_bitsOf 18 = .ok (.iload 5, 2) := by decide +kernel
theorem dX1_bitsOf_20 : decode cX1_bitsOf 20 = .ok (.sipush 1023, 3) := by decide +kernel
theorem dX1_bitsOf_23 : decode cX1_bitsOf 23 = .ok (.if_icmp .ge 24, 3) := by decide +kernel
theorem dX1_bitsOf_26 : decode cX1_bitsOf 26 = .ok (.dload_n 2, 1) := by decide +kernel
theorem dX1_bitsOf_27 : decode cX1_bitsOf 27 = .ok (.dconst 1, 1) := by decide +kernel
theorem dX1_bitsOf_28 : decode cX1_bitsOf 28 = .ok (.dcmp .g, 1) := by decide +kernel
theorem dX1_bitsOf_29 : decode cX1_bitsOf 29 = .ok (.ifCond .ge 18, 3) := by decide +kernel
theorem dX1_bitsOf_32 : decode cX1_bitsOf 32 = .ok (.dload_n 2, 1) := by decide +kernel
theorem dX1_bitsOf_33 : decode cX1_bitsOf 33 = .ok (.ldc2_w 17, 3) := by decide +kernel
theorem dX1_bitsOf_36 : decode cX1_bitsOf 36 = .ok (.dmul, 1) := by decide +kernel
theorem dX1_bitsOf_37 : decode cX1_bitsOf 37 = .ok (.dstore_n 2, 1) := by decide +kernel
theorem dX1_bitsOf_38 : decode cX1_bitsOf 38 = .ok (.iinc 4 (-1), 3) := by decide +kernel
theorem dX1_bitsOf_41 : decode cX1_bitsOf 41 = .ok (.iinc 5 1, 3) := by decide +kernel
theorem dX1_bitsOf_44 : decode cX1_bitsOf 44 = .ok (.goto (-26), 3) := by decide +kernel
theorem dX1_bitsOf_47 : decode cX1_bitsOf 47 = .ok (.iload 4, 2) := by decide +kernel
theorem dX1_bitsOf_49 : decode cX1_bitsOf 49 = .ok (.i2l, 1) := by decide +kernel
theorem dX1_bitsOf_50 : decode cX1_bitsOf 50 = .ok (.bipush 52, 2) := by decide +kernel
theorem dX1_bitsOf_52 : decode cX1_bitsOf 52 = .ok (.lshl, 1) := by decide +kernel
theorem dX1_bitsOf_53 : decode cX1_bitsOf 53 = .ok (.dload_n 2, 1) := by decide +kernel
theorem dX1_bitsOf_54 : decode cX1_bitsOf 54 = .ok (.dconst 1, 1) := by decide +kernel
theorem dX1_bitsOf_55 : decode cX1_bitsOf 55 = .ok (.dsub, 1) := by decide +kernel
theorem dX1_bitsOf_56 : decode cX1_bitsOf 56 = .ok (.ldc2_w 19, 3) := by decide +kernel
theorem dX1_bitsOf_59 : decode cX1_bitsOf 59 = .ok (.dmul, 1) := by decide +kernel
theorem dX1_bitsOf_60 : decode cX1_bitsOf 60 = .ok (.d2l, 1) := by decide +kernel
theorem dX1_bitsOf_61 : decode cX1_bitsOf 61 = .ok (.lor, 1) := by decide +kernel
theorem dX1_bitsOf_62 : decode cX1_bitsOf 62 = .ok (.lreturn, 1) := by decide +kernel
theorem dX2_init_0 : decode cX2_init 0 = .ok (.aload_n 0, 1) := by decide +kernel
theorem dX2_init_1 : decode cX2_init 1 = .ok (.invokespecial 3, 3) := by decide +kernel
theorem dX2_init_4 : decode cX2_init 4 = .ok (.aload_n 0, 1) := by decide +kernel
theorem dX2_init_5 : decode cX2_init 5 = .ok (.bipush 6, 2) := by decide +kernel
theorem dX2_init_7 : decode cX2_init 7 = .ok (.anewarray 9, 3) := by decide +kernel
theorem dX2_init_10 : decode cX2_init 10 = .ok (.putfield 11, 3) := by decide +kernel
theorem dX2_init_13 : decode cX2_init 13 = .ok (.return_, 1) := by decide +kernel
theorem dX2_save_0 : decode cX2_save 0 = .ok (.aload_n 0, 1) := by decide +kernel
theorem dX2_save_1 : decode cX2_save 1 = .ok (.getfield 17, 3) := by decide +kernel
theorem dX2_save_4 : decode cX2_save 4 = .ok (.bipush 6, 2) := by decide +kernel
theorem dX2_save_6 : decode cX2_save 6 = .ok (.if_icmp .lt 7, 3) := by decide +kernel
theorem dX2_save_9 : decode cX2_save 9 = .ok (.aload_n 0, 1) := by decide +kernel
theorem dX2_save_10 : decode cX2_save 10 = .ok (.invokevirtual 21, 3) := by decide +kernel
theorem dX2_save_13 : decode cX2_save 13 = .ok (.aload_n 0, 1) := by decide +kernel
theorem dX2_save_14 : decode cX2_save 14 = .ok (.getfield 11, 3) := by decide +kernel
theorem dX2_save_17 : decode cX2_save 17 = .ok (.aload_n 0, 1) := by decide +kernel
theorem dX2_save_18 : decode cX2_save 18 = .ok (.getfield 17, 3) := by decide +kernel
theorem dX2_save_21 : decode cX2_save 21 = .ok (.aaload, 1) := by decide +kernel
theorem dX2_save_22 : decode cX2_save 22 = .ok (.astore_n 2, 1) := by decide +kernel
theorem dX2_save_23 : decode cX2_save 23 = .ok (.aload_n 2, 1) := by decide +kernel
theorem dX2_save_24 : decode cX2_save 24 = .ok (.ifnonnull 21, 3) := by decide +kernel
theorem dX2_save_27 : decode cX2_save 27 = .ok (.new 9, 3) := by decide +kernel
theorem dX2_save_30 : decode cX2_save 30 = .ok (.dup, 1) := by decide +kernel
theorem dX2_save_31 : decode cX2_save 31 = .ok (.invokespecial 24, 3) := by decide +kernel
theorem dX2_save_34 : decode cX2_save 34 = .ok (.astore_n 2, 1) := by decide +kernel
theorem dX2_save_35 : decode cX2_save 35 = .ok (.aload_n 0, 1) := by decide +kernel
theorem dX2_save_36 : decode cX2_save 36 = .ok (.getfield 11, 3) := by decide +kernel
theorem dX2_save_39 : decode cX2_save 39 = .ok (.aload_n 0, 1) := by decide +kernel
theorem dX2_save_40 : decode cX2_save 40 = .ok (.getfield 17, 3) := by decide +kernel
theorem dX2_save_43 : decode cX2_save 43 = .ok (.aload_n 2, 1) := by decide +kernel
theorem dX2_save_44 : decode cX2_save 44 = .ok (.aastore, 1) := by decide +kernel
theorem dX2_save_45 : decode cX2_save 45 = .ok (.aload_n 2, 1) := by decide +kernel
theorem dX2_save_46 : decode cX2_save 46 = .ok (.aload_n 1, 1) := by decide +kernel
theorem dX2_save_47 : decode cX2_save 47 = .ok (.invokevirtual 25, 3) := by decide +kernel
theorem dX2_save_50 : decode cX2_save 50 = .ok (.aload_n 0, 1) := by decide +kernel
theorem dX2_save_51 : decode cX2_save 51 = .ok (.dup, 1) := by decide +kernel
theorem dX2_save_52 : decode cX2_save 52 = .ok (.getfield 17, 3) := by decide +kernel
theorem dX2_save_55 : decode cX2_save 55 = .ok (.iconst 1, 1) := by decide +kernel
theorem dX2_save_56 : decode cX2_save 56 = .ok (.iadd, 1) := by decide +kernel
theorem dX2_save_57 : decode cX2_save 57 = .ok (.putfield 17, 3) := by decide +kernel
theorem dX2_save_60 : decode cX2_save 60 = .ok (.return_, 1) := by decide +kernel
theorem dX2_dropOldest_0 : decode cX2_dropOldest 0 = .ok (.aload_n 0, 1) := by decide +kernel
theorem dX2_dropOldest_1 : decode cX2_dropOldest 1 = .ok (.getfield 11, 3) := by decide +kernel
theorem dX2_dropOldest_4 : decode cX2_dropOldest 4 = .ok (.iconst 0, 1) := by decide +kernel
theorem dX2_dropOldest_5 : decode cX2_dropOldest 5 = .ok (.aaload, 1) := by decide +kernel
theorem dX2_dropOldest_6 : decode cX2_dropOldest 6 = .ok (.astore_n 1, 1) := by decide +kernel
theorem dX2_dropOldest_7 : decode cX2_dropOldest 7 = .ok (.iconst 1, 1) := by decide +kernel
theorem dX2_dropOldest_8 : decode cX2_dropOldest 8 = .ok (.istore_n 2, 1) := by decide +kernel
theorem dX2_dropOldest_9 : decode cX2_dropOldest 9 = .ok (.iload_n 2, 1) := by decide +kernel
theorem dX2_dropOldest_10 : decode cX2_dropOldest 10 = .ok (.bipush 6, 2) := by decide +kernel
theorem dX2_dropOldest_12 : decode cX2_dropOldest 12 = .ok (.if_icmp .ge 23, 3) := by decide +kernel
theorem dX2_dropOldest_15 : decode cX2_dropOldest 15 = .ok (.aload_n 0, 1) := by decide +kernel
theorem dX2_dropOldest_16 : decode cX2_dropOldest 16 = .ok (.getfield 11, 3) := by decide +kernel
theorem dX2_dropOldest_19 : decode cX2_dropOldest 19 = .ok (.iload_n 2, 1) := by decide +kernel
theorem dX2_dropOldest_20 : decode cX2_dropOldest 20 = .ok (.iconst 1, 1) := by decide +kernel
theorem dX2_dropOldest_21 : decode cX2_dropOldest 21 = .ok (.isub, 1) := by decide +kernel
theorem dX2_dropOldest_22 : decode cX2_dropOldest 22 = .ok (.aload_n 0, 1) := by decide +kernel
theorem dX2_dropOldest_23 : decode cX2_dropOldest 23 = .ok (.getfield 11, 3) := by decide +kernel
theorem dX2_dropOldest_26 : decode cX2_dropOldest 26 = .ok (.iload_n 2, 1) := by decide +kernel
theorem dX2_dropOldest_27 : decode cX2_dropOldest 27 = .ok (.aaload, 1) := by decide +kernel
theorem dX2_dropOldest_28 : decode cX2_dropOldest 28 = .ok (.aastore, 1) := by decide +kernel
theorem dX2_dropOldest_29 : decode cX2_dropOldest 29 = .ok (.iinc 2 1, 3) := by decide +kernel
theorem dX2_dropOldest_32 : decode cX2_dropOldest 32 = .ok (.goto (-23), 3) := by decide +kernel
theorem dX2_dropOldest_35 : decode cX2_dropOldest 35 = .ok (.aload_n 0, 1) := by decide +kernel
theorem dX2_dropOldest_36 : decode cX2_dropOldest 36 = .ok (.getfield 11, 3) := by decide +kernel
theorem dX2_dropOldest_39 : decode cX2_dropOldest 39 = .ok (.iconst 5, 1) := by decide +kernel
theorem dX2_dropOldest_40 : decode cX2_dropOldest 40 = .ok (.aload_n 1, 1) := by decide +kernel
theorem dX2_dropOldest_41 : decode cX2_dropOldest 41 = .ok (.aastore, 1) := by decide +kernel
theorem dX2_dropOldest_42 : decode cX2_dropOldest 42 = .ok (.aload_n 0, 1) := by decide +kernel
theorem dX2_dropOldest_43 : decode cX2_dropOldest 43 = .ok (.iconst 5, 1) := by decide +kernel
theorem dX2_dropOldest_44 : decode cX2_dropOldest 44 = .ok (.putfield 17, 3) := by decide +kernel
theorem dX2_dropOldest_47 : decode cX2_dropOldest 47 = .ok (.return_, 1) := by decide +kernel
theorem dX2_latest_0 : decode cX2_latest 0 = .ok (.aload_n 0, 1) := by decide +kernel
theorem dX2_latest_1 : decode cX2_latest 1 = .ok (.getfield 17, 3) := by decide +kernel
theorem dX2_latest_4 : decode cX2_latest 4 = .ok (.ifCond .le 17, 3) := by decide +kernel
theorem dX2_latest_7 : decode cX2_latest 7 = .ok (.aload_n 0, 1) := by decide +kernel
theorem dX2_latest_8 : decode cX2_latest 8 = .ok (.getfield 11, 3) := by decide +kernel
theorem dX2_latest_11 : decode cX2_latest 11 = .ok (.aload_n 0, 1) := by decide +kernel
theorem dX2_latest_12 : decode cX2_latest 12 = .ok (.getfield 17, 3) := by decide +kernel
theorem dX2_latest_15 : decode cX2_latest 15 = .ok (.iconst 1, 1) := by decide +kernel
theorem dX2_latest_16 : decode cX2_latest 16 = .ok (.isub, 1) := by decide +kernel
theorem dX2_latest_17 : decode cX2_latest 17 = .ok (.aaload, 1) := by decide +kernel
theorem dX2_latest_18 : decode cX2_latest 18 = .ok (.goto 4, 3) := by decide +kernel
theorem dX2_latest_21 : decode cX2_latest 21 = .ok (.aconst_null, 1) := by decide +kernel
theorem dX2_latest_22 : decode cX2_latest 22 = .ok (.areturn, 1) := by decide +kernel
theorem dX2_dropLatest_0 : decode cX2_dropLatest 0 = .ok (.aload_n 0, 1) := by decide +kernel
theorem dX2_dropLatest_1 : decode cX2_dropLatest 1 = .ok (.getfield 17, 3) := by decide +kernel
theorem dX2_dropLatest_4 : decode cX2_dropLatest 4 = .ok (.ifCond .le 13, 3) := by decide +kernel
theorem dX2_dropLatest_7 : decode cX2_dropLatest 7 = .ok (.aload_n 0, 1) := by decide +kernel
theorem dX2_dropLatest_8 : decode cX2_dropLatest 8 = .ok (.dup, 1) := by decide +kernel
theorem dX2_dropLatest_9 : decode cX2_dropLatest 9 = .ok (.getfield 17, 3) := by decide +kernel
theorem dX2_dropLatest_12 : decode cX2_dropLatest 12 = .ok (.iconst 1, 1) := by decide +kernel
theorem dX2_dropLatest_13 : decode cX2_dropLatest 13 = .ok (.isub, 1) := by decide +kernel
theorem dX2_dropLatest_14 : decode cX2_dropLatest 14 = .ok (.putfield 17, 3) := by decide +kernel
theorem dX2_dropLatest_17 : decode cX2_dropLatest 17 = .ok (.return_, 1) := by decide +kernel
theorem dX3_init_0 : decode cX3_init 0 = .ok (.aload_n 0, 1) := by decide +kernel
theorem dX3_init_1 : decode cX3_init 1 = .ok (.invokespecial 3, 3) := by decide +kernel
theorem dX3_init_4 : decode cX3_init 4 = .ok (.aload_n 0, 1) := by decide +kernel
theorem dX3_init_5 : decode cX3_init 5 = .ok (.aload_n 1, 1) := by decide +kernel
theorem dX3_init_6 : decode cX3_init 6 = .ok (.putfield 9, 3) := by decide +kernel
theorem dX3_init_9 : decode cX3_init 9 = .ok (.return_, 1) := by decide +kernel
theorem dX3_ofWord_0 : decode cX3_ofWord 0 = .ok (.iload_n 2, 1) := by decide +kernel
theorem dX3_ofWord_1 : decode cX3_ofWord 1 = .ok (.tableswitch 88 0 4 #[35, 45, 55, 65, 75], 35) := by decide +kernel
theorem dX3_ofWord_36 : decode cX3_ofWord 36 = .ok (.aload_n 0, 1) := by decide +kernel
theorem dX3_ofWord_37 : decode cX3_ofWord 37 = .ok (.getfield 9, 3) := by decide +kernel
theorem dX3_ofWord_40 : decode cX3_ofWord 40 = .ok (.getfield 15, 3) := by decide +kernel
theorem dX3_ofWord_43 : decode cX3_ofWord 43 = .ok (.iload_n 1, 1) := by decide +kernel
theorem dX3_ofWord_44 : decode cX3_ofWord 44 = .ok (.iaload, 1) := by decide +kernel
theorem dX3_ofWord_45 : decode cX3_ofWord 45 = .ok (.ireturn, 1) := by decide +kernel
theorem dX3_ofWord_46 : decode cX3_ofWord 46 = .ok (.aload_n 0, 1) := by decide +kernel
theorem dX3_ofWord_47 : decode cX3_ofWord 47 = .ok (.getfield 9, 3) := by decide +kernel
theorem dX3_ofWord_50 : decode cX3_ofWord 50 = .ok (.getfield 21, 3) := by decide +kernel
theorem dX3_ofWord_53 : decode cX3_ofWord 53 = .ok (.iload_n 1, 1) := by decide +kernel
theorem dX3_ofWord_54 : decode cX3_ofWord 54 = .ok (.iaload, 1) := by decide +kernel
theorem dX3_ofWord_55 : decode cX3_ofWord 55 = .ok (.ireturn, 1) := by decide +kernel
theorem dX3_ofWord_56 : decode cX3_ofWord 56 = .ok (.aload_n 0, 1) := by decide +kernel
theorem dX3_ofWord_57 : decode cX3_ofWord 57 = .ok (.getfield 9, 3) := by decide +kernel
theorem dX3_ofWord_60 : decode cX3_ofWord 60 = .ok (.getfield 24, 3) := by decide +kernel
theorem dX3_ofWord_63 : decode cX3_ofWord 63 = .ok (.iload_n 1, 1) := by decide +kernel
theorem dX3_ofWord_64 : decode cX3_ofWord 64 = .ok (.iaload, 1) := by decide +kernel
theorem dX3_ofWord_65 : decode cX3_ofWord 65 = .ok (.ireturn, 1) := by decide +kernel
theorem dX3_ofWord_66 : decode cX3_ofWord 66 = .ok (.aload_n 0, 1) := by decide +kernel
theorem dX3_ofWord_67 : decode cX3_ofWord 67 = .ok (.getfield 9, 3) := by decide +kernel
theorem dX3_ofWord_70 : decode cX3_ofWord 70 = .ok (.getfield 27, 3) := by decide +kernel
theorem dX3_ofWord_73 : decode cX3_ofWord 73 = .ok (.iload_n 1, 1) := by decide +kernel
theorem dX3_ofWord_74 : decode cX3_ofWord 74 = .ok (.iaload, 1) := by decide +kernel
theorem dX3_ofWord_75 : decode cX3_ofWord 75 = .ok (.ireturn, 1) := by decide +kernel
theorem dX3_ofWord_76 : decode cX3_ofWord 76 = .ok (.aload_n 0, 1) := by decide +kernel
theorem dX3_ofWord_77 : decode cX3_ofWord 77 = .ok (.aload_n 0, 1) := by decide +kernel
theorem dX3_ofWord_78 : decode cX3_ofWord 78 = .ok (.getfield 9, 3) := by decide +kernel
theorem dX3_ofWord_81 : decode cX3_ofWord 81 = .ok (.getfield 30, 3) := by decide +kernel
theorem dX3_ofWord_84 : decode cX3_ofWord 84 = .ok (.iload_n 1, 1) := by decide +kernel
theorem dX3_ofWord_85 : decode cX3_ofWord 85 = .ok (.invokevirtual 34, 3) := by decide +kernel
theorem dX3_ofWord_88 : decode cX3_ofWord 88 = .ok (.ireturn, 1) := by decide +kernel
theorem dX3_ofWord_89 : decode cX3_ofWord 89 = .ok (.aload_n 0, 1) := by decide +kernel
theorem dX3_ofWord_90 : decode cX3_ofWord 90 = .ok (.aload_n 0, 1) := by decide +kernel
theorem dX3_ofWord_91 : decode cX3_ofWord 91 = .ok (.getfield 9, 3) := by decide +kernel
theorem dX3_ofWord_94 : decode cX3_ofWord 94 = .ok (.getfield 38, 3) := by decide +kernel
theorem dX3_ofWord_97 : decode cX3_ofWord 97 = .ok (.iload_n 1, 1) := by decide +kernel
theorem dX3_ofWord_98 : decode cX3_ofWord 98 = .ok (.invokevirtual 34, 3) := by decide +kernel
theorem dX3_ofWord_101 : decode cX3_ofWord 101 = .ok (.ireturn, 1) := by decide +kernel
theorem dX3_maskOf_0 : decode cX3_maskOf 0 = .ok (.iconst 0, 1) := by decide +kernel
theorem dX3_maskOf_1 : decode cX3_maskOf 1 = .ok (.istore_n 3, 1) := by decide +kernel
theorem dX3_maskOf_2 : decode cX3_maskOf 2 = .ok (.iconst 0, 1) := by decide +kernel
theorem dX3_maskOf_3 : decode cX3_maskOf 3 = .ok (.istore 4, 2) := by decide +kernel
theorem dX3_maskOf_5 : decode cX3_maskOf 5 = .ok (.iload 4, 2) := by decide +kernel
theorem dX3_maskOf_7 : decode cX3_maskOf 7 = .ok (.bipush 6, 2) := by decide +kernel
theorem dX3_maskOf_9 : decode cX3_maskOf 9 = .ok (.if_icmp .ge 26, 3) := by decide +kernel
theorem dX3_maskOf_12 : decode cX3_maskOf 12 = .ok (.aload_n 1, 1) := by decide +kernel
theorem dX3_maskOf_13 : decode cX3_maskOf 13 = .ok (.iload 4, 2) := by decide +kernel
theorem dX3_maskOf_15 : decode cX3_maskOf 15 = .ok (.aaload, 1) := by decide +kernel
theorem dX3_maskOf_16 : decode cX3_maskOf 16 = .ok (.iload_n 2, 1) := by decide +kernel
theorem dX3_maskOf_17 : decode cX3_maskOf 17 = .ok (.iaload, 1) := by decide +kernel
theorem dX3_maskOf_18 : decode cX3_maskOf 18 = .ok (.iconst (-1), 1) := by decide +kernel
theorem dX3_maskOf_19 : decode cX3_maskOf 19 = .ok (.if_icmp .eq 10, 3) := by decide +kernel
theorem dX3_maskOf_22 : decode cX3_maskOf 22 = .ok (.iload_n 3, 1) := by decide +kernel
theorem dX3_maskOf_23 : decode cX3_maskOf 23 = .ok (.iconst 1, 1) := by decide +kernel
theorem dX3_maskOf_24 : decode cX3_maskOf 24 = .ok (.iload 4, 2) := by decide +kernel
theorem dX3_maskOf_26 : decode cX3_maskOf 26 = .ok (.ishl, 1) := by decide +kernel
theorem dX3_maskOf_27 : decode cX3_maskOf 27 = .ok (.ior, 1) := by decide +kernel
theorem dX3_maskOf_28 : decode cX3_maskOf 28 = .ok (.istore_n 3, 1) := by decide +kernel
theorem dX3_maskOf_29 : decode cX3_maskOf 29 = .ok (.iinc 4 1, 3) := by decide +kernel
theorem dX3_maskOf_32 : decode cX3_maskOf 32 = .ok (.goto (-27), 3) := by decide +kernel
theorem dX3_maskOf_35 : decode cX3_maskOf 35 = .ok (.iload_n 3, 1) := by decide +kernel
theorem dX3_maskOf_36 : decode cX3_maskOf 36 = .ok (.ireturn, 1) := by decide +kernel
theorem dX3_ofBeat_0 : decode cX3_ofBeat 0 = .ok (.aload_n 0, 1) := by decide +kernel
theorem dX3_ofBeat_1 : decode cX3_ofBeat 1 = .ok (.getfield 9, 3) := by decide +kernel
theorem dX3_ofBeat_4 : decode cX3_ofBeat 4 = .ok (.getfield 41, 3) := by decide +kernel
theorem dX3_ofBeat_7 : decode cX3_ofBeat 7 = .ok (.iload_n 1, 1) := by decide +kernel
theorem dX3_ofBeat_8 : decode cX3_ofBeat 8 = .ok (.aaload, 1) := by decide +kernel
theorem dX3_ofBeat_9 : decode cX3_ofBeat 9 = .ok (.iload_n 2, 1) := by decide +kernel
theorem dX3_ofBeat_10 : decode cX3_ofBeat 10 = .ok (.iaload, 1) := by decide +kernel
theorem dX3_ofBeat_11 : decode cX3_ofBeat 11 = .ok (.istore 4, 2) := by decide +kernel
theorem dX3_ofBeat_13 : decode cX3_ofBeat 13 = .ok (.iload 4, 2) := by decide +kernel
theorem dX3_ofBeat_15 : decode cX3_ofBeat 15 = .ok (.iconst (-1), 1) := by decide +kernel
theorem dX3_ofBeat_16 : decode cX3_ofBeat 16 = .ok (.if_icmp .eq 7, 3) := by decide +kernel
theorem dX3_ofBeat_19 : decode cX3_ofBeat 19 = .ok (.iload_n 3, 1) := by decide +kernel
theorem dX3_ofBeat_20 : decode cX3_ofBeat 20 = .ok (.ifCond .ne 6, 3) := by decide +kernel
theorem dX3_ofBeat_23 : decode cX3_ofBeat 23 = .ok (.iload 4, 2) := by decide +kernel
theorem dX3_ofBeat_25 : decode cX3_ofBeat 25 = .ok (.ireturn, 1) := by decide +kernel
theorem dX3_ofBeat_26 : decode cX3_ofBeat 26 = .ok (.iload_n 3, 1) := by decide +kernel
theorem dX3_ofBeat_27 : decode cX3_ofBeat 27 = .ok (.iconst 1, 1) := by decide +kernel
theorem dX3_ofBeat_28 : decode cX3_ofBeat 28 = .ok (.if_icmp .ne 14, 3) := by decide +kernel
theorem dX3_ofBeat_31 : decode cX3_ofBeat 31 = .ok (.aload_n 0, 1) := by decide +kernel
theorem dX3_ofBeat_32 : decode cX3_ofBeat 32 = .ok (.getfield 9, 3) := by decide +kernel
theorem dX3_ofBeat_35 : decode cX3_ofBeat 35 = .ok (.getfield 21, 3) := by decide +kernel
theorem dX3_ofBeat_38 : decode cX3_ofBeat 38 = .ok (.iload 4, 2) := by decide +kernel
theorem dX3_ofBeat_40 : decode cX3_ofBeat 40 = .ok (.iaload, 1) := by decide +kernel
theorem dX3_ofBeat_41 : decode cX3_ofBeat 41 = .ok (.ireturn, 1) := by decide +kernel
theorem dX3_ofBeat_42 : decode cX3_ofBeat 42 = .ok (.aload_n 0, 1) := by decide +kernel
theorem dX3_ofBeat_43 : decode cX3_ofBeat 43 = .ok (.iload_n 1, 1) := by decide +kernel
theorem dX3_ofBeat_44 : decode cX3_ofBeat 44 = .ok (.iload_n 2, 1) := by decide +kernel
theorem dX3_ofBeat_45 : decode cX3_ofBeat 45 = .ok (.invokevirtual 44, 3) := by decide +kernel
theorem dX3_ofBeat_48 : decode cX3_ofBeat 48 = .ok (.ifCond .eq 7, 3) := by decide +kernel
theorem dX3_ofBeat_51 : decode cX3_ofBeat 51 = .ok (.iconst 1, 1) := by decide +kernel
theorem dX3_ofBeat_52 : decode cX3_ofBeat 52 = .ok (.goto 4, 3) := by decide +kernel
theorem dX3_ofBeat_55 : decode cX3_ofBeat 55 = .ok (.iconst 0, 1) := by decide +kernel
theorem dX3_ofBeat_56 : decode cX3_ofBeat 56 = .ok (.ireturn, 1) := by decide +kernel
theorem dX3_isRepeated_0 : decode cX3_isRepeated 0 = .ok (.aload_n 0, 1) := by decide +kernel
theorem dX3_isRepeated_1 : decode cX3_isRepeated 1 = .ok (.getfield 9, 3) := by decide +kernel
theorem dX3_isRepeated_4 : decode cX3_isRepeated 4 = .ok (.getfield 41, 3) := by decide +kernel
theorem dX3_isRepeated_7 : decode cX3_isRepeated 7 = .ok (.iload_n 1, 1) := by decide +kernel
theorem dX3_isRepeated_8 : decode cX3_isRepeated 8 = .ok (.aaload, 1) := by decide +kernel
theorem dX3_isRepeated_9 : decode cX3_isRepeated 9 = .ok (.astore_n 3, 1) := by decide +kernel
theorem dX3_isRepeated_10 : decode cX3_isRepeated 10 = .ok (.iload_n 2, 1) := by decide +kernel
theorem dX3_isRepeated_11 : decode cX3_isRepeated 11 = .ok (.ifCond .le 25, 3) := by decide +kernel
theorem dX3_isRepeated_14 : decode cX3_isRepeated 14 = .ok (.aload_n 3, 1) := by decide +kernel
theorem dX3_isRepeated_15 : decode cX3_isRepeated 15 = .ok (.iload_n 2, 1) := by decide +kernel
theorem dX3_isRepeated_16 : decode cX3_isRepeated 16 = .ok (.iaload, 1) := by decide +kernel
theorem dX3_isRepeated_17 : decode cX3_isRepeated 17 = .ok (.iconst (-1), 1) := by decide +kernel
theorem dX3_isRepeated_18 : decode cX3_isRepeated 18 = .ok (.if_icmp .eq 18, 3) := by decide +kernel
theorem dX3_isRepeated_21 : decode cX3_isRepeated 21 = .ok (.aload_n 3, 1) := by decide +kernel
theorem dX3_isRepeated_22 : decode cX3_isRepeated 22 = .ok (.iload_n 2, 1) := by decide +kernel
theorem dX3_isRepeated_23 : decode cX3_isRepeated 23 = .ok (.iaload, 1) := by decide +kernel
theorem dX3_isRepeated_24 : decode cX3_isRepeated 24 = .ok (.aload_n 3, 1) := by decide +kernel
theorem dX3_isRepeated_25 : decode cX3_isRepeated 25 = .ok (.iload_n 2, 1) := by decide +kernel
theorem dX3_isRepeated_26 : decode cX3_isRepeated 26 = .ok (.iconst 1, 1) := by decide +kernel
theorem dX3_isRepeated_27 : decode cX3_isRepeated 27 = .ok (.isub, 1) := by decide +kernel
theorem dX3_isRepeated_28 : decode cX3_isRepeated 28 = .ok (.iaload, 1) := by decide +kernel
theorem dX3_isRepeated_29 : decode cX3_isRepeated 29 = .ok (.if_icmp .ne 7, 3) := by decide +kernel
theorem dX3_isRepeated_32 : decode cX3_isRepeated 32 = .ok (.iconst 1, 1) := by decide +kernel
theorem dX3_isRepeated_33 : decode cX3_isRepeated 33 = .ok (.goto 4, 3) := by decide +kernel
theorem dX3_isRepeated_36 : decode cX3_isRepeated 36 = .ok (.iconst 0, 1) := by decide +kernel
theorem dX3_isRepeated_37 : decode cX3_isRepeated 37 = .ok (.ireturn, 1) := by decide +kernel
theorem dX3_ofSpeaker_0 : decode cX3_ofSpeaker 0 = .ok (.iload_n 2, 1) := by decide +kernel
theorem dX3_ofSpeaker_1 : decode cX3_ofSpeaker 1 = .ok (.tableswitch 97 0 6 #[43, 53, 59, 65, 71, 85, 91], 43) := by decide +kernel
theorem dX3_ofSpeaker_44 : decode cX3_ofSpeaker 44 = .ok (.aload_n 0, 1) := by decide +kernel
theorem dX3_ofSpeaker_45 : decode cX3_ofSpeaker 45 = .ok (.getfield 9, 3) := by decide +kernel
theorem dX3_ofSpeaker_48 : decode cX3_ofSpeaker 48 = .ok (.getfield 48, 3) := by decide +kernel
theorem dX3_ofSpeaker_51 : decode cX3_ofSpeaker 51 = .ok (.iload_n 1, 1) := by decide +kernel
theorem dX3_ofSpeaker_52 : decode cX3_ofSpeaker 52 = .ok (.iaload, 1) := by decide +kernel
theorem dX3_ofSpeaker_53 : decode cX3_ofSpeaker 53 = .ok (.ireturn, 1) := by decide +kernel
theorem dX3_ofSpeaker_54 : decode cX3_ofSpeaker 54 = .ok (.aload_n 0, 1) := by decide +kernel
theorem dX3_ofSpeaker_55 : decode cX3_ofSpeaker 55 = .ok (.iload_n 1, 1) := by decide +kernel
theorem dX3_ofSpeaker_56 : decode cX3_ofSpeaker 56 = .ok (.invokevirtual 51, 3) := by decide +kernel
theorem dX3_ofSpeaker_59 : decode cX3_ofSpeaker 59 = .ok (.ireturn, 1) := by decide +kernel
theorem dX3_ofSpeaker_60 : decode cX3_ofSpeaker 60 = .ok (.aload_n 0, 1) := by decide +kernel
theorem dX3_ofSpeaker_61 : decode cX3_ofSpeaker 61 = .ok (.iload_n 1, 1) := by decide +kernel
theorem dX3_ofSpeaker_62 : decode cX3_ofSpeaker 62 = .ok (.invokevirtual 55, 3) := by decide +kernel
theorem dX3_ofSpeaker_65 : decode cX3_ofSpeaker 65 = .ok (.ireturn, 1) := by decide +kernel
theorem dX3_ofSpeaker_66 : decode cX3_ofSpeaker 66 = .ok (.aload_n 0, 1) := by decide +kernel
theorem dX3_ofSpeaker_67 : decode cX3_ofSpeaker 67 = .ok (.iload_n 1, 1) := by decide +kernel
theorem dX3_ofSpeaker_68 : decode cX3_ofSpeaker 68 = .ok (.invokevirtual 58, 3) := by decide +kernel
theorem dX3_ofSpeaker_71 : decode cX3_ofSpeaker 71 = .ok (.ireturn, 1) := by decide +kernel
theorem dX3_ofSpeaker_72 : decode cX3_ofSpeaker 72 = .ok (.aload_n 0, 1) := by decide +kernel
theorem dX3_ofSpeaker_73 : decode cX3_ofSpeaker 73 = .ok (.getfield 9, 3) := by decide +kernel
theorem dX3_ofSpeaker_76 : decode cX3_ofSpeaker 76 = .ok (.getfield 61, 3) := by decide +kernel
theorem dX3_ofSpeaker_79 : decode cX3_ofSpeaker 79 = .ok (.aload_n 0, 1) := by decide +kernel
theorem dX3_ofSpeaker_80 : decode cX3_ofSpeaker 80 = .ok (.iload_n 1, 1) := by decide +kernel
theorem dX3_ofSpeaker_81 : decode cX3_ofSpeaker 81 = .ok (.invokevirtual 51, 3) := by decide +kernel
theorem dX3_ofSpeaker_84 : decode cX3_ofSpeaker 84 = .ok (.isub, 1) := by decide +kernel
theorem dX3_ofSpeaker_85 : decode cX3_ofSpeaker 85 = .ok (.ireturn, 1) := by decide +kernel
theorem dX3_ofSpeaker_86 : decode cX3_ofSpeaker 86 = .ok (.aload_n 0, 1) := by decide +kernel
theorem dX3_ofSpeaker_87 : decode cX3_ofSpeaker 87 = .ok (.iload_n 1, 1) := by decide +kernel
theorem dX3_ofSpeaker_88 : decode cX3_ofSpeaker 88 = .ok (.invokevirtual 65, 3) := by decide +kernel
theorem dX3_ofSpeaker_91 : decode cX3_ofSpeaker 91 = .ok (.ireturn, 1) := by decide +kernel
theorem dX3_ofSpeaker_92 : decode cX3_ofSpeaker 92 = .ok (.aload_n 0, 1) := by decide +kernel
theorem dX3_ofSpeaker_93 : decode cX3_ofSpeaker 93 = .ok (.iload_n 1, 1) := by decide +kernel
theorem dX3_ofSpeaker_94 : decode cX3_ofSpeaker 94 = .ok (.invokevirtual 68, 3) := by decide +kernel
theorem dX3_ofSpeaker_97 : decode cX3_ofSpeaker 97 = .ok (.ireturn, 1) := by decide +kernel
theorem dX3_ofSpeaker_98 : decode cX3_ofSpeaker 98 = .ok (.aload_n 0, 1) := by decide +kernel
theorem dX3_ofSpeaker_99 : decode cX3_ofSpeaker 99 = .ok (.iload_n 1, 1) := by decide +kernel
theorem dX3_ofSpeaker_100 : decode cX3_ofSpeaker 100 = .ok (.invokevirtual 71, 3) := by decide +kernel
theorem dX3_ofSpeaker_103 : decode cX3_ofSpeaker 103 = .ok (.ireturn, 1) := by decide +kernel
theorem dX3_heardBeats_0 : decode cX3_heardBeats 0 = .ok (.iconst 0, 1) := by decide +kernel
theorem dX3_heardBeats_1 : decode cX3_heardBeats 1 = .ok (.istore_n 2, 1) := by decide +kernel
theorem dX3_heardBeats_2 : decode cX3_heardBeats 2 = .ok (.iconst 0, 1) := by decide +kernel
theorem dX3_heardBeats_3 : decode cX3_heardBeats 3 = .ok (.istore_n 3, 1) := by decide +kernel
theorem dX3_heardBeats_4 : decode cX3_heardBeats 4 = .ok (.iload_n 3, 1) := by decide +kernel
theorem dX3_heardBeats_5 : decode cX3_heardBeats 5 = .ok (.aload_n 0, 1) := by decide +kernel
theorem dX3_heardBeats_6 : decode cX3_heardBeats 6 = .ok (.getfield 9, 3) := by decide +kernel
theorem dX3_heardBeats_9 : decode cX3_heardBeats 9 = .ok (.getfield 61, 3) := by decide +kernel
theorem dX3_heardBeats_12 : decode cX3_heardBeats 12 = .ok (.if_icmp .ge 27, 3) := by decide +kernel
theorem dX3_heardBeats_15 : decode cX3_heardBeats 15 = .ok (.aload_n 0, 1) := by decide +kernel
theorem dX3_heardBeats_16 : decode cX3_heardBeats 16 = .ok (.getfield 9, 3) := by decide +kernel
theorem dX3_heardBeats_19 : decode cX3_heardBeats 19 = .ok (.getfield 41, 3) := by decide +kernel
theorem dX3_heardBeats_22 : decode cX3_heardBeats 22 = .ok (.iload_n 1, 1) := by decide +kernel
theorem dX3_heardBeats_23 : decode cX3_heardBeats 23 = .ok (.aaload, 1) := by decide +kernel
theorem dX3_heardBeats_24 : decode cX3_heardBeats 24 = .ok (.iload_n 3, 1) := by decide +kernel
theorem dX3_heardBeats_25 : decode cX3_heardBeats 25 = .ok (.iaload, 1) := by decide +kernel
theorem dX3_heardBeats_26 : decode cX3_heardBeats 26 = .ok (.iconst (-1), 1) := by decide +kernel
theorem dX3_heardBeats_27 : decode cX3_heardBeats 27 = .ok (.if_icmp .eq 6, 3) := by decide +kernel
theorem dX3_heardBeats_30 : decode cX3_heardBeats 30 = .ok (.iinc 2 1, 3) := by decide +kernel
theorem dX3_heardBeats_33 : decode cX3_heardBeats 33 = .ok (.iinc 3 1, 3) := by decide +kernel
theorem dX3_heardBeats_36 : decode cX3_heardBeats 36 = .ok (.goto (-32), 3) := by decide +kernel
theorem dX3_heardBeats_39 : decode cX3_heardBeats 39 = .ok (.iload_n 2, 1) := by decide +kernel
theorem dX3_heardBeats_40 : decode cX3_heardBeats 40 = .ok (.ireturn, 1) := by decide +kernel
theorem dX3_heardWordsByBeats_0 : decode cX3_heardWordsByBeats 0 = .ok (.iconst 0, 1) := by decide +kernel
theorem dX3_heardWordsByBeats_1 : decode cX3_heardWordsByBeats 1 = .ok (.istore_n 2, 1) := by decide +kernel
theorem dX3_heardWordsByBeats_2 : decode cX3_heardWordsByBeats 2 = .ok (.iconst 0, 1) := by decide +kernel
theorem dX3_heardWordsByBeats_3 : decode cX3_heardWordsByBeats 3 = .ok (.istore_n 3, 1) := by decide +kernel
theorem dX3_heardWordsByBeats_4 : decode cX3_heardWordsByBeats 4 = .ok (.iload_n 3, 1) := by decide +kernel
theorem dX3_heardWordsByBeats_5 : decode cX3_heardWordsByBeats 5 = .ok (.aload_n 0, 1) := by decide +kernel
theorem dX3_heardWordsByBeats_6 : decode cX3_heardWordsByBeats 6 = .ok (.getfield 9, 3) := by decide +kernel
theorem dX3_heardWordsByBeats_9 : decode cX3_heardWordsByBeats 9 = .ok (.getfield 61, 3) := by decide +kernel
theorem dX3_heardWordsByBeats_12 : decode cX3_heardWordsByBeats 12 = .ok (.if_icmp .ge 47, 3) := by decide +kernel
theorem dX3_heardWordsByBeats_15 : decode cX3_heardWordsByBeats 15 = .ok (.aload_n 0, 1) := by decide +kernel
theorem dX3_heardWordsByBeats_16 : decode cX3_heardWordsByBeats 16 = .ok (.getfield 9, 3) := by decide +kernel
theorem dX3_heardWordsByBeats_19 : decode cX3_heardWordsByBeats 19 = .ok (.getfield 41, 3) := by decide +kernel
theorem dX3_heardWordsByBeats_22 : decode cX3_heardWordsByBeats 22 = .ok (.iload_n 1, 1) := by decide +kernel
theorem dX3_heardWordsByBeats_23 : decode cX3_heardWordsByBeats 23 = .ok (.aaload, 1) := by decide +kernel
theorem dX3_heardWordsByBeats_24 : decode cX3_heardWordsByBeats 24 = .ok (.iload_n 3, 1) := by decide +kernel
theorem dX3_heardWordsByBeats_25 : decode cX3_heardWordsByBeats 25 = .ok (.iaload, 1) := by decide +kernel
theorem dX3_heardWordsByBeats_26 : decode cX3_heardWordsByBeats 26 = .ok (.istore 4, 2) := by decide +kernel
theorem dX3_heardWordsByBeats_28 : decode cX3_heardWordsByBeats 28 = .ok (.iload 4, 2) := by decide +kernel
theorem dX3_heardWordsByBeats_30 : decode cX3_heardWordsByBeats 30 = .ok (.iconst (-1), 1) := by decide +kernel
theorem dX3_heardWordsByBeats_31 : decode cX3_heardWordsByBeats 31 = .ok (.if_icmp .eq 22, 3) := by decide +kernel
theorem dX3_heardWordsByBeats_34 : decode cX3_heardWordsByBeats 34 = .ok (.aload_n 0, 1) := by decide +kernel
theorem dX3_heardWordsByBeats_35 : decode cX3_heardWordsByBeats 35 = .ok (.getfield 9, 3) := by decide +kernel
theorem dX3_heardWordsByBeats_38 : decode cX3_heardWordsByBeats 38 = .ok (.getfield 38, 3) := by decide +kernel
theorem dX3_heardWordsByBeats_41 : decode cX3_heardWordsByBeats 41 = .ok (.iload_n 1, 1) := by decide +kernel
theorem dX3_heardWordsByBeats_42 : decode cX3_heardWordsByBeats 42 = .ok (.aaload, 1) := by decide +kernel
theorem dX3_heardWordsByBeats_43 : decode cX3_heardWordsByBeats 43 = .ok (.iload 4, 2) := by decide +kernel
theorem dX3_heardWordsByBeats_45 : decode cX3_heardWordsByBeats 45 = .ok (.iaload, 1) := by decide +kernel
theorem dX3_heardWordsByBeats_46 : decode cX3_heardWordsByBeats 46 = .ok (.iload_n 3, 1) := by decide +kernel
theorem dX3_heardWordsByBeats_47 : decode cX3_heardWordsByBeats 47 = .ok (.if_icmp .ne 6, 3) := by decide +kernel
theorem dX3_heardWordsByBeats_50 : decode cX3_heardWordsByBeats 50 = .ok (.iinc 2 1, 3) := by decide +kernel
theorem dX3_heardWordsByBeats_53 : decode cX3_heardWordsByBeats 53 = .ok (.iinc 3 1, 3) := by decide +kernel
theorem dX3_heardWordsByBeats_56 : decode cX3_heardWordsByBeats 56 = .ok (.goto (-52), 3) := by decide +kernel
theorem dX3_heardWordsByBeats_59 : decode cX3_heardWordsByBeats 59 = .ok (.iload_n 2, 1) := by decide +kernel
theorem dX3_heardWordsByBeats_60 : decode cX3_heardWordsByBeats 60 = .ok (.ireturn, 1) := by decide +kernel
theorem dX3_heardWordsByWords_0 : decode cX3_heardWordsByWords 0 = .ok (.iconst 0, 1) := by decide +kernel
theorem dX3_heardWordsByWords_1 : decode cX3_heardWordsByWords 1 = .ok (.istore_n 2, 1) := by decide +kernel
theorem dX3_heardWordsByWords_2 : decode cX3_heardWordsByWords 2 = .ok (.iconst 0, 1) := by decide +kernel
theorem dX3_heardWordsByWords_3 : decode cX3_heardWordsByWords 3 = .ok (.istore_n 3, 1) := by decide +kernel
theorem dX3_heardWordsByWords_4 : decode cX3_heardWordsByWords 4 = .ok (.iload_n 3, 1) := by decide +kernel
theorem dX3_heardWordsByWords_5 : decode cX3_heardWordsByWords 5 = .ok (.aload_n 0, 1) := by decide +kernel
theorem dX3_heardWordsByWords_6 : decode cX3_heardWordsByWords 6 = .ok (.getfield 9, 3) := by decide +kernel
theorem dX3_heardWordsByWords_9 : decode cX3_heardWordsByWords 9 = .ok (.getfield 74, 3) := by decide +kernel
theorem dX3_heardWordsByWords_12 : decode cX3_heardWordsByWords 12 = .ok (.if_icmp .ge 27, 3) := by decide +kernel
theorem dX3_heardWordsByWords_15 : decode cX3_heardWordsByWords 15 = .ok (.aload_n 0, 1) := by decide +kernel
theorem dX3_heardWordsByWords_16 : decode cX3_heardWordsByWords 16 = .ok (.getfield 9, 3) := by decide +kernel
theorem dX3_heardWordsByWords_19 : decode cX3_heardWordsByWords 19 = .ok (.getfield 38, 3) := by decide +kernel
theorem dX3_heardWordsByWords_22 : decode cX3_heardWordsByWords 22 = .ok (.iload_n 1, 1) := by decide +kernel
theorem dX3_heardWordsByWords_23 : decode cX3_heardWordsByWords 23 = .ok (.aaload, 1) := by decide +kernel
theorem dX3_heardWordsByWords_24 : decode cX3_heardWordsByWords 24 = .ok (.iload_n 3, 1) := by decide +kernel
theorem dX3_heardWordsByWords_25 : decode cX3_heardWordsByWords 25 = .ok (.iaload, 1) := by decide +kernel
theorem dX3_heardWordsByWords_26 : decode cX3_heardWordsByWords 26 = .ok (.iconst (-1), 1) := by decide +kernel
theorem dX3_heardWordsByWords_27 : decode cX3_heardWordsByWords 27 = .ok (.if_icmp .eq 6, 3) := by decide +kernel
theorem dX3_heardWordsByWords_30 : decode cX3_heardWordsByWords 30 = .ok (.iinc 2 1, 3) := by decide +kernel
theorem dX3_heardWordsByWords_33 : decode cX3_heardWordsByWords 33 = .ok (.iinc 3 1, 3) := by decide +kernel
theorem dX3_heardWordsByWords_36 : decode cX3_heardWordsByWords 36 = .ok (.goto (-32), 3) := by decide +kernel
theorem dX3_heardWordsByWords_39 : decode cX3_heardWordsByWords 39 = .ok (.iload_n 2, 1) := by decide +kernel
theorem dX3_heardWordsByWords_40 : decode cX3_heardWordsByWords 40 = .ok (.ireturn, 1) := by decide +kernel
theorem dX3_repeatedBeats_0 : decode cX3_repeatedBeats 0 = .ok (.iconst 0, 1) := by decide +kernel
theorem dX3_repeatedBeats_1 : decode cX3_repeatedBeats 1 = .ok (.istore_n 2, 1) := by decide +kernel
theorem dX3_repeatedBeats_2 : decode cX3_repeatedBeats 2 = .ok (.iconst 0, 1) := by decide +kernel
theorem dX3_repeatedBeats_3 : decode cX3_repeatedBeats 3 = .ok (.istore_n 3, 1) := by decide +kernel
theorem dX3_repeatedBeats_4 : decode cX3_repeatedBeats 4 = .ok (.iload_n 3, 1) := by decide +kernel
theorem dX3_repeatedBeats_5 : decode cX3_repeatedBeats 5 = .ok (.aload_n 0, 1) := by decide +kernel
theorem dX3_repeatedBeats_6 : decode cX3_repeatedBeats 6 = .ok (.getfield 9, 3) := by decide +kernel
theorem dX3_repeatedBeats_9 : decode cX3_repeatedBeats 9 = .ok (.getfield 61, 3) := by decide +kernel
theorem dX3_repeatedBeats_12 : decode cX3_repeatedBeats 12 = .ok (.if_icmp .ge 21, 3) := by decide +kernel
theorem dX3_repeatedBeats_15 : decode cX3_repeatedBeats 15 = .ok (.aload_n 0, 1) := by decide +kernel
theorem dX3_repeatedBeats_16 : decode cX3_repeatedBeats 16 = .ok (.iload_n 1, 1) := by decide +kernel
theorem dX3_repeatedBeats_17 : decode cX3_repeatedBeats 17 = .ok (.iload_n 3, 1) := by decide +kernel
theorem dX3_repeatedBeats_18 : decode cX3_repeatedBeats 18 = .ok (.invokevirtual 44, 3) := by decide +kernel
theorem dX3_repeatedBeats_21 : decode cX3_repeatedBeats 21 = .ok (.ifCond .eq 6, 3) := by decide +kernel
theorem dX3_repeatedBeats_24 : decode cX3_repeatedBeats 24 = .ok (.iinc 2 1, 3) := by decide +kernel
theorem dX3_repeatedBeats_27 : decode cX3_repeatedBeats 27 = .ok (.iinc 3 1, 3) := by decide +kernel
theorem dX3_repeatedBeats_30 : decode cX3_repeatedBeats 30 = .ok (.goto (-26), 3) := by decide +kernel
theorem dX3_repeatedBeats_33 : decode cX3_repeatedBeats 33 = .ok (.iload_n 2, 1) := by decide +kernel
theorem dX3_repeatedBeats_34 : decode cX3_repeatedBeats 34 = .ok (.ireturn, 1) := by decide +kernel
theorem dX3_gaps_0 : decode cX3_gaps 0 = .ok (.iconst 0, 1) := by decide +kernel
theorem dX3_gaps_1 : decode cX3_gaps 1 = .ok (.istore_n 2, 1) := by decide +kernel
theorem dX3_gaps_2 : decode cX3_gaps 2 = .ok (.iconst 0, 1) := by decide +kernel
theorem dX3_gaps_3 : decode cX3_gaps 3 = .ok (.istore_n 3, 1) := by decide +kernel
theorem dX3_gaps_4 : decode cX3_gaps 4 = .ok (.iconst 0, 1) := by decide +kernel
theorem dX3_gaps_5 : decode cX3_gaps 5 = .ok (.istore 4, 2) := by decide +kernel
theorem dX3_gaps_7 : decode cX3_gaps 7 = .ok (.iconst 0, 1) := by decide +kernel
theorem dX3_gaps_8 : decode cX3_gaps 8 = .ok (.istore 5, 2) := by decide +kernel
theorem dX3_gaps_10 : decode cX3_gaps 10 = .ok (.iload 5, 2) := by decide +kernel
theorem dX3_gaps_12 : decode cX3_gaps 12 = .ok (.aload_n 0, 1) := by decide +kernel
theorem dX3_gaps_13 : decode cX3_gaps 13 = .ok (.getfield 9, 3) := by decide +kernel
theorem dX3_gaps_16 : decode cX3_gaps 16 = .ok (.getfield 61, 3) := by decide +kernel
theorem dX3_gaps_19 : decode cX3_gaps 19 = .ok (.if_icmp .ge 44, 3) := by decide +kernel
theorem dX3_gaps_22 : decode cX3_gaps 22 = .ok (.aload_n 0, 1) := by decide +kernel
theorem dX3_gaps_23 : decode cX3_gaps 23 = .ok (.getfield 9, 3) := by decide +kernel
theorem dX3_gaps_26 : decode cX3_gaps 26 = .ok (.getfield 41, 3) := by decide +kernel
theorem dX3_gaps_29 : decode cX3_gaps 29 = .ok (.iload_n 1, 1) := by decide +kernel
theorem dX3_gaps_30 : decode cX3_gaps 30 = .ok (.aaload, 1) := by decide +kernel
theorem dX3_gaps_31 : decode cX3_gaps 31 = .ok (.iload 5, 2) := by decide +kernel
theorem dX3_gaps_33 : decode cX3_gaps 33 = .ok (.iaload, 1) := by decide +kernel
theorem dX3_gaps_34 : decode cX3_gaps 34 = .ok (.iconst (-1), 1) := by decide +kernel
theorem dX3_gaps_35 : decode cX3_gaps 35 = .ok (.if_icmp .ne 9, 3) := by decide +kernel
theorem dX3_gaps_38 : decode cX3_gaps 38 = .ok (.iload_n 3, 1) := by decide +kernel
theorem dX3_gaps_39 : decode cX3_gaps 39 = .ok (.istore 4, 2) := by decide +kernel
theorem dX3_gaps_41 : decode cX3_gaps 41 = .ok (.goto 16, 3) := by decide +kernel
theorem dX3_gaps_44 : decode cX3_gaps 44 = .ok (.iload 4, 2) := by decide +kernel
theorem dX3_gaps_46 : decode cX3_gaps 46 = .ok (.ifCond .eq 6, 3) := by decide +kernel
theorem dX3_gaps_49 : decode cX3_gaps 49 = .ok (.iinc 2 1, 3) := by decide +kernel
theorem dX3_gaps_52 : decode cX3_gaps 52 = .ok (.iconst 1, 1) := by decide +kernel
theorem dX3_gaps_53 : decode cX3_gaps 53 = .ok (.istore_n 3, 1) := by decide +kernel
theorem dX3_gaps_54 : decode cX3_gaps 54 = .ok (.iconst 0, 1) := by decide +kernel
theorem dX3_gaps_55 : decode cX3_gaps 55 = .ok (.istore 4, 2) := by decide +kernel
theorem dX3_gaps_57 : decode cX3_gaps 57 = .ok (.iinc 5 1, 3) := by decide +kernel
theorem dX3_gaps_60 : decode cX3_gaps 60 = .ok (.goto (-50), 3) := by decide +kernel
theorem dX3_gaps_63 : decode cX3_gaps 63 = .ok (.iload_n 2, 1) := by decide +kernel
theorem dX3_gaps_64 : decode cX3_gaps 64 = .ok (.ireturn, 1) := by decide +kernel
theorem dX3_wordsSaidBy_0 : decode cX3_wordsSaidBy 0 = .ok (.iconst 0, 1) := by decide +kernel
theorem dX3_wordsSaidBy_1 : decode cX3_wordsSaidBy 1 = .ok (.istore_n 2, 1) := by decide +kernel
theorem dX3_wordsSaidBy_2 : decode cX3_wordsSaidBy 2 = .ok (.iconst 0, 1) := by decide +kernel
theorem dX3_wordsSaidBy_3 : decode cX3_wordsSaidBy 3 = .ok (.istore_n 3, 1) := by decide +kernel
theorem dX3_wordsSaidBy_4 : decode cX3_wordsSaidBy 4 = .ok (.iload_n 3, 1) := by decide +kernel
theorem dX3_wordsSaidBy_5 : decode cX3_wordsSaidBy 5 = .ok (.aload_n 0, 1) := by decide +kernel
theorem dX3_wordsSaidBy_6 : decode cX3_wordsSaidBy 6 = .ok (.getfield 9, 3) := by decide +kernel
theorem dX3_wordsSaidBy_9 : decode cX3_wordsSaidBy 9 = .ok (.getfield 74, 3) := by decide +kernel
theorem dX3_wordsSaidBy_12 : decode cX3_wordsSaidBy 12 = .ok (.if_icmp .ge 25, 3) := by decide +kernel
theorem dX3_wordsSaidBy_15 : decode cX3_wordsSaidBy 15 = .ok (.aload_n 0, 1) := by decide +kernel
theorem dX3_wordsSaidBy_16 : decode cX3_wordsSaidBy 16 = .ok (.getfield 9, 3) := by decide +kernel
theorem dX3_wordsSaidBy_19 : decode cX3_wordsSaidBy 19 = .ok (.getfield 15, 3) := by decide +kernel
theorem dX3_wordsSaidBy_22 : decode cX3_wordsSaidBy 22 = .ok (.iload_n 3, 1) := by decide +kernel
theorem dX3_wordsSaidBy_23 : decode cX3_wordsSaidBy 23 = .ok (.iaload, 1) := by decide +kernel
theorem dX3_wordsSaidBy_24 : decode cX3_wordsSaidBy 24 = .ok (.iload_n 1, 1) := by decide +kernel
theorem dX3_wordsSaidBy_25 : decode cX3_wordsSaidBy 25 = .ok (.if_icmp .ne 6, 3) := by decide +kernel
theorem dX3_wordsSaidBy_28 : decode cX3_wordsSaidBy 28 = .ok (.iinc 2 1, 3) := by decide +kernel
theorem dX3_wordsSaidBy_31 : decode cX3_wordsSaidBy 31 = .ok (.iinc 3 1, 3) := by decide +kernel
theorem dX3_wordsSaidBy_34 : decode cX3_wordsSaidBy 34 = .ok (.goto (-30), 3) := by decide +kernel
theorem dX3_wordsSaidBy_37 : decode cX3_wordsSaidBy 37 = .ok (.iload_n 2, 1) := by decide +kernel
theorem dX3_wordsSaidBy_38 : decode cX3_wordsSaidBy 38 = .ok (.ireturn, 1) := by decide +kernel
theorem dX3_hearingOf_0 : decode cX3_hearingOf 0 = .ok (.aload_n 0, 1) := by decide +kernel
theorem dX3_hearingOf_1 : decode cX3_hearingOf 1 = .ok (.getfield 9, 3) := by decide +kernel
theorem dX3_hearingOf_4 : decode cX3_hearingOf 4 = .ok (.getfield 77, 3) := by decide +kernel
theorem dX3_hearingOf_7 : decode cX3_hearingOf 7 = .ok (.iload_n 1, 1) := by decide +kernel
theorem dX3_hearingOf_8 : decode cX3_hearingOf 8 = .ok (.iload_n 2, 1) := by decide +kernel
theorem dX3_hearingOf_9 : decode cX3_hearingOf 9 = .ok (.invokestatic 80, 3) := by decide +kernel
theorem dX3_hearingOf_12 : decode cX3_hearingOf 12 = .ok (.iaload, 1) := by decide +kernel
theorem dX3_hearingOf_13 : decode cX3_hearingOf 13 = .ok (.istore 4, 2) := by decide +kernel
theorem dX3_hearingOf_15 : decode cX3_hearingOf 15 = .ok (.iload 4, 2) := by decide +kernel
theorem dX3_hearingOf_17 : decode cX3_hearingOf 17 = .ok (.ifCond .ne 5, 3) := by decide +kernel
theorem dX3_hearingOf_20 : decode cX3_hearingOf 20 = .ok (.iconst (-1), 1) := by decide +kernel
theorem dX3_hearingOf_21 : decode cX3_hearingOf 21 = .ok (.ireturn, 1) := by decide +kernel
theorem dX3_hearingOf_22 : decode cX3_hearingOf 22 = .ok (.iconst 0, 1) := by decide +kernel
theorem dX3_hearingOf_23 : decode cX3_hearingOf 23 = .ok (.istore 5, 2) := by decide +kernel
theorem dX3_hearingOf_25 : decode cX3_hearingOf 25 = .ok (.iconst (-1), 1) := by decide +kernel
theorem dX3_hearingOf_26 : decode cX3_hearingOf 26 = .ok (.istore 6, 2) := by decide +kernel
theorem dX3_hearingOf_28 : decode cX3_hearingOf 28 = .ok (.iconst 1, 1) := by decide +kernel
theorem dX3_hearingOf_29 : decode cX3_hearingOf 29 = .ok (.istore 7, 2) := by decide +kernel
theorem dX3_hearingOf_31 : decode cX3_hearingOf 31 = .ok (.iconst 0, 1) := by decide +kernel
theorem dX3_hearingOf_32 : decode cX3_hearingOf 32 = .ok (.istore 8, 2) := by decide +kernel
theorem dX3_hearingOf_34 : decode cX3_hearingOf 34 = .ok (.iload 8, 2) := by decide +kernel
theorem dX3_hearingOf_36 : decode cX3_hearingOf 36 = .ok (.aload_n 0, 1) := by decide +kernel
theorem dX3_hearingOf_37 : decode cX3_hearingOf 37 = .ok (.getfield 9, 3) := by decide +kernel
theorem dX3_hearingOf_40 : decode cX3_hearingOf 40 = .ok (.getfield 74, 3) := by decide +kernel
theorem dX3_hearingOf_43 : decode cX3_hearingOf 43 = .ok (.if_icmp .ge 95, 3) := by decide +kernel
theorem dX3_hearingOf_46 : decode cX3_hearingOf 46 = .ok (.aload_n 0, 1) := by decide +kernel
theorem dX3_hearingOf_47 : decode cX3_hearingOf 47 = .ok (.getfield 9, 3) := by decide +kernel
theorem dX3_hearingOf_50 : decode cX3_hearingOf 50 = .ok (.getfield 38, 3) := by decide +kernel
theorem dX3_hearingOf_53 : decode cX3_hearingOf 53 = .ok (.iload_n 3, 1) := by decide +kernel
theorem dX3_hearingOf_54 : decode cX3_hearingOf 54 = .ok (.aaload, 1) := by decide +kernel
theorem dX3_hearingOf_55 : decode cX3_hearingOf 55 = .ok (.iload 8, 2) := by decide +kernel
theorem dX3_hearingOf_57 : decode cX3_hearingOf 57 = .ok (.iaload, 1) := by decide +kernel
theorem dX3_hearingOf_58 : decode cX3_hearingOf 58 = .ok (.istore 9, 2) := by decide +kernel
theorem dX3_hearingOf_60 : decode cX3_hearingOf 60 = .ok (.aload_n 0, 1) := by decide +kernel
theorem dX3_hearingOf_61 : decode cX3_hearingOf 61 = .ok (.getfield 9, 3) := by decide +kernel
theorem dX3_hearingOf_64 : decode cX3_hearingOf 64 = .ok (.getfield 15, 3) := by decide +kernel
theorem dX3_hearingOf_67 : decode cX3_hearingOf 67 = .ok (.iload 8, 2) := by decide +kernel
theorem dX3_hearingOf_69 : decode cX3_hearingOf 69 = .ok (.iaload, 1) := by decide +kernel
theorem dX3_hearingOf_70 : decode cX3_hearingOf 70 = .ok (.iload_n 1, 1) := by decide +kernel
theorem dX3_hearingOf_71 : decode cX3_hearingOf 71 = .ok (.if_icmp .ne 21, 3) := by decide +kernel
theorem dX3_hearingOf_74 : decode cX3_hearingOf 74 = .ok (.aload_n 0, 1) := by decide +kernel
theorem dX3_hearingOf_75 : decode cX3_hearingOf 75 = .ok (.getfield 9, 3) := by decide +kernel
theorem dX3_hearingOf_78 : decode cX3_hearingOf 78 = .ok (.getfield 24, 3) := by decide +kernel
theorem dX3_hearingOf_81 : decode cX3_hearingOf 81 = .ok (.iload 8, 2) := by decide +kernel
theorem dX3_hearingOf_83 : decode cX3_hearingOf 83 = .ok (.iaload, 1) := by decide +kernel
theorem dX3_hearingOf_84 : decode cX3_hearingOf 84 = .ok (.iload_n 2, 1) := by decide +kernel
theorem dX3_hearingOf_85 : decode cX3_hearingOf 85 = .ok (.if_icmp .ne 7, 3) := by decide +kernel
theorem dX3_hearingOf_88 : decode cX3_hearingOf 88 = .ok (.iconst 1, 1) := by decide +kernel
theorem dX3_hearingOf_89 : decode cX3_hearingOf 89 = .ok (.goto 4, 3) := by decide +kernel
theorem dX3_hearingOf_92 : decode cX3_hearingOf 92 = .ok (.iconst 0, 1) := by decide +kernel
theorem dX3_hearingOf_93 : decode cX3_hearingOf 93 = .ok (.istore 10, 2) := by decide +kernel
theorem dX3_hearingOf_95 : decode cX3_hearingOf 95 = .ok (.iload 10, 2) := by decide +kernel
theorem dX3_hearingOf_97 : decode cX3_hearingOf 97 = .ok (.ifCond .eq 35, 3) := by decide +kernel
theorem dX3_hearingOf_100 : decode cX3_hearingOf 100 = .ok (.iload 9, 2) := by decide +kernel
theorem dX3_hearingOf_102 : decode cX3_hearingOf 102 = .ok (.iconst (-1), 1) := by decide +kernel
theorem dX3_hearingOf_103 : decode cX3_hearingOf 103 = .ok (.if_icmp .eq 29, 3) := by decide +kernel
theorem dX3_hearingOf_106 : decode cX3_hearingOf 106 = .ok (.iinc 5 1, 3) := by decide +kernel
theorem dX3_hearingOf_109 : decode cX3_hearingOf 109 = .ok (.iload 7, 2) := by decide +kernel
theorem dX3_hearingOf_111 : decode cX3_hearingOf 111 = .ok (.ifCond .eq 14, 3) := by decide +kernel
theorem dX3_hearingOf_114 : decode cX3_hearingOf 114 = .ok (.iload 9, 2) := by decide +kernel
theorem dX3_hearingOf_116 : decode cX3_hearingOf 116 = .ok (.iload 6, 2) := by decide +kernel
theorem dX3_hearingOf_118 : decode cX3_hearingOf 118 = .ok (.if_icmp .le 7, 3) := by decide +kernel
theorem dX3_hearingOf_121 : decode cX3_hearingOf 121 = .ok (.iconst 1, 1) := by decide +kernel
theorem dX3_hearingOf_122 : decode cX3_hearingOf 122 = .ok (.goto 4, 3) := by decide +kernel
theorem dX3_hearingOf_125 : decode cX3_hearingOf 125 = .ok (.iconst 0, 1) := by decide +kernel
theorem dX3_hearingOf_126 : decode cX3_hearingOf 126 = .ok (.istore 7, 2) := by decide +kernel
theorem dX3_hearingOf_128 : decode cX3_hearingOf 128 = .ok (.iload 9, 2) := by decide +kernel
theorem dX3_hearingOf_130 : decode cX3_hearingOf 130 = .ok (.istore 6, 2) := by decide +kernel
theorem dX3_hearingOf_132 : decode cX3_hearingOf 132 = .ok (.iinc 8 1, 3) := by decide +kernel
theorem dX3_hearingOf_135 : decode cX3_hearingOf 135 = .ok (.goto (-101), 3) := by decide +kernel
theorem dX3_hearingOf_138 : decode cX3_hearingOf 138 = .ok (.iload 5, 2) := by decide +kernel
theorem dX3_hearingOf_140 : decode cX3_hearingOf 140 = .ok (.iload 4, 2) := by decide +kernel
theorem dX3_hearingOf_142 : decode cX3_hearingOf 142 = .ok (.if_icmp .ge 14, 3) := by decide +kernel
theorem dX3_hearingOf_145 : decode cX3_hearingOf 145 = .ok (.iload 5, 2) := by decide +kernel
theorem dX3_hearingOf_147 : decode cX3_hearingOf 147 = .ok (.ifCond .ne 7, 3) := by decide +kernel
theorem dX3_hearingOf_150 : decode cX3_hearingOf 150 = .ok (.iconst 0, 1) := by decide +kernel
theorem dX3_hearingOf_151 : decode cX3_hearingOf 151 = .ok (.goto 4, 3) := by decide +kernel
theorem dX3_hearingOf_154 : decode cX3_hearingOf 154 = .ok (.iconst 1, 1) := by decide +kernel
theorem dX3_hearingOf_155 : decode cX3_hearingOf 155 = .ok (.ireturn, 1) := by decide +kernel
theorem dX3_hearingOf_156 : decode cX3_hearingOf 156 = .ok (.iload 7, 2) := by decide +kernel
theorem dX3_hearingOf_158 : decode cX3_hearingOf 158 = .ok (.ifCond .eq 7, 3) := by decide +kernel
theorem dX3_hearingOf_161 : decode cX3_hearingOf 161 = .ok (.iconst 3, 1) := by decide +kernel
theorem dX3_hearingOf_162 : decode cX3_hearingOf 162 = .ok (.goto 4, 3) := by decide +kernel
theorem dX3_hearingOf_165 : decode cX3_hearingOf 165 = .ok (.iconst 2, 1) := by decide +kernel
theorem dX3_hearingOf_166 : decode cX3_hearingOf 166 = .ok (.ireturn, 1) := by decide +kernel
theorem dX3_ofAll_0 : decode cX3_ofAll 0 = .ok (.iload_n 1, 1) := by decide +kernel
theorem dX3_ofAll_1 : decode cX3_ofAll 1 = .ok (.tableswitch 106 0 7 #[47, 55, 63, 70, 76, 81, 86, 96], 47) := by decide +kernel
theorem dX3_ofAll_48 : decode cX3_ofAll 48 = .ok (.aload_n 0, 1) := by decide +kernel
theorem dX3_ofAll_49 : decode cX3_ofAll 49 = .ok (.getfield 9, 3) := by decide +kernel
theorem dX3_ofAll_52 : decode cX3_ofAll 52 = .ok (.getfield 61, 3) := by decide +kernel
theorem dX3_ofAll_55 : decode cX3_ofAll 55 = .ok (.ireturn, 1) := by decide +kernel
theorem dX3_ofAll_56 : decode cX3_ofAll 56 = .ok (.aload_n 0, 1) := by decide +kernel
theorem dX3_ofAll_57 : decode cX3_ofAll 57 = .ok (.getfield 9, 3) := by decide +kernel
theorem dX3_ofAll_60 : decode cX3_ofAll 60 = .ok (.getfield 74, 3) := by decide +kernel
theorem dX3_ofAll_63 : decode cX3_ofAll 63 = .ok (.ireturn, 1) := by decide +kernel
theorem dX3_ofAll_64 : decode cX3_ofAll 64 = .ok (.aload_n 0, 1) := by decide +kernel
theorem dX3_ofAll_65 : decode cX3_ofAll 65 = .ok (.bipush 63, 2) := by decide +kernel
theorem dX3_ofAll_67 : decode cX3_ofAll 67 = .ok (.invokevirtual 84, 3) := by decide +kernel
theorem dX3_ofAll_70 : decode cX3_ofAll 70 = .ok (.ireturn, 1) := by decide +kernel
theorem dX3_ofAll_71 : decode cX3_ofAll 71 = .ok (.aload_n 0, 1) := by decide +kernel
theorem dX3_ofAll_72 : decode cX3_ofAll 72 = .ok (.iconst 0, 1) := by decide +kernel
theorem dX3_ofAll_73 : decode cX3_ofAll 73 = .ok (.invokevirtual 84, 3) := by decide +kernel
theorem dX3_ofAll_76 : decode cX3_ofAll 76 = .ok (.ireturn, 1) := by decide +kernel
theorem dX3_ofAll_77 : decode cX3_ofAll 77 = .ok (.aload_n 0, 1) := by decide +kernel
theorem dX3_ofAll_78 : decode cX3_ofAll 78 = .ok (.invokevirtual 87, 3) := by decide +kernel
theorem dX3_ofAll_81 : decode cX3_ofAll 81 = .ok (.ireturn, 1) := by decide +kernel
theorem dX3_ofAll_82 : decode cX3_ofAll 82 = .ok (.aload_n 0, 1) := by decide +kernel
theorem dX3_ofAll_83 : decode cX3_ofAll 83 = .ok (.invokevirtual 91, 3) := by decide +kernel
theorem dX3_ofAll_86 : decode cX3_ofAll 86 = .ok (.ireturn, 1) := by decide +kernel
theorem dX3_ofAll_87 : decode cX3_ofAll 87 = .ok (.aload_n 0, 1) := by decide +kernel
theorem dX3_ofAll_88 : decode cX3_ofAll 88 = .ok (.getfield 9, 3) := by decide +kernel
theorem dX3_ofAll_91 : decode cX3_ofAll 91 = .ok (.getfield 94, 3) := by decide +kernel
theorem dX3_ofAll_94 : decode cX3_ofAll 94 = .ok (.iconst 0, 1) := by decide +kernel
theorem dX3_ofAll_95 : decode cX3_ofAll 95 = .ok (.iaload, 1) := by decide +kernel
theorem dX3_ofAll_96 : decode cX3_ofAll 96 = .ok (.ireturn, 1) := by decide +kernel
theorem dX3_ofAll_97 : decode cX3_ofAll 97 = .ok (.aload_n 0, 1) := by decide +kernel
theorem dX3_ofAll_98 : decode cX3_ofAll 98 = .ok (.getfield 9, 3) := by decide +kernel
theorem dX3_ofAll_101 : decode cX3_ofAll 101 = .ok (.getfield 94, 3) := by decide +kernel
theorem dX3_ofAll_104 : decode cX3_ofAll 104 = .ok (.iconst 1, 1) := by decide +kernel
theorem dX3_ofAll_105 : decode cX3_ofAll 105 = .ok (.iaload, 1) := by decide +kernel
theorem dX3_ofAll_106 : decode cX3_ofAll 106 = .ok (.ireturn, 1) := by decide +kernel
theorem dX3_ofAll_107 : decode cX3_ofAll 107 = .ok (.aload_n 0, 1) := by decide +kernel
theorem dX3_ofAll_108 : decode cX3_ofAll 108 = .ok (.getfield 9, 3) := by decide +kernel
theorem dX3_ofAll_111 : decode cX3_ofAll 111 = .ok (.getfield 94, 3) := by decide +kernel
theorem dX3_ofAll_114 : decode cX3_ofAll 114 = .ok (.iconst 2, 1) := by decide +kernel
theorem dX3_ofAll_115 : decode cX3_ofAll 115 = .ok (.iaload, 1) := by decide +kernel
theorem dX3_ofAll_116 : decode cX3_ofAll 116 = .ok (.ireturn, 1) := by decide +kernel
theorem dX3_wordsHeardByMask_0 : decode cX3_wordsHeardByMask 0 = .ok (.iconst 0, 1) := by decide +kernel
theorem dX3_wordsHeardByMask_1 : decode cX3_wordsHeardByMask 1 = .ok (.istore_n 2, 1) := by decide +kernel
theorem dX3_wordsHeardByMask_2 : decode cX3_wordsHeardByMask 2 = .ok (.iconst 0, 1) := by decide +kernel
theorem dX3_wordsHeardByMask_3 : decode cX3_wordsHeardByMask 3 = .ok (.istore_n 3, 1) := by decide +kernel
theorem dX3_wordsHeardByMask_4 : decode cX3_wordsHeardByMask 4 = .ok (.iload_n 3, 1) := by decide +kernel
theorem dX3_wordsHeardByMask_5 : decode cX3_wordsHeardByMask 5 = .ok (.aload_n 0, 1) := by decide +kernel
theorem dX3_wordsHeardByMask_6 : decode cX3_wordsHeardByMask 6 = .ok (.getfield 9, 3) := by decide +kernel
theorem dX3_wordsHeardByMask_9 : decode cX3_wordsHeardByMask 9 = .ok (.getfield 74, 3) := by decide +kernel
theorem dX3_wordsHeardByMask_12 : decode cX3_wordsHeardByMask 12 = .ok (.if_icmp .ge 28, 3) := by decide +kernel
theorem dX3_wordsHeardByMask_15 : decode cX3_wordsHeardByMask 15 = .ok (.aload_n 0, 1) := by decide +kernel
theorem dX3_wordsHeardByMask_16 : decode cX3_wordsHeardByMask 16 = .ok (.aload_n 0, 1) := by decide +kernel
theorem dX3_wordsHeardByMask_17 : decode cX3_wordsHeardByMask 17 = .ok (.getfield 9, 3) := by decide +kernel
theorem dX3_wordsHeardByMask_20 : decode cX3_wordsHeardByMask 20 = .ok (.getfield 38, 3) := by decide +kernel
theorem dX3_wordsHeardByMask_23 : decode cX3_wordsHeardByMask 23 = .ok (.iload_n 3, 1) := by decide +kernel
theorem dX3_wordsHeardByMask_24 : decode cX3_wordsHeardByMask 24 = .ok (.invokevirtual 34, 3) := by decide +kernel
theorem dX3_wordsHeardByMask_27 : decode cX3_wordsHeardByMask 27 = .ok (.iload_n 1, 1) := by decide +kernel
theorem dX3_wordsHeardByMask_28 : decode cX3_wordsHeardByMask 28 = .ok (.if_icmp .ne 6, 3) := by decide +kernel
theorem dX3_wordsHeardByMask_31 : decode cX3_wordsHeardByMask 31 = .ok (.iinc 2 1, 3) := by decide +kernel
theorem dX3_wordsHeardByMask_34 : decode cX3_wordsHeardByMask 34 = .ok (.iinc 3 1, 3) := by decide +kernel
theorem dX3_wordsHeardByMask_37 : decode cX3_wordsHeardByMask 37 = .ok (.goto (-33), 3) := by decide +kernel
theorem dX3_wordsHeardByMask_40 : decode cX3_wordsHeardByMask 40 = .ok (.iload_n 2, 1) := by decide +kernel
theorem dX3_wordsHeardByMask_41 : decode cX3_wordsHeardByMask 41 = .ok (.ireturn, 1) := by decide +kernel
theorem dX3_messages_0 : decode cX3_messages 0 = .ok (.iconst 0, 1) := by decide +kernel
theorem dX3_messages_1 : decode cX3_messages 1 = .ok (.istore_n 1, 1) := by decide +kernel
theorem dX3_messages_2 : decode cX3_messages 2 = .ok (.iconst 0, 1) := by decide +kernel
theorem dX3_messages_3 : decode cX3_messages 3 = .ok (.istore_n 2, 1) := by decide +kernel
theorem dX3_messages_4 : decode cX3_messages 4 = .ok (.iload_n 2, 1) := by decide +kernel
theorem dX3_messages_5 : decode cX3_messages 5 = .ok (.aload_n 0, 1) := by decide +kernel
theorem dX3_messages_6 : decode cX3_messages 6 = .ok (.getfield 9, 3) := by decide +kernel
theorem dX3_messages_9 : decode cX3_messages 9 = .ok (.getfield 77, 3) := by decide +kernel
theorem dX3_messages_12 : decode cX3_messages 12 = .ok (.arraylength, 1) := by decide +kernel
theorem dX3_messages_13 : decode cX3_messages 13 = .ok (.if_icmp .ge 24, 3) := by decide +kernel
theorem dX3_messages_16 : decode cX3_messages 16 = .ok (.aload_n 0, 1) := by decide +kernel
theorem dX3_messages_17 : decode cX3_messages 17 = .ok (.getfield 9, 3) := by decide +kernel
theorem dX3_messages_20 : decode cX3_messages 20 = .ok (.getfield 77, 3) := by decide +kernel
theorem dX3_messages_23 : decode cX3_messages 23 = .ok (.iload_n 2, 1) := by decide +kernel
theorem dX3_messages_24 : decode cX3_messages 24 = .ok (.iaload, 1) := by decide +kernel
theorem dX3_messages_25 : decode cX3_messages 25 = .ok (.ifCond .le 6, 3) := by decide +kernel
theorem dX3_messages_28 : decode cX3_messages 28 = .ok (.iinc 1 1, 3) := by decide +kernel
theorem dX3_messages_31 : decode cX3_messages 31 = .ok (.iinc 2 1, 3) := by decide +kernel
theorem dX3_messages_34 : decode cX3_messages 34 = .ok (.goto (-30), 3) := by decide +kernel
theorem dX3_messages_37 : decode cX3_messages 37 = .ok (.iload_n 1, 1) := by decide +kernel
theorem dX3_messages_38 : decode cX3_messages 38 = .ok (.ireturn, 1) := by decide +kernel
theorem dX3_messagesHeardWhole_0 : decode cX3_messagesHeardWhole 0 = .ok (.iconst 0, 1) := by decide +kernel
theorem dX3_messagesHeardWhole_1 : decode cX3_messagesHeardWhole 1 = .ok (.istore_n 1, 1) := by decide +kernel
theorem dX3_messagesHeardWhole_2 : decode cX3_messagesHeardWhole 2 = .ok (.iconst 0, 1) := by decide +kernel
theorem dX3_messagesHeardWhole_3 : decode cX3_messagesHeardWhole 3 = .ok (.istore_n 2, 1) := by decide +kernel
theorem dX3_messagesHeardWhole_4 : decode cX3_messagesHeardWhole 4 = .ok (.iload_n 2, 1) := by decide +kernel
theorem dX3_messagesHeardWhole_5 : decode cX3_messagesHeardWhole 5 = .ok (.bipush 6, 2) := by decide +kernel
theorem dX3_messagesHeardWhole_7 : decode cX3_messagesHeardWhole 7 = .ok (.if_icmp .ge 35, 3) := by decide +kernel
theorem dX3_messagesHeardWhole_10 : decode cX3_messagesHeardWhole 10 = .ok (.iconst 0, 1) := by decide +kernel
theorem dX3_messagesHeardWhole_11 : decode cX3_messagesHeardWhole 11 = .ok (.istore_n 3, 1) := by decide +kernel
theorem dX3_messagesHeardWhole_12 : decode cX3_messagesHeardWhole 12 = .ok (.iload_n 3, 1) := by decide +kernel
theorem dX3_messagesHeardWhole_13 : decode cX3_messagesHeardWhole 13 = .ok (.bipush 10, 2) := by decide +kernel
theorem dX3_messagesHeardWhole_15 : decode cX3_messagesHeardWhole 15 = .ok (.if_icmp .ge 21, 3) := by decide +kernel
theorem dX3_messagesHeardWhole_18 : decode cX3_messagesHeardWhole 18 = .ok (.aload_n 0, 1) := by decide +kernel
theorem dX3_messagesHeardWhole_19 : decode cX3_messagesHeardWhole 19 = .ok (.iload_n 2, 1) := by decide +kernel
theorem dX3_messagesHeardWhole_20 : decode cX3_messagesHeardWhole 20 = .ok (.iload_n 3, 1) := by decide +kernel
theorem dX3_messagesHeardWhole_21 : decode cX3_messagesHeardWhole 21 = .ok (.invokevirtual 97, 3) := by decide +kernel
theorem dX3_messagesHeardWhole_24 : decode cX3_messagesHeardWhole 24 = .ok (.ifCond .eq 6, 3) := by decide +kernel
theorem dX3_messagesHeardWhole_27 : decode cX3_messagesHeardWhole 27 = .ok (.iinc 1 1, 3) := by decide +kernel
theorem dX3_messagesHeardWhole_30 : decode cX3_messagesHeardWhole 30 = .ok (.iinc 3 1, 3) := by decide +kernel
theorem dX3_messagesHeardWhole_33 : decode cX3_messagesHeardWhole 33 = .ok (.goto (-21), 3) := by decide +kernel
theorem dX3_messagesHeardWhole_36 : decode cX3_messagesHeardWhole 36 = .ok (.iinc 2 1, 3) := by decide +kernel
theorem dX3_messagesHeardWhole_39 : decode cX3_messagesHeardWhole 39 = .ok (.goto (-35), 3) := by decide +kernel
theorem dX3_messagesHeardWhole_42 : decode cX3_messagesHeardWhole 42 = .ok (.iload_n 1, 1) := by decide +kernel
theorem dX3_messagesHeardWhole_43 : decode cX3_messagesHeardWhole 43 = .ok (.ireturn, 1) := by decide +kernel
theorem dX3_allHeardWhole_0 : decode cX3_allHeardWhole 0 = .ok (.iconst 0, 1) := by decide +kernel
theorem dX3_allHeardWhole_1 : decode cX3_allHeardWhole 1 = .ok (.istore_n 3, 1) := by decide +kernel
theorem dX3_allHeardWhole_2 : decode cX3_allHeardWhole 2 = .ok (.iload_n 3, 1) := by decide +kernel
theorem dX3_allHeardWhole_3 : decode cX3_allHeardWhole 3 = .ok (.bipush 6, 2) := by decide +kernel
theorem dX3_allHeardWhole_5 : decode cX3_allHeardWhole 5 = .ok (.if_icmp .ge 22, 3) := by decide +kernel
theorem dX3_allHeardWhole_8 : decode cX3_allHeardWhole 8 = .ok (.aload_n 0, 1) := by decide +kernel
theorem dX3_allHeardWhole_9 : decode cX3_allHeardWhole 9 = .ok (.iload_n 1, 1) := by decide +kernel
theorem dX3_allHeardWhole_10 : decode cX3_allHeardWhole 10 = .ok (.iload_n 2, 1) := by decide +kernel
theorem dX3_allHeardWhole_11 : decode cX3_allHeardWhole 11 = .ok (.iload_n 3, 1) := by decide +kernel
theorem dX3_allHeardWhole_12 : decode cX3_allHeardWhole 12 = .ok (.invokevirtual 100, 3) := by decide +kernel
theorem dX3_allHeardWhole_15 : decode cX3_allHeardWhole 15 = .ok (.iconst 3, 1) := by decide +kernel
theorem dX3_allHeardWhole_16 : decode cX3_allHeardWhole 16 = .ok (.if_icmp .eq 5, 3) := by decide +kernel
theorem dX3_allHeardWhole_19 : decode cX3_allHeardWhole 19 = .ok (.iconst 0, 1) := by decide +kernel
theorem dX3_allHeardWhole_20 : decode cX3_allHeardWhole 20 = .ok (.ireturn, 1) := by decide +kernel
theorem dX3_allHeardWhole_21 : decode cX3_allHeardWhole 21 = .ok (.iinc 3 1, 3) := by decide +kernel
theorem dX3_allHeardWhole_24 : decode cX3_allHeardWhole 24 = .ok (.goto (-22), 3) := by decide +kernel
theorem dX3_allHeardWhole_27 : decode cX3_allHeardWhole 27 = .ok (.iconst 1, 1) := by decide +kernel
theorem dX3_allHeardWhole_28 : decode cX3_allHeardWhole 28 = .ok (.ireturn, 1) := by decide +kernel
theorem dX3_whyUnheard_0 : decode cX3_whyUnheard 0 = .ok (.aload_n 0, 1) := by decide +kernel
theorem dX3_whyUnheard_1 : decode cX3_whyUnheard 1 = .ok (.getfield 9, 3) := by decide +kernel
theorem dX3_whyUnheard_4 : decode cX3_whyUnheard 4 = .ok (.getfield 38, 3) := by decide +kernel
theorem dX3_whyUnheard_7 : decode cX3_whyUnheard 7 = .ok (.iload_n 2, 1) := by decide +kernel
theorem dX3_whyUnheard_8 : decode cX3_whyUnheard 8 = .ok (.aaload, 1) := by decide +kernel
theorem dX3_whyUnheard_9 : decode cX3_whyUnheard 9 = .ok (.iload_n 1, 1) := by decide +kernel
theorem dX3_whyUnheard_10 : decode cX3_whyUnheard 10 = .ok (.iaload, 1) := by decide +kernel
theorem dX3_whyUnheard_11 : decode cX3_whyUnheard 11 = .ok (.iconst (-1), 1) := by decide +kernel
theorem dX3_whyUnheard_12 : decode cX3_whyUnheard 12 = .ok (.if_icmp .eq 5, 3) := by decide +kernel
theorem dX3_whyUnheard_15 : decode cX3_whyUnheard 15 = .ok (.iconst 0, 1) := by decide +kernel
theorem dX3_whyUnheard_16 : decode cX3_whyUnheard 16 = .ok (.ireturn, 1) := by decide +kernel
theorem dX3_whyUnheard_17 : decode cX3_whyUnheard 17 = .ok (.aload_n 0, 1) := by decide +kernel
theorem dX3_whyUnheard_18 : decode cX3_whyUnheard 18 = .ok (.getfield 9, 3) := by decide +kernel
theorem dX3_whyUnheard_21 : decode cX3_whyUnheard 21 = .ok (.getfield 30, 3) := by decide +kernel
theorem dX3_whyUnheard_24 : decode cX3_whyUnheard 24 = .ok (.iload_n 2, 1) := by decide +kernel
theorem dX3_whyUnheard_25 : decode cX3_whyUnheard 25 = .ok (.aaload, 1) := by decide +kernel
theorem dX3_whyUnheard_26 : decode cX3_whyUnheard 26 = .ok (.iload_n 1, 1) := by decide +kernel
theorem dX3_whyUnheard_27 : decode cX3_whyUnheard 27 = .ok (.iaload, 1) := by decide +kernel
theorem dX3_whyUnheard_28 : decode cX3_whyUnheard 28 = .ok (.istore_n 3, 1) := by decide +kernel
theorem dX3_whyUnheard_29 : decode cX3_whyUnheard 29 = .ok (.iload_n 3, 1) := by decide +kernel
theorem dX3_whyUnheard_30 : decode cX3_whyUnheard 30 = .ok (.iconst (-1), 1) := by decide +kernel
theorem dX3_whyUnheard_31 : decode cX3_whyUnheard 31 = .ok (.if_icmp .ne 5, 3) := by decide +kernel
theorem dX3_whyUnheard_34 : decode cX3_whyUnheard 34 = .ok (.iconst 1, 1) := by decide +kernel
theorem dX3_whyUnheard_35 : decode cX3_whyUnheard 35 = .ok (.ireturn, 1) := by decide +kernel
theorem dX3_whyUnheard_36 : decode cX3_whyUnheard 36 = .ok (.iload_n 3, 1) := by decide +kernel
theorem dX3_whyUnheard_37 : decode cX3_whyUnheard 37 = .ok (.aload_n 0, 1) := by decide +kernel
theorem dX3_whyUnheard_38 : decode cX3_whyUnheard 38 = .ok (.getfield 9, 3) := by decide +kernel
theorem dX3_whyUnheard_41 : decode cX3_whyUnheard 41 = .ok (.getfield 61, 3) := by decide +kernel
theorem dX3_whyUnheard_44 : decode cX3_whyUnheard 44 = .ok (.if_icmp .lt 7, 3) := by decide +kernel
theorem dX3_whyUnheard_47 : decode cX3_whyUnheard 47 = .ok (.iconst 2, 1) := by decide +kernel
theorem dX3_whyUnheard_48 : decode cX3_whyUnheard 48 = .ok (.goto 4, 3) := by decide +kernel
theorem dX3_whyUnheard_51 : decode cX3_whyUnheard 51 = .ok (.iconst 3, 1) := by decide +kernel
theorem dX3_whyUnheard_52 : decode cX3_whyUnheard 52 = .ok (.ireturn, 1) := by decide +kernel
theorem dX3_silentBeatsUntilHeard_0 : decode cX3_silentBeatsUntilHeard 0 = .ok (.aload_n 0, 1) := by decide +kernel
theorem dX3_silentBeatsUntilHeard_1 : decode cX3_silentBeatsUntilHeard 1 = .ok (.getfield 9, 3) := by decide +kernel
theorem dX3_silentBeatsUntilHeard_4 : decode cX3_silentBeatsUntilHeard 4 = .ok (.getfield 38, 3) := by decide +kernel
theorem dX3_silentBeatsUntilHeard_7 : decode cX3_silentBeatsUntilHeard 7 = .ok (.iload_n 2, 1) := by decide +kernel
theorem dX3_silentBeatsUntilHeard_8 : decode cX3_silentBeatsUntilHeard 8 = .ok (.aaload, 1) := by decide +kernel
theorem dX3_silentBeatsUntilHeard_9 : decode cX3_silentBeatsUntilHeard 9 = .ok (.iload_n 1, 1) := by decide +kernel
theorem dX3_silentBeatsUntilHeard_10 : decode cX3_silentBeatsUntilHeard 10 = .ok (.iaload, 1) := by decide +kernel
theorem dX3_silentBeatsUntilHeard_11 : decode cX3_silentBeatsUntilHeard 11 = .ok (.iconst (-1), 1) := by decide +kernel
theorem dX3_silentBeatsUntilHeard_12 : decode cX3_silentBeatsUntilHeard 12 = .ok (.if_icmp .eq 5, 3) := by decide +kernel
theorem dX3_silentBeatsUntilHeard_15 : decode cX3_silentBeatsUntilHeard 15 = .ok (.iconst 0, 1) := by decide +kernel
theorem dX3_silentBeatsUntilHeard_16 : decode cX3_silentBeatsUntilHeard 16 = .ok (.ireturn, 1) := by decide +kernel
theorem dX3_silentBeatsUntilHeard_17 : decode cX3_silentBeatsUntilHeard 17 = .ok (.iconst 1, 1) := by decide +kernel
theorem dX3_silentBeatsUntilHeard_18 : decode cX3_silentBeatsUntilHeard 18 = .ok (.istore_n 3, 1) := by decide +kernel
theorem dX3_silentBeatsUntilHeard_19 : decode cX3_silentBeatsUntilHeard 19 = .ok (.iload_n 3, 1) := by decide +kernel
theorem dX3_silentBeatsUntilHeard_20 : decode cX3_silentBeatsUntilHeard 20 = .ok (.bipush 60, 2) := by decide +kernel
theorem dX3_silentBeatsUntilHeard_22 : decode cX3_silentBeatsUntilHeard 22 = .ok (.if_icmp .gt 34, 3) := by decide +kernel
theorem dX3_silentBeatsUntilHeard_25 : decode cX3_silentBeatsUntilHeard 25 = .ok (.aload_n 0, 1) := by decide +kernel
theorem dX3_silentBeatsUntilHeard_26 : decode cX3_silentBeatsUntilHeard 26 = .ok (.getfield 9, 3) := by decide +kernel
theorem dX3_silentBeatsUntilHeard_29 : decode cX3_silentBeatsUntilHeard 29 = .ok (.iload_n 2, 1) := by decide +kernel
theorem dX3_silentBeatsUntilHeard_30 : decode cX3_silentBeatsUntilHeard 30 = .ok (.aload_n 0, 1) := by decide +kernel
theorem dX3_silentBeatsUntilHeard_31 : decode cX3_silentBeatsUntilHeard 31 = .ok (.getfield 9, 3) := by decide +kernel
theorem dX3_silentBeatsUntilHeard_34 : decode cX3_silentBeatsUntilHeard 34 = .ok (.getfield 61, 3) := by decide +kernel
theorem dX3_silentBeatsUntilHeard_37 : decode cX3_silentBeatsUntilHeard 37 = .ok (.iload_n 3, 1) := by decide +kernel
theorem dX3_silentBeatsUntilHeard_38 : decode cX3_silentBeatsUntilHeard 38 = .ok (.iadd, 1) := by decide +kernel
theorem dX3_silentBeatsUntilHeard_39 : decode cX3_silentBeatsUntilHeard 39 = .ok (.iconst 1, 1) := by decide +kernel
theorem dX3_silentBeatsUntilHeard_40 : decode cX3_silentBeatsUntilHeard 40 = .ok (.isub, 1) := by decide +kernel
theorem dX3_silentBeatsUntilHeard_41 : decode cX3_silentBeatsUntilHeard 41 = .ok (.invokevirtual 104, 3) := by decide +kernel
theorem dX3_silentBeatsUntilHeard_44 : decode cX3_silentBeatsUntilHeard 44 = .ok (.iload_n 1, 1) := by decide +kernel
theorem dX3_silentBeatsUntilHeard_45 : decode cX3_silentBeatsUntilHeard 45 = .ok (.if_icmp .ne 5, 3) := by decide +kernel
theorem dX3_silentBeatsUntilHeard_48 : decode cX3_silentBeatsUntilHeard 48 = .ok (.iload_n 3, 1) := by decide +kernel
theorem dX3_silentBeatsUntilHeard_49 : decode cX3_silentBeatsUntilHeard 49 = .ok (.ireturn, 1) := by decide +kernel
theorem dX3_silentBeatsUntilHeard_50 : decode cX3_silentBeatsUntilHeard 50 = .ok (.iinc 3 1, 3) := by decide +kernel
theorem dX3_silentBeatsUntilHeard_53 : decode cX3_silentBeatsUntilHeard 53 = .ok (.goto (-34), 3) := by decide +kernel
theorem dX3_silentBeatsUntilHeard_56 : decode cX3_silentBeatsUntilHeard 56 = .ok (.iconst (-1), 1) := by decide +kernel
theorem dX3_silentBeatsUntilHeard_57 : decode cX3_silentBeatsUntilHeard 57 = .ok (.ireturn, 1) := by decide +kernel
theorem dX3_bestPlace_0 : decode cX3_bestPlace 0 = .ok (.iconst 0, 1) := by decide +kernel
theorem dX3_bestPlace_1 : decode cX3_bestPlace 1 = .ok (.istore_n 1, 1) := by decide +kernel
theorem dX3_bestPlace_2 : decode cX3_bestPlace 2 = .ok (.iconst 0, 1) := by decide +kernel
theorem dX3_bestPlace_3 : decode cX3_bestPlace 3 = .ok (.istore_n 2, 1) := by decide +kernel
theorem dX3_bestPlace_4 : decode cX3_bestPlace 4 = .ok (.iconst 0, 1) := by decide +kernel
theorem dX3_bestPlace_5 : decode cX3_bestPlace 5 = .ok (.istore_n 3, 1) := by decide +kernel
theorem dX3_bestPlace_6 : decode cX3_bestPlace 6 = .ok (.iconst 0, 1) := by decide +kernel
theorem dX3_bestPlace_7 : decode cX3_bestPlace 7 = .ok (.istore 4, 2) := by decide +kernel
theorem dX3_bestPlace_9 : decode cX3_bestPlace 9 = .ok (.iload 4, 2) := by decide +kernel
theorem dX3_bestPlace_11 : decode cX3_bestPlace 11 = .ok (.bipush 6, 2) := by decide +kernel
theorem dX3_bestPlace_13 : decode cX3_bestPlace 13 = .ok (.if_icmp .ge 89, 3) := by decide +kernel
theorem dX3_bestPlace_16 : decode cX3_bestPlace 16 = .ok (.iconst 0, 1) := by decide +kernel
theorem dX3_bestPlace_17 : decode cX3_bestPlace 17 = .ok (.istore 5, 2) := by decide +kernel
theorem dX3_bestPlace_19 : decode cX3_bestPlace 19 = .ok (.iconst 0, 1) := by decide +kernel
theorem dX3_bestPlace_20 : decode cX3_bestPlace 20 = .ok (.istore 6, 2) := by decide +kernel
theorem dX3_bestPlace_22 : decode cX3_bestPlace 22 = .ok (.iconst 0, 1) := by decide +kernel
theorem dX3_bestPlace_23 : decode cX3_bestPlace 23 = .ok (.istore 7, 2) := by decide +kernel
theorem dX3_bestPlace_25 : decode cX3_bestPlace 25 = .ok (.iload 7, 2) := by decide +kernel
theorem dX3_bestPlace_27 : decode cX3_bestPlace 27 = .ok (.bipush 6, 2) := by decide +kernel
theorem dX3_bestPlace_29 : decode cX3_bestPlace 29 = .ok (.if_icmp .ge 40, 3) := by decide +kernel
theorem dX3_bestPlace_32 : decode cX3_bestPlace 32 = .ok (.aload_n 0, 1) := by decide +kernel
theorem dX3_bestPlace_33 : decode cX3_bestPlace 33 = .ok (.getfield 9, 3) := by decide +kernel
theorem dX3_bestPlace_36 : decode cX3_bestPlace 36 = .ok (.iload 4, 2) := by decide +kernel
theorem dX3_bestPlace_38 : decode cX3_bestPlace 38 = .ok (.iload 7, 2) := by decide +kernel
theorem dX3_bestPlace_40 : decode cX3_bestPlace 40 = .ok (.invokevirtual 107, 3) := by decide +kernel
theorem dX3_bestPlace_43 : decode cX3_bestPlace 43 = .ok (.istore 8, 2) := by decide +kernel
theorem dX3_bestPlace_45 : decode cX3_bestPlace 45 = .ok (.iload 8, 2) := by decide +kernel
theorem dX3_bestPlace_47 : decode cX3_bestPlace 47 = .ok (.iconst (-1), 1) := by decide +kernel
theorem dX3_bestPlace_48 : decode cX3_bestPlace 48 = .ok (.if_icmp .eq 15, 3) := by decide +kernel
theorem dX3_bestPlace_51 : decode cX3_bestPlace 51 = .ok (.iinc 5 1, 3) := by decide +kernel
theorem dX3_bestPlace_54 : decode cX3_bestPlace 54 = .ok (.iload 6, 2) := by decide +kernel
theorem dX3_bestPlace_56 : decode cX3_bestPlace 56 = .ok (.iload 8, 2) := by decide +kernel
theorem dX3_bestPlace_58 : decode cX3_bestPlace 58 = .ok (.invokestatic 110, 3) := by decide +kernel
theorem dX3_bestPlace_61 : decode cX3_bestPlace 61 = .ok (.istore 6, 2) := by decide +kernel
theorem dX3_bestPlace_63 : decode cX3_bestPlace 63 = .ok (.iinc 7 1, 3) := by decide +kernel
theorem dX3_bestPlace_66 : decode cX3_bestPlace 66 = .ok (.goto (-41), 3) := by decide +kernel
theorem dX3_bestPlace_69 : decode cX3_bestPlace 69 = .ok (.iload 5, 2) := by decide +kernel
theorem dX3_bestPlace_71 : decode cX3_bestPlace 71 = .ok (.iload_n 2, 1) := by decide +kernel
theorem dX3_bestPlace_72 : decode cX3_bestPlace 72 = .ok (.if_icmp .gt 15, 3) := by decide +kernel
theorem dX3_bestPlace_75 : decode cX3_bestPlace 75 = .ok (.iload 5, 2) := by decide +kernel
theorem dX3_bestPlace_77 : decode cX3_bestPlace 77 = .ok (.iload_n 2, 1) := by decide +kernel
theorem dX3_bestPlace_78 : decode cX3_bestPlace 78 = .ok (.if_icmp .ne 18, 3) := by decide +kernel
theorem dX3_bestPlace_81 : decode cX3_bestPlace 81 = .ok (.iload 6, 2) := by decide +kernel
theorem dX3_bestPlace_83 : decode cX3_bestPlace 83 = .ok (.iload_n 3, 1) := by decide +kernel
theorem dX3_bestPlace_84 : decode cX3_bestPlace 84 = .ok (.if_icmp .ge 12, 3) := by decide +kernel
theorem dX3_bestPlace_87 : decode cX3_bestPlace 87 = .ok (.iload 4, 2) := by decide +kernel
theorem dX3_bestPlace_89 : decode cX3_bestPlace 89 = .ok (.istore_n 1, 1) := by decide +kernel
theorem dX3_bestPlace_90 : decode cX3_bestPlace 90 = .ok (.iload 5, 2) := by decide +kernel
theorem dX3_bestPlace_92 : decode cX3_bestPlace 92 = .ok (.istore_n 2, 1) := by decide +kernel
theorem dX3_bestPlace_93 : decode cX3_bestPlace 93 = .ok (.iload 6, 2) := by decide +kernel
theorem dX3_bestPlace_95 : decode cX3_bestPlace 95 = .ok (.istore_n 3, 1) := by decide +kernel
theorem dX3_bestPlace_96 : decode cX3_bestPlace 96 = .ok (.iinc 4 1, 3) := by decide +kernel
theorem dX3_bestPlace_99 : decode cX3_bestPlace 99 = .ok (.goto (-90), 3) := by decide +kernel
theorem dX3_bestPlace_102 : decode cX3_bestPlace 102 = .ok (.iload_n 1, 1) := by decide +kernel
theorem dX3_bestPlace_103 : decode cX3_bestPlace 103 = .ok (.ireturn, 1) := by decide +kernel
theorem dX3_share_0 : decode cX3_share 0 = .ok (.aload_n 0, 1) := by decide +kernel
theorem dX3_share_1 : decode cX3_share 1 = .ok (.getfield 9, 3) := by decide +kernel
theorem dX3_share_4 : decode cX3_share 4 = .ok (.getfield 61, 3) := by decide +kernel
theorem dX3_share_7 : decode cX3_share 7 = .ok (.ifCond .gt 5, 3) := by decide +kernel
theorem dX3_share_10 : decode cX3_share 10 = .ok (.dconst 0, 1) := by decide +kernel
theorem dX3_share_11 : decode cX3_share 11 = .ok (.dreturn, 1) := by decide +kernel
theorem dX3_share_12 : decode cX3_share 12 = .ok (.iconst 0, 1) := by decide +kernel
theorem dX3_share_13 : decode cX3_share 13 = .ok (.istore_n 1, 1) := by decide +kernel
theorem dX3_share_14 : decode cX3_share 14 = .ok (.iconst 0, 1) := by decide +kernel
theorem dX3_share_15 : decode cX3_share 15 = .ok (.istore_n 2, 1) := by decide +kernel
theorem dX3_share_16 : decode cX3_share 16 = .ok (.iload_n 2, 1) := by decide +kernel
theorem dX3_share_17 : decode cX3_share 17 = .ok (.bipush 6, 2) := by decide +kernel
theorem dX3_share_19 : decode cX3_share 19 = .ok (.if_icmp .ge 17, 3) := by decide +kernel
theorem dX3_share_22 : decode cX3_share 22 = .ok (.iload_n 1, 1) := by decide +kernel
theorem dX3_share_23 : decode cX3_share 23 = .ok (.aload_n 0, 1) := by decide +kernel
theorem dX3_share_24 : decode cX3_share 24 = .ok (.iload_n 2, 1) := by decide +kernel
theorem dX3_share_25 : decode cX3_share 25 = .ok (.invokevirtual 51, 3) := by decide +kernel
theorem dX3_share_28 : decode cX3_share 28 = .ok (.iadd, 1) := by decide +kernel
theorem dX3_share_29 : decode cX3_share 29 = .ok (.istore_n 1, 1) := by decide +kernel
theorem dX3_share_30 : decode cX3_share 30 = .ok (.iinc 2 1, 3) := by decide +kernel
theorem dX3_share_33 : decode cX3_share 33 = .ok (.goto (-17), 3) := by decide +kernel
theorem dX3_share_36 : decode cX3_share 36 = .ok (.iload_n 1, 1) := by decide +kernel
theorem dX3_share_37 : decode cX3_share 37 = .ok (.i2d, 1) := by decide +kernel
theorem dX3_share_38 : decode cX3_share 38 = .ok (.bipush 6, 2) := by decide +kernel
theorem dX3_share_40 : decode cX3_share 40 = .ok (.aload_n 0, 1) := by decide +kernel
theorem dX3_share_41 : decode cX3_share 41 = .ok (.getfield 9, 3) := by decide +kernel
theorem dX3_share_44 : decode cX3_share 44 = .ok (.getfield 61, 3) := by decide +kernel
theorem dX3_share_47 : decode cX3_share 47 = .ok (.imul, 1) := by decide +kernel
theorem dX3_share_48 : decode cX3_share 48 = .ok (.i2d, 1) := by decide +kernel
theorem dX3_share_49 : decode cX3_share 49 = .ok (.ddiv, 1) := by decide +kernel
theorem dX3_share_50 : decode cX3_share 50 = .ok (.dreturn, 1) := by decide +kernel
theorem dX4_init_0 : decode cX4_init 0 = .ok (.aload_n 0, 1) := by decide +kernel
theorem dX4_init_1 : decode cX4_init 1 = .ok (.invokespecial 3, 3) := by decide +kernel
theorem dX4_init_4 : decode cX4_init 4 = .ok (.aload_n 0, 1) := by decide +kernel
theorem dX4_init_5 : decode cX4_init 5 = .ok (.bipush 60, 2) := by decide +kernel
theorem dX4_init_7 : decode cX4_init 7 = .ok (.newarray .char, 2) := by decide +kernel
theorem dX4_init_9 : decode cX4_init 9 = .ok (.putfield 9, 3) := by decide +kernel
theorem dX4_init_12 : decode cX4_init 12 = .ok (.return_, 1) := by decide +kernel
theorem dX5_init_0 : decode cX5_init 0 = .ok (.aload_n 0, 1) := by decide +kernel
theorem dX5_init_1 : decode cX5_init 1 = .ok (.invokespecial 1, 3) := by decide +kernel
theorem dX5_init_4 : decode cX5_init 4 = .ok (.new 7, 3) := by decide +kernel
theorem dX5_init_7 : decode cX5_init 7 = .ok (.dup, 1) := by decide +kernel
theorem dX5_init_8 : decode cX5_init 8 = .ok (.invokespecial 9, 3) := by decide +kernel
theorem dX5_init_11 : decode cX5_init 11 = .ok (.astore_n 1, 1) := by decide +kernel
theorem dX5_init_12 : decode cX5_init 12 = .ok (.aload_n 0, 1) := by decide +kernel
theorem dX5_init_13 : decode cX5_init 13 = .ok (.aload_n 1, 1) := by decide +kernel
theorem dX5_init_14 : decode cX5_init 14 = .ok (.putfield 10, 3) := by decide +kernel
theorem dX5_init_17 : decode cX5_init 17 = .ok (.aload_n 0, 1) := by decide +kernel
theorem dX5_init_18 : decode cX5_init 18 = .ok (.new 16, 3) := by decide +kernel
theorem dX5_init_21 : decode cX5_init 21 = .ok (.dup, 1) := by decide +kernel
theorem dX5_init_22 : decode cX5_init 22 = .ok (.aload_n 1, 1) := by decide +kernel
theorem dX5_init_23 : decode cX5_init 23 = .ok (.invokespecial 18, 3) := by decide +kernel
theorem dX5_init_26 : decode cX5_init 26 = .ok (.putfield 21, 3) := by decide +kernel
theorem dX5_init_29 : decode cX5_init 29 = .ok (.aload_n 0, 1) := by decide +kernel
theorem dX5_init_30 : decode cX5_init 30 = .ok (.new 25, 3) := by decide +kernel
theorem dX5_init_33 : decode cX5_init 33 = .ok (.dup, 1) := by decide +kernel
theorem dX5_init_34 : decode cX5_init 34 = .ok (.invokespecial 27, 3) := by decide +kernel
theorem dX5_init_37 : decode cX5_init 37 = .ok (.putfield 28, 3) := by decide +kernel
theorem dX5_init_40 : decode cX5_init 40 = .ok (.aload_n 0, 1) := by decide +kernel
theorem dX5_init_41 : decode cX5_init 41 = .ok (.new 32, 3) := by decide +kernel
theorem dX5_init_44 : decode cX5_init 44 = .ok (.dup, 1) := by decide +kernel
theorem dX5_init_45 : decode cX5_init 45 = .ok (.invokespecial 34, 3) := by decide +kernel
theorem dX5_init_48 : decode cX5_init 48 = .ok (.putfield 35, 3) := by decide +kernel
theorem dX5_init_51 : decode cX5_init 51 = .ok (.return_, 1) := by decide +kernel
theorem dX5_say_0 : decode cX5_say 0 = .ok (.iload_n 1, 1) := by decide +kernel
theorem dX5_say_1 : decode cX5_say 1 = .ok (.invokestatic 39, 3) := by decide +kernel
theorem dX5_say_4 : decode cX5_say 4 = .ok (.iload_n 2, 1) := by decide +kernel
theorem dX5_say_5 : decode cX5_say 5 = .ok (.iconst 1, 1) := by decide +kernel
theorem dX5_say_6 : decode cX5_say 6 = .ok (.bipush 99, 2) := by decide +kernel
theorem dX5_say_8 : decode cX5_say 8 = .ok (.invokestatic 43, 3) := by decide +kernel
theorem dX5_say_11 : decode cX5_say 11 = .ok (.ifCond .eq 17, 3) := by decide +kernel
theorem dX5_say_14 : decode cX5_say 14 = .ok (.iload_n 3, 1) := by decide +kernel
theorem dX5_say_15 : decode cX5_say 15 = .ok (.iconst (-1), 1) := by decide +kernel
theorem dX5_say_16 : decode cX5_say 16 = .ok (.bipush 9, 2) := by decide +kernel
theorem dX5_say_18 : decode cX5_say 18 = .ok (.invokestatic 43, 3) := by decide +kernel
theorem dX5_say_21 : decode cX5_say 21 = .ok (.ifCond .eq 7, 3) := by decide +kernel
theorem dX5_say_24 : decode cX5_say 24 = .ok (.iconst 1, 1) := by decide +kernel
theorem dX5_say_25 : decode cX5_say 25 = .ok (.goto 4, 3) := by decide +kernel
theorem dX5_say_28 : decode cX5_say 28 = .ok (.iconst 0, 1) := by decide +kernel
theorem dX5_say_29 : decode cX5_say 29 = .ok (.invokestatic 47, 3) := by decide +kernel
theorem dX5_say_32 : decode cX5_say 32 = .ok (.aload_n 0, 1) := by decide +kernel
theorem dX5_say_33 : decode cX5_say 33 = .ok (.getfield 10, 3) := by decide +kernel
theorem dX5_say_36 : decode cX5_say 36 = .ok (.invokevirtual 51, 3) := by decide +kernel
theorem dX5_say_39 : decode cX5_say 39 = .ok (.ifCond .ne 13, 3) := by decide +kernel
theorem dX5_say_42 : decode cX5_say 42 = .ok (.new 55, 3) := by decide +kernel
theorem dX5_say_45 : decode cX5_say 45 = .ok (.dup, 1) := by decide +kernel
theorem dX5_say_46 : decode cX5_say 46 = .ok (.ldc 57, 2) := by decide +kernel
theorem dX5_say_48 : decode cX5_say 48 = .ok (.invokespecial 59, 3) := by decide +kernel
theorem dX5_say_51 : decode cX5_say 51 = .ok (.athrow, 1) := by decide +kernel
theorem dX5_say_52 : decode cX5_say 52 = .ok (.aload_n 0, 1) := by decide +kernel
theorem dX5_say_53 : decode cX5_say 53 = .ok (.getfield 28, 3) := by decide +kernel
theorem dX5_say_56 : decode cX5_say 56 = .ok (.aload_n 0, 1) := by decide +kernel
theorem dX5_say_57 : decode cX5_say 57 = .ok (.getfield 10, 3) := by decide +kernel
theorem dX5_say_60 : decode cX5_say 60 = .ok (.invokevirtual 62, 3) := by decide +kernel
theorem dX5_say_63 : decode cX5_say 63 = .ok (.aload_n 0, 1) := by decide +kernel
theorem dX5_say_64 : decode cX5_say 64 = .ok (.getfield 10, 3) := by decide +kernel
theorem dX5_say_67 : decode cX5_say 67 = .ok (.iload_n 1, 1) := by decide +kernel
theorem dX5_say_68 : decode cX5_say 68 = .ok (.iload_n 2, 1) := by decide +kernel
theorem dX5_say_69 : decode cX5_say 69 = .ok (.iload_n 3, 1) := by decide +kernel
theorem dX5_say_70 : decode cX5_say 70 = .ok (.invokevirtual 65, 3) := by decide +kernel
theorem dX5_say_73 : decode cX5_say 73 = .ok (.ireturn, 1) := by decide +kernel
theorem dX5_pass_0 : decode cX5_pass 0 = .ok (.iload_n 1, 1) := by decide +kernel
theorem dX5_pass_1 : decode cX5_pass 1 = .ok (.iconst 1, 1) := by decide +kernel
theorem dX5_pass_2 : decode cX5_pass 2 = .ok (.bipush 50, 2) := by decide +kernel
theorem dX5_pass_4 : decode cX5_pass 4 = .ok (.invokestatic 43, 3) := by decide +kernel
theorem dX5_pass_7 : decode cX5_pass 7 = .ok (.invokestatic 47, 3) := by decide +kernel
theorem dX5_pass_10 : decode cX5_pass 10 = .ok (.aload_n 0, 1) := by decide +kernel
theorem dX5_pass_11 : decode cX5_pass 11 = .ok (.getfield 10, 3) := by decide +kernel
theorem dX5_pass_14 : decode cX5_pass 14 = .ok (.iload_n 1, 1) := by decide +kernel
theorem dX5_pass_15 : decode cX5_pass 15 = .ok (.invokevirtual 69, 3) := by decide +kernel
theorem dX5_pass_18 : decode cX5_pass 18 = .ok (.ifCond .ne 13, 3) := by decide +kernel
theorem dX5_pass_21 : decode cX5_pass 21 = .ok (.new 55, 3) := by decide +kernel
theorem dX5_pass_24 : decode cX5_pass 24 = .ok (.dup, 1) := by decide +kernel
theorem dX5_pass_25 : decode cX5_pass 25 = .ok (.ldc 73, 2) := by decide +kernel
theorem dX5_pass_27 : decode cX5_pass 27 = .ok (.invokespecial 59, 3) := by decide +kernel
theorem dX5_pass_30 : decode cX5_pass 30 = .ok (.athrow, 1) := by decide +kernel
theorem dX5_pass_31 : decode cX5_pass 31 = .ok (.aload_n 0, 1) := by decide +kernel
theorem dX5_pass_32 : decode cX5_pass 32 = .ok (.getfield 28, 3) := by decide +kernel
theorem dX5_pass_35 : decode cX5_pass 35 = .ok (.aload_n 0, 1) := by decide +kernel
theorem dX5_pass_36 : decode cX5_pass 36 = .ok (.getfield 10, 3) := by decide +kernel
theorem dX5_pass_39 : decode cX5_pass 39 = .ok (.invokevirtual 62, 3) := by decide +kernel
theorem dX5_pass_42 : decode cX5_pass 42 = .ok (.aload_n 0, 1) := by decide +kernel
theorem dX5_pass_43 : decode cX5_pass 43 = .ok (.getfield 10, 3) := by decide +kernel
theorem dX5_pass_46 : decode cX5_pass 46 = .ok (.iload_n 1, 1) := by decide +kernel
theorem dX5_pass_47 : decode cX5_pass 47 = .ok (.invokevirtual 75, 3) := by decide +kernel
theorem dX5_pass_50 : decode cX5_pass 50 = .ok (.aload_n 0, 1) := by decide +kernel
theorem dX5_pass_51 : decode cX5_pass 51 = .ok (.getfield 10, 3) := by decide +kernel
theorem dX5_pass_54 : decode cX5_pass 54 = .ok (.getfield 78, 3) := by decide +kernel
theorem dX5_pass_57 : decode cX5_pass 57 = .ok (.ireturn, 1) := by decide +kernel
theorem dX5_wall_0 : decode cX5_wall 0 = .ok (.iload_n 1, 1) := by decide +kernel
theorem dX5_wall_1 : decode cX5_wall 1 = .ok (.invokestatic 39, 3) := by decide +kernel
theorem dX5_wall_4 : decode cX5_wall 4 = .ok (.iload_n 2, 1) := by decide +kernel
theorem dX5_wall_5 : decode cX5_wall 5 = .ok (.iconst 0, 1) := by decide +kernel
theorem dX5_wall_6 : decode cX5_wall 6 = .ok (.iconst 3, 1) := by decide +kernel
theorem dX5_wall_7 : decode cX5_wall 7 = .ok (.invokestatic 43, 3) := by decide +kernel
theorem dX5_wall_10 : decode cX5_wall 10 = .ok (.invokestatic 47, 3) := by decide +kernel
theorem dX5_wall_13 : decode cX5_wall 13 = .ok (.aload_n 0, 1) := by decide +kernel
theorem dX5_wall_14 : decode cX5_wall 14 = .ok (.getfield 28, 3) := by decide +kernel
theorem dX5_wall_17 : decode cX5_wall 17 = .ok (.aload_n 0, 1) := by decide +kernel
theorem dX5_wall_18 : decode cX5_wall 18 = .ok (.getfield 10, 3) := by decide +kernel
theorem dX5_wall_21 : decode cX5_wall 21 = .ok (.invokevirtual 62, 3) := by decide +kernel
theorem dX5_wall_24 : decode cX5_wall 24 = .ok (.aload_n 0, 1) := by decide +kernel
theorem dX5_wall_25 : decode cX5_wall 25 = .ok (.getfield 10, 3) := by decide +kernel
theorem dX5_wall_28 : decode cX5_wall 28 = .ok (.getfield 82, 3) := by decide +kernel
theorem dX5_wall_31 : decode cX5_wall 31 = .ok (.iload_n 1, 1) := by decide +kernel
theorem dX5_wall_32 : decode cX5_wall 32 = .ok (.iaload, 1) := by decide +kernel
theorem dX5_wall_33 : decode cX5_wall 33 = .ok (.istore_n 3, 1) := by decide +kernel
theorem dX5_wall_34 : decode cX5_wall 34 = .ok (.aload_n 0, 1) := by decide +kernel
theorem dX5_wall_35 : decode cX5_wall 35 = .ok (.getfield 10, 3) := by decide +kernel
theorem dX5_wall_38 : decode cX5_wall 38 = .ok (.getfield 82, 3) := by decide +kernel
theorem dX5_wall_41 : decode cX5_wall 41 = .ok (.iload_n 1, 1) := by decide +kernel
theorem dX5_wall_42 : decode cX5_wall 42 = .ok (.iload_n 2, 1) := by decide +kernel
theorem dX5_wall_43 : decode cX5_wall 43 = .ok (.iastore, 1) := by decide +kernel
theorem dX5_wall_44 : decode cX5_wall 44 = .ok (.iload_n 3, 1) := by decide +kernel
theorem dX5_wall_45 : decode cX5_wall 45 = .ok (.ireturn, 1) := by decide +kernel
theorem dX5_set_0 : decode cX5_set 0 = .ok (.iload_n 1, 1) := by decide +kernel
theorem dX5_set_1 : decode cX5_set 1 = .ok (.iconst 0, 1) := by decide +kernel
theorem dX5_set_2 : decode cX5_set 2 = .ok (.iconst 2, 1) := by decide +kernel
theorem dX5_set_3 : decode cX5_set 3 = .ok (.invokestatic 43, 3) := by decide +kernel
theorem dX5_set_6 : decode cX5_set 6 = .ok (.ifCond .ne 13, 3) := by decide +kernel
theorem dX5_set_9 : decode cX5_set 9 = .ok (.new 86, 3) := by decide +kernel
theorem dX5_set_12 : decode cX5_set 12 = .ok (.dup, 1) := by decide +kernel
theorem dX5_set_13 : decode cX5_set 13 = .ok (.ldc 88, 2) := by decide +kernel
theorem dX5_set_15 : decode cX5_set 15 = .ok (.invokespecial 90, 3) := by decide +kernel
theorem dX5_set_18 : decode cX5_set 18 = .ok (.athrow, 1) := by decide +kernel
theorem dX5_set_19 : decode cX5_set 19 = .ok (.iload_n 2, 1) := by decide +kernel
theorem dX5_set_20 : decode cX5_set 20 = .ok (.getstatic 91, 3) := by decide +kernel
theorem dX5_set_23 : decode cX5_set 23 = .ok (.iload_n 1, 1) := by decide +kernel
theorem dX5_set_24 : decode cX5_set 24 = .ok (.iaload, 1) := by decide +kernel
theorem dX5_set_25 : decode cX5_set 25 = .ok (.getstatic 94, 3) := by decide +kernel
theorem dX5_set_28 : decode cX5_set 28 = .ok (.iload_n 1, 1) := by decide +kernel
theorem dX5_set_29 : decode cX5_set 29 = .ok (.iaload, 1) := by decide +kernel
theorem dX5_set_30 : decode cX5_set 30 = .ok (.invokestatic 43, 3) := by decide +kernel
theorem dX5_set_33 : decode cX5_set 33 = .ok (.invokestatic 47, 3) := by decide +kernel
theorem dX5_set_36 : decode cX5_set 36 = .ok (.aload_n 0, 1) := by decide +kernel
theorem dX5_set_37 : decode cX5_set 37 = .ok (.getfield 28, 3) := by decide +kernel
theorem dX5_set_40 : decode cX5_set 40 = .ok (.aload_n 0, 1) := by decide +kernel
theorem dX5_set_41 : decode cX5_set 41 = .ok (.getfield 10, 3) := by decide +kernel
theorem dX5_set_44 : decode cX5_set 44 = .ok (.invokevirtual 62, 3) := by decide +kernel
theorem dX5_set_47 : decode cX5_set 47 = .ok (.aload_n 0, 1) := by decide +kernel
theorem dX5_set_48 : decode cX5_set 48 = .ok (.getfield 10, 3) := by decide +kernel
theorem dX5_set_51 : decode cX5_set 51 = .ok (.getfield 97, 3) := by decide +kernel
theorem dX5_set_54 : decode cX5_set 54 = .ok (.iload_n 1, 1) := by decide +kernel
theorem dX5_set_55 : decode cX5_set 55 = .ok (.iaload, 1) := by decide +kernel
theorem dX5_set_56 : decode cX5_set 56 = .ok (.istore_n 3, 1) := by decide +kernel
theorem dX5_set_57 : decode cX5_set 57 = .ok (.aload_n 0, 1) := by decide +kernel
theorem dX5_set_58 : decode cX5_set 58 = .ok (.getfield 10, 3) := by decide +kernel
theorem dX5_set_61 : decode cX5_set 61 = .ok (.getfield 97, 3) := by decide +kernel
theorem dX5_set_64 : decode cX5_set 64 = .ok (.iload_n 1, 1) := by decide +kernel
theorem dX5_set_65 : decode cX5_set 65 = .ok (.iload_n 2, 1) := by decide +kernel
theorem dX5_set_66 : decode cX5_set 66 = .ok (.iastore, 1) := by decide +kernel
theorem dX5_set_67 : decode cX5_set 67 = .ok (.iload_n 3, 1) := by decide +kernel
theorem dX5_set_68 : decode cX5_set 68 = .ok (.ireturn, 1) := by decide +kernel
theorem dX5_undo_0 : decode cX5_undo 0 = .ok (.aload_n 0, 1) := by decide +kernel
theorem dX5_undo_1 : decode cX5_undo 1 = .ok (.getfield 28, 3) := by decide +kernel
theorem dX5_undo_4 : decode cX5_undo 4 = .ok (.invokevirtual 122, 3) := by decide +kernel
theorem dX5_undo_7 : decode cX5_undo 7 = .ok (.astore_n 1, 1) := by decide +kernel
theorem dX5_undo_8 : decode cX5_undo 8 = .ok (.aload_n 1, 1) := by decide +kernel
theorem dX5_undo_9 : decode cX5_undo 9 = .ok (.ifnonnull 13, 3) := by decide +kernel
theorem dX5_undo_12 : decode cX5_undo 12 = .ok (.new 55, 3) := by decide +kernel
theorem dX5_undo_15 : decode cX5_undo 15 = .ok (.dup, 1) := by decide +kernel
theorem dX5_undo_16 : decode cX5_undo 16 = .ok (.ldc 126, 2) := by decide +kernel
theorem dX5_undo_18 : decode cX5_undo 18 = .ok (.invokespecial 59, 3) := by decide +kernel
theorem dX5_undo_21 : decode cX5_undo 21 = .ok (.athrow, 1) := by decide +kernel
theorem dX5_undo_22 : decode cX5_undo 22 = .ok (.aload_n 0, 1) := by decide +kernel
theorem dX5_undo_23 : decode cX5_undo 23 = .ok (.getfield 10, 3) := by decide +kernel
theorem dX5_undo_26 : decode cX5_undo 26 = .ok (.aload_n 1, 1) := by decide +kernel
theorem dX5_undo_27 : decode cX5_undo 27 = .ok (.invokevirtual 128, 3) := by decide +kernel
theorem dX5_undo_30 : decode cX5_undo 30 = .ok (.aload_n 0, 1) := by decide +kernel
theorem dX5_undo_31 : decode cX5_undo 31 = .ok (.getfield 28, 3) := by decide +kernel
theorem dX5_undo_34 : decode cX5_undo 34 = .ok (.invokevirtual 131, 3) := by decide +kernel
theorem dX5_undo_37 : decode cX5_undo 37 = .ok (.aload_n 0, 1) := by decide +kernel
theorem dX5_undo_38 : decode cX5_undo 38 = .ok (.getfield 28, 3) := by decide +kernel
theorem dX5_undo_41 : decode cX5_undo 41 = .ok (.getfield 134, 3) := by decide +kernel
theorem dX5_undo_44 : decode cX5_undo 44 = .ok (.ireturn, 1) := by decide +kernel
theorem dX5_keep_0 : decode cX5_keep 0 = .ok (.aload_n 0, 1) := by decide +kernel
theorem dX5_keep_1 : decode cX5_keep 1 = .ok (.getfield 137, 3) := by decide +kernel
theorem dX5_keep_4 : decode cX5_keep 4 = .ok (.ifnonnull 14, 3) := by decide +kernel
theorem dX5_keep_7 : decode cX5_keep 7 = .ok (.aload_n 0, 1) := by decide +kernel
theorem dX5_keep_8 : decode cX5_keep 8 = .ok (.new 7, 3) := by decide +kernel
theorem dX5_keep_11 : decode cX5_keep 11 = .ok (.dup, 1) := by decide +kernel
theorem dX5_keep_12 : decode cX5_keep 12 = .ok (.invokespecial 9, 3) := by decide +kernel
theorem dX5_keep_15 : decode cX5_keep 15 = .ok (.putfield 137, 3) := by decide +kernel
theorem dX5_keep_18 : decode cX5_keep 18 = .ok (.aload_n 0, 1) := by decide +kernel
theorem dX5_keep_19 : decode cX5_keep 19 = .ok (.getfield 137, 3) := by decide +kernel
theorem dX5_keep_22 : decode cX5_keep 22 = .ok (.aload_n 0, 1) := by decide +kernel
theorem dX5_keep_23 : decode cX5_keep 23 = .ok (.getfield 10, 3) := by decide +kernel
theorem dX5_keep_26 : decode cX5_keep 26 = .ok (.invokevirtual 128, 3) := by decide +kernel
theorem dX5_keep_29 : decode cX5_keep 29 = .ok (.aload_n 0, 1) := by decide +kernel
theorem dX5_keep_30 : decode cX5_keep 30 = .ok (.getfield 10, 3) := by decide +kernel
theorem dX5_keep_33 : decode cX5_keep 33 = .ok (.getfield 78, 3) := by decide +kernel
theorem dX5_keep_36 : decode cX5_keep 36 = .ok (.ireturn, 1) := by decide +kernel
theorem dX5_restore_0 : decode cX5_restore 0 = .ok (.aload_n 0, 1) := by decide +kernel
theorem dX5_restore_1 : decode cX5_restore 1 = .ok (.getfield 137, 3) := by decide +kernel
theorem dX5_restore_4 : decode cX5_restore 4 = .ok (.ifnonnull 13, 3) := by decide +kernel
theorem dX5_restore_7 : decode cX5_restore 7 = .ok (.new 55, 3) := by decide +kernel
theorem dX5_restore_10 : decode cX5_restore 10 = .ok (.dup, 1) := by decide +kernel
theorem dX5_restore_11 : decode cX5_restore 11 = .ok (.ldc 140, 2) := by decide +kernel
theorem dX5_restore_13 : decode cX5_restore 13 = .ok (.invokespecial 59, 3) := by decide +kernel
theorem dX5_restore_16 : decode cX5_restore 16 = .ok (.athrow, 1) := by decide +kernel
theorem dX5_restore_17 : decode cX5_restore 17 = .ok (.aload_n 0, 1) := by decide +kernel
theorem dX5_restore_18 : decode cX5_restore 18 = .ok (.getfield 28, 3) := by decide +kernel
theorem dX5_restore_21 : decode cX5_restore 21 = .ok (.aload_n 0, 1) := by decide +kernel
theorem dX5_restore_22 : decode cX5_restore 22 = .ok (.getfield 10, 3) := by decide +kernel
theorem dX5_restore_25 : decode cX5_restore 25 = .ok (.invokevirtual 62, 3) := by decide +kernel
theorem dX5_restore_28 : decode cX5_restore 28 = .ok (.aload_n 0, 1) := by decide +kernel
theorem dX5_restore_29 : decode cX5_restore 29 = .ok (.getfield 10, 3) := by decide +kernel
theorem dX5_restore_32 : decode cX5_restore 32 = .ok (.aload_n 0, 1) := by decide +kernel
theorem dX5_restore_33 : decode cX5_restore 33 = .ok (.getfield 137, 3) := by decide +kernel
theorem dX5_restore_36 : decode cX5_restore 36 = .ok (.invokevirtual 128, 3) := by decide +kernel
theorem dX5_restore_39 : decode cX5_restore 39 = .ok (.aload_n 0, 1) := by decide +kernel
theorem dX5_restore_40 : decode cX5_restore 40 = .ok (.getfield 10, 3) := by decide +kernel
theorem dX5_restore_43 : decode cX5_restore 43 = .ok (.getfield 78, 3) := by decide +kernel
theorem dX5_restore_46 : decode cX5_restore 46 = .ok (.ireturn, 1) := by decide +kernel
theorem dX5_said_0 : decode cX5_said 0 = .ok (.iload_n 1, 1) := by decide +kernel
theorem dX5_said_1 : decode cX5_said 1 = .ok (.ifCond .lt 16, 3) := by decide +kernel
theorem dX5_said_4 : decode cX5_said 4 = .ok (.iload_n 2, 1) := by decide +kernel
theorem dX5_said_5 : decode cX5_said 5 = .ok (.iconst 0, 1) := by decide +kernel
theorem dX5_said_6 : decode cX5_said 6 = .ok (.iconst 5, 1) := by decide +kernel
theorem dX5_said_7 : decode cX5_said 7 = .ok (.invokestatic 43, 3) := by decide +kernel
theorem dX5_said_10 : decode cX5_said 10 = .ok (.ifCond .eq 7, 3) := by decide +kernel
theorem dX5_said_13 : decode cX5_said 13 = .ok (.iconst 1, 1) := by decide +kernel
theorem dX5_said_14 : decode cX5_said 14 = .ok (.goto 4, 3) := by decide +kernel
theorem dX5_said_17 : decode cX5_said 17 = .ok (.iconst 0, 1) := by decide +kernel
theorem dX5_said_18 : decode cX5_said 18 = .ok (.invokestatic 47, 3) := by decide +kernel
theorem dX5_said_21 : decode cX5_said 21 = .ok (.iload_n 1, 1) := by decide +kernel
theorem dX5_said_22 : decode cX5_said 22 = .ok (.aload_n 0, 1) := by decide +kernel
theorem dX5_said_23 : decode cX5_said 23 = .ok (.getfield 10, 3) := by decide +kernel
theorem dX5_said_26 : decode cX5_said 26 = .ok (.getfield 116, 3) := by decide +kernel
theorem dX5_said_29 : decode cX5_said 29 = .ok (.if_icmp .ge 15, 3) := by decide +kernel
theorem dX5_said_32 : decode cX5_said 32 = .ok (.aload_n 0, 1) := by decide +kernel
theorem dX5_said_33 : decode cX5_said 33 = .ok (.getfield 21, 3) := by decide +kernel
theorem dX5_said_36 : decode cX5_said 36 = .ok (.iload_n 1, 1) := by decide +kernel
theorem dX5_said_37 : decode cX5_said 37 = .ok (.iload_n 2, 1) := by decide +kernel
theorem dX5_said_38 : decode cX5_said 38 = .ok (.invokevirtual 142, 3) := by decide +kernel
theorem dX5_said_41 : decode cX5_said 41 = .ok (.goto 4, 3) := by decide +kernel
theorem dX5_said_44 : decode cX5_said 44 = .ok (.iconst (-1), 1) := by decide +kernel
theorem dX5_said_45 : decode cX5_said 45 = .ok (.ireturn, 1) := by decide +kernel
theorem dX5_comes_0 : decode cX5_comes 0 = .ok (.iload_n 2, 1) := by decide +kernel
theorem dX5_comes_1 : decode cX5_comes 1 = .ok (.invokestatic 39, 3) := by decide +kernel
theorem dX5_comes_4 : decode cX5_comes 4 = .ok (.iload_n 1, 1) := by decide +kernel
theorem dX5_comes_5 : decode cX5_comes 5 = .ok (.ifCond .lt 7, 3) := by decide +kernel
theorem dX5_comes_8 : decode cX5_comes 8 = .ok (.iconst 1, 1) := by decide +kernel
theorem dX5_comes_9 : decode cX5_comes 9 = .ok (.goto 4, 3) := by decide +kernel
theorem dX5_comes_12 : decode cX5_comes 12 = .ok (.iconst 0, 1) := by decide +kernel
theorem dX5_comes_13 : decode cX5_comes 13 = .ok (.invokestatic 47, 3) := by decide +kernel
theorem dX5_comes_16 : decode cX5_comes 16 = .ok (.iload_n 1, 1) := by decide +kernel
theorem dX5_comes_17 : decode cX5_comes 17 = .ok (.aload_n 0, 1) := by decide +kernel
theorem dX5_comes_18 : decode cX5_comes 18 = .ok (.getfield 10, 3) := by decide +kernel
theorem dX5_comes_21 : decode cX5_comes 21 = .ok (.getfield 116, 3) := by decide +kernel
theorem dX5_comes_24 : decode cX5_comes 24 = .ok (.if_icmp .ge 17, 3) := by decide +kernel
theorem dX5_comes_27 : decode cX5_comes 27 = .ok (.aload_n 0, 1) := by decide +kernel
theorem dX5_comes_28 : decode cX5_comes 28 = .ok (.getfield 10, 3) := by decide +kernel
theorem dX5_comes_31 : decode cX5_comes 31 = .ok (.getfield 146, 3) := by decide +kernel
theorem dX5_comes_34 : decode cX5_comes 34 = .ok (.iload_n 2, 1) := by decide +kernel
theorem dX5_comes_35 : decode cX5_comes 35 = .ok (.aaload, 1) := by decide +kernel
theorem dX5_comes_36 : decode cX5_comes 36 = .ok (.iload_n 1, 1) := by decide +kernel
theorem dX5_comes_37 : decode cX5_comes 37 = .ok (.iaload, 1) := by decide +kernel
theorem dX5_comes_38 : decode cX5_comes 38 = .ok (.goto 4, 3) := by decide +kernel
theorem dX5_comes_41 : decode cX5_comes 41 = .ok (.iconst (-1), 1) := by decide +kernel
theorem dX5_comes_42 : decode cX5_comes 42 = .ok (.ireturn, 1) := by decide +kernel
theorem dX5_heard_0 : decode cX5_heard 0 = .ok (.iload_n 1, 1) := by decide +kernel
theorem dX5_heard_1 : decode cX5_heard 1 = .ok (.invokestatic 39, 3) := by decide +kernel
theorem dX5_heard_4 : decode cX5_heard 4 = .ok (.iload_n 2, 1) := by decide +kernel
theorem dX5_heard_5 : decode cX5_heard 5 = .ok (.ifCond .lt 16, 3) := by decide +kernel
theorem dX5_heard_8 : decode cX5_heard 8 = .ok (.iload_n 3, 1) := by decide +kernel
theorem dX5_heard_9 : decode cX5_heard 9 = .ok (.iconst 0, 1) := by decide +kernel
theorem dX5_heard_10 : decode cX5_heard 10 = .ok (.iconst 2, 1) := by decide +kernel
theorem dX5_heard_11 : decode cX5_heard 11 = .ok (.invokestatic 43, 3) := by decide +kernel
theorem dX5_heard_14 : decode cX5_heard 14 = .ok (.ifCond .eq 7, 3) := by decide +kernel
theorem dX5_heard_17 : decode cX5_heard 17 = .ok (.iconst 1, 1) := by decide +kernel
theorem dX5_heard_18 : decode cX5_heard 18 = .ok (.goto 4, 3) := by decide +kernel
theorem dX5_heard_21 : decode cX5_heard 21 = .ok (.iconst 0, 1) := by decide +kernel
theorem dX5_heard_22 : decode cX5_heard 22 = .ok (.invokestatic 47, 3) := by decide +kernel
theorem dX5_heard_25 : decode cX5_heard 25 = .ok (.iload_n 2, 1) := by decide +kernel
theorem dX5_heard_26 : decode cX5_heard 26 = .ok (.aload_n 0, 1) := by decide +kernel
theorem dX5_heard_27 : decode cX5_heard 27 = .ok (.getfield 10, 3) := by decide +kernel
theorem dX5_heard_30 : decode cX5_heard 30 = .ok (.getfield 78, 3) := by decide +kernel
theorem dX5_heard_33 : decode cX5_heard 33 = .ok (.if_icmp .ge 16, 3) := by decide +kernel
theorem dX5_heard_36 : decode cX5_heard 36 = .ok (.aload_n 0, 1) := by decide +kernel
theorem dX5_heard_37 : decode cX5_heard 37 = .ok (.getfield 21, 3) := by decide +kernel
theorem dX5_heard_40 : decode cX5_heard 40 = .ok (.iload_n 1, 1) := by decide +kernel
theorem dX5_heard_41 : decode cX5_heard 41 = .ok (.iload_n 2, 1) := by decide +kernel
theorem dX5_heard_42 : decode cX5_heard 42 = .ok (.iload_n 3, 1) := by decide +kernel
theorem dX5_heard_43 : decode cX5_heard 43 = .ok (.invokevirtual 150, 3) := by decide +kernel
theorem dX5_heard_46 : decode cX5_heard 46 = .ok (.goto 4, 3) := by decide +kernel
theorem dX5_heard_49 : decode cX5_heard 49 = .ok (.iconst (-1), 1) := by decide +kernel
theorem dX5_heard_50 : decode cX5_heard 50 = .ok (.ireturn, 1) := by decide +kernel
theorem dX5_speaker_0 : decode cX5_speaker 0 = .ok (.iload_n 1, 1) := by decide +kernel
theorem dX5_speaker_1 : decode cX5_speaker 1 = .ok (.invokestatic 39, 3) := by decide +kernel
theorem dX5_speaker_4 : decode cX5_speaker 4 = .ok (.iload_n 2, 1) := by decide +kernel
theorem dX5_speaker_5 : decode cX5_speaker 5 = .ok (.iconst 0, 1) := by decide +kernel
theorem dX5_speaker_6 : decode cX5_speaker 6 = .ok (.bipush 7, 2) := by decide +kernel
theorem dX5_speaker_8 : decode cX5_speaker 8 = .ok (.invokestatic 43, 3) := by decide +kernel
theorem dX5_speaker_11 : decode cX5_speaker 11 = .ok (.invokestatic 47, 3) := by decide +kernel
theorem dX5_speaker_14 : decode cX5_speaker 14 = .ok (.aload_n 0, 1) := by decide +kernel
theorem dX5_speaker_15 : decode cX5_speaker 15 = .ok (.getfield 21, 3) := by decide +kernel
theorem dX5_speaker_18 : decode cX5_speaker 18 = .ok (.iload_n 1, 1) := by decide +kernel
theorem dX5_speaker_19 : decode cX5_speaker 19 = .ok (.iload_n 2, 1) := by decide +kernel
theorem dX5_speaker_20 : decode cX5_speaker 20 = .ok (.invokevirtual 153, 3) := by decide +kernel
theorem dX5_speaker_23 : decode cX5_speaker 23 = .ok (.ireturn, 1) := by decide +kernel
theorem dX5_message_0 : decode cX5_message 0 = .ok (.iload_n 1, 1) := by decide +kernel
theorem dX5_message_1 : decode cX5_message 1 = .ok (.invokestatic 39, 3) := by decide +kernel
theorem dX5_message_4 : decode cX5_message 4 = .ok (.iload_n 3, 1) := by decide +kernel
theorem dX5_message_5 : decode cX5_message 5 = .ok (.invokestatic 39, 3) := by decide +kernel
theorem dX5_message_8 : decode cX5_message 8 = .ok (.iload_n 2, 1) := by decide +kernel
theorem dX5_message_9 : decode cX5_message 9 = .ok (.iconst 0, 1) := by decide +kernel
theorem dX5_message_10 : decode cX5_message 10 = .ok (.bipush 9, 2) := by decide +kernel
theorem dX5_message_12 : decode cX5_message 12 = .ok (.invokestatic 43, 3) := by decide +kernel
theorem dX5_message_15 : decode cX5_message 15 = .ok (.invokestatic 47, 3) := by decide +kernel
theorem dX5_message_18 : decode cX5_message 18 = .ok (.aload_n 0, 1) := by decide +kernel
theorem dX5_message_19 : decode cX5_message 19 = .ok (.getfield 21, 3) := by decide +kernel
theorem dX5_message_22 : decode cX5_message 22 = .ok (.iload_n 1, 1) := by decide +kernel
theorem dX5_message_23 : decode cX5_message 23 = .ok (.iload_n 2, 1) := by decide +kernel
theorem dX5_message_24 : decode cX5_message 24 = .ok (.iload_n 3, 1) := by decide +kernel
theorem dX5_message_25 : decode cX5_message 25 = .ok (.invokevirtual 156, 3) := by decide +kernel
theorem dX5_message_28 : decode cX5_message 28 = .ok (.ireturn, 1) := by decide +kernel
theorem dX5_count_0 : decode cX5_count 0 = .ok (.iload_n 1, 1) := by decide +kernel
theorem dX5_count_1 : decode cX5_count 1 = .ok (.iconst 0, 1) := by decide +kernel
theorem dX5_count_2 : decode cX5_count 2 = .ok (.bipush 9, 2) := by decide +kernel
theorem dX5_count_4 : decode cX5_count 4 = .ok (.invokestatic 43, 3) := by decide +kernel
theorem dX5_count_7 : decode cX5_count 7 = .ok (.invokestatic 47, 3) := by decide +kernel
theorem dX5_count_10 : decode cX5_count 10 = .ok (.aload_n 0, 1) := by decide +kernel
theorem dX5_count_11 : decode cX5_count 11 = .ok (.iload_n 1, 1) := by decide +kernel
theorem dX5_count_12 : decode cX5_count 12 = .ok (.invokevirtual 159, 3) := by decide +kernel
theorem dX5_count_15 : decode cX5_count 15 = .ok (.ireturn, 1) := by decide +kernel
theorem dX5_whyNot_0 : decode cX5_whyNot 0 = .ok (.iload_n 2, 1) := by decide +kernel
theorem dX5_whyNot_1 : decode cX5_whyNot 1 = .ok (.invokestatic 39, 3) := by decide +kernel
theorem dX5_whyNot_4 : decode cX5_whyNot 4 = .ok (.iload_n 1, 1) := by decide +kernel
theorem dX5_whyNot_5 : decode cX5_whyNot 5 = .ok (.ifCond .lt 7, 3) := by decide +kernel
theorem dX5_whyNot_8 : decode cX5_whyNot 8 = .ok (.iconst 1, 1) := by decide +kernel
theorem dX5_whyNot_9 : decode cX5_whyNot 9 = .ok (.goto 4, 3) := by decide +kernel
theorem dX5_whyNot_12 : decode cX5_whyNot 12 = .ok (.iconst 0, 1) := by decide +kernel
theorem dX5_whyNot_13 : decode cX5_whyNot 13 = .ok (.invokestatic 47, 3) := by decide +kernel
theorem dX5_whyNot_16 : decode cX5_whyNot 16 = .ok (.iload_n 1, 1) := by decide +kernel
theorem dX5_whyNot_17 : decode cX5_whyNot 17 = .ok (.aload_n 0, 1) := by decide +kernel
theorem dX5_whyNot_18 : decode cX5_whyNot 18 = .ok (.getfield 10, 3) := by decide +kernel
theorem dX5_whyNot_21 : decode cX5_whyNot 21 = .ok (.getfield 116, 3) := by decide +kernel
theorem dX5_whyNot_24 : decode cX5_whyNot 24 = .ok (.if_icmp .ge 15, 3) := by decide +kernel
theorem dX5_whyNot_27 : decode cX5_whyNot 27 = .ok (.aload_n 0, 1) := by decide +kernel
theorem dX5_whyNot_28 : decode cX5_whyNot 28 = .ok (.getfield 21, 3) := by decide +kernel
theorem dX5_whyNot_31 : decode cX5_whyNot 31 = .ok (.iload_n 1, 1) := by decide +kernel
theorem dX5_whyNot_32 : decode cX5_whyNot 32 = .ok (.iload_n 2, 1) := by decide +kernel
theorem dX5_whyNot_33 : decode cX5_whyNot 33 = .ok (.invokevirtual 163, 3) := by decide +kernel
theorem dX5_whyNot_36 : decode cX5_whyNot 36 = .ok (.goto 4, 3) := by decide +kernel
theorem dX5_whyNot_39 : decode cX5_whyNot 39 = .ok (.iconst (-1), 1) := by decide +kernel
theorem dX5_whyNot_40 : decode cX5_whyNot 40 = .ok (.ireturn, 1) := by decide +kernel
theorem dX5_ifSilent_0 : decode cX5_ifSilent 0 = .ok (.iload_n 1, 1) := by decide +kernel
theorem dX5_ifSilent_1 : decode cX5_ifSilent 1 = .ok (.invokestatic 39, 3) := by decide +kernel
theorem dX5_ifSilent_4 : decode cX5_ifSilent 4 = .ok (.aload_n 0, 1) := by decide +kernel
theorem dX5_ifSilent_5 : decode cX5_ifSilent 5 = .ok (.getfield 10, 3) := by decide +kernel
theorem dX5_ifSilent_8 : decode cX5_ifSilent 8 = .ok (.iload_n 1, 1) := by decide +kernel
theorem dX5_ifSilent_9 : decode cX5_ifSilent 9 = .ok (.aload_n 0, 1) := by decide +kernel
theorem dX5_ifSilent_10 : decode cX5_ifSilent 10 = .ok (.getfield 10, 3) := by decide +kernel
theorem dX5_ifSilent_13 : decode cX5_ifSilent 13 = .ok (.getfield 78, 3) := by decide +kernel
theorem dX5_ifSilent_16 : decode cX5_ifSilent 16 = .ok (.invokevirtual 166, 3) := by decide +kernel
theorem dX5_ifSilent_19 : decode cX5_ifSilent 19 = .ok (.ireturn, 1) := by decide +kernel
theorem dX5_heardIn_0 : decode cX5_heardIn 0 = .ok (.iload_n 2, 1) := by decide +kernel
theorem dX5_heardIn_1 : decode cX5_heardIn 1 = .ok (.invokestatic 39, 3) := by decide +kernel
theorem dX5_heardIn_4 : decode cX5_heardIn 4 = .ok (.iload_n 1, 1) := by decide +kernel
theorem dX5_heardIn_5 : decode cX5_heardIn 5 = .ok (.ifCond .lt 7, 3) := by decide +kernel
theorem dX5_heardIn_8 : decode cX5_heardIn 8 = .ok (.iconst 1, 1) := by decide +kernel
theorem dX5_heardIn_9 : decode cX5_heardIn 9 = .ok (.goto 4, 3) := by decide +kernel
theorem dX5_heardIn_12 : decode cX5_heardIn 12 = .ok (.iconst 0, 1) := by decide +kernel
theorem dX5_heardIn_13 : decode cX5_heardIn 13 = .ok (.invokestatic 47, 3) := by decide +kernel
theorem dX5_heardIn_16 : decode cX5_heardIn 16 = .ok (.iload_n 1, 1) := by decide +kernel
theorem dX5_heardIn_17 : decode cX5_heardIn 17 = .ok (.aload_n 0, 1) := by decide +kernel
theorem dX5_heardIn_18 : decode cX5_heardIn 18 = .ok (.getfield 10, 3) := by decide +kernel
theorem dX5_heardIn_21 : decode cX5_heardIn 21 = .ok (.getfield 116, 3) := by decide +kernel
theorem dX5_heardIn_24 : decode cX5_heardIn 24 = .ok (.if_icmp .ge 15, 3) := by decide +kernel
theorem dX5_heardIn_27 : decode cX5_heardIn 27 = .ok (.aload_n 0, 1) := by decide +kernel
theorem dX5_heardIn_28 : decode cX5_heardIn 28 = .ok (.getfield 21, 3) := by decide +kernel
theorem dX5_heardIn_31 : decode cX5_heardIn 31 = .ok (.iload_n 1, 1) := by decide +kernel
theorem dX5_heardIn_32 : decode cX5_heardIn 32 = .ok (.iload_n 2, 1) := by decide +kernel
theorem dX5_heardIn_33 : decode cX5_heardIn 33 = .ok (.invokevirtual 169, 3) := by decide +kernel
theorem dX5_heardIn_36 : decode cX5_heardIn 36 = .ok (.goto 4, 3) := by decide +kernel
theorem dX5_heardIn_39 : decode cX5_heardIn 39 = .ok (.iconst (-1), 1) := by decide +kernel
theorem dX5_heardIn_40 : decode cX5_heardIn 40 = .ok (.ireturn, 1) := by decide +kernel
theorem dX5_bestSeat_0 : decode cX5_bestSeat 0 = .ok (.aload_n 0, 1) := by decide +kernel
theorem dX5_bestSeat_1 : decode cX5_bestSeat 1 = .ok (.getfield 21, 3) := by decide +kernel
theorem dX5_bestSeat_4 : decode cX5_bestSeat 4 = .ok (.invokevirtual 172, 3) := by decide +kernel
theorem dX5_bestSeat_7 : decode cX5_bestSeat 7 = .ok (.ireturn, 1) := by decide +kernel
theorem dX5_heardShare_0 : decode cX5_heardShare 0 = .ok (.aload_n 0, 1) := by decide +kernel
theorem dX5_heardShare_1 : decode cX5_heardShare 1 = .ok (.getfield 21, 3) := by decide +kernel
theorem dX5_heardShare_4 : decode cX5_heardShare 4 = .ok (.invokevirtual 175, 3) := by decide +kernel
theorem dX5_heardShare_7 : decode cX5_heardShare 7 = .ok (.dreturn, 1) := by decide +kernel
theorem dX5_digest_0 : decode cX5_digest 0 = .ok (.new 179, 3) := by decide +kernel
theorem dX5_digest_3 : decode cX5_digest 3 = .ok (.dup, 1) := by decide +kernel
theorem dX5_digest_4 : decode cX5_digest 4 = .ok (.invokespecial 181, 3) := by decide +kernel
theorem dX5_digest_7 : decode cX5_digest 7 = .ok (.astore_n 1, 1) := by decide +kernel
theorem dX5_digest_8 : decode cX5_digest 8 = .ok (.iconst 0, 1) := by decide +kernel
theorem dX5_digest_9 : decode cX5_digest 9 = .ok (.istore_n 2, 1) := by decide +kernel
theorem dX5_digest_10 : decode cX5_digest 10 = .ok (.iload_n 2, 1) := by decide +kernel
theorem dX5_digest_11 : decode cX5_digest 11 = .ok (.bipush 9, 2) := by decide +kernel
theorem dX5_digest_13 : decode cX5_digest 13 = .ok (.if_icmp .gt 19, 3) := by decide +kernel
theorem dX5_digest_16 : decode cX5_digest 16 = .ok (.aload_n 1, 1) := by decide +kernel
theorem dX5_digest_17 : decode cX5_digest 17 = .ok (.aload_n 0, 1) := by decide +kernel
theorem dX5_digest_18 : decode cX5_digest 18 = .ok (.iload_n 2, 1) := by decide +kernel
theorem dX5_digest_19 : decode cX5_digest 19 = .ok (.invokevirtual 159, 3) := by decide +kernel
theorem dX5_digest_22 : decode cX5_digest 22 = .ok (.i2l, 1) := by decide +kernel
theorem dX5_digest_23 : decode cX5_digest 23 = .ok (.invokevirtual 182, 3) := by decide +kernel
theorem dX5_digest_26 : decode cX5_digest 26 = .ok (.iinc 2 1, 3) := by decide +kernel
theorem dX5_digest_29 : decode cX5_digest 29 = .ok (.goto (-19), 3) := by decide +kernel
theorem dX5_digest_32 : decode cX5_digest 32 = .ok (.aload_n 0, 1) := by decide +kernel
theorem dX5_digest_33 : decode cX5_digest 33 = .ok (.aload_n 1, 1) := by decide +kernel
theorem dX5_digest_34 : decode cX5_digest 34 = .ok (.invokevirtual 186, 3) := by decide +kernel
theorem dX5_digest_37 : decode cX5_digest 37 = .ok (.aload_n 0, 1) := by decide +kernel
theorem dX5_digest_38 : decode cX5_digest 38 = .ok (.aload_n 1, 1) := by decide +kernel
theorem dX5_digest_39 : decode cX5_digest 39 = .ok (.invokevirtual 190, 3) := by decide +kernel
theorem dX5_digest_42 : decode cX5_digest 42 = .ok (.aload_n 0, 1) := by decide +kernel
theorem dX5_digest_43 : decode cX5_digest 43 = .ok (.aload_n 1, 1) := by decide +kernel
theorem dX5_digest_44 : decode cX5_digest 44 = .ok (.invokevirtual 193, 3) := by decide +kernel
theorem dX5_digest_47 : decode cX5_digest 47 = .ok (.aload_n 0, 1) := by decide +kernel
theorem dX5_digest_48 : decode cX5_digest 48 = .ok (.aload_n 1, 1) := by decide +kernel
theorem dX5_digest_49 : decode cX5_digest 49 = .ok (.invokevirtual 196, 3) := by decide +kernel
theorem dX5_digest_52 : decode cX5_digest 52 = .ok (.iconst 0, 1) := by decide +kernel
theorem dX5_digest_53 : decode cX5_digest 53 = .ok (.istore_n 2, 1) := by decide +kernel
theorem dX5_digest_54 : decode cX5_digest 54 = .ok (.iload_n 2, 1) := by decide +kernel
theorem dX5_digest_55 : decode cX5_digest 55 = .ok (.bipush 6, 2) := by decide +kernel
theorem dX5_digest_57 : decode cX5_digest 57 = .ok (.if_icmp .ge 47, 3) := by decide +kernel
theorem dX5_digest_60 : decode cX5_digest 60 = .ok (.aload_n 1, 1) := by decide +kernel
theorem dX5_digest_61 : decode cX5_digest 61 = .ok (.aload_n 0, 1) := by decide +kernel
theorem dX5_digest_62 : decode cX5_digest 62 = .ok (.getfield 10, 3) := by decide +kernel
theorem dX5_digest_65 : decode cX5_digest 65 = .ok (.getfield 116, 3) := by decide +kernel
theorem dX5_digest_68 : decode cX5_digest 68 = .ok (.ifCond .le 24, 3) := by decide +kernel
theorem dX5_digest_71 : decode cX5_digest 71 = .ok (.aload_n 0, 1) := by decide +kernel
theorem dX5_digest_72 : decode cX5_digest 72 = .ok (.getfield 21, 3) := by decide +kernel
theorem dX5_digest_75 : decode cX5_digest 75 = .ok (.aload_n 0, 1) := by decide +kernel
theorem dX5_digest_76 : decode cX5_digest 76 = .ok (.getfield 10, 3) := by decide +kernel
theorem dX5_digest_79 : decode cX5_digest 79 = .ok (.getfield 116, 3) := by decide +kernel
theorem dX5_digest_82 : decode cX5_digest 82 = .ok (.iconst 1, 1) := by decide +kernel
theorem dX5_digest_83 : decode cX5_digest 83 = .ok (.isub, 1) := by decide +kernel
theorem dX5_digest_84 : decode cX5_digest 84 = .ok (.iload_n 2, 1) := by decide +kernel
theorem dX5_digest_85 : decode cX5_digest 85 = .ok (.invokevirtual 169, 3) := by decide +kernel
theorem dX5_digest_88 : decode cX5_digest 88 = .ok (.i2l, 1) := by decide +kernel
theorem dX5_digest_89 : decode cX5_digest 89 = .ok (.goto 6, 3) := by decide +kernel
theorem dX5_digest_92 : decode cX5_digest 92 = .ok (.ldc2_w 199, 3) := by decide +kernel
theorem dX5_digest_95 : decode cX5_digest 95 = .ok (.invokevirtual 182, 3) := by decide +kernel
theorem dX5_digest_98 : decode cX5_digest 98 = .ok (.iinc 2 1, 3) := by decide +kernel
theorem dX5_digest_101 : decode cX5_digest 101 = .ok (.goto (-47), 3) := by decide +kernel
theorem dX5_digest_104 : decode cX5_digest 104 = .ok (.aload_n 1, 1) := by decide +kernel
theorem dX5_digest_105 : decode cX5_digest 105 = .ok (.aload_n 0, 1) := by decide +kernel
theorem dX5_digest_106 : decode cX5_digest 106 = .ok (.getfield 21, 3) := by decide +kernel
theorem dX5_digest_109 : decode cX5_digest 109 = .ok (.invokevirtual 172, 3) := by decide +kernel
theorem dX5_digest_112 : decode cX5_digest 112 = .ok (.i2l, 1) := by decide +kernel
theorem dX5_digest_113 : decode cX5_digest 113 = .ok (.invokevirtual 182, 3) := by decide +kernel
theorem dX5_digest_116 : decode cX5_digest 116 = .ok (.aload_n 1, 1) := by decide +kernel
theorem dX5_digest_117 : decode cX5_digest 117 = .ok (.aload_n 0, 1) := by decide +kernel
theorem dX5_digest_118 : decode cX5_digest 118 = .ok (.getfield 21, 3) := by decide +kernel
theorem dX5_digest_121 : decode cX5_digest 121 = .ok (.invokevirtual 175, 3) := by decide +kernel
theorem dX5_digest_124 : decode cX5_digest 124 = .ok (.invokestatic 201, 3) := by decide +kernel
theorem dX5_digest_127 : decode cX5_digest 127 = .ok (.invokevirtual 182, 3) := by decide +kernel
theorem dX5_digest_130 : decode cX5_digest 130 = .ok (.aload_n 1, 1) := by decide +kernel
theorem dX5_digest_131 : decode cX5_digest 131 = .ok (.aload_n 0, 1) := by decide +kernel
theorem dX5_digest_132 : decode cX5_digest 132 = .ok (.getfield 35, 3) := by decide +kernel
theorem dX5_digest_135 : decode cX5_digest 135 = .ok (.getfield 100, 3) := by decide +kernel
theorem dX5_digest_138 : decode cX5_digest 138 = .ok (.i2l, 1) := by decide +kernel
theorem dX5_digest_139 : decode cX5_digest 139 = .ok (.invokevirtual 182, 3) := by decide +kernel
theorem dX5_digest_142 : decode cX5_digest 142 = .ok (.iconst 0, 1) := by decide +kernel
theorem dX5_digest_143 : decode cX5_digest 143 = .ok (.istore_n 2, 1) := by decide +kernel
theorem dX5_digest_144 : decode cX5_digest 144 = .ok (.iload_n 2, 1) := by decide +kernel
theorem dX5_digest_145 : decode cX5_digest 145 = .ok (.aload_n 0, 1) := by decide +kernel
theorem dX5_digest_146 : decode cX5_digest 146 = .ok (.getfield 35, 3) := by decide +kernel
theorem dX5_digest_149 : decode cX5_digest 149 = .ok (.getfield 100, 3) := by decide +kernel
theorem dX5_digest_152 : decode cX5_digest 152 = .ok (.if_icmp .ge 23, 3) := by decide +kernel
theorem dX5_digest_155 : decode cX5_digest 155 = .ok (.aload_n 1, 1) := by decide +kernel
theorem dX5_digest_156 : decode cX5_digest 156 = .ok (.aload_n 0, 1) := by decide +kernel
theorem dX5_digest_157 : decode cX5_digest 157 = .ok (.getfield 35, 3) := by decide +kernel
theorem dX5_digest_160 : decode cX5_digest 160 = .ok (.getfield 205, 3) := by decide +kernel
theorem dX5_digest_163 : decode cX5_digest 163 = .ok (.iload_n 2, 1) := by decide +kernel
theorem dX5_digest_164 : decode cX5_digest 164 = .ok (.caload, 1) := by decide +kernel
theorem dX5_digest_165 : decode cX5_digest 165 = .ok (.i2l, 1) := by decide +kernel
theorem dX5_digest_166 : decode cX5_digest 166 = .ok (.invokevirtual 182, 3) := by decide +kernel
theorem dX5_digest_169 : decode cX5_digest 169 = .ok (.iinc 2 1, 3) := by decide +kernel
theorem dX5_digest_172 : decode cX5_digest 172 = .ok (.goto (-28), 3) := by decide +kernel
theorem dX5_digest_175 : decode cX5_digest 175 = .ok (.aload_n 1, 1) := by decide +kernel
theorem dX5_digest_176 : decode cX5_digest 176 = .ok (.getfield 209, 3) := by decide +kernel
theorem dX5_digest_179 : decode cX5_digest 179 = .ok (.lreturn, 1) := by decide +kernel
theorem dX5_takeSpeakers_0 : decode cX5_takeSpeakers 0 = .ok (.iconst 0, 1) := by decide +kernel
theorem dX5_takeSpeakers_1 : decode cX5_takeSpeakers 1 = .ok (.istore_n 2, 1) := by decide +kernel
theorem dX5_takeSpeakers_2 : decode cX5_takeSpeakers 2 = .ok (.iload_n 2, 1) := by decide +kernel
theorem dX5_takeSpeakers_3 : decode cX5_takeSpeakers 3 = .ok (.bipush 6, 2) := by decide +kernel
theorem dX5_takeSpeakers_5 : decode cX5_takeSpeakers 5 = .ok (.if_icmp .ge 57, 3) := by decide +kernel
theorem dX5_takeSpeakers_8 : decode cX5_takeSpeakers 8 = .ok (.iconst 0, 1) := by decide +kernel
theorem dX5_takeSpeakers_9 : decode cX5_takeSpeakers 9 = .ok (.istore_n 3, 1) := by decide +kernel
theorem dX5_takeSpeakers_10 : decode cX5_takeSpeakers 10 = .ok (.iload_n 3, 1) := by decide +kernel
theorem dX5_takeSpeakers_11 : decode cX5_takeSpeakers 11 = .ok (.bipush 7, 2) := by decide +kernel
theorem dX5_takeSpeakers_13 : decode cX5_takeSpeakers 13 = .ok (.if_icmp .gt 23, 3) := by decide +kernel
theorem dX5_takeSpeakers_16 : decode cX5_takeSpeakers 16 = .ok (.aload_n 1, 1) := by decide +kernel
theorem dX5_takeSpeakers_17 : decode cX5_takeSpeakers 17 = .ok (.aload_n 0, 1) := by decide +kernel
theorem dX5_takeSpeakers_18 : decode cX5_takeSpeakers 18 = .ok (.getfield 21, 3) := by decide +kernel
theorem dX5_takeSpeakers_21 : decode cX5_takeSpeakers 21 = .ok (.iload_n 2, 1) := by decide +kernel
theorem dX5_takeSpeakers_22 : decode cX5_takeSpeakers 22 = .ok (.iload_n 3, 1) := by decide +kernel
theorem dX5_takeSpeakers_23 : decode cX5_takeSpeakers 23 = .ok (.invokevirtual 153, 3) := by decide +kernel
theorem dX5_takeSpeakers_26 : decode cX5_takeSpeakers 26 = .ok (.i2l, 1) := by decide +kernel
theorem dX5_takeSpeakers_27 : decode cX5_takeSpeakers 27 = .ok (.invokevirtual 182, 3) := by decide +kernel
theorem dX5_takeSpeakers_30 : decode cX5_takeSpeakers 30 = .ok (.iinc 3 1, 3) := by decide +kernel
theorem dX5_takeSpeakers_33 : decode cX5_takeSpeakers 33 = .ok (.goto (-23), 3) := by decide +kernel
theorem dX5_takeSpeakers_36 : decode cX5_takeSpeakers 36 = .ok (.aload_n 1, 1) := by decide +kernel
theorem dX5_takeSpeakers_37 : decode cX5_takeSpeakers 37 = .ok (.aload_n 0, 1) := by decide +kernel
theorem dX5_takeSpeakers_38 : decode cX5_takeSpeakers 38 = .ok (.getfield 10, 3) := by decide +kernel
theorem dX5_takeSpeakers_41 : decode cX5_takeSpeakers 41 = .ok (.iload_n 2, 1) := by decide +kernel
theorem dX5_takeSpeakers_42 : decode cX5_takeSpeakers 42 = .ok (.aload_n 0, 1) := by decide +kernel
theorem dX5_takeSpeakers_43 : decode cX5_takeSpeakers 43 = .ok (.getfield 10, 3) := by decide +kernel
theorem dX5_takeSpeakers_46 : decode cX5_takeSpeakers 46 = .ok (.getfield 78, 3) := by decide +kernel
theorem dX5_takeSpeakers_49 : decode cX5_takeSpeakers 49 = .ok (.invokevirtual 166, 3) := by decide +kernel
theorem dX5_takeSpeakers_52 : decode cX5_takeSpeakers 52 = .ok (.i2l, 1) := by decide +kernel
theorem dX5_takeSpeakers_53 : decode cX5_takeSpeakers 53 = .ok (.invokevirtual 182, 3) := by decide +kernel
theorem dX5_takeSpeakers_56 : decode cX5_takeSpeakers 56 = .ok (.iinc 2 1, 3) := by decide +kernel
theorem dX5_takeSpeakers_59 : decode cX5_takeSpeakers 59 = .ok (.goto (-57), 3) := by decide +kernel
theorem dX5_takeSpeakers_62 : decode cX5_takeSpeakers 62 = .ok (.return_, 1) := by decide +kernel
theorem dX5_takeLatestWords_0 : decode cX5_takeLatestWords 0 = .ok (.iconst 0, 1) := by decide +kernel
theorem dX5_takeLatestWords_1 : decode cX5_takeLatestWords 1 = .ok (.aload_n 0, 1) := by decide +kernel
theorem dX5_takeLatestWords_2 : decode cX5_takeLatestWords 2 = .ok (.getfield 10, 3) := by decide +kernel
theorem dX5_takeLatestWords_5 : decode cX5_takeLatestWords 5 = .ok (.getfield 116, 3) := by decide +kernel
theorem dX5_takeLatestWords_8 : decode cX5_takeLatestWords 8 = .ok (.bipush 12, 2) := by decide +kernel
theorem dX5_takeLatestWords_10 : decode cX5_takeLatestWords 10 = .ok (.isub, 1) := by decide +kernel
theorem dX5_takeLatestWords_11 : decode cX5_takeLatestWords 11 = .ok (.invokestatic 213, 3) := by decide +kernel
theorem dX5_takeLatestWords_14 : decode cX5_takeLatestWords 14 = .ok (.istore_n 2, 1) := by decide +kernel
theorem dX5_takeLatestWords_15 : decode cX5_takeLatestWords 15 = .ok (.aload_n 0, 1) := by decide +kernel
theorem dX5_takeLatestWords_16 : decode cX5_takeLatestWords 16 = .ok (.getfield 10, 3) := by decide +kernel
theorem dX5_takeLatestWords_19 : decode cX5_takeLatestWords 19 = .ok (.getfield 116, 3) := by decide +kernel
theorem dX5_takeLatestWords_22 : decode cX5_takeLatestWords 22 = .ok (.iconst 1, 1) := by decide +kernel
theorem dX5_takeLatestWords_23 : decode cX5_takeLatestWords 23 = .ok (.isub, 1) := by decide +kernel
theorem dX5_takeLatestWords_24 : decode cX5_takeLatestWords 24 = .ok (.istore_n 3, 1) := by decide +kernel
theorem dX5_takeLatestWords_25 : decode cX5_takeLatestWords 25 = .ok (.iload_n 3, 1) := by decide +kernel
theorem dX5_takeLatestWords_26 : decode cX5_takeLatestWords 26 = .ok (.iload_n 2, 1) := by decide +kernel
theorem dX5_takeLatestWords_27 : decode cX5_takeLatestWords 27 = .ok (.if_icmp .lt 87, 3) := by decide +kernel
theorem dX5_takeLatestWords_30 : decode cX5_takeLatestWords 30 = .ok (.iconst 0, 1) := by decide +kernel
theorem dX5_takeLatestWords_31 : decode cX5_takeLatestWords 31 = .ok (.istore 4, 2) := by decide +kernel
theorem dX5_takeLatestWords_33 : decode cX5_takeLatestWords 33 = .ok (.iload 4, 2) := by decide +kernel
theorem dX5_takeLatestWords_35 : decode cX5_takeLatestWords 35 = .ok (.iconst 5, 1) := by decide +kernel
theorem dX5_takeLatestWords_36 : decode cX5_takeLatestWords 36 = .ok (.if_icmp .gt 24, 3) := by decide +kernel
theorem dX5_takeLatestWords_39 : decode cX5_takeLatestWords 39 = .ok (.aload_n 1, 1) := by decide +kernel
theorem dX5_takeLatestWords_40 : decode cX5_takeLatestWords 40 = .ok (.aload_n 0, 1) := by decide +kernel
theorem dX5_takeLatestWords_41 : decode cX5_takeLatestWords 41 = .ok (.getfield 21, 3) := by decide +kernel
theorem dX5_takeLatestWords_44 : decode cX5_takeLatestWords 44 = .ok (.iload_n 3, 1) := by decide +kernel
theorem dX5_takeLatestWords_45 : decode cX5_takeLatestWords 45 = .ok (.iload 4, 2) := by decide +kernel
theorem dX5_takeLatestWords_47 : decode cX5_takeLatestWords 47 = .ok (.invokevirtual 142, 3) := by decide +kernel
theorem dX5_takeLatestWords_50 : decode cX5_takeLatestWords 50 = .ok (.i2l, 1) := by decide +kernel
theorem dX5_takeLatestWords_51 : decode cX5_takeLatestWords 51 = .ok (.invokevirtual 182, 3) := by decide +kernel
theorem dX5_takeLatestWords_54 : decode cX5_takeLatestWords 54 = .ok (.iinc 4 1, 3) := by decide +kernel
theorem dX5_takeLatestWords_57 : decode cX5_takeLatestWords 57 = .ok (.goto (-24), 3) := by decide +kernel
theorem dX5_takeLatestWords_60 : decode cX5_takeLatestWords 60 = .ok (.iconst 0, 1) := by decide +kernel
theorem dX5_takeLatestWords_61 : decode cX5_takeLatestWords 61 = .ok (.istore 4, 2) := by decide +kernel
theorem dX5_takeLatestWords_63 : decode cX5_takeLatestWords 63 = .ok (.iload 4, 2) := by decide +kernel
theorem dX5_takeLatestWords_65 : decode cX5_takeLatestWords 65 = .ok (.bipush 6, 2) := by decide +kernel
theorem dX5_takeLatestWords_67 : decode cX5_takeLatestWords 67 = .ok (.if_icmp .ge 41, 3) := by decide +kernel
theorem dX5_takeLatestWords_70 : decode cX5_takeLatestWords 70 = .ok (.aload_n 1, 1) := by decide +kernel
theorem dX5_takeLatestWords_71 : decode cX5_takeLatestWords 71 = .ok (.aload_n 0, 1) := by decide +kernel
theorem dX5_takeLatestWords_72 : decode cX5_takeLatestWords 72 = .ok (.getfield 10, 3) := by decide +kernel
theorem dX5_takeLatestWords_75 : decode cX5_takeLatestWords 75 = .ok (.getfield 146, 3) := by decide +kernel
theorem dX5_takeLatestWords_78 : decode cX5_takeLatestWords 78 = .ok (.iload 4, 2) := by decide +kernel
theorem dX5_takeLatestWords_80 : decode cX5_takeLatestWords 80 = .ok (.aaload, 1) := by decide +kernel
theorem dX5_takeLatestWords_81 : decode cX5_takeLatestWords 81 = .ok (.iload_n 3, 1) := by decide +kernel
theorem dX5_takeLatestWords_82 : decode cX5_takeLatestWords 82 = .ok (.iaload, 1) := by decide +kernel
theorem dX5_takeLatestWords_83 : decode cX5_takeLatestWords 83 = .ok (.i2l, 1) := by decide +kernel
theorem dX5_takeLatestWords_84 : decode cX5_takeLatestWords 84 = .ok (.invokevirtual 182, 3) := by decide +kernel
theorem dX5_takeLatestWords_87 : decode cX5_takeLatestWords 87 = .ok (.aload_n 1, 1) := by decide +kernel
theorem dX5_takeLatestWords_88 : decode cX5_takeLatestWords 88 = .ok (.aload_n 0, 1) := by decide +kernel
theorem dX5_takeLatestWords_89 : decode cX5_takeLatestWords 89 = .ok (.getfield 21, 3) := by decide +kernel
theorem dX5_takeLatestWords_92 : decode cX5_takeLatestWords 92 = .ok (.iload_n 3, 1) := by decide +kernel
theorem dX5_takeLatestWords_93 : decode cX5_takeLatestWords 93 = .ok (.iload 4, 2) := by decide +kernel
theorem dX5_takeLatestWords_95 : decode cX5_takeLatestWords 95 = .ok (.invokevirtual 163, 3) := by decide +kernel
theorem dX5_takeLatestWords_98 : decode cX5_takeLatestWords 98 = .ok (.i2l, 1) := by decide +kernel
theorem dX5_takeLatestWords_99 : decode cX5_takeLatestWords 99 = .ok (.invokevirtual 182, 3) := by decide +kernel
theorem dX5_takeLatestWords_102 : decode cX5_takeLatestWords 102 = .ok (.iinc 4 1, 3) := by decide +kernel
theorem dX5_takeLatestWords_105 : decode cX5_takeLatestWords 105 = .ok (.goto (-42), 3) := by decide +kernel
theorem dX5_takeLatestWords_108 : decode cX5_takeLatestWords 108 = .ok (.iinc 3 (-1), 3) := by decide +kernel
theorem dX5_takeLatestWords_111 : decode cX5_takeLatestWords 111 = .ok (.goto (-86), 3) := by decide +kernel
theorem dX5_takeLatestWords_114 : decode cX5_takeLatestWords 114 = .ok (.return_, 1) := by decide +kernel
theorem dX5_takeLatestBeats_0 : decode cX5_takeLatestBeats 0 = .ok (.iconst 0, 1) := by decide +kernel
theorem dX5_takeLatestBeats_1 : decode cX5_takeLatestBeats 1 = .ok (.aload_n 0, 1) := by decide +kernel
theorem dX5_takeLatestBeats_2 : decode cX5_takeLatestBeats 2 = .ok (.getfield 10, 3) := by decide +kernel
theorem dX5_takeLatestBeats_5 : decode cX5_takeLatestBeats 5 = .ok (.getfield 78, 3) := by decide +kernel
theorem dX5_takeLatestBeats_8 : decode cX5_takeLatestBeats 8 = .ok (.bipush 8, 2) := by decide +kernel
theorem dX5_takeLatestBeats_10 : decode cX5_takeLatestBeats 10 = .ok (.isub, 1) := by decide +kernel
theorem dX5_takeLatestBeats_11 : decode cX5_takeLatestBeats 11 = .ok (.invokestatic 213, 3) := by decide +kernel
theorem dX5_takeLatestBeats_14 : decode cX5_takeLatestBeats 14 = .ok (.istore_n 2, 1) := by decide +kernel
theorem dX5_takeLatestBeats_15 : decode cX5_takeLatestBeats 15 = .ok (.aload_n 0, 1) := by decide +kernel
theorem dX5_takeLatestBeats_16 : decode cX5_takeLatestBeats 16 = .ok (.getfield 10, 3) := by decide +kernel
theorem dX5_takeLatestBeats_19 : decode cX5_takeLatestBeats 19 = .ok (.getfield 78, 3) := by decide +kernel
theorem dX5_takeLatestBeats_22 : decode cX5_takeLatestBeats 22 = .ok (.iconst 1, 1) := by decide +kernel
theorem dX5_takeLatestBeats_23 : decode cX5_takeLatestBeats 23 = .ok (.isub, 1) := by decide +kernel
theorem dX5_takeLatestBeats_24 : decode cX5_takeLatestBeats 24 = .ok (.istore_n 3, 1) := by decide +kernel
theorem dX5_takeLatestBeats_25 : decode cX5_takeLatestBeats 25 = .ok (.iload_n 3, 1) := by decide +kernel
theorem dX5_takeLatestBeats_26 : decode cX5_takeLatestBeats 26 = .ok (.iload_n 2, 1) := by decide +kernel
theorem dX5_takeLatestBeats_27 : decode cX5_takeLatestBeats 27 = .ok (.if_icmp .lt 57, 3) := by decide +kernel
theorem dX5_takeLatestBeats_30 : decode cX5_takeLatestBeats 30 = .ok (.iconst 0, 1) := by decide +kernel
theorem dX5_takeLatestBeats_31 : decode cX5_takeLatestBeats 31 = .ok (.istore 4, 2) := by decide +kernel
theorem dX5_takeLatestBeats_33 : decode cX5_takeLatestBeats 33 = .ok (.iload 4, 2) := by decide +kernel
theorem dX5_takeLatestBeats_35 : decode cX5_takeLatestBeats 35 = .ok (.bipush 6, 2) := by decide +kernel
theorem dX5_takeLatestBeats_37 : decode cX5_takeLatestBeats 37 = .ok (.if_icmp .ge 41, 3) := by decide +kernel
theorem dX5_takeLatestBeats_40 : decode cX5_takeLatestBeats 40 = .ok (.iconst 0, 1) := by decide +kernel
theorem dX5_takeLatestBeats_41 : decode cX5_takeLatestBeats 41 = .ok (.istore 5, 2) := by decide +kernel
theorem dX5_takeLatestBeats_43 : decode cX5_takeLatestBeats 43 = .ok (.iload 5, 2) := by decide +kernel
theorem dX5_takeLatestBeats_45 : decode cX5_takeLatestBeats 45 = .ok (.iconst 2, 1) := by decide +kernel
theorem dX5_takeLatestBeats_46 : decode cX5_takeLatestBeats 46 = .ok (.if_icmp .gt 26, 3) := by decide +kernel
theorem dX5_takeLatestBeats_49 : decode cX5_takeLatestBeats 49 = .ok (.aload_n 1, 1) := by decide +kernel
theorem dX5_takeLatestBeats_50 : decode cX5_takeLatestBeats 50 = .ok (.aload_n 0, 1) := by decide +kernel
theorem dX5_takeLatestBeats_51 : decode cX5_takeLatestBeats 51 = .ok (.getfield 21, 3) := by decide +kernel
theorem dX5_takeLatestBeats_54 : decode cX5_takeLatestBeats 54 = .ok (.iload 4, 2) := by decide +kernel
theorem dX5_takeLatestBeats_56 : decode cX5_takeLatestBeats 56 = .ok (.iload_n 3, 1) := by decide +kernel
theorem dX5_takeLatestBeats_57 : decode cX5_takeLatestBeats 57 = .ok (.iload 5, 2) := by decide +kernel
theorem dX5_takeLatestBeats_59 : decode cX5_takeLatestBeats 59 = .ok (.invokevirtual 150, 3) := by decide +kernel
theorem dX5_takeLatestBeats_62 : decode cX5_takeLatestBeats 62 = .ok (.i2l, 1) := by decide +kernel
theorem dX5_takeLatestBeats_63 : decode cX5_takeLatestBeats 63 = .ok (.invokevirtual 182, 3) := by decide +kernel
theorem dX5_takeLatestBeats_66 : decode cX5_takeLatestBeats 66 = .ok (.iinc 5 1, 3) := by decide +kernel
theorem dX5_takeLatestBeats_69 : decode cX5_takeLatestBeats 69 = .ok (.goto (-26), 3) := by decide +kernel
theorem dX5_takeLatestBeats_72 : decode cX5_takeLatestBeats 72 = .ok (.iinc 4 1, 3) := by decide +kernel
theorem dX5_takeLatestBeats_75 : decode cX5_takeLatestBeats 75 = .ok (.goto (-42), 3) := by decide +kernel
theorem dX5_takeLatestBeats_78 : decode cX5_takeLatestBeats 78 = .ok (.iinc 3 (-1), 3) := by decide +kernel
theorem dX5_takeLatestBeats_81 : decode cX5_takeLatestBeats 81 = .ok (.goto (-56), 3) := by decide +kernel
theorem dX5_takeLatestBeats_84 : decode cX5_takeLatestBeats 84 = .ok (.return_, 1) := by decide +kernel
theorem dX5_takeMessages_0 : decode cX5_takeMessages 0 = .ok (.iconst 0, 1) := by decide +kernel
theorem dX5_takeMessages_1 : decode cX5_takeMessages 1 = .ok (.istore_n 2, 1) := by decide +kernel
theorem dX5_takeMessages_2 : decode cX5_takeMessages 2 = .ok (.iload_n 2, 1) := by decide +kernel
theorem dX5_takeMessages_3 : decode cX5_takeMessages 3 = .ok (.bipush 6, 2) := by decide +kernel
theorem dX5_takeMessages_5 : decode cX5_takeMessages 5 = .ok (.if_icmp .ge 65, 3) := by decide +kernel
theorem dX5_takeMessages_8 : decode cX5_takeMessages 8 = .ok (.iconst 0, 1) := by decide +kernel
theorem dX5_takeMessages_9 : decode cX5_takeMessages 9 = .ok (.istore_n 3, 1) := by decide +kernel
theorem dX5_takeMessages_10 : decode cX5_takeMessages 10 = .ok (.iload_n 3, 1) := by decide +kernel
theorem dX5_takeMessages_11 : decode cX5_takeMessages 11 = .ok (.bipush 10, 2) := by decide +kernel
theorem dX5_takeMessages_13 : decode cX5_takeMessages 13 = .ok (.if_icmp .ge 51, 3) := by decide +kernel
theorem dX5_takeMessages_16 : decode cX5_takeMessages 16 = .ok (.iconst 0, 1) := by decide +kernel
theorem dX5_takeMessages_17 : decode cX5_takeMessages 17 = .ok (.istore 4, 2) := by decide +kernel
theorem dX5_takeMessages_19 : decode cX5_takeMessages 19 = .ok (.iconst 0, 1) := by decide +kernel
theorem dX5_takeMessages_20 : decode cX5_takeMessages 20 = .ok (.istore 5, 2) := by decide +kernel
theorem dX5_takeMessages_22 : decode cX5_takeMessages 22 = .ok (.iload 5, 2) := by decide +kernel
theorem dX5_takeMessages_24 : decode cX5_takeMessages 24 = .ok (.bipush 6, 2) := by decide +kernel
theorem dX5_takeMessages_26 : decode cX5_takeMessages 26 = .ok (.if_icmp .ge 25, 3) := by decide +kernel
theorem dX5_takeMessages_29 : decode cX5_takeMessages 29 = .ok (.iload 4, 2) := by decide +kernel
theorem dX5_takeMessages_31 : decode cX5_takeMessages 31 = .ok (.aload_n 0, 1) := by decide +kernel
theorem dX5_takeMessages_32 : decode cX5_takeMessages 32 = .ok (.getfield 21, 3) := by decide +kernel
theorem dX5_takeMessages_35 : decode cX5_takeMessages 35 = .ok (.iload_n 2, 1) := by decide +kernel
theorem dX5_takeMessages_36 : decode cX5_takeMessages 36 = .ok (.iload_n 3, 1) := by decide +kernel
theorem dX5_takeMessages_37 : decode cX5_takeMessages 37 = .ok (.iload 5, 2) := by decide +kernel
theorem dX5_takeMessages_39 : decode cX5_takeMessages 39 = .ok (.invokevirtual 156, 3) := by decide +kernel
theorem dX5_takeMessages_42 : decode cX5_takeMessages 42 = .ok (.iadd, 1) := by decide +kernel
theorem dX5_takeMessages_43 : decode cX5_takeMessages 43 = .ok (.istore 4, 2) := by decide +kernel
theorem dX5_takeMessages_45 : decode cX5_takeMessages 45 = .ok (.iinc 5 1, 3) := by decide +kernel
theorem dX5_takeMessages_48 : decode cX5_takeMessages 48 = .ok (.goto (-26), 3) := by decide +kernel
theorem dX5_takeMessages_51 : decode cX5_takeMessages 51 = .ok (.aload_n 1, 1) := by decide +kernel
theorem dX5_takeMessages_52 : decode cX5_takeMessages 52 = .ok (.iload 4, 2) := by decide +kernel
theorem dX5_takeMessages_54 : decode cX5_takeMessages 54 = .ok (.i2l, 1) := by decide +kernel
theorem dX5_takeMessages_55 : decode cX5_takeMessages 55 = .ok (.invokevirtual 182, 3) := by decide +kernel
theorem dX5_takeMessages_58 : decode cX5_takeMessages 58 = .ok (.iinc 3 1, 3) := by decide +kernel
theorem dX5_takeMessages_61 : decode cX5_takeMessages 61 = .ok (.goto (-51), 3) := by decide +kernel
theorem dX5_takeMessages_64 : decode cX5_takeMessages 64 = .ok (.iinc 2 1, 3) := by decide +kernel
theorem dX5_takeMessages_67 : decode cX5_takeMessages 67 = .ok (.goto (-65), 3) := by decide +kernel
theorem dX5_takeMessages_70 : decode cX5_takeMessages 70 = .ok (.return_, 1) := by decide +kernel
theorem dX5_total_0 : decode cX5_total 0 = .ok (.iload_n 1, 1) := by decide +kernel
theorem dX5_total_1 : decode cX5_total 1 = .ok (.bipush 9, 2) := by decide +kernel
theorem dX5_total_3 : decode cX5_total 3 = .ok (.if_icmp .ne 13, 3) := by decide +kernel
theorem dX5_total_6 : decode cX5_total 6 = .ok (.aload_n 0, 1) := by decide +kernel
theorem dX5_total_7 : decode cX5_total 7 = .ok (.getfield 28, 3) := by decide +kernel
theorem dX5_total_10 : decode cX5_total 10 = .ok (.getfield 134, 3) := by decide +kernel
theorem dX5_total_13 : decode cX5_total 13 = .ok (.goto 11, 3) := by decide +kernel
theorem dX5_total_16 : decode cX5_total 16 = .ok (.aload_n 0, 1) := by decide +kernel
theorem dX5_total_17 : decode cX5_total 17 = .ok (.getfield 21, 3) := by decide +kernel
theorem dX5_total_20 : decode cX5_total 20 = .ok (.iload_n 1, 1) := by decide +kernel
theorem dX5_total_21 : decode cX5_total 21 = .ok (.invokevirtual 218, 3) := by decide +kernel
theorem dX5_total_24 : decode cX5_total 24 = .ok (.ireturn, 1) := by decide +kernel
theorem dX5_isWithin_0 : decode cX5_isWithin 0 = .ok (.iload_n 0, 1) := by decide +kernel
theorem dX5_isWithin_1 : decode cX5_isWithin 1 = .ok (.iload_n 1, 1) := by decide +kernel
theorem dX5_isWithin_2 : decode cX5_isWithin 2 = .ok (.if_icmp .lt 12, 3) := by decide +kernel
theorem dX5_isWithin_5 : decode cX5_isWithin 5 = .ok (.iload_n 0, 1) := by decide +kernel
theorem dX5_isWithin_6 : decode cX5_isWithin 6 = .ok (.iload_n 2, 1) := by decide +kernel
theorem dX5_isWithin_7 : decode cX5_isWithin 7 = .ok (.if_icmp .gt 7, 3) := by decide +kernel
theorem dX5_isWithin_10 : decode cX5_isWithin 10 = .ok (.iconst 1, 1) := by decide +kernel
theorem dX5_isWithin_11 : decode cX5_isWithin 11 = .ok (.goto 4, 3) := by decide +kernel
theorem dX5_isWithin_14 : decode cX5_isWithin 14 = .ok (.iconst 0, 1) := by decide +kernel
theorem dX5_isWithin_15 : decode cX5_isWithin 15 = .ok (.ireturn, 1) := by decide +kernel
theorem dX5_requireSeat_0 : decode cX5_requireSeat 0 = .ok (.iload_n 0, 1) := by decide +kernel
theorem dX5_requireSeat_1 : decode cX5_requireSeat 1 = .ok (.iconst 0, 1) := by decide +kernel
theorem dX5_requireSeat_2 : decode cX5_requireSeat 2 = .ok (.iconst 5, 1) := by decide +kernel
theorem dX5_requireSeat_3 : decode cX5_requireSeat 3 = .ok (.invokestatic 43, 3) := by decide +kernel
theorem dX5_requireSeat_6 : decode cX5_requireSeat 6 = .ok (.ifCond .ne 13, 3) := by decide +kernel
theorem dX5_requireSeat_9 : decode cX5_requireSeat 9 = .ok (.new 86, 3) := by decide +kernel
theorem dX5_requireSeat_12 : decode cX5_requireSeat 12 = .ok (.dup, 1) := by decide +kernel
theorem dX5_requireSeat_13 : decode cX5_requireSeat 13 = .ok (.ldc 221, 2) := by decide +kernel
theorem dX5_requireSeat_15 : decode cX5_requireSeat 15 = .ok (.invokespecial 90, 3) := by decide +kernel
theorem dX5_requireSeat_18 : decode cX5_requireSeat 18 = .ok (.athrow, 1) := by decide +kernel
theorem dX5_requireSeat_19 : decode cX5_requireSeat 19 = .ok (.return_, 1) := by decide +kernel
theorem dX5_require_0 : decode cX5_require 0 = .ok (.iload_n 0, 1) := by decide +kernel
theorem dX5_require_1 : decode cX5_require 1 = .ok (.ifCond .ne 13, 3) := by decide +kernel
theorem dX5_require_4 : decode cX5_require 4 = .ok (.new 223, 3) := by decide +kernel
theorem dX5_require_7 : decode cX5_require 7 = .ok (.dup, 1) := by decide +kernel
theorem dX5_require_8 : decode cX5_require 8 = .ok (.ldc 225, 2) := by decide +kernel
theorem dX5_require_10 : decode cX5_require 10 = .ok (.invokespecial 227, 3) := by decide +kernel
theorem dX5_require_13 : decode cX5_require 13 = .ok (.athrow, 1) := by decide +kernel
theorem dX5_require_14 : decode cX5_require 14 = .ok (.return_, 1) := by decide +kernel
theorem dJ9_abs_0f7a4_0 : decode cJ9_abs_0f7a4 0 = .ok (.iload_n 0, 1) := by decide +kernel
theorem dJ9_abs_0f7a4_1 : decode cJ9_abs_0f7a4 1 = .ok (.ifCond .ge 8, 3) := by decide +kernel
theorem dJ9_abs_0f7a4_4 : decode cJ9_abs_0f7a4 4 = .ok (.iload_n 0, 1) := by decide +kernel
theorem dJ9_abs_0f7a4_5 : decode cJ9_abs_0f7a4 5 = .ok (.ineg, 1) := by decide +kernel
theorem dJ9_abs_0f7a4_6 : decode cJ9_abs_0f7a4 6 = .ok (.goto 4, 3) := by decide +kernel
theorem dJ9_abs_0f7a4_9 : decode cJ9_abs_0f7a4 9 = .ok (.iload_n 0, 1) := by decide +kernel
theorem dJ9_abs_0f7a4_10 : decode cJ9_abs_0f7a4 10 = .ok (.ireturn, 1) := by decide +kernel
theorem dJ9_max_7cf53_0 : decode cJ9_max_7cf53 0 = .ok (.iload_n 0, 1) := by decide +kernel
theorem dJ9_max_7cf53_1 : decode cJ9_max_7cf53 1 = .ok (.iload_n 1, 1) := by decide +kernel
theorem dJ9_max_7cf53_2 : decode cJ9_max_7cf53 2 = .ok (.if_icmp .lt 7, 3) := by decide +kernel
theorem dJ9_max_7cf53_5 : decode cJ9_max_7cf53 5 = .ok (.iload_n 0, 1) := by decide +kernel
theorem dJ9_max_7cf53_6 : decode cJ9_max_7cf53 6 = .ok (.goto 4, 3) := by decide +kernel
theorem dJ9_max_7cf53_9 : decode cJ9_max_7cf53 9 = .ok (.iload_n 1, 1) := by decide +kernel
theorem dJ9_max_7cf53_10 : decode cJ9_max_7cf53 10 = .ok (.ireturn, 1) := by decide +kernel
theorem dJ9_min_7cf53_0 : decode cJ9_min_7cf53 0 = .ok (.iload_n 0, 1) := by decide +kernel
theorem dJ9_min_7cf53_1 : decode cJ9_min_7cf53 1 = .ok (.iload_n 1, 1) := by decide +kernel
theorem dJ9_min_7cf53_2 : decode cJ9_min_7cf53 2 = .ok (.if_icmp .gt 7, 3) := by decide +kernel
theorem dJ9_min_7cf53_5 : decode cJ9_min_7cf53 5 = .ok (.iload_n 0, 1) := by decide +kernel
theorem dJ9_min_7cf53_6 : decode cJ9_min_7cf53 6 = .ok (.goto 4, 3) := by decide +kernel
theorem dJ9_min_7cf53_9 : decode cJ9_min_7cf53 9 = .ok (.iload_n 1, 1) := by decide +kernel
theorem dJ9_min_7cf53_10 : decode cJ9_min_7cf53 10 = .ok (.ireturn, 1) := by decide +kernel
theorem dL_cell_0 : decode cL_cell 0 = .ok (.iload_n 1, 1) := by decide +kernel
theorem dL_cell_1 : decode cL_cell 1 = .ok (.aload_n 0, 1) := by decide +kernel
theorem dL_cell_2 : decode cL_cell 2 = .ok (.arraylength, 1) := by decide +kernel
theorem dL_cell_3 : decode cL_cell 3 = .ok (.if_icmp .ge 9, 3) := by decide +kernel
theorem dL_cell_6 : decode cL_cell 6 = .ok (.aload_n 0, 1) := by decide +kernel
theorem dL_cell_7 : decode cL_cell 7 = .ok (.iload_n 1, 1) := by decide +kernel
theorem dL_cell_8 : decode cL_cell 8 = .ok (.iaload, 1) := by decide +kernel
theorem dL_cell_9 : decode cL_cell 9 = .ok (.goto 15, 3) := by decide +kernel
theorem dL_cell_12 : decode cL_cell 12 = .ok (.ldc 7, 2) := by decide +kernel
theorem dL_cell_14 : decode cL_cell 14 = .ok (.iload_n 1, 1) := by decide +kernel
theorem dL_cell_15 : decode cL_cell 15 = .ok (.sipush 4096, 3) := by decide +kernel
theorem dL_cell_18 : decode cL_cell 18 = .ok (.irem, 1) := by decide +kernel
theorem dL_cell_19 : decode cL_cell 19 = .ok (.imul, 1) := by decide +kernel
theorem dL_cell_20 : decode cL_cell 20 = .ok (.sipush 337, 3) := by decide +kernel
theorem dL_cell_23 : decode cL_cell 23 = .ok (.iadd, 1) := by decide +kernel
theorem dL_cell_24 : decode cL_cell 24 = .ok (.ldc 8, 2) := by decide +kernel
theorem dL_cell_26 : decode cL_cell 26 = .ok (.iand, 1) := by decide +kernel
theorem dL_cell_27 : decode cL_cell 27 = .ok (.ireturn, 1) := by decide +kernel
theorem dL_say_0 : decode cL_say 0 = .ok (.aload_n 0, 1) := by decide +kernel
theorem dL_say_1 : decode cL_say 1 = .ok (.iload_n 1, 1) := by decide +kernel
theorem dL_say_2 : decode cL_say 2 = .ok (.iload_n 2, 1) := by decide +kernel
theorem dL_say_3 : decode cL_say 3 = .ok (.iload_n 3, 1) := by decide +kernel
theorem dL_say_4 : decode cL_say 4 = .ok (.invokevirtual 9, 3) := by decide +kernel
theorem dL_say_7 : decode cL_say 7 = .ok (.ireturn, 1) := by decide +kernel
theorem dL_say_8 : decode cL_say 8 = .ok (.astore 4, 2) := by decide +kernel
theorem dL_say_10 : decode cL_say 10 = .ok (.ldc 17, 2) := by decide +kernel
theorem dL_say_12 : decode cL_say 12 = .ok (.ireturn, 1) := by decide +kernel
theorem dL_say_13 : decode cL_say 13 = .ok (.astore 4, 2) := by decide +kernel
theorem dL_say_15 : decode cL_say 15 = .ok (.ldc 20, 2) := by decide +kernel
theorem dL_say_17 : decode cL_say 17 = .ok (.ireturn, 1) := by decide +kernel
theorem dL_say_18 : decode cL_say 18 = .ok (.astore 4, 2) := by decide +kernel
theorem dL_say_20 : decode cL_say 20 = .ok (.ldc 23, 2) := by decide +kernel
theorem dL_say_22 : decode cL_say 22 = .ok (.ireturn, 1) := by decide +kernel
theorem dL_pass_0 : decode cL_pass 0 = .ok (.aload_n 0, 1) := by decide +kernel
theorem dL_pass_1 : decode cL_pass 1 = .ok (.iload_n 1, 1) := by decide +kernel
theorem dL_pass_2 : decode cL_pass 2 = .ok (.invokevirtual 24, 3) := by decide +kernel
theorem dL_pass_5 : decode cL_pass 5 = .ok (.ireturn, 1) := by decide +kernel
theorem dL_pass_6 : decode cL_pass 6 = .ok (.astore_n 2, 1) := by decide +kernel
theorem dL_pass_7 : decode cL_pass 7 = .ok (.ldc 17, 2) := by decide +kernel
theorem dL_pass_9 : decode cL_pass 9 = .ok (.ireturn, 1) := by decide +kernel
theorem dL_pass_10 : decode cL_pass 10 = .ok (.astore_n 2, 1) := by decide +kernel
theorem dL_pass_11 : decode cL_pass 11 = .ok (.ldc 20, 2) := by decide +kernel
theorem dL_pass_13 : decode cL_pass 13 = .ok (.ireturn, 1) := by decide +kernel
theorem dL_wall_0 : decode cL_wall 0 = .ok (.aload_n 0, 1) := by decide +kernel
theorem dL_wall_1 : decode cL_wall 1 = .ok (.iload_n 1, 1) := by decide +kernel
theorem dL_wall_2 : decode cL_wall 2 = .ok (.iload_n 2, 1) := by decide +kernel
theorem dL_wall_3 : decode cL_wall 3 = .ok (.invokevirtual 28, 3) := by decide +kernel
theorem dL_wall_6 : decode cL_wall 6 = .ok (.ireturn, 1) := by decide +kernel
theorem dL_wall_7 : decode cL_wall 7 = .ok (.astore_n 3, 1) := by decide +kernel
theorem dL_wall_8 : decode cL_wall 8 = .ok (.ldc 17, 2) := by decide +kernel
theorem dL_wall_10 : decode cL_wall 10 = .ok (.ireturn, 1) := by decide +kernel
theorem dL_wall_11 : decode cL_wall 11 = .ok (.astore_n 3, 1) := by decide +kernel
theorem dL_wall_12 : decode cL_wall 12 = .ok (.ldc 20, 2) := by decide +kernel
theorem dL_wall_14 : decode cL_wall 14 = .ok (.ireturn, 1) := by decide +kernel
theorem dL_set_0 : decode cL_set 0 = .ok (.aload_n 0, 1) := by decide +kernel
theorem dL_set_1 : decode cL_set 1 = .ok (.iload_n 1, 1) := by decide +kernel
theorem dL_set_2 : decode cL_set 2 = .ok (.iload_n 2, 1) := by decide +kernel
theorem dL_set_3 : decode cL_set 3 = .ok (.invokevirtual 32, 3) := by decide +kernel
theorem dL_set_6 : decode cL_set 6 = .ok (.ireturn, 1) := by decide +kernel
theorem dL_set_7 : decode cL_set 7 = .ok (.astore_n 3, 1) := by decide +kernel
theorem dL_set_8 : decode cL_set 8 = .ok (.ldc 17, 2) := by decide +kernel
theorem dL_set_10 : decode cL_set 10 = .ok (.ireturn, 1) := by decide +kernel
theorem dL_set_11 : decode cL_set 11 = .ok (.astore_n 3, 1) := by decide +kernel
theorem dL_set_12 : decode cL_set 12 = .ok (.ldc 20, 2) := by decide +kernel
theorem dL_set_14 : decode cL_set 14 = .ok (.ireturn, 1) := by decide +kernel
theorem dL_undo_0 : decode cL_undo 0 = .ok (.aload_n 0, 1) := by decide +kernel
theorem dL_undo_1 : decode cL_undo 1 = .ok (.invokevirtual 35, 3) := by decide +kernel
theorem dL_undo_4 : decode cL_undo 4 = .ok (.ireturn, 1) := by decide +kernel
theorem dL_undo_5 : decode cL_undo 5 = .ok (.astore_n 1, 1) := by decide +kernel
theorem dL_undo_6 : decode cL_undo 6 = .ok (.ldc 17, 2) := by decide +kernel
theorem dL_undo_8 : decode cL_undo 8 = .ok (.ireturn, 1) := by decide +kernel
theorem dL_restore_0 : decode cL_restore 0 = .ok (.aload_n 0, 1) := by decide +kernel
theorem dL_restore_1 : decode cL_restore 1 = .ok (.invokevirtual 39, 3) := by decide +kernel
theorem dL_restore_4 : decode cL_restore 4 = .ok (.ireturn, 1) := by decide +kernel
theorem dL_restore_5 : decode cL_restore 5 = .ok (.astore_n 1, 1) := by decide +kernel
theorem dL_restore_6 : decode cL_restore 6 = .ok (.ldc 17, 2) := by decide +kernel
theorem dL_restore_8 : decode cL_restore 8 = .ok (.ireturn, 1) := by decide +kernel
theorem dL_said_0 : decode cL_said 0 = .ok (.aload_n 0, 1) := by decide +kernel
theorem dL_said_1 : decode cL_said 1 = .ok (.iload_n 1, 1) := by decide +kernel
theorem dL_said_2 : decode cL_said 2 = .ok (.iload_n 2, 1) := by decide +kernel
theorem dL_said_3 : decode cL_said 3 = .ok (.invokevirtual 42, 3) := by decide +kernel
theorem dL_said_6 : decode cL_said 6 = .ok (.ireturn, 1) := by decide +kernel
theorem dL_said_7 : decode cL_said 7 = .ok (.astore_n 3, 1) := by decide +kernel
theorem dL_said_8 : decode cL_said 8 = .ok (.ldc 17, 2) := by decide +kernel
theorem dL_said_10 : decode cL_said 10 = .ok (.ireturn, 1) := by decide +kernel
theorem dL_comes_0 : decode cL_comes 0 = .ok (.aload_n 0, 1) := by decide +kernel
theorem dL_comes_1 : decode cL_comes 1 = .ok (.iload_n 1, 1) := by decide +kernel
theorem dL_comes_2 : decode cL_comes 2 = .ok (.iload_n 2, 1) := by decide +kernel
theorem dL_comes_3 : decode cL_comes 3 = .ok (.invokevirtual 45, 3) := by decide +kernel
theorem dL_comes_6 : decode cL_comes 6 = .ok (.ireturn, 1) := by decide +kernel
theorem dL_comes_7 : decode cL_comes 7 = .ok (.astore_n 3, 1) := by decide +kernel
theorem dL_comes_8 : decode cL_comes 8 = .ok (.ldc 17, 2) := by decide +kernel
theorem dL_comes_10 : decode cL_comes 10 = .ok (.ireturn, 1) := by decide +kernel
theorem dL_comes_11 : decode cL_comes 11 = .ok (.astore_n 3, 1) := by decide +kernel
theorem dL_comes_12 : decode cL_comes 12 = .ok (.ldc 20, 2) := by decide +kernel
theorem dL_comes_14 : decode cL_comes 14 = .ok (.ireturn, 1) := by decide +kernel
theorem dL_heard_0 : decode cL_heard 0 = .ok (.aload_n 0, 1) := by decide +kernel
theorem dL_heard_1 : decode cL_heard 1 = .ok (.iload_n 1, 1) := by decide +kernel
theorem dL_heard_2 : decode cL_heard 2 = .ok (.iload_n 2, 1) := by decide +kernel
theorem dL_heard_3 : decode cL_heard 3 = .ok (.iload_n 3, 1) := by decide +kernel
theorem dL_heard_4 : decode cL_heard 4 = .ok (.invokevirtual 48, 3) := by decide +kernel
theorem dL_heard_7 : decode cL_heard 7 = .ok (.ireturn, 1) := by decide +kernel
theorem dL_heard_8 : decode cL_heard 8 = .ok (.astore 4, 2) := by decide +kernel
theorem dL_heard_10 : decode cL_heard 10 = .ok (.ldc 17, 2) := by decide +kernel
theorem dL_heard_12 : decode cL_heard 12 = .ok (.ireturn, 1) := by decide +kernel
theorem dL_heard_13 : decode cL_heard 13 = .ok (.astore 4, 2) := by decide +kernel
theorem dL_heard_15 : decode cL_heard 15 = .ok (.ldc 20, 2) := by decide +kernel
theorem dL_heard_17 : decode cL_heard 17 = .ok (.ireturn, 1) := by decide +kernel
theorem dL_speaker_0 : decode cL_speaker 0 = .ok (.aload_n 0, 1) := by decide +kernel
theorem dL_speaker_1 : decode cL_speaker 1 = .ok (.iload_n 1, 1) := by decide +kernel
theorem dL_speaker_2 : decode cL_speaker 2 = .ok (.iload_n 2, 1) := by decide +kernel
theorem dL_speaker_3 : decode cL_speaker 3 = .ok (.invokevirtual 51, 3) := by decide +kernel
theorem dL_speaker_6 : decode cL_speaker 6 = .ok (.ireturn, 1) := by decide +kernel
theorem dL_speaker_7 : decode cL_speaker 7 = .ok (.astore_n 3, 1) := by decide +kernel
theorem dL_speaker_8 : decode cL_speaker 8 = .ok (.ldc 17, 2) := by decide +kernel
theorem dL_speaker_10 : decode cL_speaker 10 = .ok (.ireturn, 1) := by decide +kernel
theorem dL_speaker_11 : decode cL_speaker 11 = .ok (.astore_n 3, 1) := by decide +kernel
theorem dL_speaker_12 : decode cL_speaker 12 = .ok (.ldc 20, 2) := by decide +kernel
theorem dL_speaker_14 : decode cL_speaker 14 = .ok (.ireturn, 1) := by decide +kernel
theorem dL_message_0 : decode cL_message 0 = .ok (.aload_n 0, 1) := by decide +kernel
theorem dL_message_1 : decode cL_message 1 = .ok (.iload_n 1, 1) := by decide +kernel
theorem dL_message_2 : decode cL_message 2 = .ok (.iload_n 2, 1) := by decide +kernel
theorem dL_message_3 : decode cL_message 3 = .ok (.iload_n 3, 1) := by decide +kernel
theorem dL_message_4 : decode cL_message 4 = .ok (.invokevirtual 54, 3) := by decide +kernel
theorem dL_message_7 : decode cL_message 7 = .ok (.ireturn, 1) := by decide +kernel
theorem dL_message_8 : decode cL_message 8 = .ok (.astore 4, 2) := by decide +kernel
theorem dL_message_10 : decode cL_message 10 = .ok (.ldc 17, 2) := by decide +kernel
theorem dL_message_12 : decode cL_message 12 = .ok (.ireturn, 1) := by decide +kernel
theorem dL_message_13 : decode cL_message 13 = .ok (.astore 4, 2) := by decide +kernel
theorem dL_message_15 : decode cL_message 15 = .ok (.ldc 20, 2) := by decide +kernel
theorem dL_message_17 : decode cL_message 17 = .ok (.ireturn, 1) := by decide +kernel
theorem dL_count_0 : decode cL_count 0 = .ok (.aload_n 0, 1) := by decide +kernel
theorem dL_count_1 : decode cL_count 1 = .ok (.iload_n 1, 1) := by decide +kernel
theorem dL_count_2 : decode cL_count 2 = .ok (.invokevirtual 57, 3) := by decide +kernel
theorem dL_count_5 : decode cL_count 5 = .ok (.ireturn, 1) := by decide +kernel
theorem dL_count_6 : decode cL_count 6 = .ok (.astore_n 2, 1) := by decide +kernel
theorem dL_count_7 : decode cL_count 7 = .ok (.ldc 17, 2) := by decide +kernel
theorem dL_count_9 : decode cL_count 9 = .ok (.ireturn, 1) := by decide +kernel
theorem dL_whyNot_0 : decode cL_whyNot 0 = .ok (.aload_n 0, 1) := by decide +kernel
theorem dL_whyNot_1 : decode cL_whyNot 1 = .ok (.iload_n 1, 1) := by decide +kernel
theorem dL_whyNot_2 : decode cL_whyNot 2 = .ok (.iload_n 2, 1) := by decide +kernel
theorem dL_whyNot_3 : decode cL_whyNot 3 = .ok (.invokevirtual 60, 3) := by decide +kernel
theorem dL_whyNot_6 : decode cL_whyNot 6 = .ok (.ireturn, 1) := by decide +kernel
theorem dL_whyNot_7 : decode cL_whyNot 7 = .ok (.astore_n 3, 1) := by decide +kernel
theorem dL_whyNot_8 : decode cL_whyNot 8 = .ok (.ldc 17, 2) := by decide +kernel
theorem dL_whyNot_10 : decode cL_whyNot 10 = .ok (.ireturn, 1) := by decide +kernel
theorem dL_whyNot_11 : decode cL_whyNot 11 = .ok (.astore_n 3, 1) := by decide +kernel
theorem dL_whyNot_12 : decode cL_whyNot 12 = .ok (.ldc 20, 2) := by decide +kernel
theorem dL_whyNot_14 : decode cL_whyNot 14 = .ok (.ireturn, 1) := by decide +kernel
theorem dL_ifSilent_0 : decode cL_ifSilent 0 = .ok (.aload_n 0, 1) := by decide +kernel
theorem dL_ifSilent_1 : decode cL_ifSilent 1 = .ok (.iload_n 1, 1) := by decide +kernel
theorem dL_ifSilent_2 : decode cL_ifSilent 2 = .ok (.invokevirtual 63, 3) := by decide +kernel
theorem dL_ifSilent_5 : decode cL_ifSilent 5 = .ok (.ireturn, 1) := by decide +kernel
theorem dL_ifSilent_6 : decode cL_ifSilent 6 = .ok (.astore_n 2, 1) := by decide +kernel
theorem dL_ifSilent_7 : decode cL_ifSilent 7 = .ok (.ldc 17, 2) := by decide +kernel
theorem dL_ifSilent_9 : decode cL_ifSilent 9 = .ok (.ireturn, 1) := by decide +kernel
theorem dL_heardIn_0 : decode cL_heardIn 0 = .ok (.aload_n 0, 1) := by decide +kernel
theorem dL_heardIn_1 : decode cL_heardIn 1 = .ok (.iload_n 1, 1) := by decide +kernel
theorem dL_heardIn_2 : decode cL_heardIn 2 = .ok (.iload_n 2, 1) := by decide +kernel
theorem dL_heardIn_3 : decode cL_heardIn 3 = .ok (.invokevirtual 66, 3) := by decide +kernel
theorem dL_heardIn_6 : decode cL_heardIn 6 = .ok (.ireturn, 1) := by decide +kernel
theorem dL_heardIn_7 : decode cL_heardIn 7 = .ok (.astore_n 3, 1) := by decide +kernel
theorem dL_heardIn_8 : decode cL_heardIn 8 = .ok (.ldc 17, 2) := by decide +kernel
theorem dL_heardIn_10 : decode cL_heardIn 10 = .ok (.ireturn, 1) := by decide +kernel
theorem dL_heardIn_11 : decode cL_heardIn 11 = .ok (.astore_n 3, 1) := by decide +kernel
theorem dL_heardIn_12 : decode cL_heardIn 12 = .ok (.ldc 20, 2) := by decide +kernel
theorem dL_heardIn_14 : decode cL_heardIn 14 = .ok (.ireturn, 1) := by decide +kernel
theorem dL_acts_0 : decode cL_acts 0 = .ok (.iload_n 1, 1) := by decide +kernel
theorem dL_acts_1 : decode cL_acts 1 = .ok (.bipush 16, 2) := by decide +kernel
theorem dL_acts_3 : decode cL_acts 3 = .ok (.idiv, 1) := by decide +kernel
theorem dL_acts_4 : decode cL_acts 4 = .ok (.istore_n 2, 1) := by decide +kernel
theorem dL_acts_5 : decode cL_acts 5 = .ok (.iload_n 1, 1) := by decide +kernel
theorem dL_acts_6 : decode cL_acts 6 = .ok (.bipush 16, 2) := by decide +kernel
theorem dL_acts_8 : decode cL_acts 8 = .ok (.irem, 1) := by decide +kernel
theorem dL_acts_9 : decode cL_acts 9 = .ok (.tableswitch 103 0 3 #[31, 46, 60, 84], 31) := by decide +kernel
theorem dL_acts_40 : decode cL_acts 40 = .ok (.aload_n 0, 1) := by decide +kernel
theorem dL_acts_41 : decode cL_acts 41 = .ok (.iload_n 2, 1) := by decide +kernel
theorem dL_acts_42 : decode cL_acts 42 = .ok (.bipush 7, 2) := by decide +kernel
theorem dL_acts_44 : decode cL_acts 44 = .ok (.irem, 1) := by decide +kernel
theorem dL_acts_45 : decode cL_acts 45 = .ok (.iload_n 2, 1) := by decide +kernel
theorem dL_acts_46 : decode cL_acts 46 = .ok (.bipush 7, 2) := by decide +kernel
theorem dL_acts_48 : decode cL_acts 48 = .ok (.idiv, 1) := by decide +kernel
theorem dL_acts_49 : decode cL_acts 49 = .ok (.iconst 5, 1) := by decide +kernel
theorem dL_acts_50 : decode cL_acts 50 = .ok (.irem, 1) := by decide +kernel
theorem dL_acts_51 : decode cL_acts 51 = .ok (.invokestatic 69, 3) := by decide +kernel
theorem dL_acts_54 : decode cL_acts 54 = .ok (.ireturn, 1) := by decide +kernel
theorem dL_acts_55 : decode cL_acts 55 = .ok (.aload_n 0, 1) := by decide +kernel
theorem dL_acts_56 : decode cL_acts 56 = .ok (.iload_n 2, 1) := by decide +kernel
theorem dL_acts_57 : decode cL_acts 57 = .ok (.iconst 4, 1) := by decide +kernel
theorem dL_acts_58 : decode cL_acts 58 = .ok (.irem, 1) := by decide +kernel
theorem dL_acts_59 : decode cL_acts 59 = .ok (.iload_n 2, 1) := by decide +kernel
theorem dL_acts_60 : decode cL_acts 60 = .ok (.iconst 4, 1) := by decide +kernel
theorem dL_acts_61 : decode cL_acts 61 = .ok (.idiv, 1) := by decide +kernel
theorem dL_acts_62 : decode cL_acts 62 = .ok (.bipush 12, 2) := by decide +kernel
theorem dL_acts_64 : decode cL_acts 64 = .ok (.irem, 1) := by decide +kernel
theorem dL_acts_65 : decode cL_acts 65 = .ok (.invokestatic 74, 3) := by decide +kernel
theorem dL_acts_68 : decode cL_acts 68 = .ok (.ireturn, 1) := by decide +kernel
theorem dL_acts_69 : decode cL_acts 69 = .ok (.aload_n 0, 1) := by decide +kernel
theorem dL_acts_70 : decode cL_acts 70 = .ok (.iload_n 2, 1) := by decide +kernel
theorem dL_acts_71 : decode cL_acts 71 = .ok (.iconst 4, 1) := by decide +kernel
theorem dL_acts_72 : decode cL_acts 72 = .ok (.irem, 1) := by decide +kernel
theorem dL_acts_73 : decode cL_acts 73 = .ok (.iload_n 2, 1) := by decide +kernel
theorem dL_acts_74 : decode cL_acts 74 = .ok (.iconst 4, 1) := by decide +kernel
theorem dL_acts_75 : decode cL_acts 75 = .ok (.idiv, 1) := by decide +kernel
theorem dL_acts_76 : decode cL_acts 76 = .ok (.bipush 30, 2) := by decide +kernel
theorem dL_acts_78 : decode cL_acts 78 = .ok (.irem, 1) := by decide +kernel
theorem dL_acts_79 : decode cL_acts 79 = .ok (.ifCond .ne 8, 3) := by decide +kernel
theorem dL_acts_82 : decode cL_acts 82 = .ok (.bipush 50, 2) := by decide +kernel
theorem dL_acts_84 : decode cL_acts 84 = .ok (.goto 4, 3) := by decide +kernel
theorem dL_acts_87 : decode cL_acts 87 = .ok (.iconst 0, 1) := by decide +kernel
theorem dL_acts_88 : decode cL_acts 88 = .ok (.iadd, 1) := by decide +kernel
theorem dL_acts_89 : decode cL_acts 89 = .ok (.invokestatic 76, 3) := by decide +kernel
theorem dL_acts_92 : decode cL_acts 92 = .ok (.ireturn, 1) := by decide +kernel
theorem dL_acts_93 : decode cL_acts 93 = .ok (.iload_n 2, 1) := by decide +kernel
theorem dL_acts_94 : decode cL_acts 94 = .ok (.iconst 2, 1) := by decide +kernel
theorem dL_acts_95 : decode cL_acts 95 = .ok (.irem, 1) := by decide +kernel
theorem dL_acts_96 : decode cL_acts 96 = .ok (.ifCond .ne 10, 3) := by decide +kernel
theorem dL_acts_99 : decode cL_acts 99 = .ok (.aload_n 0, 1) := by decide +kernel
theorem dL_acts_100 : decode cL_acts 100 = .ok (.invokestatic 79, 3) := by decide +kernel
theorem dL_acts_103 : decode cL_acts 103 = .ok (.goto 8, 3) := by decide +kernel
theorem dL_acts_106 : decode cL_acts 106 = .ok (.aload_n 0, 1) := by decide +kernel
theorem dL_acts_107 : decode cL_acts 107 = .ok (.iconst 1, 1) := by decide +kernel
theorem dL_acts_108 : decode cL_acts 108 = .ok (.invokestatic 76, 3) := by decide +kernel
theorem dL_acts_111 : decode cL_acts 111 = .ok (.ireturn, 1) := by decide +kernel
theorem dL_acts_112 : decode cL_acts 112 = .ok (.aload_n 0, 1) := by decide +kernel
theorem dL_acts_113 : decode cL_acts 113 = .ok (.iload_n 2, 1) := by decide +kernel
theorem dL_acts_114 : decode cL_acts 114 = .ok (.bipush 13, 2) := by decide +kernel
theorem dL_acts_116 : decode cL_acts 116 = .ok (.irem, 1) := by decide +kernel
theorem dL_acts_117 : decode cL_acts 117 = .ok (.ifCond .ne 8, 3) := by decide +kernel
theorem dL_acts_120 : decode cL_acts 120 = .ok (.bipush 6, 2) := by decide +kernel
theorem dL_acts_122 : decode cL_acts 122 = .ok (.goto 7, 3) := by decide +kernel
theorem dL_acts_125 : decode cL_acts 125 = .ok (.iload_n 2, 1) := by decide +kernel
theorem dL_acts_126 : decode cL_acts 126 = .ok (.bipush 6, 2) := by decide +kernel
theorem dL_acts_128 : decode cL_acts 128 = .ok (.irem, 1) := by decide +kernel
theorem dL_acts_129 : decode cL_acts 129 = .ok (.iload_n 2, 1) := by decide +kernel
theorem dL_acts_130 : decode cL_acts 130 = .ok (.bipush 13, 2) := by decide +kernel
theorem dL_acts_132 : decode cL_acts 132 = .ok (.idiv, 1) := by decide +kernel
theorem dL_acts_133 : decode cL_acts 133 = .ok (.bipush 101, 2) := by decide +kernel
theorem dL_acts_135 : decode cL_acts 135 = .ok (.irem, 1) := by decide +kernel
theorem dL_acts_136 : decode cL_acts 136 = .ok (.iload_n 2, 1) := by decide +kernel
theorem dL_acts_137 : decode cL_acts 137 = .ok (.sipush 1313, 3) := by decide +kernel
theorem dL_acts_140 : decode cL_acts 140 = .ok (.idiv, 1) := by decide +kernel
theorem dL_acts_141 : decode cL_acts 141 = .ok (.bipush 12, 2) := by decide +kernel
theorem dL_acts_143 : decode cL_acts 143 = .ok (.irem, 1) := by decide +kernel
theorem dL_acts_144 : decode cL_acts 144 = .ok (.iconst 1, 1) := by decide +kernel
theorem dL_acts_145 : decode cL_acts 145 = .ok (.isub, 1) := by decide +kernel
theorem dL_acts_146 : decode cL_acts 146 = .ok (.invokestatic 82, 3) := by decide +kernel
theorem dL_acts_149 : decode cL_acts 149 = .ok (.ireturn, 1) := by decide +kernel
theorem dL_hangs_0 : decode cL_hangs 0 = .ok (.aload_n 0, 1) := by decide +kernel
theorem dL_hangs_1 : decode cL_hangs 1 = .ok (.iconst 0, 1) := by decide +kernel
theorem dL_hangs_2 : decode cL_hangs 2 = .ok (.invokestatic 85, 3) := by decide +kernel
theorem dL_hangs_5 : decode cL_hangs 5 = .ok (.istore_n 1, 1) := by decide +kernel
theorem dL_hangs_6 : decode cL_hangs 6 = .ok (.aload_n 0, 1) := by decide +kernel
theorem dL_hangs_7 : decode cL_hangs 7 = .ok (.iconst 1, 1) := by decide +kernel
theorem dL_hangs_8 : decode cL_hangs 8 = .ok (.invokestatic 85, 3) := by decide +kernel
theorem dL_hangs_11 : decode cL_hangs 11 = .ok (.istore_n 2, 1) := by decide +kernel
theorem dL_hangs_12 : decode cL_hangs 12 = .ok (.iconst 0, 1) := by decide +kernel
theorem dL_hangs_13 : decode cL_hangs 13 = .ok (.istore_n 3, 1) := by decide +kernel
theorem dL_hangs_14 : decode cL_hangs 14 = .ok (.iconst 0, 1) := by decide +kernel
theorem dL_hangs_15 : decode cL_hangs 15 = .ok (.istore 4, 2) := by decide +kernel
theorem dL_hangs_17 : decode cL_hangs 17 = .ok (.iload_n 2, 1) := by decide +kernel
theorem dL_hangs_18 : decode cL_hangs 18 = .ok (.iload_n 1, 1) := by decide +kernel
theorem dL_hangs_19 : decode cL_hangs 19 = .ok (.if_icmp .gt 29, 3) := by decide +kernel
theorem dL_hangs_22 : decode cL_hangs 22 = .ok (.aload_n 0, 1) := by decide +kernel
theorem dL_hangs_23 : decode cL_hangs 23 = .ok (.iload_n 2, 1) := by decide +kernel
theorem dL_hangs_24 : decode cL_hangs 24 = .ok (.iconst 0, 1) := by decide +kernel
theorem dL_hangs_25 : decode cL_hangs 25 = .ok (.invokestatic 87, 3) := by decide +kernel
theorem dL_hangs_28 : decode cL_hangs 28 = .ok (.iconst (-1), 1) := by decide +kernel
theorem dL_hangs_29 : decode cL_hangs 29 = .ok (.if_icmp .ne 19, 3) := by decide +kernel
theorem dL_hangs_32 : decode cL_hangs 32 = .ok (.aload_n 0, 1) := by decide +kernel
theorem dL_hangs_33 : decode cL_hangs 33 = .ok (.iload_n 2, 1) := by decide +kernel
theorem dL_hangs_34 : decode cL_hangs 34 = .ok (.bipush 6, 2) := by decide +kernel
theorem dL_hangs_36 : decode cL_hangs 36 = .ok (.invokestatic 87, 3) := by decide +kernel
theorem dL_hangs_39 : decode cL_hangs 39 = .ok (.ldc 17, 2) := by decide +kernel
theorem dL_hangs_41 : decode cL_hangs 41 = .ok (.if_icmp .ne 7, 3) := by decide +kernel
theorem dL_hangs_44 : decode cL_hangs 44 = .ok (.iconst 1, 1) := by decide +kernel
theorem dL_hangs_45 : decode cL_hangs 45 = .ok (.goto 4, 3) := by decide +kernel
theorem dL_hangs_48 : decode cL_hangs 48 = .ok (.iconst 0, 1) := by decide +kernel
theorem dL_hangs_49 : decode cL_hangs 49 = .ok (.istore 5, 2) := by decide +kernel
theorem dL_hangs_51 : decode cL_hangs 51 = .ok (.bipush 6, 2) := by decide +kernel
theorem dL_hangs_53 : decode cL_hangs 53 = .ok (.newarray .int, 2) := by decide +kernel
theorem dL_hangs_55 : decode cL_hangs 55 = .ok (.astore 6, 2) := by decide +kernel
theorem dL_hangs_57 : decode cL_hangs 57 = .ok (.bipush 6, 2) := by decide +kernel
theorem dL_hangs_59 : decode cL_hangs 59 = .ok (.newarray .int, 2) := by decide +kernel
theorem dL_hangs_61 : decode cL_hangs 61 = .ok (.astore 7, 2) := by decide +kernel
theorem dL_hangs_63 : decode cL_hangs 63 = .ok (.iconst 0, 1) := by decide +kernel
theorem dL_hangs_64 : decode cL_hangs 64 = .ok (.istore 8, 2) := by decide +kernel
theorem dL_hangs_66 : decode cL_hangs 66 = .ok (.iload 8, 2) := by decide +kernel
theorem dL_hangs_68 : decode cL_hangs 68 = .ok (.iload_n 2, 1) := by decide +kernel
theorem dL_hangs_69 : decode cL_hangs 69 = .ok (.if_icmp .ge 348, 3) := by decide +kernel
theorem dL_hangs_72 : decode cL_hangs 72 = .ok (.iload 5, 2) := by decide +kernel
theorem dL_hangs_74 : decode cL_hangs 74 = .ok (.ifCond .eq 343, 3) := by decide +kernel
theorem dL_hangs_77 : decode cL_hangs 77 = .ok (.aload_n 0, 1) := by decide +kernel
theorem dL_hangs_78 : decode cL_hangs 78 = .ok (.iload 8, 2) := by decide +kernel
theorem dL_hangs_80 : decode cL_hangs 80 = .ok (.iconst 4, 1) := by decide +kernel
theorem dL_hangs_81 : decode cL_hangs 81 = .ok (.invokestatic 87, 3) := by decide +kernel
theorem dL_hangs_84 : decode cL_hangs 84 = .ok (.istore 9, 2) := by decide +kernel
theorem dL_hangs_86 : decode cL_hangs 86 = .ok (.aload_n 0, 1) := by decide +kernel
theorem dL_hangs_87 : decode cL_hangs 87 = .ok (.iload 8, 2) := by decide +kernel
theorem dL_hangs_89 : decode cL_hangs 89 = .ok (.iconst 5, 1) := by decide +kernel
theorem dL_hangs_90 : decode cL_hangs 90 = .ok (.invokestatic 87, 3) := by decide +kernel
theorem dL_hangs_93 : decode cL_hangs 93 = .ok (.istore 10, 2) := by decide +kernel
theorem dL_hangs_95 : decode cL_hangs 95 = .ok (.aload_n 0, 1) := by decide +kernel
theorem dL_hangs_96 : decode cL_hangs 96 = .ok (.iload 8, 2) := by decide +kernel
theorem dL_hangs_98 : decode cL_hangs 98 = .ok (.iconst 3, 1) := by decide +kernel
theorem dL_hangs_99 : decode cL_hangs 99 = .ok (.invokestatic 87, 3) := by decide +kernel
theorem dL_hangs_102 : decode cL_hangs 102 = .ok (.istore 11, 2) := by decide +kernel
theorem dL_hangs_104 : decode cL_hangs 104 = .ok (.iload_n 3, 1) := by decide +kernel
theorem dL_hangs_105 : decode cL_hangs 105 = .ok (.iload 10, 2) := by decide +kernel
theorem dL_hangs_107 : decode cL_hangs 107 = .ok (.bipush 63, 2) := by decide +kernel
theorem dL_hangs_109 : decode cL_hangs 109 = .ok (.if_icmp .ne 7, 3) := by decide +kernel
theorem dL_hangs_112 : decode cL_hangs 112 = .ok (.iconst 1, 1) := by decide +kernel
theorem dL_hangs_113 : decode cL_hangs 113 = .ok (.goto 4, 3) := by decide +kernel
theorem dL_hangs_116 : decode cL_hangs 116 = .ok (.iconst 0, 1) := by decide +kernel
theorem dL_hangs_117 : decode cL_hangs 117 = .ok (.iadd, 1) := by decide +kernel
theorem dL_hangs_118 : decode cL_hangs 118 = .ok (.istore_n 3, 1) := by decide +kernel
theorem dL_hangs_119 : decode cL_hangs 119 = .ok (.iload 4, 2) := by decide +kernel
theorem dL_hangs_121 : decode cL_hangs 121 = .ok (.iload 10, 2) := by decide +kernel
theorem dL_hangs_123 : decode cL_hangs 123 = .ok (.ifCond .ne 7, 3) := by decide +kernel
theorem dL_hangs_126 : decode cL_hangs 126 = .ok (.iconst 1, 1) := by decide +kernel
theorem dL_hangs_127 : decode cL_hangs 127 = .ok (.goto 4, 3) := by decide +kernel
theorem dL_hangs_130 : decode cL_hangs 130 = .ok (.iconst 0, 1) := by decide +kernel
theorem dL_hangs_131 : decode cL_hangs 131 = .ok (.iadd, 1) := by decide +kernel
theorem dL_hangs_132 : decode cL_hangs 132 = .ok (.istore 4, 2) := by decide +kernel
theorem dL_hangs_134 : decode cL_hangs 134 = .ok (.iload 10, 2) := by decide +kernel
theorem dL_hangs_136 : decode cL_hangs 136 = .ok (.iload 9, 2) := by decide +kernel
theorem dL_hangs_138 : decode cL_hangs 138 = .ok (.iconst (-1), 1) := by decide +kernel
theorem dL_hangs_139 : decode cL_hangs 139 = .ok (.ixor, 1) := by decide +kernel
theorem dL_hangs_140 : decode cL_hangs 140 = .ok (.iand, 1) := by decide +kernel
theorem dL_hangs_141 : decode cL_hangs 141 = .ok (.ifCond .ne 40, 3) := by decide +kernel
theorem dL_hangs_144 : decode cL_hangs 144 = .ok (.iload 11, 2) := by decide +kernel
theorem dL_hangs_146 : decode cL_hangs 146 = .ok (.ifCond .lt 35, 3) := by decide +kernel
theorem dL_hangs_149 : decode cL_hangs 149 = .ok (.iload 11, 2) := by decide +kernel
theorem dL_hangs_151 : decode cL_hangs 151 = .ok (.iload_n 1, 1) := by decide +kernel
theorem dL_hangs_152 : decode cL_hangs 152 = .ok (.if_icmp .ge 29, 3) := by decide +kernel
theorem dL_hangs_155 : decode cL_hangs 155 = .ok (.aload_n 0, 1) := by decide +kernel
theorem dL_hangs_156 : decode cL_hangs 156 = .ok (.iload 8, 2) := by decide +kernel
theorem dL_hangs_158 : decode cL_hangs 158 = .ok (.iconst 0, 1) := by decide +kernel
theorem dL_hangs_159 : decode cL_hangs 159 = .ok (.invokestatic 87, 3) := by decide +kernel
theorem dL_hangs_162 : decode cL_hangs 162 = .ok (.ifCond .lt 19, 3) := by decide +kernel
theorem dL_hangs_165 : decode cL_hangs 165 = .ok (.aload_n 0, 1) := by decide +kernel
theorem dL_hangs_166 : decode cL_hangs 166 = .ok (.iload 8, 2) := by decide +kernel
theorem dL_hangs_168 : decode cL_hangs 168 = .ok (.iconst 0, 1) := by decide +kernel
theorem dL_hangs_169 : decode cL_hangs 169 = .ok (.invokestatic 87, 3) := by decide +kernel
theorem dL_hangs_172 : decode cL_hangs 172 = .ok (.bipush 6, 2) := by decide +kernel
theorem dL_hangs_174 : decode cL_hangs 174 = .ok (.if_icmp .ge 7, 3) := by decide +kernel
theorem dL_hangs_177 : decode cL_hangs 177 = .ok (.iconst 1, 1) := by decide +kernel
theorem dL_hangs_178 : decode cL_hangs 178 = .ok (.goto 4, 3) := by decide +kernel
theorem dL_hangs_181 : decode cL_hangs 181 = .ok (.iconst 0, 1) := by decide +kernel
theorem dL_hangs_182 : decode cL_hangs 182 = .ok (.istore 5, 2) := by decide +kernel
theorem dL_hangs_184 : decode cL_hangs 184 = .ok (.iconst 0, 1) := by decide +kernel
theorem dL_hangs_185 : decode cL_hangs 185 = .ok (.istore 12, 2) := by decide +kernel
theorem dL_hangs_187 : decode cL_hangs 187 = .ok (.iload 12, 2) := by decide +kernel
theorem dL_hangs_189 : decode cL_hangs 189 = .ok (.bipush 6, 2) := by decide +kernel
theorem dL_hangs_191 : decode cL_hangs 191 = .ok (.if_icmp .ge 201, 3) := by decide +kernel
theorem dL_hangs_194 : decode cL_hangs 194 = .ok (.iload 5, 2) := by decide +kernel
theorem dL_hangs_196 : decode cL_hangs 196 = .ok (.ifCond .eq 196, 3) := by decide +kernel
theorem dL_hangs_199 : decode cL_hangs 199 = .ok (.aload_n 0, 1) := by decide +kernel
theorem dL_hangs_200 : decode cL_hangs 200 = .ok (.iload 8, 2) := by decide +kernel
theorem dL_hangs_202 : decode cL_hangs 202 = .ok (.iload 12, 2) := by decide +kernel
theorem dL_hangs_204 : decode cL_hangs 204 = .ok (.invokestatic 89, 3) := by decide +kernel
theorem dL_hangs_207 : decode cL_hangs 207 = .ok (.istore 13, 2) := by decide +kernel
theorem dL_hangs_209 : decode cL_hangs 209 = .ok (.aload_n 0, 1) := by decide +kernel
theorem dL_hangs_210 : decode cL_hangs 210 = .ok (.iload 8, 2) := by decide +kernel
theorem dL_hangs_212 : decode cL_hangs 212 = .ok (.iload 12, 2) := by decide +kernel
theorem dL_hangs_214 : decode cL_hangs 214 = .ok (.invokestatic 91, 3) := by decide +kernel
theorem dL_hangs_217 : decode cL_hangs 217 = .ok (.istore 14, 2) := by decide +kernel
theorem dL_hangs_219 : decode cL_hangs 219 = .ok (.iload 13, 2) := by decide +kernel
theorem dL_hangs_221 : decode cL_hangs 221 = .ok (.ifCond .lt 7, 3) := by decide +kernel
theorem dL_hangs_224 : decode cL_hangs 224 = .ok (.iconst 1, 1) := by decide +kernel
theorem dL_hangs_225 : decode cL_hangs 225 = .ok (.goto 4, 3) := by decide +kernel
theorem dL_hangs_228 : decode cL_hangs 228 = .ok (.iconst 0, 1) := by decide +kernel
theorem dL_hangs_229 : decode cL_hangs 229 = .ok (.iload 9, 2) := by decide +kernel
theorem dL_hangs_231 : decode cL_hangs 231 = .ok (.iload 12, 2) := by decide +kernel
theorem dL_hangs_233 : decode cL_hangs 233 = .ok (.ishr, 1) := by decide +kernel
theorem dL_hangs_234 : decode cL_hangs 234 = .ok (.iconst 1, 1) := by decide +kernel
theorem dL_hangs_235 : decode cL_hangs 235 = .ok (.iand, 1) := by decide +kernel
theorem dL_hangs_236 : decode cL_hangs 236 = .ok (.iconst 1, 1) := by decide +kernel
theorem dL_hangs_237 : decode cL_hangs 237 = .ok (.if_icmp .ne 7, 3) := by decide +kernel
theorem dL_hangs_240 : decode cL_hangs 240 = .ok (.iconst 1, 1) := by decide +kernel
theorem dL_hangs_241 : decode cL_hangs 241 = .ok (.goto 4, 3) := by decide +kernel
theorem dL_hangs_244 : decode cL_hangs 244 = .ok (.iconst 0, 1) := by decide +kernel
theorem dL_hangs_245 : decode cL_hangs 245 = .ok (.if_icmp .ne 58, 3) := by decide +kernel
theorem dL_hangs_248 : decode cL_hangs 248 = .ok (.iload 13, 2) := by decide +kernel
theorem dL_hangs_250 : decode cL_hangs 250 = .ok (.ifCond .lt 20, 3) := by decide +kernel
theorem dL_hangs_253 : decode cL_hangs 253 = .ok (.iload 13, 2) := by decide +kernel
theorem dL_hangs_255 : decode cL_hangs 255 = .ok (.iload 11, 2) := by decide +kernel
theorem dL_hangs_257 : decode cL_hangs 257 = .ok (.if_icmp .lt 46, 3) := by decide +kernel
theorem dL_hangs_260 : decode cL_hangs 260 = .ok (.iload 13, 2) := by decide +kernel
theorem dL_hangs_262 : decode cL_hangs 262 = .ok (.iload 11, 2) := by decide +kernel
theorem dL_hangs_264 : decode cL_hangs 264 = .ok (.bipush 19, 2) := by decide +kernel
theorem dL_hangs_266 : decode cL_hangs 266 = .ok (.iadd, 1) := by decide +kernel
theorem dL_hangs_267 : decode cL_hangs 267 = .ok (.if_icmp .gt 36, 3) := by decide +kernel
theorem dL_hangs_270 : decode cL_hangs 270 = .ok (.iload 14, 2) := by decide +kernel
theorem dL_hangs_272 : decode cL_hangs 272 = .ok (.ifCond .ne 7, 3) := by decide +kernel
theorem dL_hangs_275 : decode cL_hangs 275 = .ok (.iconst 1, 1) := by decide +kernel
theorem dL_hangs_276 : decode cL_hangs 276 = .ok (.goto 4, 3) := by decide +kernel
theorem dL_hangs_279 : decode cL_hangs 279 = .ok (.iconst 0, 1) := by decide +kernel
theorem dL_hangs_280 : decode cL_hangs 280 = .ok (.iload 10, 2) := by decide +kernel
theorem dL_hangs_282 : decode cL_hangs 282 = .ok (.iload 12, 2) := by decide +kernel
theorem dL_hangs_284 : decode cL_hangs 284 = .ok (.ishr, 1) := by decide +kernel
theorem dL_hangs_285 : decode cL_hangs 285 = .ok (.iconst 1, 1) := by decide +kernel
theorem dL_hangs_286 : decode cL_hangs 286 = .ok (.iand, 1) := by decide +kernel
theorem dL_hangs_287 : decode cL_hangs 287 = .ok (.iconst 1, 1) := by decide +kernel
theorem dL_hangs_288 : decode cL_hangs 288 = .ok (.if_icmp .ne 7, 3) := by decide +kernel
theorem dL_hangs_291 : decode cL_hangs 291 = .ok (.iconst 1, 1) := by decide +kernel
theorem dL_hangs_292 : decode cL_hangs 292 = .ok (.goto 4, 3) := by decide +kernel
theorem dL_hangs_295 : decode cL_hangs 295 = .ok (.iconst 0, 1) := by decide +kernel
theorem dL_hangs_296 : decode cL_hangs 296 = .ok (.if_icmp .ne 7, 3) := by decide +kernel
theorem dL_hangs_299 : decode cL_hangs 299 = .ok (.iconst 1, 1) := by decide +kernel
theorem dL_hangs_300 : decode cL_hangs 300 = .ok (.goto 4, 3) := by decide +kernel
theorem dL_hangs_303 : decode cL_hangs 303 = .ok (.iconst 0, 1) := by decide +kernel
theorem dL_hangs_304 : decode cL_hangs 304 = .ok (.istore 5, 2) := by decide +kernel
theorem dL_hangs_306 : decode cL_hangs 306 = .ok (.iload 5, 2) := by decide +kernel
theorem dL_hangs_308 : decode cL_hangs 308 = .ok (.ifCond .eq 60, 3) := by decide +kernel
theorem dL_hangs_311 : decode cL_hangs 311 = .ok (.iload 13, 2) := by decide +kernel
theorem dL_hangs_313 : decode cL_hangs 313 = .ok (.ifCond .ge 9, 3) := by decide +kernel
theorem dL_hangs_316 : decode cL_hangs 316 = .ok (.iload 14, 2) := by decide +kernel
theorem dL_hangs_318 : decode cL_hangs 318 = .ok (.iconst 1, 1) := by decide +kernel
theorem dL_hangs_319 : decode cL_hangs 319 = .ok (.if_icmp .ne 49, 3) := by decide +kernel
theorem dL_hangs_322 : decode cL_hangs 322 = .ok (.iload 14, 2) := by decide +kernel
theorem dL_hangs_324 : decode cL_hangs 324 = .ok (.ifCond .eq 24, 3) := by decide +kernel
theorem dL_hangs_327 : decode cL_hangs 327 = .ok (.iload 13, 2) := by decide +kernel
theorem dL_hangs_329 : decode cL_hangs 329 = .ok (.ifCond .lt 19, 3) := by decide +kernel
theorem dL_hangs_332 : decode cL_hangs 332 = .ok (.iload 14, 2) := by decide +kernel
theorem dL_hangs_334 : decode cL_hangs 334 = .ok (.iload 13, 2) := by decide +kernel
theorem dL_hangs_336 : decode cL_hangs 336 = .ok (.iload_n 1, 1) := by decide +kernel
theorem dL_hangs_337 : decode cL_hangs 337 = .ok (.if_icmp .lt 7, 3) := by decide +kernel
theorem dL_hangs_340 : decode cL_hangs 340 = .ok (.iconst 2, 1) := by decide +kernel
theorem dL_hangs_341 : decode cL_hangs 341 = .ok (.goto 4, 3) := by decide +kernel
theorem dL_hangs_344 : decode cL_hangs 344 = .ok (.iconst 3, 1) := by decide +kernel
theorem dL_hangs_345 : decode cL_hangs 345 = .ok (.if_icmp .ne 23, 3) := by decide +kernel
theorem dL_hangs_348 : decode cL_hangs 348 = .ok (.iload 14, 2) := by decide +kernel
theorem dL_hangs_350 : decode cL_hangs 350 = .ok (.ifCond .ne 14, 3) := by decide +kernel
theorem dL_hangs_353 : decode cL_hangs 353 = .ok (.aload_n 0, 1) := by decide +kernel
theorem dL_hangs_354 : decode cL_hangs 354 = .ok (.iload 8, 2) := by decide +kernel
theorem dL_hangs_356 : decode cL_hangs 356 = .ok (.iload 12, 2) := by decide +kernel
theorem dL_hangs_358 : decode cL_hangs 358 = .ok (.invokestatic 93, 3) := by decide +kernel
theorem dL_hangs_361 : decode cL_hangs 361 = .ok (.ifCond .ne 7, 3) := by decide +kernel
theorem dL_hangs_364 : decode cL_hangs 364 = .ok (.iconst 1, 1) := by decide +kernel
theorem dL_hangs_365 : decode cL_hangs 365 = .ok (.goto 4, 3) := by decide +kernel
theorem dL_hangs_368 : decode cL_hangs 368 = .ok (.iconst 0, 1) := by decide +kernel
theorem dL_hangs_369 : decode cL_hangs 369 = .ok (.istore 5, 2) := by decide +kernel
theorem dL_hangs_371 : decode cL_hangs 371 = .ok (.aload 6, 2) := by decide +kernel
theorem dL_hangs_373 : decode cL_hangs 373 = .ok (.iload 12, 2) := by decide +kernel
theorem dL_hangs_375 : decode cL_hangs 375 = .ok (.dup2, 1) := by decide +kernel
theorem dL_hangs_376 : decode cL_hangs 376 = .ok (.iaload, 1) := by decide +kernel
theorem dL_hangs_377 : decode cL_hangs 377 = .ok (.iload 10, 2) := by decide +kernel
theorem dL_hangs_379 : decode cL_hangs 379 = .ok (.iload 12, 2) := by decide +kernel
theorem dL_hangs_381 : decode cL_hangs 381 = .ok (.ishr, 1) := by decide +kernel
theorem dL_hangs_382 : decode cL_hangs 382 = .ok (.iconst 1, 1) := by decide +kernel
theorem dL_hangs_383 : decode cL_hangs 383 = .ok (.iand, 1) := by decide +kernel
theorem dL_hangs_384 : decode cL_hangs 384 = .ok (.iadd, 1) := by decide +kernel
theorem dL_hangs_385 : decode cL_hangs 385 = .ok (.iastore, 1) := by decide +kernel
theorem dL_hangs_386 : decode cL_hangs 386 = .ok (.iinc 12 1, 3) := by decide +kernel
theorem dL_hangs_389 : decode cL_hangs 389 = .ok (.goto (-202), 3) := by decide +kernel
theorem dL_hangs_392 : decode cL_hangs 392 = .ok (.iload 5, 2) := by decide +kernel
theorem dL_hangs_394 : decode cL_hangs 394 = .ok (.ifCond .eq 17, 3) := by decide +kernel
theorem dL_hangs_397 : decode cL_hangs 397 = .ok (.aload 7, 2) := by decide +kernel
theorem dL_hangs_399 : decode cL_hangs 399 = .ok (.aload_n 0, 1) := by decide +kernel
theorem dL_hangs_400 : decode cL_hangs 400 = .ok (.iload 8, 2) := by decide +kernel
theorem dL_hangs_402 : decode cL_hangs 402 = .ok (.iconst 0, 1) := by decide +kernel
theorem dL_hangs_403 : decode cL_hangs 403 = .ok (.invokestatic 87, 3) := by decide +kernel
theorem dL_hangs_406 : decode cL_hangs 406 = .ok (.dup2, 1) := by decide +kernel
theorem dL_hangs_407 : decode cL_hangs 407 = .ok (.iaload, 1) := by decide +kernel
theorem dL_hangs_408 : decode cL_hangs 408 = .ok (.iconst 1, 1) := by decide +kernel
theorem dL_hangs_409 : decode cL_hangs 409 = .ok (.iadd, 1) := by decide +kernel
theorem dL_hangs_410 : decode cL_hangs 410 = .ok (.iastore, 1) := by decide +kernel
theorem dL_hangs_411 : decode cL_hangs 411 = .ok (.iinc 8 1, 3) := by decide +kernel
theorem dL_hangs_414 : decode cL_hangs 414 = .ok (.goto (-348), 3) := by decide +kernel
theorem dL_hangs_417 : decode cL_hangs 417 = .ok (.iload 5, 2) := by decide +kernel
theorem dL_hangs_419 : decode cL_hangs 419 = .ok (.ifCond .eq 26, 3) := by decide +kernel
theorem dL_hangs_422 : decode cL_hangs 422 = .ok (.aload_n 0, 1) := by decide +kernel
theorem dL_hangs_423 : decode cL_hangs 423 = .ok (.iconst 2, 1) := by decide +kernel
theorem dL_hangs_424 : decode cL_hangs 424 = .ok (.invokestatic 85, 3) := by decide +kernel
theorem dL_hangs_427 : decode cL_hangs 427 = .ok (.iload_n 3, 1) := by decide +kernel
theorem dL_hangs_428 : decode cL_hangs 428 = .ok (.if_icmp .ne 17, 3) := by decide +kernel
theorem dL_hangs_431 : decode cL_hangs 431 = .ok (.aload_n 0, 1) := by decide +kernel
theorem dL_hangs_432 : decode cL_hangs 432 = .ok (.iconst 3, 1) := by decide +kernel
theorem dL_hangs_433 : decode cL_hangs 433 = .ok (.invokestatic 85, 3) := by decide +kernel
theorem dL_hangs_436 : decode cL_hangs 436 = .ok (.iload 4, 2) := by decide +kernel
theorem dL_hangs_438 : decode cL_hangs 438 = .ok (.if_icmp .ne 7, 3) := by decide +kernel
theorem dL_hangs_441 : decode cL_hangs 441 = .ok (.iconst 1, 1) := by decide +kernel
theorem dL_hangs_442 : decode cL_hangs 442 = .ok (.goto 4, 3) := by decide +kernel
theorem dL_hangs_445 : decode cL_hangs 445 = .ok (.iconst 0, 1) := by decide +kernel
theorem dL_hangs_446 : decode cL_hangs 446 = .ok (.istore 5, 2) := by decide +kernel
theorem dL_hangs_448 : decode cL_hangs 448 = .ok (.iconst 0, 1) := by decide +kernel
theorem dL_hangs_449 : decode cL_hangs 449 = .ok (.istore 8, 2) := by decide +kernel
theorem dL_hangs_451 : decode cL_hangs 451 = .ok (.iload 8, 2) := by decide +kernel
theorem dL_hangs_453 : decode cL_hangs 453 = .ok (.bipush 6, 2) := by decide +kernel
theorem dL_hangs_455 : decode cL_hangs 455 = .ok (.if_icmp .ge 296, 3) := by decide +kernel
theorem dL_hangs_458 : decode cL_hangs 458 = .ok (.iload 5, 2) := by decide +kernel
theorem dL_hangs_460 : decode cL_hangs 460 = .ok (.ifCond .eq 291, 3) := by decide +kernel
theorem dL_hangs_463 : decode cL_hangs 463 = .ok (.iconst 0, 1) := by decide +kernel
theorem dL_hangs_464 : decode cL_hangs 464 = .ok (.istore 9, 2) := by decide +kernel
theorem dL_hangs_466 : decode cL_hangs 466 = .ok (.iconst 0, 1) := by decide +kernel
theorem dL_hangs_467 : decode cL_hangs 467 = .ok (.istore 10, 2) := by decide +kernel
theorem dL_hangs_469 : decode cL_hangs 469 = .ok (.iconst 0, 1) := by decide +kernel
theorem dL_hangs_470 : decode cL_hangs 470 = .ok (.istore 11, 2) := by decide +kernel
theorem dL_hangs_472 : decode cL_hangs 472 = .ok (.iload 11, 2) := by decide +kernel
theorem dL_hangs_474 : decode cL_hangs 474 = .ok (.iload_n 1, 1) := by decide +kernel
theorem dL_hangs_475 : decode cL_hangs 475 = .ok (.if_icmp .ge 137, 3) := by decide +kernel
theorem dL_hangs_478 : decode cL_hangs 478 = .ok (.iload 5, 2) := by decide +kernel
theorem dL_hangs_480 : decode cL_hangs 480 = .ok (.ifCond .eq 132, 3) := by decide +kernel
theorem dL_hangs_483 : decode cL_hangs 483 = .ok (.aload_n 0, 1) := by decide +kernel
theorem dL_hangs_484 : decode cL_hangs 484 = .ok (.iload 8, 2) := by decide +kernel
theorem dL_hangs_486 : decode cL_hangs 486 = .ok (.iload 11, 2) := by decide +kernel
theorem dL_hangs_488 : decode cL_hangs 488 = .ok (.iconst 0, 1) := by decide +kernel
theorem dL_hangs_489 : decode cL_hangs 489 = .ok (.invokestatic 95, 3) := by decide +kernel
theorem dL_hangs_492 : decode cL_hangs 492 = .ok (.istore 12, 2) := by decide +kernel
theorem dL_hangs_494 : decode cL_hangs 494 = .ok (.iload 9, 2) := by decide +kernel
theorem dL_hangs_496 : decode cL_hangs 496 = .ok (.iload 12, 2) := by decide +kernel
theorem dL_hangs_498 : decode cL_hangs 498 = .ok (.ifCond .lt 7, 3) := by decide +kernel
theorem dL_hangs_501 : decode cL_hangs 501 = .ok (.iconst 1, 1) := by decide +kernel
theorem dL_hangs_502 : decode cL_hangs 502 = .ok (.goto 4, 3) := by decide +kernel
theorem dL_hangs_505 : decode cL_hangs 505 = .ok (.iconst 0, 1) := by decide +kernel
theorem dL_hangs_506 : decode cL_hangs 506 = .ok (.iadd, 1) := by decide +kernel
theorem dL_hangs_507 : decode cL_hangs 507 = .ok (.istore 9, 2) := by decide +kernel
theorem dL_hangs_509 : decode cL_hangs 509 = .ok (.iload 10, 2) := by decide +kernel
theorem dL_hangs_511 : decode cL_hangs 511 = .ok (.aload_n 0, 1) := by decide +kernel
theorem dL_hangs_512 : decode cL_hangs 512 = .ok (.iload 8, 2) := by decide +kernel
theorem dL_hangs_514 : decode cL_hangs 514 = .ok (.iload 11, 2) := by decide +kernel
theorem dL_hangs_516 : decode cL_hangs 516 = .ok (.iconst 2, 1) := by decide +kernel
theorem dL_hangs_517 : decode cL_hangs 517 = .ok (.invokestatic 95, 3) := by decide +kernel
theorem dL_hangs_520 : decode cL_hangs 520 = .ok (.iconst 1, 1) := by decide +kernel
theorem dL_hangs_521 : decode cL_hangs 521 = .ok (.if_icmp .ne 7, 3) := by decide +kernel
theorem dL_hangs_524 : decode cL_hangs 524 = .ok (.iconst 1, 1) := by decide +kernel
theorem dL_hangs_525 : decode cL_hangs 525 = .ok (.goto 4, 3) := by decide +kernel
theorem dL_hangs_528 : decode cL_hangs 528 = .ok (.iconst 0, 1) := by decide +kernel
theorem dL_hangs_529 : decode cL_hangs 529 = .ok (.iadd, 1) := by decide +kernel
theorem dL_hangs_530 : decode cL_hangs 530 = .ok (.istore 10, 2) := by decide +kernel
theorem dL_hangs_532 : decode cL_hangs 532 = .ok (.iload 12, 2) := by decide +kernel
theorem dL_hangs_534 : decode cL_hangs 534 = .ok (.ifCond .ge 24, 3) := by decide +kernel
theorem dL_hangs_537 : decode cL_hangs 537 = .ok (.aload_n 0, 1) := by decide +kernel
theorem dL_hangs_538 : decode cL_hangs 538 = .ok (.iload 8, 2) := by decide +kernel
theorem dL_hangs_540 : decode cL_hangs 540 = .ok (.iload 11, 2) := by decide +kernel
theorem dL_hangs_542 : decode cL_hangs 542 = .ok (.iconst 1, 1) := by decide +kernel
theorem dL_hangs_543 : decode cL_hangs 543 = .ok (.invokestatic 95, 3) := by decide +kernel
theorem dL_hangs_546 : decode cL_hangs 546 = .ok (.iconst (-1), 1) := by decide +kernel
theorem dL_hangs_547 : decode cL_hangs 547 = .ok (.if_icmp .ne 7, 3) := by decide +kernel
theorem dL_hangs_550 : decode cL_hangs 550 = .ok (.iconst 1, 1) := by decide +kernel
theorem dL_hangs_551 : decode cL_hangs 551 = .ok (.goto 53, 3) := by decide +kernel
theorem dL_hangs_554 : decode cL_hangs 554 = .ok (.iconst 0, 1) := by decide +kernel
theorem dL_hangs_555 : decode cL_hangs 555 = .ok (.goto 49, 3) := by decide +kernel
theorem dL_hangs_558 : decode cL_hangs 558 = .ok (.iload 12, 2) := by decide +kernel
theorem dL_hangs_560 : decode cL_hangs 560 = .ok (.iload_n 2, 1) := by decide +kernel
theorem dL_hangs_561 : decode cL_hangs 561 = .ok (.if_icmp .ge 42, 3) := by decide +kernel
theorem dL_hangs_564 : decode cL_hangs 564 = .ok (.aload_n 0, 1) := by decide +kernel
theorem dL_hangs_565 : decode cL_hangs 565 = .ok (.iload 12, 2) := by decide +kernel
theorem dL_hangs_567 : decode cL_hangs 567 = .ok (.iload 8, 2) := by decide +kernel
theorem dL_hangs_569 : decode cL_hangs 569 = .ok (.invokestatic 89, 3) := by decide +kernel
theorem dL_hangs_572 : decode cL_hangs 572 = .ok (.ifCond .lt 31, 3) := by decide +kernel
theorem dL_hangs_575 : decode cL_hangs 575 = .ok (.aload_n 0, 1) := by decide +kernel
theorem dL_hangs_576 : decode cL_hangs 576 = .ok (.iload 12, 2) := by decide +kernel
theorem dL_hangs_578 : decode cL_hangs 578 = .ok (.iload 8, 2) := by decide +kernel
theorem dL_hangs_580 : decode cL_hangs 580 = .ok (.invokestatic 89, 3) := by decide +kernel
theorem dL_hangs_583 : decode cL_hangs 583 = .ok (.iload 11, 2) := by decide +kernel
theorem dL_hangs_585 : decode cL_hangs 585 = .ok (.if_icmp .gt 18, 3) := by decide +kernel
theorem dL_hangs_588 : decode cL_hangs 588 = .ok (.aload_n 0, 1) := by decide +kernel
theorem dL_hangs_589 : decode cL_hangs 589 = .ok (.iload 12, 2) := by decide +kernel
theorem dL_hangs_591 : decode cL_hangs 591 = .ok (.iload 8, 2) := by decide +kernel
theorem dL_hangs_593 : decode cL_hangs 593 = .ok (.invokestatic 91, 3) := by decide +kernel
theorem dL_hangs_596 : decode cL_hangs 596 = .ok (.ifCond .ne 7, 3) := by decide +kernel
theorem dL_hangs_599 : decode cL_hangs 599 = .ok (.iconst 1, 1) := by decide +kernel
theorem dL_hangs_600 : decode cL_hangs 600 = .ok (.goto 4, 3) := by decide +kernel
theorem dL_hangs_603 : decode cL_hangs 603 = .ok (.iconst 0, 1) := by decide +kernel
theorem dL_hangs_604 : decode cL_hangs 604 = .ok (.istore 5, 2) := by decide +kernel
theorem dL_hangs_606 : decode cL_hangs 606 = .ok (.iinc 11 1, 3) := by decide +kernel
theorem dL_hangs_609 : decode cL_hangs 609 = .ok (.goto (-137), 3) := by decide +kernel
theorem dL_hangs_612 : decode cL_hangs 612 = .ok (.iload 5, 2) := by decide +kernel
theorem dL_hangs_614 : decode cL_hangs 614 = .ok (.ifCond .eq 57, 3) := by decide +kernel
theorem dL_hangs_617 : decode cL_hangs 617 = .ok (.aload_n 0, 1) := by decide +kernel
theorem dL_hangs_618 : decode cL_hangs 618 = .ok (.iload 8, 2) := by decide +kernel
theorem dL_hangs_620 : decode cL_hangs 620 = .ok (.iconst 1, 1) := by decide +kernel
theorem dL_hangs_621 : decode cL_hangs 621 = .ok (.invokestatic 97, 3) := by decide +kernel
theorem dL_hangs_624 : decode cL_hangs 624 = .ok (.iload 9, 2) := by decide +kernel
theorem dL_hangs_626 : decode cL_hangs 626 = .ok (.if_icmp .ne 45, 3) := by decide +kernel
theorem dL_hangs_629 : decode cL_hangs 629 = .ok (.aload_n 0, 1) := by decide +kernel
theorem dL_hangs_630 : decode cL_hangs 630 = .ok (.iload 8, 2) := by decide +kernel
theorem dL_hangs_632 : decode cL_hangs 632 = .ok (.iconst 3, 1) := by decide +kernel
theorem dL_hangs_633 : decode cL_hangs 633 = .ok (.invokestatic 97, 3) := by decide +kernel
theorem dL_hangs_636 : decode cL_hangs 636 = .ok (.iload 10, 2) := by decide +kernel
theorem dL_hangs_638 : decode cL_hangs 638 = .ok (.if_icmp .ne 33, 3) := by decide +kernel
theorem dL_hangs_641 : decode cL_hangs 641 = .ok (.aload_n 0, 1) := by decide +kernel
theorem dL_hangs_642 : decode cL_hangs 642 = .ok (.iload 8, 2) := by decide +kernel
theorem dL_hangs_644 : decode cL_hangs 644 = .ok (.iconst 4, 1) := by decide +kernel
theorem dL_hangs_645 : decode cL_hangs 645 = .ok (.invokestatic 97, 3) := by decide +kernel
theorem dL_hangs_648 : decode cL_hangs 648 = .ok (.iload_n 1, 1) := by decide +kernel
theorem dL_hangs_649 : decode cL_hangs 649 = .ok (.iload 9, 2) := by decide +kernel
theorem dL_hangs_651 : decode cL_hangs 651 = .ok (.isub, 1) := by decide +kernel
theorem dL_hangs_652 : decode cL_hangs 652 = .ok (.if_icmp .ne 19, 3) := by decide +kernel
theorem dL_hangs_655 : decode cL_hangs 655 = .ok (.aload_n 0, 1) := by decide +kernel
theorem dL_hangs_656 : decode cL_hangs 656 = .ok (.iload 8, 2) := by decide +kernel
theorem dL_hangs_658 : decode cL_hangs 658 = .ok (.iconst 5, 1) := by decide +kernel
theorem dL_hangs_659 : decode cL_hangs 659 = .ok (.invokestatic 97, 3) := by decide +kernel
theorem dL_hangs_662 : decode cL_hangs 662 = .ok (.iload 9, 2) := by decide +kernel
theorem dL_hangs_664 : decode cL_hangs 664 = .ok (.if_icmp .gt 7, 3) := by decide +kernel
theorem dL_hangs_667 : decode cL_hangs 667 = .ok (.iconst 1, 1) := by decide +kernel
theorem dL_hangs_668 : decode cL_hangs 668 = .ok (.goto 4, 3) := by decide +kernel
theorem dL_hangs_671 : decode cL_hangs 671 = .ok (.iconst 0, 1) := by decide +kernel
theorem dL_hangs_672 : decode cL_hangs 672 = .ok (.istore 5, 2) := by decide +kernel
theorem dL_hangs_674 : decode cL_hangs 674 = .ok (.iload 5, 2) := by decide +kernel
theorem dL_hangs_676 : decode cL_hangs 676 = .ok (.ifCond .eq 66, 3) := by decide +kernel
theorem dL_hangs_679 : decode cL_hangs 679 = .ok (.aload_n 0, 1) := by decide +kernel
theorem dL_hangs_680 : decode cL_hangs 680 = .ok (.iload 8, 2) := by decide +kernel
theorem dL_hangs_682 : decode cL_hangs 682 = .ok (.iconst 2, 1) := by decide +kernel
theorem dL_hangs_683 : decode cL_hangs 683 = .ok (.invokestatic 97, 3) := by decide +kernel
theorem dL_hangs_686 : decode cL_hangs 686 = .ok (.aload 6, 2) := by decide +kernel
theorem dL_hangs_688 : decode cL_hangs 688 = .ok (.iload 8, 2) := by decide +kernel
theorem dL_hangs_690 : decode cL_hangs 690 = .ok (.iaload, 1) := by decide +kernel
theorem dL_hangs_691 : decode cL_hangs 691 = .ok (.if_icmp .ne 51, 3) := by decide +kernel
theorem dL_hangs_694 : decode cL_hangs 694 = .ok (.aload_n 0, 1) := by decide +kernel
theorem dL_hangs_695 : decode cL_hangs 695 = .ok (.iload 8, 2) := by decide +kernel
theorem dL_hangs_697 : decode cL_hangs 697 = .ok (.bipush 7, 2) := by decide +kernel
theorem dL_hangs_699 : decode cL_hangs 699 = .ok (.invokestatic 97, 3) := by decide +kernel
theorem dL_hangs_702 : decode cL_hangs 702 = .ok (.aload 6, 2) := by decide +kernel
theorem dL_hangs_704 : decode cL_hangs 704 = .ok (.iload 8, 2) := by decide +kernel
theorem dL_hangs_706 : decode cL_hangs 706 = .ok (.iaload, 1) := by decide +kernel
theorem dL_hangs_707 : decode cL_hangs 707 = .ok (.if_icmp .ne 35, 3) := by decide +kernel
theorem dL_hangs_710 : decode cL_hangs 710 = .ok (.aload_n 0, 1) := by decide +kernel
theorem dL_hangs_711 : decode cL_hangs 711 = .ok (.iload 8, 2) := by decide +kernel
theorem dL_hangs_713 : decode cL_hangs 713 = .ok (.bipush 6, 2) := by decide +kernel
theorem dL_hangs_715 : decode cL_hangs 715 = .ok (.invokestatic 97, 3) := by decide +kernel
theorem dL_hangs_718 : decode cL_hangs 718 = .ok (.aload 7, 2) := by decide +kernel
theorem dL_hangs_720 : decode cL_hangs 720 = .ok (.iload 8, 2) := by decide +kernel
theorem dL_hangs_722 : decode cL_hangs 722 = .ok (.iaload, 1) := by decide +kernel
theorem dL_hangs_723 : decode cL_hangs 723 = .ok (.if_icmp .ne 19, 3) := by decide +kernel
theorem dL_hangs_726 : decode cL_hangs 726 = .ok (.aload_n 0, 1) := by decide +kernel
theorem dL_hangs_727 : decode cL_hangs 727 = .ok (.iload 8, 2) := by decide +kernel
theorem dL_hangs_729 : decode cL_hangs 729 = .ok (.iload_n 1, 1) := by decide +kernel
theorem dL_hangs_730 : decode cL_hangs 730 = .ok (.iconst 0, 1) := by decide +kernel
theorem dL_hangs_731 : decode cL_hangs 731 = .ok (.invokestatic 95, 3) := by decide +kernel
theorem dL_hangs_734 : decode cL_hangs 734 = .ok (.iconst (-1), 1) := by decide +kernel
theorem dL_hangs_735 : decode cL_hangs 735 = .ok (.if_icmp .ne 7, 3) := by decide +kernel
theorem dL_hangs_738 : decode cL_hangs 738 = .ok (.iconst 1, 1) := by decide +kernel
theorem dL_hangs_739 : decode cL_hangs 739 = .ok (.goto 4, 3) := by decide +kernel
theorem dL_hangs_742 : decode cL_hangs 742 = .ok (.iconst 0, 1) := by decide +kernel
theorem dL_hangs_743 : decode cL_hangs 743 = .ok (.istore 5, 2) := by decide +kernel
theorem dL_hangs_745 : decode cL_hangs 745 = .ok (.iinc 8 1, 3) := by decide +kernel
theorem dL_hangs_748 : decode cL_hangs 748 = .ok (.goto (-297), 3) := by decide +kernel
theorem dL_hangs_751 : decode cL_hangs 751 = .ok (.iload 5, 2) := by decide +kernel
theorem dL_hangs_753 : decode cL_hangs 753 = .ok (.ireturn, 1) := by decide +kernel
theorem dL_tells_0 : decode cL_tells 0 = .ok (.aload_n 0, 1) := by decide +kernel
theorem dL_tells_1 : decode cL_tells 1 = .ok (.bipush 6, 2) := by decide +kernel
theorem dL_tells_3 : decode cL_tells 3 = .ok (.iload_n 2, 1) := by decide +kernel
theorem dL_tells_4 : decode cL_tells 4 = .ok (.iconst 0, 1) := by decide +kernel
theorem dL_tells_5 : decode cL_tells 5 = .ok (.invokestatic 99, 3) := by decide +kernel
theorem dL_tells_8 : decode cL_tells 8 = .ok (.ldc 17, 2) := by decide +kernel
theorem dL_tells_10 : decode cL_tells 10 = .ok (.if_icmp .ne 20, 3) := by decide +kernel
theorem dL_tells_13 : decode cL_tells 13 = .ok (.aload_n 0, 1) := by decide +kernel
theorem dL_tells_14 : decode cL_tells 14 = .ok (.iload_n 1, 1) := by decide +kernel
theorem dL_tells_15 : decode cL_tells 15 = .ok (.bipush 10, 2) := by decide +kernel
theorem dL_tells_17 : decode cL_tells 17 = .ok (.iconst 0, 1) := by decide +kernel
theorem dL_tells_18 : decode cL_tells 18 = .ok (.invokestatic 99, 3) := by decide +kernel
theorem dL_tells_21 : decode cL_tells 21 = .ok (.ldc 20, 2) := by decide +kernel
theorem dL_tells_23 : decode cL_tells 23 = .ok (.if_icmp .ne 7, 3) := by decide +kernel
theorem dL_tells_26 : decode cL_tells 26 = .ok (.iconst 1, 1) := by decide +kernel
theorem dL_tells_27 : decode cL_tells 27 = .ok (.goto 4, 3) := by decide +kernel
theorem dL_tells_30 : decode cL_tells 30 = .ok (.iconst 0, 1) := by decide +kernel
theorem dL_tells_31 : decode cL_tells 31 = .ok (.istore_n 3, 1) := by decide +kernel
theorem dL_tells_32 : decode cL_tells 32 = .ok (.aload_n 0, 1) := by decide +kernel
theorem dL_tells_33 : decode cL_tells 33 = .ok (.iload_n 1, 1) := by decide +kernel
theorem dL_tells_34 : decode cL_tells 34 = .ok (.iload_n 2, 1) := by decide +kernel
theorem dL_tells_35 : decode cL_tells 35 = .ok (.iconst 0, 1) := by decide +kernel
theorem dL_tells_36 : decode cL_tells 36 = .ok (.invokestatic 99, 3) := by decide +kernel
theorem dL_tells_39 : decode cL_tells 39 = .ok (.iconst (-1), 1) := by decide +kernel
theorem dL_tells_40 : decode cL_tells 40 = .ok (.if_icmp .eq 7, 3) := by decide +kernel
theorem dL_tells_43 : decode cL_tells 43 = .ok (.iconst 1, 1) := by decide +kernel
theorem dL_tells_44 : decode cL_tells 44 = .ok (.goto 4, 3) := by decide +kernel
theorem dL_tells_47 : decode cL_tells 47 = .ok (.iconst 0, 1) := by decide +kernel
theorem dL_tells_48 : decode cL_tells 48 = .ok (.istore 4, 2) := by decide +kernel
theorem dL_tells_50 : decode cL_tells 50 = .ok (.iconst 0, 1) := by decide +kernel
theorem dL_tells_51 : decode cL_tells 51 = .ok (.istore 5, 2) := by decide +kernel
theorem dL_tells_53 : decode cL_tells 53 = .ok (.iload 5, 2) := by decide +kernel
theorem dL_tells_55 : decode cL_tells 55 = .ok (.bipush 6, 2) := by decide +kernel
theorem dL_tells_57 : decode cL_tells 57 = .ok (.if_icmp .ge 57, 3) := by decide +kernel
theorem dL_tells_60 : decode cL_tells 60 = .ok (.iload_n 3, 1) := by decide +kernel
theorem dL_tells_61 : decode cL_tells 61 = .ok (.ifCond .eq 53, 3) := by decide +kernel
theorem dL_tells_64 : decode cL_tells 64 = .ok (.aload_n 0, 1) := by decide +kernel
theorem dL_tells_65 : decode cL_tells 65 = .ok (.iload_n 1, 1) := by decide +kernel
theorem dL_tells_66 : decode cL_tells 66 = .ok (.iload_n 2, 1) := by decide +kernel
theorem dL_tells_67 : decode cL_tells 67 = .ok (.iload 5, 2) := by decide +kernel
theorem dL_tells_69 : decode cL_tells 69 = .ok (.invokestatic 99, 3) := by decide +kernel
theorem dL_tells_72 : decode cL_tells 72 = .ok (.istore 6, 2) := by decide +kernel
theorem dL_tells_74 : decode cL_tells 74 = .ok (.iload 6, 2) := by decide +kernel
theorem dL_tells_76 : decode cL_tells 76 = .ok (.iconst (-1), 1) := by decide +kernel
theorem dL_tells_77 : decode cL_tells 77 = .ok (.if_icmp .eq 7, 3) := by decide +kernel
theorem dL_tells_80 : decode cL_tells 80 = .ok (.iconst 1, 1) := by decide +kernel
theorem dL_tells_81 : decode cL_tells 81 = .ok (.goto 4, 3) := by decide +kernel
theorem dL_tells_84 : decode cL_tells 84 = .ok (.iconst 0, 1) := by decide +kernel
theorem dL_tells_85 : decode cL_tells 85 = .ok (.iload 4, 2) := by decide +kernel
theorem dL_tells_87 : decode cL_tells 87 = .ok (.if_icmp .ne 19, 3) := by decide +kernel
theorem dL_tells_90 : decode cL_tells 90 = .ok (.iload 6, 2) := by decide +kernel
theorem dL_tells_92 : decode cL_tells 92 = .ok (.iconst (-1), 1) := by decide +kernel
theorem dL_tells_93 : decode cL_tells 93 = .ok (.if_icmp .lt 13, 3) := by decide +kernel
theorem dL_tells_96 : decode cL_tells 96 = .ok (.iload 6, 2) := by decide +kernel
theorem dL_tells_98 : decode cL_tells 98 = .ok (.iconst 3, 1) := by decide +kernel
theorem dL_tells_99 : decode cL_tells 99 = .ok (.if_icmp .gt 7, 3) := by decide +kernel
theorem dL_tells_102 : decode cL_tells 102 = .ok (.iconst 1, 1) := by decide +kernel
theorem dL_tells_103 : decode cL_tells 103 = .ok (.goto 4, 3) := by decide +kernel
theorem dL_tells_106 : decode cL_tells 106 = .ok (.iconst 0, 1) := by decide +kernel
theorem dL_tells_107 : decode cL_tells 107 = .ok (.istore_n 3, 1) := by decide +kernel
theorem dL_tells_108 : decode cL_tells 108 = .ok (.iinc 5 1, 3) := by decide +kernel
theorem dL_tells_111 : decode cL_tells 111 = .ok (.goto (-58), 3) := by decide +kernel
theorem dL_tells_114 : decode cL_tells 114 = .ok (.iload_n 3, 1) := by decide +kernel
theorem dL_tells_115 : decode cL_tells 115 = .ok (.ireturn, 1) := by decide +kernel
theorem dL_law_0 : decode cL_law 0 = .ok (.new 10, 3) := by decide +kernel
theorem dL_law_3 : decode cL_law 3 = .ok (.dup, 1) := by decide +kernel
theorem dL_law_4 : decode cL_law 4 = .ok (.invokespecial 101, 3) := by decide +kernel
theorem dL_law_7 : decode cL_law 7 = .ok (.astore_n 1, 1) := by decide +kernel
theorem dL_law_8 : decode cL_law 8 = .ok (.aload_n 1, 1) := by decide +kernel
theorem dL_law_9 : decode cL_law 9 = .ok (.invokestatic 102, 3) := by decide +kernel
theorem dL_law_12 : decode cL_law 12 = .ok (.ldc 17, 2) := by decide +kernel
theorem dL_law_14 : decode cL_law 14 = .ok (.if_icmp .ne 23, 3) := by decide +kernel
theorem dL_law_17 : decode cL_law 17 = .ok (.aload_n 1, 1) := by decide +kernel
theorem dL_law_18 : decode cL_law 18 = .ok (.invokestatic 79, 3) := by decide +kernel
theorem dL_law_21 : decode cL_law 21 = .ok (.ldc 17, 2) := by decide +kernel
theorem dL_law_23 : decode cL_law 23 = .ok (.if_icmp .ne 14, 3) := by decide +kernel
theorem dL_law_26 : decode cL_law 26 = .ok (.aload_n 1, 1) := by decide +kernel
theorem dL_law_27 : decode cL_law 27 = .ok (.invokevirtual 104, 3) := by decide +kernel
theorem dL_law_30 : decode cL_law 30 = .ok (.ifCond .ne 7, 3) := by decide +kernel
theorem dL_law_33 : decode cL_law 33 = .ok (.iconst 1, 1) := by decide +kernel
theorem dL_law_34 : decode cL_law 34 = .ok (.goto 4, 3) := by decide +kernel
theorem dL_law_37 : decode cL_law 37 = .ok (.iconst 0, 1) := by decide +kernel
theorem dL_law_38 : decode cL_law 38 = .ok (.istore_n 2, 1) := by decide +kernel
theorem dL_law_39 : decode cL_law 39 = .ok (.iconst 0, 1) := by decide +kernel
theorem dL_law_40 : decode cL_law 40 = .ok (.istore_n 3, 1) := by decide +kernel
theorem dL_law_41 : decode cL_law 41 = .ok (.iload_n 3, 1) := by decide +kernel
theorem dL_law_42 : decode cL_law 42 = .ok (.bipush 30, 2) := by decide +kernel
theorem dL_law_44 : decode cL_law 44 = .ok (.if_icmp .ge 390, 3) := by decide +kernel
theorem dL_law_47 : decode cL_law 47 = .ok (.iload_n 2, 1) := by decide +kernel
theorem dL_law_48 : decode cL_law 48 = .ok (.ifCond .eq 386, 3) := by decide +kernel
theorem dL_law_51 : decode cL_law 51 = .ok (.aload_n 0, 1) := by decide +kernel
theorem dL_law_52 : decode cL_law 52 = .ok (.iload_n 3, 1) := by decide +kernel
theorem dL_law_53 : decode cL_law 53 = .ok (.invokestatic 107, 3) := by decide +kernel
theorem dL_law_56 : decode cL_law 56 = .ok (.istore 4, 2) := by decide +kernel
theorem dL_law_58 : decode cL_law 58 = .ok (.aload_n 1, 1) := by decide +kernel
theorem dL_law_59 : decode cL_law 59 = .ok (.invokevirtual 111, 3) := by decide +kernel
theorem dL_law_62 : decode cL_law 62 = .ok (.lstore 5, 2) := by decide +kernel
theorem dL_law_64 : decode cL_law 64 = .ok (.aload_n 1, 1) := by decide +kernel
theorem dL_law_65 : decode cL_law 65 = .ok (.bipush 9, 2) := by decide +kernel
theorem dL_law_67 : decode cL_law 67 = .ok (.invokestatic 85, 3) := by decide +kernel
theorem dL_law_70 : decode cL_law 70 = .ok (.istore 7, 2) := by decide +kernel
theorem dL_law_72 : decode cL_law 72 = .ok (.iload 4, 2) := by decide +kernel
theorem dL_law_74 : decode cL_law 74 = .ok (.iconst 3, 1) := by decide +kernel
theorem dL_law_75 : decode cL_law 75 = .ok (.idiv, 1) := by decide +kernel
theorem dL_law_76 : decode cL_law 76 = .ok (.bipush 6, 2) := by decide +kernel
theorem dL_law_78 : decode cL_law 78 = .ok (.irem, 1) := by decide +kernel
theorem dL_law_79 : decode cL_law 79 = .ok (.istore 8, 2) := by decide +kernel
theorem dL_law_81 : decode cL_law 81 = .ok (.aload_n 1, 1) := by decide +kernel
theorem dL_law_82 : decode cL_law 82 = .ok (.iload 8, 2) := by decide +kernel
theorem dL_law_84 : decode cL_law 84 = .ok (.invokestatic 115, 3) := by decide +kernel
theorem dL_law_87 : decode cL_law 87 = .ok (.istore 9, 2) := by decide +kernel
theorem dL_law_89 : decode cL_law 89 = .ok (.aload_n 1, 1) := by decide +kernel
theorem dL_law_90 : decode cL_law 90 = .ok (.iconst 0, 1) := by decide +kernel
theorem dL_law_91 : decode cL_law 91 = .ok (.invokestatic 85, 3) := by decide +kernel
theorem dL_law_94 : decode cL_law 94 = .ok (.istore 10, 2) := by decide +kernel
theorem dL_law_96 : decode cL_law 96 = .ok (.aload_n 1, 1) := by decide +kernel
theorem dL_law_97 : decode cL_law 97 = .ok (.iload 4, 2) := by decide +kernel
theorem dL_law_99 : decode cL_law 99 = .ok (.invokestatic 117, 3) := by decide +kernel
theorem dL_law_102 : decode cL_law 102 = .ok (.istore 11, 2) := by decide +kernel
theorem dL_law_104 : decode cL_law 104 = .ok (.iload 11, 2) := by decide +kernel
theorem dL_law_106 : decode cL_law 106 = .ok (.ldc 120, 2) := by decide +kernel
theorem dL_law_108 : decode cL_law 108 = .ok (.if_icmp .ge 22, 3) := by decide +kernel
theorem dL_law_111 : decode cL_law 111 = .ok (.aload_n 1, 1) := by decide +kernel
theorem dL_law_112 : decode cL_law 112 = .ok (.invokevirtual 111, 3) := by decide +kernel
theorem dL_law_115 : decode cL_law 115 = .ok (.lload 5, 2) := by decide +kernel
theorem dL_law_117 : decode cL_law 117 = .ok (.lcmp, 1) := by decide +kernel
theorem dL_law_118 : decode cL_law 118 = .ok (.ifCond .ne 7, 3) := by decide +kernel
theorem dL_law_121 : decode cL_law 121 = .ok (.iconst 1, 1) := by decide +kernel
theorem dL_law_122 : decode cL_law 122 = .ok (.goto 4, 3) := by decide +kernel
theorem dL_law_125 : decode cL_law 125 = .ok (.iconst 0, 1) := by decide +kernel
theorem dL_law_126 : decode cL_law 126 = .ok (.istore_n 2, 1) := by decide +kernel
theorem dL_law_127 : decode cL_law 127 = .ok (.goto 257, 3) := by decide +kernel
theorem dL_law_130 : decode cL_law 130 = .ok (.aload_n 1, 1) := by decide +kernel
theorem dL_law_131 : decode cL_law 131 = .ok (.bipush 9, 2) := by decide +kernel
theorem dL_law_133 : decode cL_law 133 = .ok (.invokestatic 85, 3) := by decide +kernel
theorem dL_law_136 : decode cL_law 136 = .ok (.iload 7, 2) := by decide +kernel
theorem dL_law_138 : decode cL_law 138 = .ok (.bipush 6, 2) := by decide +kernel
theorem dL_law_140 : decode cL_law 140 = .ok (.if_icmp .ne 8, 3) := by decide +kernel
theorem dL_law_143 : decode cL_law 143 = .ok (.bipush 6, 2) := by decide +kernel
theorem dL_law_145 : decode cL_law 145 = .ok (.goto 7, 3) := by decide +kernel
theorem dL_law_148 : decode cL_law 148 = .ok (.iload 7, 2) := by decide +kernel
theorem dL_law_150 : decode cL_law 150 = .ok (.iconst 1, 1) := by decide +kernel
theorem dL_law_151 : decode cL_law 151 = .ok (.iadd, 1) := by decide +kernel
theorem dL_law_152 : decode cL_law 152 = .ok (.if_icmp .ne 30, 3) := by decide +kernel
theorem dL_law_155 : decode cL_law 155 = .ok (.iload 4, 2) := by decide +kernel
theorem dL_law_157 : decode cL_law 157 = .ok (.bipush 16, 2) := by decide +kernel
theorem dL_law_159 : decode cL_law 159 = .ok (.irem, 1) := by decide +kernel
theorem dL_law_160 : decode cL_law 160 = .ok (.iconst 2, 1) := by decide +kernel
theorem dL_law_161 : decode cL_law 161 = .ok (.if_icmp .ne 17, 3) := by decide +kernel
theorem dL_law_164 : decode cL_law 164 = .ok (.aload_n 1, 1) := by decide +kernel
theorem dL_law_165 : decode cL_law 165 = .ok (.iload 8, 2) := by decide +kernel
theorem dL_law_167 : decode cL_law 167 = .ok (.iload 10, 2) := by decide +kernel
theorem dL_law_169 : decode cL_law 169 = .ok (.iconst 0, 1) := by decide +kernel
theorem dL_law_170 : decode cL_law 170 = .ok (.invokestatic 95, 3) := by decide +kernel
theorem dL_law_173 : decode cL_law 173 = .ok (.iload 9, 2) := by decide +kernel
theorem dL_law_175 : decode cL_law 175 = .ok (.if_icmp .ne 7, 3) := by decide +kernel
theorem dL_law_178 : decode cL_law 178 = .ok (.iconst 1, 1) := by decide +kernel
theorem dL_law_179 : decode cL_law 179 = .ok (.goto 4, 3) := by decide +kernel
theorem dL_law_182 : decode cL_law 182 = .ok (.iconst 0, 1) := by decide +kernel
theorem dL_law_183 : decode cL_law 183 = .ok (.istore_n 2, 1) := by decide +kernel
theorem dL_law_184 : decode cL_law 184 = .ok (.iload_n 2, 1) := by decide +kernel
theorem dL_law_185 : decode cL_law 185 = .ok (.ifCond .eq 39, 3) := by decide +kernel
theorem dL_law_188 : decode cL_law 188 = .ok (.iload 4, 2) := by decide +kernel
theorem dL_law_190 : decode cL_law 190 = .ok (.bipush 7, 2) := by decide +kernel
theorem dL_law_192 : decode cL_law 192 = .ok (.irem, 1) := by decide +kernel
theorem dL_law_193 : decode cL_law 193 = .ok (.ifCond .gt 27, 3) := by decide +kernel
theorem dL_law_196 : decode cL_law 196 = .ok (.aload_n 1, 1) := by decide +kernel
theorem dL_law_197 : decode cL_law 197 = .ok (.invokestatic 121, 3) := by decide +kernel
theorem dL_law_200 : decode cL_law 200 = .ok (.ifCond .eq 24, 3) := by decide +kernel
theorem dL_law_203 : decode cL_law 203 = .ok (.aload_n 1, 1) := by decide +kernel
theorem dL_law_204 : decode cL_law 204 = .ok (.iload 8, 2) := by decide +kernel
theorem dL_law_206 : decode cL_law 206 = .ok (.iload 4, 2) := by decide +kernel
theorem dL_law_208 : decode cL_law 208 = .ok (.bipush 11, 2) := by decide +kernel
theorem dL_law_210 : decode cL_law 210 = .ok (.idiv, 1) := by decide +kernel
theorem dL_law_211 : decode cL_law 211 = .ok (.bipush 10, 2) := by decide +kernel
theorem dL_law_213 : decode cL_law 213 = .ok (.irem, 1) := by decide +kernel
theorem dL_law_214 : decode cL_law 214 = .ok (.invokestatic 125, 3) := by decide +kernel
theorem dL_law_217 : decode cL_law 217 = .ok (.ifCond .eq 7, 3) := by decide +kernel
theorem dL_law_220 : decode cL_law 220 = .ok (.iconst 1, 1) := by decide +kernel
theorem dL_law_221 : decode cL_law 221 = .ok (.goto 4, 3) := by decide +kernel
theorem dL_law_224 : decode cL_law 224 = .ok (.iconst 0, 1) := by decide +kernel
theorem dL_law_225 : decode cL_law 225 = .ok (.istore_n 2, 1) := by decide +kernel
theorem dL_law_226 : decode cL_law 226 = .ok (.iload_n 2, 1) := by decide +kernel
theorem dL_law_227 : decode cL_law 227 = .ok (.ifCond .eq 157, 3) := by decide +kernel
theorem dL_law_230 : decode cL_law 230 = .ok (.iload 4, 2) := by decide +kernel
theorem dL_law_232 : decode cL_law 232 = .ok (.iconst 5, 1) := by decide +kernel
theorem dL_law_233 : decode cL_law 233 = .ok (.idiv, 1) := by decide +kernel
theorem dL_law_234 : decode cL_law 234 = .ok (.iconst 5, 1) := by decide +kernel
theorem dL_law_235 : decode cL_law 235 = .ok (.irem, 1) := by decide +kernel
theorem dL_law_236 : decode cL_law 236 = .ok (.ifCond .ne 148, 3) := by decide +kernel
theorem dL_law_239 : decode cL_law 239 = .ok (.aload_n 1, 1) := by decide +kernel
theorem dL_law_240 : decode cL_law 240 = .ok (.invokevirtual 111, 3) := by decide +kernel
theorem dL_law_243 : decode cL_law 243 = .ok (.lstore 12, 2) := by decide +kernel
theorem dL_law_245 : decode cL_law 245 = .ok (.aload_n 1, 1) := by decide +kernel
theorem dL_law_246 : decode cL_law 246 = .ok (.invokevirtual 129, 3) := by decide +kernel
theorem dL_law_249 : decode cL_law 249 = .ok (.pop, 1) := by decide +kernel
theorem dL_law_250 : decode cL_law 250 = .ok (.aload_n 1, 1) := by decide +kernel
theorem dL_law_251 : decode cL_law 251 = .ok (.invokestatic 102, 3) := by decide +kernel
theorem dL_law_254 : decode cL_law 254 = .ok (.istore 14, 2) := by decide +kernel
theorem dL_law_256 : decode cL_law 256 = .ok (.iload 14, 2) := by decide +kernel
theorem dL_law_258 : decode cL_law 258 = .ok (.iload 7, 2) := by decide +kernel
theorem dL_law_260 : decode cL_law 260 = .ok (.bipush 6, 2) := by decide +kernel
theorem dL_law_262 : decode cL_law 262 = .ok (.if_icmp .ne 7, 3) := by decide +kernel
theorem dL_law_265 : decode cL_law 265 = .ok (.iconst 5, 1) := by decide +kernel
theorem dL_law_266 : decode cL_law 266 = .ok (.goto 5, 3) := by decide +kernel
theorem dL_law_269 : decode cL_law 269 = .ok (.iload 7, 2) := by decide +kernel
theorem dL_law_271 : decode cL_law 271 = .ok (.if_icmp .ne 53, 3) := by decide +kernel
theorem dL_law_274 : decode cL_law 274 = .ok (.aload_n 1, 1) := by decide +kernel
theorem dL_law_275 : decode cL_law 275 = .ok (.invokestatic 79, 3) := by decide +kernel
theorem dL_law_278 : decode cL_law 278 = .ok (.aload_n 1, 1) := by decide +kernel
theorem dL_law_279 : decode cL_law 279 = .ok (.iconst 0, 1) := by decide +kernel
theorem dL_law_280 : decode cL_law 280 = .ok (.invokestatic 85, 3) := by decide +kernel
theorem dL_law_283 : decode cL_law 283 = .ok (.if_icmp .ne 41, 3) := by decide +kernel
theorem dL_law_286 : decode cL_law 286 = .ok (.iload 7, 2) := by decide +kernel
theorem dL_law_288 : decode cL_law 288 = .ok (.bipush 6, 2) := by decide +kernel
theorem dL_law_290 : decode cL_law 290 = .ok (.if_icmp .ge 19, 3) := by decide +kernel
theorem dL_law_293 : decode cL_law 293 = .ok (.aload_n 1, 1) := by decide +kernel
theorem dL_law_294 : decode cL_law 294 = .ok (.bipush 9, 2) := by decide +kernel
theorem dL_law_296 : decode cL_law 296 = .ok (.invokestatic 85, 3) := by decide +kernel
theorem dL_law_299 : decode cL_law 299 = .ok (.iload 14, 2) := by decide +kernel
theorem dL_law_301 : decode cL_law 301 = .ok (.iconst 1, 1) := by decide +kernel
theorem dL_law_302 : decode cL_law 302 = .ok (.iadd, 1) := by decide +kernel
theorem dL_law_303 : decode cL_law 303 = .ok (.if_icmp .ne 21, 3) := by decide +kernel
theorem dL_law_306 : decode cL_law 306 = .ok (.goto 14, 3) := by decide +kernel
theorem dL_law_309 : decode cL_law 309 = .ok (.aload_n 1, 1) := by decide +kernel
theorem dL_law_310 : decode cL_law 310 = .ok (.bipush 9, 2) := by decide +kernel
theorem dL_law_312 : decode cL_law 312 = .ok (.invokestatic 85, 3) := by decide +kernel
theorem dL_law_315 : decode cL_law 315 = .ok (.bipush 6, 2) := by decide +kernel
theorem dL_law_317 : decode cL_law 317 = .ok (.if_icmp .ne 7, 3) := by decide +kernel
theorem dL_law_320 : decode cL_law 320 = .ok (.iconst 1, 1) := by decide +kernel
theorem dL_law_321 : decode cL_law 321 = .ok (.goto 4, 3) := by decide +kernel
theorem dL_law_324 : decode cL_law 324 = .ok (.iconst 0, 1) := by decide +kernel
theorem dL_law_325 : decode cL_law 325 = .ok (.istore_n 2, 1) := by decide +kernel
theorem dL_law_326 : decode cL_law 326 = .ok (.iload_n 2, 1) := by decide +kernel
theorem dL_law_327 : decode cL_law 327 = .ok (.ifCond .eq 55, 3) := by decide +kernel
theorem dL_law_330 : decode cL_law 330 = .ok (.iload 7, 2) := by decide +kernel
theorem dL_law_332 : decode cL_law 332 = .ok (.bipush 6, 2) := by decide +kernel
theorem dL_law_334 : decode cL_law 334 = .ok (.if_icmp .eq 13, 3) := by decide +kernel
theorem dL_law_337 : decode cL_law 337 = .ok (.aload_n 1, 1) := by decide +kernel
theorem dL_law_338 : decode cL_law 338 = .ok (.invokevirtual 111, 3) := by decide +kernel
theorem dL_law_341 : decode cL_law 341 = .ok (.lload 12, 2) := by decide +kernel
theorem dL_law_343 : decode cL_law 343 = .ok (.lcmp, 1) := by decide +kernel
theorem dL_law_344 : decode cL_law 344 = .ok (.ifCond .ne 38, 3) := by decide +kernel
theorem dL_law_347 : decode cL_law 347 = .ok (.aload_n 1, 1) := by decide +kernel
theorem dL_law_348 : decode cL_law 348 = .ok (.invokestatic 102, 3) := by decide +kernel
theorem dL_law_351 : decode cL_law 351 = .ok (.ifCond .lt 31, 3) := by decide +kernel
theorem dL_law_354 : decode cL_law 354 = .ok (.iload 7, 2) := by decide +kernel
theorem dL_law_356 : decode cL_law 356 = .ok (.bipush 6, 2) := by decide +kernel
theorem dL_law_358 : decode cL_law 358 = .ok (.if_icmp .eq 13, 3) := by decide +kernel
theorem dL_law_361 : decode cL_law 361 = .ok (.aload_n 1, 1) := by decide +kernel
theorem dL_law_362 : decode cL_law 362 = .ok (.invokevirtual 111, 3) := by decide +kernel
theorem dL_law_365 : decode cL_law 365 = .ok (.lload 5, 2) := by decide +kernel
theorem dL_law_367 : decode cL_law 367 = .ok (.lcmp, 1) := by decide +kernel
theorem dL_law_368 : decode cL_law 368 = .ok (.ifCond .ne 14, 3) := by decide +kernel
theorem dL_law_371 : decode cL_law 371 = .ok (.aload_n 1, 1) := by decide +kernel
theorem dL_law_372 : decode cL_law 372 = .ok (.invokestatic 79, 3) := by decide +kernel
theorem dL_law_375 : decode cL_law 375 = .ok (.ifCond .lt 7, 3) := by decide +kernel
theorem dL_law_378 : decode cL_law 378 = .ok (.iconst 1, 1) := by decide +kernel
theorem dL_law_379 : decode cL_law 379 = .ok (.goto 4, 3) := by decide +kernel
theorem dL_law_382 : decode cL_law 382 = .ok (.iconst 0, 1) := by decide +kernel
theorem dL_law_383 : decode cL_law 383 = .ok (.istore_n 2, 1) := by decide +kernel
theorem dL_law_384 : decode cL_law 384 = .ok (.iload_n 2, 1) := by decide +kernel
theorem dL_law_385 : decode cL_law 385 = .ok (.ifCond .eq 41, 3) := by decide +kernel
theorem dL_law_388 : decode cL_law 388 = .ok (.aload_n 1, 1) := by decide +kernel
theorem dL_law_389 : decode cL_law 389 = .ok (.invokevirtual 132, 3) := by decide +kernel
theorem dL_law_392 : decode cL_law 392 = .ok (.dconst 0, 1) := by decide +kernel
theorem dL_law_393 : decode cL_law 393 = .ok (.dcmp .l, 1) := by decide +kernel
theorem dL_law_394 : decode cL_law 394 = .ok (.ifCond .lt 32, 3) := by decide +kernel
theorem dL_law_397 : decode cL_law 397 = .ok (.aload_n 1, 1) := by decide +kernel
theorem dL_law_398 : decode cL_law 398 = .ok (.invokevirtual 132, 3) := by decide +kernel
theorem dL_law_401 : decode cL_law 401 = .ok (.dconst 1, 1) := by decide +kernel
theorem dL_law_402 : decode cL_law 402 = .ok (.dcmp .g, 1) := by decide +kernel
theorem dL_law_403 : decode cL_law 403 = .ok (.ifCond .gt 23, 3) := by decide +kernel
theorem dL_law_406 : decode cL_law 406 = .ok (.aload_n 1, 1) := by decide +kernel
theorem dL_law_407 : decode cL_law 407 = .ok (.invokevirtual 104, 3) := by decide +kernel
theorem dL_law_410 : decode cL_law 410 = .ok (.ifCond .lt 16, 3) := by decide +kernel
theorem dL_law_413 : decode cL_law 413 = .ok (.aload_n 1, 1) := by decide +kernel
theorem dL_law_414 : decode cL_law 414 = .ok (.invokevirtual 104, 3) := by decide +kernel
theorem dL_law_417 : decode cL_law 417 = .ok (.bipush 6, 2) := by decide +kernel
theorem dL_law_419 : decode cL_law 419 = .ok (.if_icmp .ge 7, 3) := by decide +kernel
theorem dL_law_422 : decode cL_law 422 = .ok (.iconst 1, 1) := by decide +kernel
theorem dL_law_423 : decode cL_law 423 = .ok (.goto 4, 3) := by decide +kernel
theorem dL_law_426 : decode cL_law 426 = .ok (.iconst 0, 1) := by decide +kernel
theorem dL_law_427 : decode cL_law 427 = .ok (.istore_n 2, 1) := by decide +kernel
theorem dL_law_428 : decode cL_law 428 = .ok (.iinc 3 1, 3) := by decide +kernel
theorem dL_law_431 : decode cL_law 431 = .ok (.goto (-390), 3) := by decide +kernel
theorem dL_law_434 : decode cL_law 434 = .ok (.iload_n 2, 1) := by decide +kernel
theorem dL_law_435 : decode cL_law 435 = .ok (.ifCond .eq 14, 3) := by decide +kernel
theorem dL_law_438 : decode cL_law 438 = .ok (.aload_n 1, 1) := by decide +kernel
theorem dL_law_439 : decode cL_law 439 = .ok (.invokestatic 121, 3) := by decide +kernel
theorem dL_law_442 : decode cL_law 442 = .ok (.ifCond .eq 7, 3) := by decide +kernel
theorem dL_law_445 : decode cL_law 445 = .ok (.iconst 1, 1) := by decide +kernel
theorem dL_law_446 : decode cL_law 446 = .ok (.goto 4, 3) := by decide +kernel
theorem dL_law_449 : decode cL_law 449 = .ok (.iconst 0, 1) := by decide +kernel
theorem dL_law_450 : decode cL_law 450 = .ok (.ireturn, 1) := by decide +kernel
