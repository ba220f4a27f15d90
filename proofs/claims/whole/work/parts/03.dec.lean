theorem dX0_init_0 : decode cX0_init 0 = .ok (.aload_n 0, 1) := by decide +kernel
theorem dX0_init_1 : decode cX0_init 1 = .ok (.invokespecial 3, 3) := by decide +kernel
theorem dX0_init_4 : decode cX0_init 4 = .ok (.aload_n 0, 1) := by decide +kernel
theorem dX0_init_5 : decode cX0_init 5 = .ok (.bipush 6, 2) := by decide +kernel
theorem dX0_init_7 : decode cX0_init 7 = .ok (.newarray .int, 2) := by decide +kernel
theorem dX0_init_9 : decode cX0_init 9 = .ok (.putfield 9, 3) := by decide +kernel
theorem dX0_init_12 : decode cX0_init 12 = .ok (.aload_n 0, 1) := by decide +kernel
theorem dX0_init_13 : decode cX0_init 13 = .ok (.iconst 3, 1) := by decide +kernel
theorem dX0_init_14 : decode cX0_init 14 = .ok (.newarray .int, 2) := by decide +kernel
theorem dX0_init_16 : decode cX0_init 16 = .ok (.dup, 1) := by decide +kernel
theorem dX0_init_17 : decode cX0_init 17 = .ok (.iconst 0, 1) := by decide +kernel
theorem dX0_init_18 : decode cX0_init 18 = .ok (.iconst 1, 1) := by decide +kernel
theorem dX0_init_19 : decode cX0_init 19 = .ok (.iastore, 1) := by decide +kernel
theorem dX0_init_20 : decode cX0_init 20 = .ok (.dup, 1) := by decide +kernel
theorem dX0_init_21 : decode cX0_init 21 = .ok (.iconst 1, 1) := by decide +kernel
theorem dX0_init_22 : decode cX0_init 22 = .ok (.iconst 1, 1) := by decide +kernel
theorem dX0_init_23 : decode cX0_init 23 = .ok (.iastore, 1) := by decide +kernel
theorem dX0_init_24 : decode cX0_init 24 = .ok (.dup, 1) := by decide +kernel
theorem dX0_init_25 : decode cX0_init 25 = .ok (.iconst 2, 1) := by decide +kernel
theorem dX0_init_26 : decode cX0_init 26 = .ok (.bipush 8, 2) := by decide +kernel
theorem dX0_init_28 : decode cX0_init 28 = .ok (.iastore, 1) := by decide +kernel
theorem dX0_init_29 : decode cX0_init 29 = .ok (.putfield 15, 3) := by decide +kernel
theorem dX0_init_32 : decode cX0_init 32 = .ok (.aload_n 0, 1) := by decide +kernel
theorem dX0_init_33 : decode cX0_init 33 = .ok (.sipush 200, 3) := by decide +kernel
theorem dX0_init_36 : decode cX0_init 36 = .ok (.newarray .int, 2) := by decide +kernel
theorem dX0_init_38 : decode cX0_init 38 = .ok (.putfield 18, 3) := by decide +kernel
theorem dX0_init_41 : decode cX0_init 41 = .ok (.aload_n 0, 1) := by decide +kernel
theorem dX0_init_42 : decode cX0_init 42 = .ok (.sipush 200, 3) := by decide +kernel
theorem dX0_init_45 : decode cX0_init 45 = .ok (.newarray .int, 2) := by decide +kernel
theorem dX0_init_47 : decode cX0_init 47 = .ok (.putfield 21, 3) := by decide +kernel
theorem dX0_init_50 : decode cX0_init 50 = .ok (.aload_n 0, 1) := by decide +kernel
theorem dX0_init_51 : decode cX0_init 51 = .ok (.sipush 200, 3) := by decide +kernel
theorem dX0_init_54 : decode cX0_init 54 = .ok (.newarray .int, 2) := by decide +kernel
theorem dX0_init_56 : decode cX0_init 56 = .ok (.putfield 24, 3) := by decide +kernel
theorem dX0_init_59 : decode cX0_init 59 = .ok (.aload_n 0, 1) := by decide +kernel
theorem dX0_init_60 : decode cX0_init 60 = .ok (.sipush 200, 3) := by decide +kernel
theorem dX0_init_63 : decode cX0_init 63 = .ok (.newarray .int, 2) := by decide +kernel
theorem dX0_init_65 : decode cX0_init 65 = .ok (.putfield 27, 3) := by decide +kernel
theorem dX0_init_68 : decode cX0_init 68 = .ok (.aload_n 0, 1) := by decide +kernel
theorem dX0_init_69 : decode cX0_init 69 = .ok (.bipush 6, 2) := by decide +kernel
theorem dX0_init_71 : decode cX0_init 71 = .ok (.sipush 200, 3) := by decide +kernel
theorem dX0_init_74 : decode cX0_init 74 = .ok (.multianewarray 30 2, 4) := by decide +kernel
theorem dX0_init_78 : decode cX0_init 78 = .ok (.putfield 32, 3) := by decide +kernel
theorem dX0_init_81 : decode cX0_init 81 = .ok (.aload_n 0, 1) := by decide +kernel
theorem dX0_init_82 : decode cX0_init 82 = .ok (.bipush 6, 2) := by decide +kernel
theorem dX0_init_84 : decode cX0_init 84 = .ok (.sipush 200, 3) := by decide +kernel
theorem dX0_init_87 : decode cX0_init 87 = .ok (.multianewarray 30 2, 4) := by decide +kernel
theorem dX0_init_91 : decode cX0_init 91 = .ok (.putfield 35, 3) := by decide +kernel
theorem dX0_init_94 : decode cX0_init 94 = .ok (.aload_n 0, 1) := by decide +kernel
theorem dX0_init_95 : decode cX0_init 95 = .ok (.bipush 6, 2) := by decide +kernel
theorem dX0_init_97 : decode cX0_init 97 = .ok (.sipush 400, 3) := by decide +kernel
theorem dX0_init_100 : decode cX0_init 100 = .ok (.multianewarray 30 2, 4) := by decide +kernel
theorem dX0_init_104 : decode cX0_init 104 = .ok (.putfield 38, 3) := by decide +kernel
theorem dX0_init_107 : decode cX0_init 107 = .ok (.aload_n 0, 1) := by decide +kernel
theorem dX0_init_108 : decode cX0_init 108 = .ok (.bipush 60, 2) := by decide +kernel
theorem dX0_init_110 : decode cX0_init 110 = .ok (.newarray .int, 2) := by decide +kernel
theorem dX0_init_112 : decode cX0_init 112 = .ok (.putfield 41, 3) := by decide +kernel
theorem dX0_init_115 : decode cX0_init 115 = .ok (.return_, 1) := by decide +kernel
theorem dX0_become_0 : decode cX0_become 0 = .ok (.aload_n 0, 1) := by decide +kernel
theorem dX0_become_1 : decode cX0_become 1 = .ok (.aload_n 1, 1) := by decide +kernel
theorem dX0_become_2 : decode cX0_become 2 = .ok (.getfield 44, 3) := by decide +kernel
theorem dX0_become_5 : decode cX0_become 5 = .ok (.putfield 44, 3) := by decide +kernel
theorem dX0_become_8 : decode cX0_become 8 = .ok (.aload_n 0, 1) := by decide +kernel
theorem dX0_become_9 : decode cX0_become 9 = .ok (.aload_n 1, 1) := by decide +kernel
theorem dX0_become_10 : decode cX0_become 10 = .ok (.getfield 48, 3) := by decide +kernel
theorem dX0_become_13 : decode cX0_become 13 = .ok (.putfield 48, 3) := by decide +kernel
theorem dX0_become_16 : decode cX0_become 16 = .ok (.aload_n 1, 1) := by decide +kernel
theorem dX0_become_17 : decode cX0_become 17 = .ok (.getfield 9, 3) := by decide +kernel
theorem dX0_become_20 : decode cX0_become 20 = .ok (.iconst 0, 1) := by decide +kernel
theorem dX0_become_21 : decode cX0_become 21 = .ok (.aload_n 0, 1) := by decide +kernel
theorem dX0_become_22 : decode cX0_become 22 = .ok (.getfield 9, 3) := by decide +kernel
theorem dX0_become_25 : decode cX0_become 25 = .ok (.iconst 0, 1) := by decide +kernel
theorem dX0_become_26 : decode cX0_become 26 = .ok (.aload_n 0, 1) := by decide +kernel
theorem dX0_become_27 : decode cX0_become 27 = .ok (.getfield 9, 3) := by decide +kernel
theorem dX0_become_30 : decode cX0_become 30 = .ok (.arraylength, 1) := by decide +kernel
theorem dX0_become_31 : decode cX0_become 31 = .ok (.invokestatic 51, 3) := by decide +kernel
theorem dX0_become_34 : decode cX0_become 34 = .ok (.aload_n 1, 1) := by decide +kernel
theorem dX0_become_35 : decode cX0_become 35 = .ok (.getfield 15, 3) := by decide +kernel
theorem dX0_become_38 : decode cX0_become 38 = .ok (.iconst 0, 1) := by decide +kernel
theorem dX0_become_39 : decode cX0_become 39 = .ok (.aload_n 0, 1) := by decide +kernel
theorem dX0_become_40 : decode cX0_become 40 = .ok (.getfield 15, 3) := by decide +kernel
theorem dX0_become_43 : decode cX0_become 43 = .ok (.iconst 0, 1) := by decide +kernel
theorem dX0_become_44 : decode cX0_become 44 = .ok (.aload_n 0, 1) := by decide +kernel
theorem dX0_become_45 : decode cX0_become 45 = .ok (.getfield 15, 3) := by decide +kernel
theorem dX0_become_48 : decode cX0_become 48 = .ok (.arraylength, 1) := by decide +kernel
theorem dX0_become_49 : decode cX0_become 49 = .ok (.invokestatic 51, 3) := by decide +kernel
theorem dX0_become_52 : decode cX0_become 52 = .ok (.aload_n 1, 1) := by decide +kernel
theorem dX0_become_53 : decode cX0_become 53 = .ok (.getfield 18, 3) := by decide +kernel
theorem dX0_become_56 : decode cX0_become 56 = .ok (.iconst 0, 1) := by decide +kernel
theorem dX0_become_57 : decode cX0_become 57 = .ok (.aload_n 0, 1) := by decide +kernel
theorem dX0_become_58 : decode cX0_become 58 = .ok (.getfield 18, 3) := by decide +kernel
theorem dX0_become_61 : decode cX0_become 61 = .ok (.iconst 0, 1) := by decide +kernel
theorem dX0_become_62 : decode cX0_become 62 = .ok (.aload_n 0, 1) := by decide +kernel
theorem dX0_become_63 : decode cX0_become 63 = .ok (.getfield 48, 3) := by decide +kernel
theorem dX0_become_66 : decode cX0_become 66 = .ok (.invokestatic 51, 3) := by decide +kernel
theorem dX0_become_69 : decode cX0_become 69 = .ok (.aload_n 1, 1) := by decide +kernel
theorem dX0_become_70 : decode cX0_become 70 = .ok (.getfield 21, 3) := by decide +kernel
theorem dX0_become_73 : decode cX0_become 73 = .ok (.iconst 0, 1) := by decide +kernel
theorem dX0_become_74 : decode cX0_become 74 = .ok (.aload_n 0, 1) := by decide +kernel
theorem dX0_become_75 : decode cX0_become 75 = .ok (.getfield 21, 3) := by decide +kernel
theorem dX0_become_78 : decode cX0_become 78 = .ok (.iconst 0, 1) := by decide +kernel
theorem dX0_become_79 : decode cX0_become 79 = .ok (.aload_n 0, 1) := by decide +kernel
theorem dX0_become_80 : decode cX0_become 80 = .ok (.getfield 48, 3) := by decide +kernel
theorem dX0_become_83 : decode cX0_become 83 = .ok (.invokestatic 51, 3) := by decide +kernel
theorem dX0_become_86 : decode cX0_become 86 = .ok (.aload_n 1, 1) := by decide +kernel
theorem dX0_become_87 : decode cX0_become 87 = .ok (.getfield 24, 3) := by decide +kernel
theorem dX0_become_90 : decode cX0_become 90 = .ok (.iconst 0, 1) := by decide +kernel
theorem dX0_become_91 : decode cX0_become 91 = .ok (.aload_n 0, 1) := by decide +kernel
theorem dX0_become_92 : decode cX0_become 92 = .ok (.getfield 24, 3) := by decide +kernel
theorem dX0_become_95 : decode cX0_become 95 = .ok (.iconst 0, 1) := by decide +kernel
theorem dX0_become_96 : decode cX0_become 96 = .ok (.aload_n 0, 1) := by decide +kernel
theorem dX0_become_97 : decode cX0_become 97 = .ok (.getfield 48, 3) := by decide +kernel
theorem dX0_become_100 : decode cX0_become 100 = .ok (.invokestatic 51, 3) := by decide +kernel
theorem dX0_become_103 : decode cX0_become 103 = .ok (.aload_n 1, 1) := by decide +kernel
theorem dX0_become_104 : decode cX0_become 104 = .ok (.getfield 27, 3) := by decide +kernel
theorem dX0_become_107 : decode cX0_become 107 = .ok (.iconst 0, 1) := by decide +kernel
theorem dX0_become_108 : decode cX0_become 108 = .ok (.aload_n 0, 1) := by decide +kernel
theorem dX0_become_109 : decode cX0_become 109 = .ok (.getfield 27, 3) := by decide +kernel
theorem dX0_become_112 : decode cX0_become 112 = .ok (.iconst 0, 1) := by decide +kernel
theorem dX0_become_113 : decode cX0_become 113 = .ok (.aload_n 0, 1) := by decide +kernel
theorem dX0_become_114 : decode cX0_become 114 = .ok (.getfield 48, 3) := by decide +kernel
theorem dX0_become_117 : decode cX0_become 117 = .ok (.invokestatic 51, 3) := by decide +kernel
theorem dX0_become_120 : decode cX0_become 120 = .ok (.aload_n 1, 1) := by decide +kernel
theorem dX0_become_121 : decode cX0_become 121 = .ok (.getfield 41, 3) := by decide +kernel
theorem dX0_become_124 : decode cX0_become 124 = .ok (.iconst 0, 1) := by decide +kernel
theorem dX0_become_125 : decode cX0_become 125 = .ok (.aload_n 0, 1) := by decide +kernel
theorem dX0_become_126 : decode cX0_become 126 = .ok (.getfield 41, 3) := by decide +kernel
theorem dX0_become_129 : decode cX0_become 129 = .ok (.iconst 0, 1) := by decide +kernel
theorem dX0_become_130 : decode cX0_become 130 = .ok (.aload_n 0, 1) := by decide +kernel
theorem dX0_become_131 : decode cX0_become 131 = .ok (.getfield 41, 3) := by decide +kernel
theorem dX0_become_134 : decode cX0_become 134 = .ok (.arraylength, 1) := by decide +kernel
theorem dX0_become_135 : decode cX0_become 135 = .ok (.invokestatic 51, 3) := by decide +kernel
theorem dX0_become_138 : decode cX0_become 138 = .ok (.iconst 0, 1) := by decide +kernel
theorem dX0_become_139 : decode cX0_become 139 = .ok (.istore_n 2, 1) := by decide +kernel
theorem dX0_become_140 : decode cX0_become 140 = .ok (.iload_n 2, 1) := by decide +kernel
theorem dX0_become_141 : decode cX0_become 141 = .ok (.bipush 6, 2) := by decide +kernel
theorem dX0_become_143 : decode cX0_become 143 = .ok (.if_icmp .ge 72, 3) := by decide +kernel
theorem dX0_become_146 : decode cX0_become 146 = .ok (.aload_n 1, 1) := by decide +kernel
theorem dX0_become_147 : decode cX0_become 147 = .ok (.getfield 32, 3) := by decide +kernel
theorem dX0_become_150 : decode cX0_become 150 = .ok (.iload_n 2, 1) := by decide +kernel
theorem dX0_become_151 : decode cX0_become 151 = .ok (.aaload, 1) := by decide +kernel
theorem dX0_become_152 : decode cX0_become 152 = .ok (.iconst 0, 1) := by decide +kernel
theorem dX0_become_153 : decode cX0_become 153 = .ok (.aload_n 0, 1) := by decide +kernel
theorem dX0_become_154 : decode cX0_become 154 = .ok (.getfield 32, 3) := by decide +kernel
theorem dX0_become_157 : decode cX0_become 157 = .ok (.iload_n 2, 1) := by decide +kernel
theorem dX0_become_158 : decode cX0_become 158 = .ok (.aaload, 1) := by decide +kernel
theorem dX0_become_159 : decode cX0_become 159 = .ok (.iconst 0, 1) := by decide +kernel
theorem dX0_become_160 : decode cX0_become 160 = .ok (.aload_n 0, 1) := by decide +kernel
theorem dX0_become_161 : decode cX0_become 161 = .ok (.getfield 48, 3) := by decide +kernel
theorem dX0_become_164 : decode cX0_become 164 = .ok (.invokestatic 51, 3) := by decide +kernel
theorem dX0_become_167 : decode cX0_become 167 = .ok (.aload_n 1, 1) := by decide +kernel
theorem dX0_become_168 : decode cX0_become 168 = .ok (.getfield 35, 3) := by decide +kernel
theorem dX0_become_171 : decode cX0_become 171 = .ok (.iload_n 2, 1) := by decide +kernel
theorem dX0_become_172 : decode cX0_become 172 = .ok (.aaload, 1) := by decide +kernel
theorem dX0_become_173 : decode cX0_become 173 = .ok (.iconst 0, 1) := by decide +kernel
theorem dX0_become_174 : decode cX0_become 174 = .ok (.aload_n 0, 1) := by decide +kernel
theorem dX0_become_175 : decode cX0_become 175 = .ok (.getfield 35, 3) := by decide +kernel
theorem dX0_become_178 : decode cX0_become 178 = .ok (.iload_n 2, 1) := by decide +kernel
theorem dX0_become_179 : decode cX0_become 179 = .ok (.aaload, 1) := by decide +kernel
theorem dX0_become_180 : decode cX0_become 180 = .ok (.iconst 0, 1) := by decide +kernel
theorem dX0_become_181 : decode cX0_become 181 = .ok (.aload_n 0, 1) := by decide +kernel
theorem dX0_become_182 : decode cX0_become 182 = .ok (.getfield 48, 3) := by decide +kernel
theorem dX0_become_185 : decode cX0_become 185 = .ok (.invokestatic 51, 3) := by decide +kernel
theorem dX0_become_188 : decode cX0_become 188 = .ok (.aload_n 1, 1) := by decide +kernel
theorem dX0_become_189 : decode cX0_become 189 = .ok (.getfield 38, 3) := by decide +kernel
theorem dX0_become_192 : decode cX0_become 192 = .ok (.iload_n 2, 1) := by decide +kernel
theorem dX0_become_193 : decode cX0_become 193 = .ok (.aaload, 1) := by decide +kernel
theorem dX0_become_194 : decode cX0_become 194 = .ok (.iconst 0, 1) := by decide +kernel
theorem dX0_become_195 : decode cX0_become 195 = .ok (.aload_n 0, 1) := by decide +kernel
theorem dX0_become_196 : decode cX0_become 196 = .ok (.getfield 38, 3) := by decide +kernel
theorem dX0_become_199 : decode cX0_become 199 = .ok (.iload_n 2, 1) := by decide +kernel
theorem dX0_become_200 : decode cX0_become 200 = .ok (.aaload, 1) := by decide +kernel
theorem dX0_become_201 : decode cX0_become 201 = .ok (.iconst 0, 1) := by decide +kernel
theorem dX0_become_202 : decode cX0_become 202 = .ok (.aload_n 0, 1) := by decide +kernel
theorem dX0_become_203 : decode cX0_become 203 = .ok (.getfield 44, 3) := by decide +kernel
theorem dX0_become_206 : decode cX0_become 206 = .ok (.invokestatic 51, 3) := by decide +kernel
theorem dX0_become_209 : decode cX0_become 209 = .ok (.iinc 2 1, 3) := by decide +kernel
theorem dX0_become_212 : decode cX0_become 212 = .ok (.goto (-72), 3) := by decide +kernel
theorem dX0_become_215 : decode cX0_become 215 = .ok (.return_, 1) := by decide +kernel
theorem dX0_canSpeak_0 : decode cX0_canSpeak 0 = .ok (.aload_n 0, 1) := by decide +kernel
theorem dX0_canSpeak_1 : decode cX0_canSpeak 1 = .ok (.getfield 48, 3) := by decide +kernel
theorem dX0_canSpeak_4 : decode cX0_canSpeak 4 = .ok (.sipush 200, 3) := by decide +kernel
theorem dX0_canSpeak_7 : decode cX0_canSpeak 7 = .ok (.if_icmp .ge 17, 3) := by decide +kernel
theorem dX0_canSpeak_10 : decode cX0_canSpeak 10 = .ok (.aload_n 0, 1) := by decide +kernel
theorem dX0_canSpeak_11 : decode cX0_canSpeak 11 = .ok (.getfield 44, 3) := by decide +kernel
theorem dX0_canSpeak_14 : decode cX0_canSpeak 14 = .ok (.sipush 400, 3) := by decide +kernel
theorem dX0_canSpeak_17 : decode cX0_canSpeak 17 = .ok (.if_icmp .ge 7, 3) := by decide +kernel
theorem dX0_canSpeak_20 : decode cX0_canSpeak 20 = .ok (.iconst 1, 1) := by decide +kernel
theorem dX0_canSpeak_21 : decode cX0_canSpeak 21 = .ok (.goto 4, 3) := by decide +kernel
theorem dX0_canSpeak_24 : decode cX0_canSpeak 24 = .ok (.iconst 0, 1) := by decide +kernel
theorem dX0_canSpeak_25 : decode cX0_canSpeak 25 = .ok (.ireturn, 1) := by decide +kernel
theorem dX0_speak_0 : decode cX0_speak 0 = .ok (.aload_n 0, 1) := by decide +kernel
theorem dX0_speak_1 : decode cX0_speak 1 = .ok (.getfield 48, 3) := by decide +kernel
theorem dX0_speak_4 : decode cX0_speak 4 = .ok (.istore 4, 2) := by decide +kernel
theorem dX0_speak_6 : decode cX0_speak 6 = .ok (.aload_n 0, 1) := by decide +kernel
theorem dX0_speak_7 : decode cX0_speak 7 = .ok (.getfield 18, 3) := by decide +kernel
theorem dX0_speak_10 : decode cX0_speak 10 = .ok (.iload 4, 2) := by decide +kernel
theorem dX0_speak_12 : decode cX0_speak 12 = .ok (.iload_n 1, 1) := by decide +kernel
theorem dX0_speak_13 : decode cX0_speak 13 = .ok (.iastore, 1) := by decide +kernel
theorem dX0_speak_14 : decode cX0_speak 14 = .ok (.aload_n 0, 1) := by decide +kernel
theorem dX0_speak_15 : decode cX0_speak 15 = .ok (.getfield 21, 3) := by decide +kernel
theorem dX0_speak_18 : decode cX0_speak 18 = .ok (.iload 4, 2) := by decide +kernel
theorem dX0_speak_20 : decode cX0_speak 20 = .ok (.iload_n 2, 1) := by decide +kernel
theorem dX0_speak_21 : decode cX0_speak 21 = .ok (.iastore, 1) := by decide +kernel
theorem dX0_speak_22 : decode cX0_speak 22 = .ok (.aload_n 0, 1) := by decide +kernel
theorem dX0_speak_23 : decode cX0_speak 23 = .ok (.getfield 24, 3) := by decide +kernel
theorem dX0_speak_26 : decode cX0_speak 26 = .ok (.iload 4, 2) := by decide +kernel
theorem dX0_speak_28 : decode cX0_speak 28 = .ok (.iload_n 3, 1) := by decide +kernel
theorem dX0_speak_29 : decode cX0_speak 29 = .ok (.iastore, 1) := by decide +kernel
theorem dX0_speak_30 : decode cX0_speak 30 = .ok (.aload_n 0, 1) := by decide +kernel
theorem dX0_speak_31 : decode cX0_speak 31 = .ok (.getfield 27, 3) := by decide +kernel
theorem dX0_speak_34 : decode cX0_speak 34 = .ok (.iload 4, 2) := by decide +kernel
theorem dX0_speak_36 : decode cX0_speak 36 = .ok (.aload_n 0, 1) := by decide +kernel
theorem dX0_speak_37 : decode cX0_speak 37 = .ok (.getfield 44, 3) := by decide +kernel
theorem dX0_speak_40 : decode cX0_speak 40 = .ok (.iastore, 1) := by decide +kernel
theorem dX0_speak_41 : decode cX0_speak 41 = .ok (.iconst 0, 1) := by decide +kernel
theorem dX0_speak_42 : decode cX0_speak 42 = .ok (.istore 5, 2) := by decide +kernel
theorem dX0_speak_44 : decode cX0_speak 44 = .ok (.iload 5, 2) := by decide +kernel
theorem dX0_speak_46 : decode cX0_speak 46 = .ok (.bipush 6, 2) := by decide +kernel
theorem dX0_speak_48 : decode cX0_speak 48 = .ok (.if_icmp .ge 56, 3) := by decide +kernel
theorem dX0_speak_51 : decode cX0_speak 51 = .ok (.aload_n 0, 1) := by decide +kernel
theorem dX0_speak_52 : decode cX0_speak 52 = .ok (.iload_n 1, 1) := by decide +kernel
theorem dX0_speak_53 : decode cX0_speak 53 = .ok (.iload 5, 2) := by decide +kernel
theorem dX0_speak_55 : decode cX0_speak 55 = .ok (.invokevirtual 57, 3) := by decide +kernel
theorem dX0_speak_58 : decode cX0_speak 58 = .ok (.istore 6, 2) := by decide +kernel
theorem dX0_speak_60 : decode cX0_speak 60 = .ok (.aload_n 0, 1) := by decide +kernel
theorem dX0_speak_61 : decode cX0_speak 61 = .ok (.getfield 32, 3) := by decide +kernel
theorem dX0_speak_64 : decode cX0_speak 64 = .ok (.iload 5, 2) := by decide +kernel
theorem dX0_speak_66 : decode cX0_speak 66 = .ok (.aaload, 1) := by decide +kernel
theorem dX0_speak_67 : decode cX0_speak 67 = .ok (.iload 4, 2) := by decide +kernel
theorem dX0_speak_69 : decode cX0_speak 69 = .ok (.iload 6, 2) := by decide +kernel
theorem dX0_speak_71 : decode cX0_speak 71 = .ok (.iconst (-1), 1) := by decide +kernel
theorem dX0_speak_72 : decode cX0_speak 72 = .ok (.if_icmp .ne 7, 3) := by decide +kernel
theorem dX0_speak_75 : decode cX0_speak 75 = .ok (.iconst (-1), 1) := by decide +kernel
theorem dX0_speak_76 : decode cX0_speak 76 = .ok (.goto 10, 3) := by decide +kernel
theorem dX0_speak_79 : decode cX0_speak 79 = .ok (.aload_n 0, 1) := by decide +kernel
theorem dX0_speak_80 : decode cX0_speak 80 = .ok (.getfield 44, 3) := by decide +kernel
theorem dX0_speak_83 : decode cX0_speak 83 = .ok (.iload 6, 2) := by decide +kernel
theorem dX0_speak_85 : decode cX0_speak 85 = .ok (.iadd, 1) := by decide +kernel
theorem dX0_speak_86 : decode cX0_speak 86 = .ok (.iastore, 1) := by decide +kernel
theorem dX0_speak_87 : decode cX0_speak 87 = .ok (.aload_n 0, 1) := by decide +kernel
theorem dX0_speak_88 : decode cX0_speak 88 = .ok (.getfield 35, 3) := by decide +kernel
theorem dX0_speak_91 : decode cX0_speak 91 = .ok (.iload 5, 2) := by decide +kernel
theorem dX0_speak_93 : decode cX0_speak 93 = .ok (.aaload, 1) := by decide +kernel
theorem dX0_speak_94 : decode cX0_speak 94 = .ok (.iload 4, 2) := by decide +kernel
theorem dX0_speak_96 : decode cX0_speak 96 = .ok (.iconst (-1), 1) := by decide +kernel
theorem dX0_speak_97 : decode cX0_speak 97 = .ok (.iastore, 1) := by decide +kernel
theorem dX0_speak_98 : decode cX0_speak 98 = .ok (.iinc 5 1, 3) := by decide +kernel
theorem dX0_speak_101 : decode cX0_speak 101 = .ok (.goto (-57), 3) := by decide +kernel
theorem dX0_speak_104 : decode cX0_speak 104 = .ok (.iload_n 3, 1) := by decide +kernel
theorem dX0_speak_105 : decode cX0_speak 105 = .ok (.iconst (-1), 1) := by decide +kernel
theorem dX0_speak_106 : decode cX0_speak 106 = .ok (.if_icmp .eq 17, 3) := by decide +kernel
theorem dX0_speak_109 : decode cX0_speak 109 = .ok (.aload_n 0, 1) := by decide +kernel
theorem dX0_speak_110 : decode cX0_speak 110 = .ok (.getfield 41, 3) := by decide +kernel
theorem dX0_speak_113 : decode cX0_speak 113 = .ok (.iload_n 1, 1) := by decide +kernel
theorem dX0_speak_114 : decode cX0_speak 114 = .ok (.iload_n 3, 1) := by decide +kernel
theorem dX0_speak_115 : decode cX0_speak 115 = .ok (.invokestatic 61, 3) := by decide +kernel
theorem dX0_speak_118 : decode cX0_speak 118 = .ok (.dup2, 1) := by decide +kernel
theorem dX0_speak_119 : decode cX0_speak 119 = .ok (.iaload, 1) := by decide +kernel
theorem dX0_speak_120 : decode cX0_speak 120 = .ok (.iconst 1, 1) := by decide +kernel
theorem dX0_speak_121 : decode cX0_speak 121 = .ok (.iadd, 1) := by decide +kernel
theorem dX0_speak_122 : decode cX0_speak 122 = .ok (.iastore, 1) := by decide +kernel
theorem dX0_speak_123 : decode cX0_speak 123 = .ok (.aload_n 0, 1) := by decide +kernel
theorem dX0_speak_124 : decode cX0_speak 124 = .ok (.dup, 1) := by decide +kernel
theorem dX0_speak_125 : decode cX0_speak 125 = .ok (.getfield 48, 3) := by decide +kernel
theorem dX0_speak_128 : decode cX0_speak 128 = .ok (.iconst 1, 1) := by decide +kernel
theorem dX0_speak_129 : decode cX0_speak 129 = .ok (.iadd, 1) := by decide +kernel
theorem dX0_speak_130 : decode cX0_speak 130 = .ok (.putfield 48, 3) := by decide +kernel
theorem dX0_speak_133 : decode cX0_speak 133 = .ok (.aload_n 0, 1) := by decide +kernel
theorem dX0_speak_134 : decode cX0_speak 134 = .ok (.invokevirtual 64, 3) := by decide +kernel
theorem dX0_speak_137 : decode cX0_speak 137 = .ok (.iload 4, 2) := by decide +kernel
theorem dX0_speak_139 : decode cX0_speak 139 = .ok (.ireturn, 1) := by decide +kernel
theorem dX0_canRest_0 : decode cX0_canRest 0 = .ok (.aload_n 0, 1) := by decide +kernel
theorem dX0_canRest_1 : decode cX0_canRest 1 = .ok (.getfield 44, 3) := by decide +kernel
theorem dX0_canRest_4 : decode cX0_canRest 4 = .ok (.iload_n 1, 1) := by decide +kernel
theorem dX0_canRest_5 : decode cX0_canRest 5 = .ok (.iadd, 1) := by decide +kernel
theorem dX0_canRest_6 : decode cX0_canRest 6 = .ok (.sipush 400, 3) := by decide +kernel
theorem dX0_canRest_9 : decode cX0_canRest 9 = .ok (.if_icmp .gt 7, 3) := by decide +kernel
theorem dX0_canRest_12 : decode cX0_canRest 12 = .ok (.iconst 1, 1) := by decide +kernel
theorem dX0_canRest_13 : decode cX0_canRest 13 = .ok (.goto 4, 3) := by decide +kernel
theorem dX0_canRest_16 : decode cX0_canRest 16 = .ok (.iconst 0, 1) := by decide +kernel
theorem dX0_canRest_17 : decode cX0_canRest 17 = .ok (.ireturn, 1) := by decide +kernel
theorem dX0_rest_0 : decode cX0_rest 0 = .ok (.iconst 0, 1) := by decide +kernel
theorem dX0_rest_1 : decode cX0_rest 1 = .ok (.istore_n 2, 1) := by decide +kernel
theorem dX0_rest_2 : decode cX0_rest 2 = .ok (.iload_n 2, 1) := by decide +kernel
theorem dX0_rest_3 : decode cX0_rest 3 = .ok (.iload_n 1, 1) := by decide +kernel
theorem dX0_rest_4 : decode cX0_rest 4 = .ok (.if_icmp .ge 13, 3) := by decide +kernel
theorem dX0_rest_7 : decode cX0_rest 7 = .ok (.aload_n 0, 1) := by decide +kernel
theorem dX0_rest_8 : decode cX0_rest 8 = .ok (.invokevirtual 64, 3) := by decide +kernel
theorem dX0_rest_11 : decode cX0_rest 11 = .ok (.iinc 2 1, 3) := by decide +kernel
theorem dX0_rest_14 : decode cX0_rest 14 = .ok (.goto (-12), 3) := by decide +kernel
theorem dX0_rest_17 : decode cX0_rest 17 = .ok (.return_, 1) := by decide +kernel
theorem dX0_endBeat_0 : decode cX0_endBeat 0 = .ok (.iconst 0, 1) := by decide +kernel
theorem dX0_endBeat_1 : decode cX0_endBeat 1 = .ok (.istore_n 1, 1) := by decide +kernel
theorem dX0_endBeat_2 : decode cX0_endBeat 2 = .ok (.iload_n 1, 1) := by decide +kernel
theorem dX0_endBeat_3 : decode cX0_endBeat 3 = .ok (.bipush 6, 2) := by decide +kernel
theorem dX0_endBeat_5 : decode cX0_endBeat 5 = .ok (.if_icmp .ge 60, 3) := by decide +kernel
theorem dX0_endBeat_8 : decode cX0_endBeat 8 = .ok (.aload_n 0, 1) := by decide +kernel
theorem dX0_endBeat_9 : decode cX0_endBeat 9 = .ok (.iload_n 1, 1) := by decide +kernel
theorem dX0_endBeat_10 : decode cX0_endBeat 10 = .ok (.aload_n 0, 1) := by decide +kernel
theorem dX0_endBeat_11 : decode cX0_endBeat 11 = .ok (.getfield 44, 3) := by decide +kernel
theorem dX0_endBeat_14 : decode cX0_endBeat 14 = .ok (.invokevirtual 67, 3) := by decide +kernel
theorem dX0_endBeat_17 : decode cX0_endBeat 17 = .ok (.istore_n 2, 1) := by decide +kernel
theorem dX0_endBeat_18 : decode cX0_endBeat 18 = .ok (.aload_n 0, 1) := by decide +kernel
theorem dX0_endBeat_19 : decode cX0_endBeat 19 = .ok (.getfield 38, 3) := by decide +kernel
theorem dX0_endBeat_22 : decode cX0_endBeat 22 = .ok (.iload_n 1, 1) := by decide +kernel
theorem dX0_endBeat_23 : decode cX0_endBeat 23 = .ok (.aaload, 1) := by decide +kernel
theorem dX0_endBeat_24 : decode cX0_endBeat 24 = .ok (.aload_n 0, 1) := by decide +kernel
theorem dX0_endBeat_25 : decode cX0_endBeat 25 = .ok (.getfield 44, 3) := by decide +kernel
theorem dX0_endBeat_28 : decode cX0_endBeat 28 = .ok (.iload_n 2, 1) := by decide +kernel
theorem dX0_endBeat_29 : decode cX0_endBeat 29 = .ok (.iastore, 1) := by decide +kernel
theorem dX0_endBeat_30 : decode cX0_endBeat 30 = .ok (.iload_n 2, 1) := by decide +kernel
theorem dX0_endBeat_31 : decode cX0_endBeat 31 = .ok (.iconst (-1), 1) := by decide +kernel
theorem dX0_endBeat_32 : decode cX0_endBeat 32 = .ok (.if_icmp .eq 27, 3) := by decide +kernel
theorem dX0_endBeat_35 : decode cX0_endBeat 35 = .ok (.aload_n 0, 1) := by decide +kernel
theorem dX0_endBeat_36 : decode cX0_endBeat 36 = .ok (.getfield 35, 3) := by decide +kernel
theorem dX0_endBeat_39 : decode cX0_endBeat 39 = .ok (.iload_n 1, 1) := by decide +kernel
theorem dX0_endBeat_40 : decode cX0_endBeat 40 = .ok (.aaload, 1) := by decide +kernel
theorem dX0_endBeat_41 : decode cX0_endBeat 41 = .ok (.iload_n 2, 1) := by decide +kernel
theorem dX0_endBeat_42 : decode cX0_endBeat 42 = .ok (.iaload, 1) := by decide +kernel
theorem dX0_endBeat_43 : decode cX0_endBeat 43 = .ok (.iconst (-1), 1) := by decide +kernel
theorem dX0_endBeat_44 : decode cX0_endBeat 44 = .ok (.if_icmp .ne 15, 3) := by decide +kernel
theorem dX0_endBeat_47 : decode cX0_endBeat 47 = .ok (.aload_n 0, 1) := by decide +kernel
theorem dX0_endBeat_48 : decode cX0_endBeat 48 = .ok (.getfield 35, 3) := by decide +kernel
theorem dX0_endBeat_51 : decode cX0_endBeat 51 = .ok (.iload_n 1, 1) := by decide +kernel
theorem dX0_endBeat_52 : decode cX0_endBeat 52 = .ok (.aaload, 1) := by decide +kernel
theorem dX0_endBeat_53 : decode cX0_endBeat 53 = .ok (.iload_n 2, 1) := by decide +kernel
theorem dX0_endBeat_54 : decode cX0_endBeat 54 = .ok (.aload_n 0, 1) := by decide +kernel
theorem dX0_endBeat_55 : decode cX0_endBeat 55 = .ok (.getfield 44, 3) := by decide +kernel
theorem dX0_endBeat_58 : decode cX0_endBeat 58 = .ok (.iastore, 1) := by decide +kernel
theorem dX0_endBeat_59 : decode cX0_endBeat 59 = .ok (.iinc 1 1, 3) := by decide +kernel
theorem dX0_endBeat_62 : decode cX0_endBeat 62 = .ok (.goto (-60), 3) := by decide +kernel
theorem dX0_endBeat_65 : decode cX0_endBeat 65 = .ok (.aload_n 0, 1) := by decide +kernel
theorem dX0_endBeat_66 : decode cX0_endBeat 66 = .ok (.dup, 1) := by decide +kernel
theorem dX0_endBeat_67 : decode cX0_endBeat 67 = .ok (.getfield 44, 3) := by decide +kernel
theorem dX0_endBeat_70 : decode cX0_endBeat 70 = .ok (.iconst 1, 1) := by decide +kernel
theorem dX0_endBeat_71 : decode cX0_endBeat 71 = .ok (.iadd, 1) := by decide +kernel
theorem dX0_endBeat_72 : decode cX0_endBeat 72 = .ok (.putfield 44, 3) := by decide +kernel
theorem dX0_endBeat_75 : decode cX0_endBeat 75 = .ok (.return_, 1) := by decide +kernel
theorem dX0_delayBetween_0 : decode cX0_delayBetween 0 = .ok (.iload_n 1, 1) := by decide +kernel
theorem dX0_delayBetween_1 : decode cX0_delayBetween 1 = .ok (.iload_n 2, 1) := by decide +kernel
theorem dX0_delayBetween_2 : decode cX0_delayBetween 2 = .ok (.isub, 1) := by decide +kernel
theorem dX0_delayBetween_3 : decode cX0_delayBetween 3 = .ok (.invokestatic 70, 3) := by decide +kernel
theorem dX0_delayBetween_6 : decode cX0_delayBetween 6 = .ok (.istore_n 3, 1) := by decide +kernel
theorem dX0_delayBetween_7 : decode cX0_delayBetween 7 = .ok (.iload_n 3, 1) := by decide +kernel
theorem dX0_delayBetween_8 : decode cX0_delayBetween 8 = .ok (.bipush 6, 2) := by decide +kernel
theorem dX0_delayBetween_10 : decode cX0_delayBetween 10 = .ok (.iload_n 3, 1) := by decide +kernel
theorem dX0_delayBetween_11 : decode cX0_delayBetween 11 = .ok (.isub, 1) := by decide +kernel
theorem dX0_delayBetween_12 : decode cX0_delayBetween 12 = .ok (.invokestatic 76, 3) := by decide +kernel
theorem dX0_delayBetween_15 : decode cX0_delayBetween 15 = .ok (.istore 4, 2) := by decide +kernel
theorem dX0_delayBetween_17 : decode cX0_delayBetween 17 = .ok (.aload_n 0, 1) := by decide +kernel
theorem dX0_delayBetween_18 : decode cX0_delayBetween 18 = .ok (.getfield 15, 3) := by decide +kernel
theorem dX0_delayBetween_21 : decode cX0_delayBetween 21 = .ok (.iconst 0, 1) := by decide +kernel
theorem dX0_delayBetween_22 : decode cX0_delayBetween 22 = .ok (.iaload, 1) := by decide +kernel
theorem dX0_delayBetween_23 : decode cX0_delayBetween 23 = .ok (.aload_n 0, 1) := by decide +kernel
theorem dX0_delayBetween_24 : decode cX0_delayBetween 24 = .ok (.getfield 15, 3) := by decide +kernel
theorem dX0_delayBetween_27 : decode cX0_delayBetween 27 = .ok (.iconst 1, 1) := by decide +kernel
theorem dX0_delayBetween_28 : decode cX0_delayBetween 28 = .ok (.iaload, 1) := by decide +kernel
theorem dX0_delayBetween_29 : decode cX0_delayBetween 29 = .ok (.iload 4, 2) := by decide +kernel
theorem dX0_delayBetween_31 : decode cX0_delayBetween 31 = .ok (.imul, 1) := by decide +kernel
theorem dX0_delayBetween_32 : decode cX0_delayBetween 32 = .ok (.iadd, 1) := by decide +kernel
theorem dX0_delayBetween_33 : decode cX0_delayBetween 33 = .ok (.istore 5, 2) := by decide +kernel
theorem dX0_delayBetween_35 : decode cX0_delayBetween 35 = .ok (.aload_n 0, 1) := by decide +kernel
theorem dX0_delayBetween_36 : decode cX0_delayBetween 36 = .ok (.getfield 9, 3) := by decide +kernel
theorem dX0_delayBetween_39 : decode cX0_delayBetween 39 = .ok (.iload_n 2, 1) := by decide +kernel
theorem dX0_delayBetween_40 : decode cX0_delayBetween 40 = .ok (.iaload, 1) := by decide +kernel
theorem dX0_delayBetween_41 : decode cX0_delayBetween 41 = .ok (.tableswitch 58 1 3 #[27, 40, 45], 27) := by decide +kernel
theorem dX0_delayBetween_68 : decode cX0_delayBetween 68 = .ok (.iload 4, 2) := by decide +kernel
theorem dX0_delayBetween_70 : decode cX0_delayBetween 70 = .ok (.iconst 3, 1) := by decide +kernel
theorem dX0_delayBetween_71 : decode cX0_delayBetween 71 = .ok (.if_icmp .ne 7, 3) := by decide +kernel
theorem dX0_delayBetween_74 : decode cX0_delayBetween 74 = .ok (.iconst (-1), 1) := by decide +kernel
theorem dX0_delayBetween_75 : decode cX0_delayBetween 75 = .ok (.goto 5, 3) := by decide +kernel
theorem dX0_delayBetween_78 : decode cX0_delayBetween 78 = .ok (.iload 5, 2) := by decide +kernel
theorem dX0_delayBetween_80 : decode cX0_delayBetween 80 = .ok (.ireturn, 1) := by decide +kernel
theorem dX0_delayBetween_81 : decode cX0_delayBetween 81 = .ok (.iload 5, 2) := by decide +kernel
theorem dX0_delayBetween_83 : decode cX0_delayBetween 83 = .ok (.iconst 2, 1) := by decide +kernel
theorem dX0_delayBetween_84 : decode cX0_delayBetween 84 = .ok (.iadd, 1) := by decide +kernel
theorem dX0_delayBetween_85 : decode cX0_delayBetween 85 = .ok (.ireturn, 1) := by decide +kernel
theorem dX0_delayBetween_86 : decode cX0_delayBetween 86 = .ok (.iload 4, 2) := by decide +kernel
theorem dX0_delayBetween_88 : decode cX0_delayBetween 88 = .ok (.iconst 1, 1) := by decide +kernel
theorem dX0_delayBetween_89 : decode cX0_delayBetween 89 = .ok (.if_icmp .ne 7, 3) := by decide +kernel
theorem dX0_delayBetween_92 : decode cX0_delayBetween 92 = .ok (.iconst (-1), 1) := by decide +kernel
theorem dX0_delayBetween_93 : decode cX0_delayBetween 93 = .ok (.goto 5, 3) := by decide +kernel
theorem dX0_delayBetween_96 : decode cX0_delayBetween 96 = .ok (.iload 5, 2) := by decide +kernel
theorem dX0_delayBetween_98 : decode cX0_delayBetween 98 = .ok (.ireturn, 1) := by decide +kernel
theorem dX0_delayBetween_99 : decode cX0_delayBetween 99 = .ok (.iload 5, 2) := by decide +kernel
theorem dX0_delayBetween_101 : decode cX0_delayBetween 101 = .ok (.ireturn, 1) := by decide +kernel
theorem dX0_secondLast_0 : decode cX0_secondLast 0 = .ok (.aload_n 0, 1) := by decide +kernel
theorem dX0_secondLast_1 : decode cX0_secondLast 1 = .ok (.getfield 32, 3) := by decide +kernel
theorem dX0_secondLast_4 : decode cX0_secondLast 4 = .ok (.iload_n 1, 1) := by decide +kernel
theorem dX0_secondLast_5 : decode cX0_secondLast 5 = .ok (.aaload, 1) := by decide +kernel
theorem dX0_secondLast_6 : decode cX0_secondLast 6 = .ok (.astore_n 3, 1) := by decide +kernel
theorem dX0_secondLast_7 : decode cX0_secondLast 7 = .ok (.iload_n 2, 1) := by decide +kernel
theorem dX0_secondLast_8 : decode cX0_secondLast 8 = .ok (.aload_n 0, 1) := by decide +kernel
theorem dX0_secondLast_9 : decode cX0_secondLast 9 = .ok (.getfield 15, 3) := by decide +kernel
theorem dX0_secondLast_12 : decode cX0_secondLast 12 = .ok (.iconst 2, 1) := by decide +kernel
theorem dX0_secondLast_13 : decode cX0_secondLast 13 = .ok (.iaload, 1) := by decide +kernel
theorem dX0_secondLast_14 : decode cX0_secondLast 14 = .ok (.isub, 1) := by decide +kernel
theorem dX0_secondLast_15 : decode cX0_secondLast 15 = .ok (.istore 4, 2) := by decide +kernel
theorem dX0_secondLast_17 : decode cX0_secondLast 17 = .ok (.iconst (-1), 1) := by decide +kernel
theorem dX0_secondLast_18 : decode cX0_secondLast 18 = .ok (.istore 5, 2) := by decide +kernel
theorem dX0_secondLast_20 : decode cX0_secondLast 20 = .ok (.iconst (-1), 1) := by decide +kernel
theorem dX0_secondLast_21 : decode cX0_secondLast 21 = .ok (.istore 6, 2) := by decide +kernel
theorem dX0_secondLast_23 : decode cX0_secondLast 23 = .ok (.aload_n 0, 1) := by decide +kernel
theorem dX0_secondLast_24 : decode cX0_secondLast 24 = .ok (.getfield 48, 3) := by decide +kernel
theorem dX0_secondLast_27 : decode cX0_secondLast 27 = .ok (.iconst 1, 1) := by decide +kernel
theorem dX0_secondLast_28 : decode cX0_secondLast 28 = .ok (.isub, 1) := by decide +kernel
theorem dX0_secondLast_29 : decode cX0_secondLast 29 = .ok (.istore 7, 2) := by decide +kernel
theorem dX0_secondLast_31 : decode cX0_secondLast 31 = .ok (.iload 7, 2) := by decide +kernel
theorem dX0_secondLast_33 : decode cX0_secondLast 33 = .ok (.ifCond .lt 97, 3) := by decide +kernel
theorem dX0_secondLast_36 : decode cX0_secondLast 36 = .ok (.aload_n 0, 1) := by decide +kernel
theorem dX0_secondLast_37 : decode cX0_secondLast 37 = .ok (.getfield 27, 3) := by decide +kernel
theorem dX0_secondLast_40 : decode cX0_secondLast 40 = .ok (.iload 7, 2) := by decide +kernel
theorem dX0_secondLast_42 : decode cX0_secondLast 42 = .ok (.iaload, 1) := by decide +kernel
theorem dX0_secondLast_43 : decode cX0_secondLast 43 = .ok (.iload 4, 2) := by decide +kernel
theorem dX0_secondLast_45 : decode cX0_secondLast 45 = .ok (.bipush 19, 2) := by decide +kernel
theorem dX0_secondLast_47 : decode cX0_secondLast 47 = .ok (.isub, 1) := by decide +kernel
theorem dX0_secondLast_48 : decode cX0_secondLast 48 = .ok (.if_icmp .lt 82, 3) := by decide +kernel
theorem dX0_secondLast_51 : decode cX0_secondLast 51 = .ok (.aload_n 3, 1) := by decide +kernel
theorem dX0_secondLast_52 : decode cX0_secondLast 52 = .ok (.iload 7, 2) := by decide +kernel
theorem dX0_secondLast_54 : decode cX0_secondLast 54 = .ok (.iaload, 1) := by decide +kernel
theorem dX0_secondLast_55 : decode cX0_secondLast 55 = .ok (.istore 8, 2) := by decide +kernel
theorem dX0_secondLast_57 : decode cX0_secondLast 57 = .ok (.iload 8, 2) := by decide +kernel
theorem dX0_secondLast_59 : decode cX0_secondLast 59 = .ok (.iconst (-1), 1) := by decide +kernel
theorem dX0_secondLast_60 : decode cX0_secondLast 60 = .ok (.if_icmp .eq 64, 3) := by decide +kernel
theorem dX0_secondLast_63 : decode cX0_secondLast 63 = .ok (.iload 8, 2) := by decide +kernel
theorem dX0_secondLast_65 : decode cX0_secondLast 65 = .ok (.iload 4, 2) := by decide +kernel
theorem dX0_secondLast_67 : decode cX0_secondLast 67 = .ok (.if_icmp .lt 57, 3) := by decide +kernel
theorem dX0_secondLast_70 : decode cX0_secondLast 70 = .ok (.iload 8, 2) := by decide +kernel
theorem dX0_secondLast_72 : decode cX0_secondLast 72 = .ok (.iload_n 2, 1) := by decide +kernel
theorem dX0_secondLast_73 : decode cX0_secondLast 73 = .ok (.if_icmp .le 6, 3) := by decide +kernel
theorem dX0_secondLast_76 : decode cX0_secondLast 76 = .ok (.goto 48, 3) := by decide +kernel
theorem dX0_secondLast_79 : decode cX0_secondLast 79 = .ok (.iload 5, 2) := by decide +kernel
theorem dX0_secondLast_81 : decode cX0_secondLast 81 = .ok (.iconst (-1), 1) := by decide +kernel
theorem dX0_secondLast_82 : decode cX0_secondLast 82 = .ok (.if_icmp .eq 12, 3) := by decide +kernel
theorem dX0_secondLast_85 : decode cX0_secondLast 85 = .ok (.iload 8, 2) := by decide +kernel
theorem dX0_secondLast_87 : decode cX0_secondLast 87 = .ok (.aload_n 3, 1) := by decide +kernel
theorem dX0_secondLast_88 : decode cX0_secondLast 88 = .ok (.iload 5, 2) := by decide +kernel
theorem dX0_secondLast_90 : decode cX0_secondLast 90 = .ok (.iaload, 1) := by decide +kernel
theorem dX0_secondLast_91 : decode cX0_secondLast 91 = .ok (.if_icmp .le 14, 3) := by decide +kernel
theorem dX0_secondLast_94 : decode cX0_secondLast 94 = .ok (.iload 5, 2) := by decide +kernel
theorem dX0_secondLast_96 : decode cX0_secondLast 96 = .ok (.istore 6, 2) := by decide +kernel
theorem dX0_secondLast_98 : decode cX0_secondLast 98 = .ok (.iload 7, 2) := by decide +kernel
theorem dX0_secondLast_100 : decode cX0_secondLast 100 = .ok (.istore 5, 2) := by decide +kernel
theorem dX0_secondLast_102 : decode cX0_secondLast 102 = .ok (.goto 22, 3) := by decide +kernel
theorem dX0_secondLast_105 : decode cX0_secondLast 105 = .ok (.iload 6, 2) := by decide +kernel
theorem dX0_secondLast_107 : decode cX0_secondLast 107 = .ok (.iconst (-1), 1) := by decide +kernel
theorem dX0_secondLast_108 : decode cX0_secondLast 108 = .ok (.if_icmp .eq 12, 3) := by decide +kernel
theorem dX0_secondLast_111 : decode cX0_secondLast 111 = .ok (.iload 8, 2) := by decide +kernel
theorem dX0_secondLast_113 : decode cX0_secondLast 113 = .ok (.aload_n 3, 1) := by decide +kernel
theorem dX0_secondLast_114 : decode cX0_secondLast 114 = .ok (.iload 6, 2) := by decide +kernel
theorem dX0_secondLast_116 : decode cX0_secondLast 116 = .ok (.iaload, 1) := by decide +kernel
theorem dX0_secondLast_117 : decode cX0_secondLast 117 = .ok (.if_icmp .le 7, 3) := by decide +kernel
theorem dX0_secondLast_120 : decode cX0_secondLast 120 = .ok (.iload 7, 2) := by decide +kernel
theorem dX0_secondLast_122 : decode cX0_secondLast 122 = .ok (.istore 6, 2) := by decide +kernel
theorem dX0_secondLast_124 : decode cX0_secondLast 124 = .ok (.iinc 7 (-1), 3) := by decide +kernel
theorem dX0_secondLast_127 : decode cX0_secondLast 127 = .ok (.goto (-96), 3) := by decide +kernel
theorem dX0_secondLast_130 : decode cX0_secondLast 130 = .ok (.iload 6, 2) := by decide +kernel
theorem dX0_secondLast_132 : decode cX0_secondLast 132 = .ok (.ireturn, 1) := by decide +kernel
theorem dX0_messagePlace_0 : decode cX0_messagePlace 0 = .ok (.iload_n 0, 1) := by decide +kernel
theorem dX0_messagePlace_1 : decode cX0_messagePlace 1 = .ok (.bipush 10, 2) := by decide +kernel
theorem dX0_messagePlace_3 : decode cX0_messagePlace 3 = .ok (.imul, 1) := by decide +kernel
theorem dX0_messagePlace_4 : decode cX0_messagePlace 4 = .ok (.iload_n 1, 1) := by decide +kernel
theorem dX0_messagePlace_5 : decode cX0_messagePlace 5 = .ok (.iadd, 1) := by decide +kernel
theorem dX0_messagePlace_6 : decode cX0_messagePlace 6 = .ok (.ireturn, 1) := by decide +kernel
theorem dX1_init_0 : decode cX1_init 0 = .ok (.aload_n 0, 1) := by decide +kernel
theorem dX1_init_1 : decode cX1_init 1 = .ok (.invokespecial 3, 3) := by decide +kernel
theorem dX1_init_4 : decode cX1_init 4 = .ok (.aload_n 0, 1) := by decide +kernel
theorem dX1_init_5 : decode cX1_init 5 = .ok (.ldc2_w 9, 3) := by decide +kernel
theorem dX1_init_8 : decode cX1_init 8 = .ok (.putfield 11, 3) := by decide +kernel
theorem dX1_init_11 : decode cX1_init 11 = .ok (.return_, 1) := by decide +kernel
theorem dX1_take_0 : decode cX1_take 0 = .ok (.aload_n 0, 1) := by decide +kernel
theorem dX1_take_1 : decode cX1_take 1 = .ok (.ldc2_w 15, 3) := by decide +kernel
theorem dX1_take_4 : decode cX1_take 4 = .ok (.aload_n 0, 1) := by decide +kernel
theorem dX1_take_5 : decode cX1_take 5 = .ok (.getfield 11, 3) := by decide +kernel
theorem dX1_take_8 : decode cX1_take 8 = .ok (.lmul, 1) := by decide +kernel
theorem dX1_take_9 : decode cX1_take 9 = .ok (.lload_n 1, 1) := by decide +kernel
theorem dX1_take_10 : decode cX1_take 10 = .ok (.ladd, 1) := by decide +kernel
theorem dX1_take_11 : decode cX1_take 11 = .ok (.putfield 11, 3) := by decide +kernel
theorem dX1_take_14 : decode cX1_take 14 = .ok (.return_, 1) := by decide +kernel
theorem dX1_bitsOf_0 : decode cX1_bitsOf 0 = .ok (.dload_n 0, 1) := by decide +kernel
theorem dX1_bitsOf_1 : decode cX1_bitsOf 1 = .ok (.dconst 0, 1) := by decide +kernel
theorem dX1_bitsOf_2 : decode cX1_bitsOf 2 = .ok (.dcmp .g, 1) := by decide +kernel
theorem dX1_bitsOf_3 : decode cX1_bitsOf 3 = .ok (.ifCond .gt 5, 3) := by decide +kernel
theorem dX1_bitsOf_6 : decode cX1_bitsOf 6 = .ok (.lconst 0, 1) := by decide +kernel
theorem dX1_bitsOf_7 : decode cX1_bitsOf 7 = .ok (.lreturn, 1) := by decide +kernel
theorem dX1_bitsOf_8 : decode cX1_bitsOf 8 = .ok (.dload_n 0, 1) := by decide +kernel
theorem dX1_bitsOf_9 : decode cX1_bitsOf 9 = .ok (.dstore_n 2, 1) := by decide +kernel
theorem dX1_bitsOf_10 : decode cX1_bitsOf 10 = .ok (.sipush 1023, 3) := by decide +kernel
theorem dX1_bitsOf_13 : decode cX1_bitsOf 13 = .ok (.istore 4, 2) := by decide +kernel
theorem dX1_bitsOf_15 : decode cX1_bitsOf 15 = .ok (.iconst 0, 1) := by decide +kernel
theorem dX1_bitsOf_16 : decode cX1_bitsOf 16 = .ok (.istore 5, 2) := by decide +kernel
theorem dX1_bitsOf_18 : decode cX1_bitsOf 18 = .ok (.iload 5, 2) := by decide +kernel
theorem dX1_bitsOf_20 : decode cX1_bitsOf 20 = .ok (.sipush 1023, 3) := by decide +kernel
theorem dX1_bitsOf_23 : decode cX1_bitsOf 23 = .ok (.if_icmp .ge 24, 3) := by decide +kernel
theorem dX1_bitsOf_26 : decode cX1_bitsOf 26 = .ok (.dload_n 2, 1) := by decide +kernel
theorem dX1_bitsOf_27 : decode cX1_bitsOf 27 = .ok (.dconst 1, 1) := by decide +kernel
theorem dX1_bitsOf_28 : decode cX1_bitsOf 28 = .ok (.dcmp .g, 1) := by decide +kernel
theorem dX1_bitsOf_29 : decode cX1_bitsOf 29 = .ok (.ifCond .ge 18, 3) := by decide +kernel
theorem dX1_bitsOf_32 : decode cX1_bitsOf 32 = .ok (.dload_n 2, 1) := by decide +kernel
theorem dX1_bitsOf_33 : decode cX1_bitsOf 33 = .ok (.ldc2_w 17, 3) := by decide +kernel
theorem dX1_bitsOf_36 : decode cX1_bitsOf 36 = .ok (.dmul, 1) := by decide +kernel
theorem dX1_bitsOf_37 : decode cX1_bitsOf 37 = .ok (.dstore_n 2, 1) := by decide +kernel
theorem dX1_bitsOf_38 : decode cX1_bitsOf 38 = .ok (.iinc 4 (-1), 3) := by decide +kernel
theorem dX1_bitsOf_41 : decode cX1_bitsOf 41 = .ok (.iinc 5 1, 3) := by decide +kernel
theorem dX1_bitsOf_44 : decode cX1_bitsOf 44 = .ok (.goto (-26), 3) := by decide +kernel
theorem dX1_bitsOf_47 : decode cX1_bitsOf 47 = .ok (.iload 4, 2) := by decide +kernel
theorem dX1_bitsOf_49 : decode cX1_bitsOf 49 = .ok (.i2l, 1) := by decide +kernel
theorem dX1_bitsOf_50 : decode cX1_bitsOf 50 = .ok (.bipush 52, 2) := by decide +kernel
theorem dX1_bitsOf_52 : decode cX1_bitsOf 52 = .ok (.lshl, 1) := by decide +kernel
theorem dX1_bitsOf_53 : decode cX1_bitsOf 53 = .ok (.dload_n 2, 1) := by decide +kernel
theorem dX1_bitsOf_54 : decode cX1_bitsOf 54 = .ok (.dconst 1, 1) := by decide +kernel
theorem dX1_bitsOf_55 : decode cX1_bitsOf 55 = .ok (.dsub, 1) := by decide +kernel
theorem dX1_bitsOf_56 : decode cX1_bitsOf 56 = .ok (.ldc2_w 19, 3) := by decide +kernel
theorem dX1_bitsOf_59 : decode cX1_bitsOf 59 = .ok (.dmul, 1) := by decide +kernel
theorem dX1_bitsOf_60 : decode cX1_bitsOf 60 = .ok (.d2l, 1) := by decide +kernel
theorem dX1_bitsOf_61 : decode cX1_bitsOf 61 = .ok (.lor, 1) := by decide +kernel
theorem dX1_bitsOf_62 : decode cX1_bitsOf 62 = .ok (.lreturn, 1) := by decide +kernel
theorem dX2_init_0 : decode cX2_init 0 = .ok (.aload_n 0, 1) := by decide +kernel
theorem dX2_init_1 : decode cX2_init 1 = .ok (.invokespecial 3, 3) := by decide +kernel
theorem dX2_init_4 : decode cX2_init 4 = .ok (.aload_n 0, 1) := by decide +kernel
theorem dX2_init_5 : decode cX2_init 5 = .ok (.bipush 6, 2) := by decide +kernel
theorem dX2_init_7 : decode cX2_init 7 = .ok (.anewarray 9, 3) := by decide +kernel
theorem dX2_init_10 : decode cX2_init 10 = .ok (.putfield 11, 3) := by decide +kernel
theorem dX2_init_13 : decode cX2_init 13 = .ok (.return_, 1) := by decide +kernel
theorem dX2_save_0 : decode cX2_save 0 = .ok (.aload_n 0, 1) := by decide +kernel
theorem dX2_save_1 : decode cX2_save 1 = .ok (.getfield 17, 3) := by decide +kernel
theorem dX2_save_4 : decode cX2_save 4 = .ok (.bipush 6, 2) := by decide +kernel
theorem dX2_save_6 : decode cX2_save 6 = .ok (.if_icmp .lt 7, 3) := by decide +kernel
theorem dX2_save_9 : decode cX2_save 9 = .ok (.aload_n 0, 1) := by decide +kernel
theorem dX2_save_10 : decode cX2_save 10 = .ok (.invokevirtual 21, 3) := by decide +kernel
theorem dX2_save_13 : decode cX2_save 13 = .ok (.aload_n 0, 1) := by decide +kernel
theorem dX2_save_14 : decode cX2_save 14 = .ok (.getfield 11, 3) := by decide +kernel
theorem dX2_save_17 : decode cX2_save 17 = .ok (.aload_n 0, 1) := by decide +kernel
theorem dX2_save_18 : decode cX2_save 18 = .ok (.getfield 17, 3) := by decide +kernel
theorem dX2_save_21 : decode cX2_save 21 = .ok (.aaload, 1) := by decide +kernel
theorem dX2_save_22 : decode cX2_save 22 = .ok (.astore_n 2, 1) := by decide +kernel
theorem dX2_save_23 : decode cX2_save 23 = .ok (.aload_n 2, 1) := by decide +kernel
theorem dX2_save_24 : decode cX2_save 24 = .ok (.ifnonnull 21, 3) := by decide +kernel
theorem dX2_save_27 : decode cX2_save 27 = .ok (.new 9, 3) := by decide +kernel
theorem dX2_save_30 : decode cX2_save 30 = .ok (.dup, 1) := by decide +kernel
theorem dX2_save_31 : decode cX2_save 31 = .ok (.invokespecial 24, 3) := by decide +kernel
theorem dX2_save_34 : decode cX2_save 34 = .ok (.astore_n 2, 1) := by decide +kernel
theorem dX2_save_35 : decode cX2_save 35 = .ok (.aload_n 0, 1) := by decide +kernel
theorem dX2_save_36 : decode cX2_save 36 = .ok (.getfield 11, 3) := by decide +kernel
theorem dX2_save_39 : decode cX2_save 39 = .ok (.aload_n 0, 1) := by decide +kernel
theorem dX2_save_40 : decode cX2_save 40 = .ok (.getfield 17, 3) := by decide +kernel
theorem dX2_save_43 : decode cX2_save 43 = .ok (.aload_n 2, 1) := by decide +kernel
theorem dX2_save_44 : decode cX2_save 44 = .ok (.aastore, 1) := by decide +kernel
theorem dX2_save_45 : decode cX2_save 45 = .ok (.aload_n 2, 1) := by decide +kernel
theorem dX2_save_46 : decode cX2_save 46 = .ok (.aload_n 1, 1) := by decide +kernel
theorem dX2_save_47 : decode cX2_save 47 = .ok (.invokevirtual 25, 3) := by decide +kernel
theorem dX2_save_50 : decode cX2_save 50 = .ok (.aload_n 0, 1) := by decide +kernel
theorem dX2_save_51 : decode cX2_save 51 = .ok (.dup, 1) := by decide +kernel
theorem dX2_save_52 : decode cX2_save 52 = .ok (.getfield 17, 3) := by decide +kernel
theorem dX2_save_55 : decode cX2_save 55 = .ok (.iconst 1, 1) := by decide +kernel
theorem dX2_save_56 : decode cX2_save 56 = .ok (.iadd, 1) := by decide +kernel
theorem dX2_save_57 : decode cX2_save 57 = .ok (.putfield 17, 3) := by decide +kernel
theorem dX2_save_60 : decode cX2_save 60 = .ok (.return_, 1) := by decide +kernel
theorem dX2_dropOldest_0 : decode cX2_dropOldest 0 = .ok (.aload_n 0, 1) := by decide +kernel
theorem dX2_dropOldest_1 : decode cX2_dropOldest 1 = .ok (.getfield 11, 3) := by decide +kernel
theorem dX2_dropOldest_4 : decode cX2_dropOldest 4 = .ok (.iconst 0, 1) := by decide +kernel
theorem dX2_dropOldest_5 : decode cX2_dropOldest 5 = .ok (.aaload, 1) := by decide +kernel
theorem dX2_dropOldest_6 : decode cX2_dropOldest 6 = .ok (.astore_n 1, 1) := by decide +kernel
theorem dX2_dropOldest_7 : decode cX2_dropOldest 7 = .ok (.iconst 1, 1) := by decide +kernel
theorem dX2_dropOldest_8 : decode cX2_dropOldest 8 = .ok (.istore_n 2, 1) := by decide +kernel
theorem dX2_dropOldest_9 : decode cX2_dropOldest 9 = .ok (.iload_n 2, 1) := by decide +kernel
theorem dX2_dropOldest_10 : decode cX2_dropOldest 10 = .ok (.bipush 6, 2) := by decide +kernel
theorem dX2_dropOldest_12 : decode cX2_dropOldest 12 = .ok (.if_icmp .ge 23, 3) := by decide +kernel
theorem dX2_dropOldest_15 : decode cX2_dropOldest 15 = .ok (.aload_n 0, 1) := by decide +kernel
theorem dX2_dropOldest_16 : decode cX2_dropOldest 16 = .ok (.getfield 11, 3) := by decide +kernel
theorem dX2_dropOldest_19 : decode cX2_dropOldest 19 = .ok (.iload_n 2, 1) := by decide +kernel
theorem dX2_dropOldest_20 : decode cX2_dropOldest 20 = .ok (.iconst 1, 1) := by decide +kernel
theorem dX2_dropOldest_21 : decode cX2_dropOldest 21 = .ok (.isub, 1) := by decide +kernel
theorem dX2_dropOldest_22 : decode cX2_dropOldest 22 = .ok (.aload_n 0, 1) := by decide +kernel
theorem dX2_dropOldest_23 : decode cX2_dropOldest 23 = .ok (.getfield 11, 3) := by decide +kernel
theorem dX2_dropOldest_26 : decode cX2_dropOldest 26 = .ok (.iload_n 2, 1) := by decide +kernel
theorem dX2_dropOldest_27 : decode cX2_dropOldest 27 = .ok (.aaload, 1) := by decide +kernel
theorem dX2_dropOldest_28 : decode cX2_dropOldest 28 = .ok (.aastore, 1) := by decide +kernel
theorem dX2_dropOldest_29 : decode cX2_dropOldest 29 = .ok (.iinc 2 1, 3) := by decide +kernel
theorem dX2_dropOldest_32 : decode cX2_dropOldest 32 = .ok (.goto (-23), 3) := by decide +kernel
theorem dX2_dropOldest_35 : decode cX2_dropOldest 35 = .ok (.aload_n 0, 1) := by decide +kernel
theorem dX2_dropOldest_36 : decode cX2_dropOldest 36 = .ok (.getfield 11, 3) := by decide +kernel
theorem dX2_dropOldest_39 : decode cX2_dropOldest 39 = .ok (.iconst 5, 1) := by decide +kernel
theorem dX2_dropOldest_40 : decode cX2_dropOldest 40 = .ok (.aload_n 1, 1) := by decide +kernel
theorem dX2_dropOldest_41 : decode cX2_dropOldest 41 = .ok (.aastore, 1) := by decide +kernel
theorem dX2_dropOldest_42 : decode cX2_dropOldest 42 = .ok (.aload_n 0, 1) := by decide +kernel
theorem dX2_dropOldest_43 : decode cX2_dropOldest 43 = .ok (.iconst 5, 1) := by decide +kernel
theorem dX2_dropOldest_44 : decode cX2_dropOldest 44 = .ok (.putfield 17, 3) := by decide +kernel
theorem dX2_dropOldest_47 : decode cX2_dropOldest 47 = .ok (.return_, 1) := by decide +kernel
theorem dX2_latest_0 : decode cX2_latest 0 = .ok (.aload_n 0, 1) := by decide +kernel
theorem dX2_latest_1 : decode cX2_latest 1 = .ok (.getfield 17, 3) := by decide +kernel
theorem dX2_latest_4 : decode cX2_latest 4 = .ok (.ifCond .le 17, 3) := by decide +kernel
theorem dX2_latest_7 : decode cX2_latest 7 = .ok (.aload_n 0, 1) := by decide +kernel
theorem dX2_latest_8 : decode cX2_latest 8 = .ok (.getfield 11, 3) := by decide +kernel
theorem dX2_latest_11 : decode cX2_latest 11 = .ok (.aload_n 0, 1) := by decide +kernel
theorem dX2_latest_12 : decode cX2_latest 12 = .ok (.getfield 17, 3) := by decide +kernel
theorem dX2_latest_15 : decode cX2_latest 15 = .ok (.iconst 1, 1) := by decide +kernel
theorem dX2_latest_16 : decode cX2_latest 16 = .ok (.isub, 1) := by decide +kernel
theorem dX2_latest_17 : decode cX2_latest 17 = .ok (.aaload, 1) := by decide +kernel
theorem dX2_latest_18 : decode cX2_latest 18 = .ok (.goto 4, 3) := by decide +kernel
theorem dX2_latest_21 : decode cX2_latest 21 = .ok (.aconst_null, 1) := by decide +kernel
theorem dX2_latest_22 : decode cX2_latest 22 = .ok (.areturn, 1) := by decide +kernel
theorem dX2_dropLatest_0 : decode cX2_dropLatest 0 = .ok (.aload_n 0, 1) := by decide +kernel
theorem dX2_dropLatest_1 : decode cX2_dropLatest 1 = .ok (.getfield 17, 3) := by decide +kernel
theorem dX2_dropLatest_4 : decode cX2_dropLatest 4 = .ok (.ifCond .le 13, 3) := by decide +kernel
theorem dX2_dropLatest_7 : decode cX2_dropLatest 7 = .ok (.aload_n 0, 1) := by decide +kernel
theorem dX2_dropLatest_8 : decode cX2_dropLatest 8 = .ok (.dup, 1) := by decide +kernel
theorem dX2_dropLatest_9 : decode cX2_dropLatest 9 = .ok (.getfield 17, 3) := by decide +kernel
theorem dX2_dropLatest_12 : decode cX2_dropLatest 12 = .ok (.iconst 1, 1) := by decide +kernel
theorem dX2_dropLatest_13 : decode cX2_dropLatest 13 = .ok (.isub, 1) := by decide +kernel
theorem dX2_dropLatest_14 : decode cX2_dropLatest 14 = .ok (.putfield 17, 3) := by decide +kernel
theorem dX2_dropLatest_17 : decode cX2_dropLatest 17 = .ok (.return_, 1) := by decide +kernel
theorem dX3_init_0 : decode cX3_init 0 = .ok (.aload_n 0, 1) := by decide +kernel
theorem dX3_init_1 : decode cX3_init 1 = .ok (.invokespecial 3, 3) := by decide +kernel
theorem dX3_init_4 : decode cX3_init 4 = .ok (.aload_n 0, 1) := by decide +kernel
theorem dX3_init_5 : decode cX3_init 5 = .ok (.aload_n 1, 1) := by decide +kernel
theorem dX3_init_6 : decode cX3_init 6 = .ok (.putfield 9, 3) := by decide +kernel
theorem dX3_init_9 : decode cX3_init 9 = .ok (.return_, 1) := by decide +kernel
theorem dX3_ofWord_0 : decode cX3_ofWord 0 = .ok (.iload_n 2, 1) := by decide +kernel
theorem dX3_ofWord_1 : decode cX3_ofWord 1 = .ok (.tableswitch 88 0 4 #[35, 45, 55, 65, 75], 35) := by decide +kernel
theorem dX3_ofWord_36 : decode cX3_ofWord 36 = .ok (.aload_n 0, 1) := by decide +kernel
theorem dX3_ofWord_37 : decode cX3_ofWord 37 = .ok (.getfield 9, 3) := by decide +kernel
theorem dX3_ofWord_40 : decode cX3_ofWord 40 = .ok (.getfield 15, 3) := by decide +kernel
theorem dX3_ofWord_43 : decode cX3_ofWord 43 = .ok (.iload_n 1, 1) := by decide +kernel
theorem dX3_ofWord_44 : decode cX3_ofWord 44 = .ok (.iaload, 1) := by decide +kernel
theorem dX3_ofWord_45 : decode cX3_ofWord 45 = .ok (.ireturn, 1) := by decide +kernel
theorem dX3_ofWord_46 : decode cX3_ofWord 46 = .ok (.aload_n 0, 1) := by decide +kernel
theorem dX3_ofWord_47 : decode cX3_ofWord 47 = .ok (.getfield 9, 3) := by decide +kernel
theorem dX3_ofWord_50 : decode cX3_ofWord 50 = .ok (.getfield 21, 3) := by decide +kernel
theorem dX3_ofWord_53 : decode cX3_ofWord 53 = .ok (.iload_n 1, 1) := by decide +kernel
theorem dX3_ofWord_54 : decode cX3_ofWord 54 = .ok (.iaload, 1) := by decide +kernel
theorem dX3_ofWord_55 : decode cX3_ofWord 55 = .ok (.ireturn, 1) := by decide +kernel
theorem dX3_ofWord_56 : decode cX3_ofWord 56 = .ok (.aload_n 0, 1) := by decide +kernel
theorem dX3_ofWord_57 : decode cX3_ofWord 57 = .ok (.getfield 9, 3) := by decide +kernel
theorem dX3_ofWord_60 : decode cX3_ofWord 60 = .ok (.getfield 24, 3) := by decide +kernel
theorem dX3_ofWord_63 : decode cX3_ofWord 63 = .ok (.iload_n 1, 1) := by decide +kernel
theorem dX3_ofWord_64 : decode cX3_ofWord 64 = .ok (.iaload, 1) := by decide +kernel
theorem dX3_ofWord_65 : decode cX3_ofWord 65 = .ok (.ireturn, 1) := by decide +kernel
theorem dX3_ofWord_66 : decode cX3_ofWord 66 = .ok (.aload_n 0, 1) := by decide +kernel
theorem dX3_ofWord_67 : decode cX3_ofWord 67 = .ok (.getfield 9, 3) := by decide +kernel
theorem dX3_ofWord_70 : decode cX3_ofWord 70 = .ok (.getfield 27, 3) := by decide +kernel
theorem dX3_ofWord_73 : decode cX3_ofWord 73 = .ok (.iload_n 1, 1) := by decide +kernel
theorem dX3_ofWord_74 : decode cX3_ofWord 74 = .ok (.iaload, 1) := by decide +kernel
theorem dX3_ofWord_75 : decode cX3_ofWord 75 = .ok (.ireturn, 1) := by decide +kernel
theorem dX3_ofWord_76 : decode cX3_ofWord 76 = .ok (.aload_n 0, 1) := by decide +kernel
theorem dX3_ofWord_77 : decode cX3_ofWord 77 = .ok (.aload_n 0, 1) := by decide +kernel
theorem dX3_ofWord_78 : decode cX3_ofWord 78 = .ok (.getfield 9, 3) := by decide +kernel
theorem dX3_ofWord_81 : decode cX3_ofWord 81 = .ok (.getfield 30, 3) := by decide +kernel
theorem dX3_ofWord_84 : decode cX3_ofWord 84 = .ok (.iload_n 1, 1) := by decide +kernel
theorem dX3_ofWord_85 : decode cX3_ofWord 85 = .ok (.invokevirtual 34, 3) := by decide +kernel
theorem dX3_ofWord_88 : decode cX3_ofWord 88 = .ok (.ireturn, 1) := by decide +kernel
theorem dX3_ofWord_89 : decode cX3_ofWord 89 = .ok (.aload_n 0, 1) := by decide +kernel
theorem dX3_ofWord_90 : decode cX3_ofWord 90 = .ok (.aload_n 0, 1) := by decide +kernel
theorem dX3_ofWord_91 : decode cX3_ofWord 91 = .ok (.getfield 9, 3) := by decide +kernel
theorem dX3_ofWord_94 : decode cX3_ofWord 94 = .ok (.getfield 38, 3) := by decide +kernel
theorem dX3_ofWord_97 : decode cX3_ofWord 97 = .ok (.iload_n 1, 1) := by decide +kernel
theorem dX3_ofWord_98 : decode cX3_ofWord 98 = .ok (.invokevirtual 34, 3) := by decide +kernel
theorem dX3_ofWord_101 : decode cX3_ofWord 101 = .ok (.ireturn, 1) := by decide +kernel
theorem dX3_maskOf_0 : decode cX3_maskOf 0 = .ok (.iconst 0, 1) := by decide +kernel
theorem dX3_maskOf_1 : decode cX3_maskOf 1 = .ok (.istore_n 3, 1) := by decide +kernel
theorem dX3_maskOf_2 : decode cX3_maskOf 2 = .ok (.iconst 0, 1) := by decide +kernel
theorem dX3_maskOf_3 : decode cX3_maskOf 3 = .ok (.istore 4, 2) := by decide +kernel
theorem dX3_maskOf_5 : decode cX3_maskOf 5 = .ok (.iload 4, 2) := by decide +kernel
theorem dX3_maskOf_7 : decode cX3_maskOf 7 = .ok (.bipush 6, 2) := by decide +kernel
theorem dX3_maskOf_9 : decode cX3_maskOf 9 = .ok (.if_icmp .ge 26, 3) := by decide +kernel
theorem dX3_maskOf_12 : decode cX3_maskOf 12 = .ok (.aload_n 1, 1) := by decide +kernel
theorem dX3_maskOf_13 : decode cX3_maskOf 13 = .ok (.iload 4, 2) := by decide +kernel
theorem dX3_maskOf_15 : decode cX3_maskOf 15 = .ok (.aaload, 1) := by decide +kernel
theorem dX3_maskOf_16 : decode cX3_maskOf 16 = .ok (.iload_n 2, 1) := by decide +kernel
theorem dX3_maskOf_17 : decode cX3_maskOf 17 = .ok (.iaload, 1) := by decide +kernel
theorem dX3_maskOf_18 : decode cX3_maskOf 18 = .ok (.iconst (-1), 1) := by decide +kernel
theorem dX3_maskOf_19 : decode cX3_maskOf 19 = .ok (.if_icmp .eq 10, 3) := by decide +kernel
theorem dX3_maskOf_22 : decode cX3_maskOf 22 = .ok (.iload_n 3, 1) := by decide +kernel
theorem dX3_maskOf_23 : decode cX3_maskOf 23 = .ok (.iconst 1, 1) := by decide +kernel
theorem dX3_maskOf_24 : decode cX3_maskOf 24 = .ok (.iload 4, 2) := by decide +kernel
theorem dX3_maskOf_26 : decode cX3_maskOf 26 = .ok (.ishl, 1) := by decide +kernel
theorem dX3_maskOf_27 : decode cX3_maskOf 27 = .ok (.ior, 1) := by decide +kernel
theorem dX3_maskOf_28 : decode cX3_maskOf 28 = .ok (.istore_n 3, 1) := by decide +kernel
theorem dX3_maskOf_29 : decode cX3_maskOf 29 = .ok (.iinc 4 1, 3) := by decide +kernel
theorem dX3_maskOf_32 : decode cX3_maskOf 32 = .ok (.goto (-27), 3) := by decide +kernel
theorem dX3_maskOf_35 : decode cX3_maskOf 35 = .ok (.iload_n 3, 1) := by decide +kernel
theorem dX3_maskOf_36 : decode cX3_maskOf 36 = .ok (.ireturn, 1) := by decide +kernel
theorem dX3_ofBeat_0 : decode cX3_ofBeat 0 = .ok (.aload_n 0, 1) := by decide +kernel
theorem dX3_ofBeat_1 : decode cX3_ofBeat 1 = .ok (.getfield 9, 3) := by decide +kernel
theorem dX3_ofBeat_4 : decode cX3_ofBeat 4 = .ok (.getfield 41, 3) := by decide +kernel
theorem dX3_ofBeat_7 : decode cX3_ofBeat 7 = .ok (.iload_n 1, 1) := by decide +kernel
theorem dX3_ofBeat_8 : decode cX3_ofBeat 8 = .ok (.aaload, 1) := by decide +kernel
theorem dX3_ofBeat_9 : decode cX3_ofBeat 9 = .ok (.iload_n 2, 1) := by decide +kernel
theorem dX3_ofBeat_10 : decode cX3_ofBeat 10 = .ok (.iaload, 1) := by decide +kernel
theorem dX3_ofBeat_11 : decode cX3_ofBeat 11 = .ok (.istore 4, 2) := by decide +kernel
theorem dX3_ofBeat_13 : decode cX3_ofBeat 13 = .ok (.iload 4, 2) := by decide +kernel
theorem dX3_ofBeat_15 : decode cX3_ofBeat 15 = .ok (.iconst (-1), 1) := by decide +kernel
theorem dX3_ofBeat_16 : decode cX3_ofBeat 16 = .ok (.if_icmp .eq 7, 3) := by decide +kernel
theorem dX3_ofBeat_19 : decode cX3_ofBeat 19 = .ok (.iload_n 3, 1) := by decide +kernel
theorem dX3_ofBeat_20 : decode cX3_ofBeat 20 = .ok (.ifCond .ne 6, 3) := by decide +kernel
theorem dX3_ofBeat_23 : decode cX3_ofBeat 23 = .ok (.iload 4, 2) := by decide +kernel
theorem dX3_ofBeat_25 : decode cX3_ofBeat 25 = .ok (.ireturn, 1) := by decide +kernel
theorem dX3_ofBeat_26 : decode cX3_ofBeat 26 = .ok (.iload_n 3, 1) := by decide +kernel
theorem dX3_ofBeat_27 : decode cX3_ofBeat 27 = .ok (.iconst 1, 1) := by decide +kernel
theorem dX3_ofBeat_28 : decode cX3_ofBeat 28 = .ok (.if_icmp .ne 14, 3) := by decide +kernel
theorem dX3_ofBeat_31 : decode cX3_ofBeat 31 = .ok (.aload_n 0, 1) := by decide +kernel
theorem dX3_ofBeat_32 : decode cX3_ofBeat 32 = .ok (.getfield 9, 3) := by decide +kernel
theorem dX3_ofBeat_35 : decode cX3_ofBeat 35 = .ok (.getfield 21, 3) := by decide +kernel
theorem dX3_ofBeat_38 : decode cX3_ofBeat 38 = .ok (.iload 4, 2) := by decide +kernel
theorem dX3_ofBeat_40 : decode cX3_ofBeat 40 = .ok (.iaload, 1) := by decide +kernel
theorem dX3_ofBeat_41 : decode cX3_ofBeat 41 = .ok (.ireturn, 1) := by decide +kernel
theorem dX3_ofBeat_42 : decode cX3_ofBeat 42 = .ok (.aload_n 0, 1) := by decide +kernel
theorem dX3_ofBeat_43 : decode cX3_ofBeat 43 = .ok (.iload_n 1, 1) := by decide +kernel
theorem dX3_ofBeat_44 : decode cX3_ofBeat 44 = .ok (.iload_n 2, 1) := by decide +kernel
theorem dX3_ofBeat_45 : decode cX3_ofBeat 45 = .ok (.invokevirtual 44, 3) := by decide +kernel
theorem dX3_ofBeat_48 : decode cX3_ofBeat 48 = .ok (.ifCond .eq 7, 3) := by decide +kernel
theorem dX3_ofBeat_51 : decode cX3_ofBeat 51 = .ok (.iconst 1, 1) := by decide +kernel
theorem dX3_ofBeat_52 : decode cX3_ofBeat 52 = .ok (.goto 4, 3) := by decide +kernel
theorem dX3_ofBeat_55 : decode cX3_ofBeat 55 = .ok (.iconst 0, 1) := by decide +kernel
theorem dX3_ofBeat_56 : decode cX3_ofBeat 56 = .ok (.ireturn, 1) := by decide +kernel
theorem dX3_isRepeated_0 : decode cX3_isRepeated 0 = .ok (.aload_n 0, 1) := by decide +kernel
theorem dX3_isRepeated_1 : decode cX3_isRepeated 1 = .ok (.getfield 9, 3) := by decide +kernel
theorem dX3_isRepeated_4 : decode cX3_isRepeated 4 = .ok (.getfield 41, 3) := by decide +kernel
theorem dX3_isRepeated_7 : decode cX3_isRepeated 7 = .ok (.iload_n 1, 1) := by decide +kernel
theorem dX3_isRepeated_8 : decode cX3_isRepeated 8 = .ok (.aaload, 1) := by decide +kernel
theorem dX3_isRepeated_9 : decode cX3_isRepeated 9 = .ok (.astore_n 3, 1) := by decide +kernel
theorem dX3_isRepeated_10 : decode cX3_isRepeated 10 = .ok (.iload_n 2, 1) := by decide +kernel
theorem dX3_isRepeated_11 : decode cX3_isRepeated 11 = .ok (.ifCond .le 25, 3) := by decide +kernel
theorem dX3_isRepeated_14 : decode cX3_isRepeated 14 = .ok (.aload_n 3, 1) := by decide +kernel
theorem dX3_isRepeated_15 : decode cX3_isRepeated 15 = .ok (.iload_n 2, 1) := by decide +kernel
theorem dX3_isRepeated_16 : decode cX3_isRepeated 16 = .ok (.iaload, 1) := by decide +kernel
theorem dX3_isRepeated_17 : decode cX3_isRepeated 17 = .ok (.iconst (-1), 1) := by decide +kernel
theorem dX3_isRepeated_18 : decode cX3_isRepeated 18 = .ok (.if_icmp .eq 18, 3) := by decide +kernel
theorem dX3_isRepeated_21 : decode cX3_isRepeated 21 = .ok (.aload_n 3, 1) := by decide +kernel
theorem dX3_isRepeated_22 : decode cX3_isRepeated 22 = .ok (.iload_n 2, 1) := by decide +kernel
theorem dX3_isRepeated_23 : decode cX3_isRepeated 23 = .ok (.iaload, 1) := by decide +kernel
theorem dX3_isRepeated_24 : decode cX3_isRepeated 24 = .ok (.aload_n 3, 1) := by decide +kernel
theorem dX3_isRepeated_25 : decode cX3_isRepeated 25 = .ok (.iload_n 2, 1) := by decide +kernel
theorem dX3_isRepeated_26 : decode cX3_isRepeated 26 = .ok (.iconst 1, 1) := by decide +kernel
theorem dX3_isRepeated_27 : decode cX3_isRepeated 27 = .ok (.isub, 1) := by decide +kernel
theorem dX3_isRepeated_28 : decode cX3_isRepeated 28 = .ok (.iaload, 1) := by decide +kernel
theorem dX3_isRepeated_29 : decode cX3_isRepeated 29 = .ok (.if_icmp .ne 7, 3) := by decide +kernel
theorem dX3_isRepeated_32 : decode cX3_isRepeated 32 = .ok (.iconst 1, 1) := by decide +kernel
theorem dX3_isRepeated_33 : decode cX3_isRepeated 33 = .ok (.goto 4, 3) := by decide +kernel
theorem dX3_isRepeated_36 : decode cX3_isRepeated 36 = .ok (.iconst 0, 1) := by decide +kernel
theorem dX3_isRepeated_37 : decode cX3_isRepeated 37 = .ok (.ireturn, 1) := by decide +kernel
theorem dX3_ofSpeaker_0 : decode cX3_ofSpeaker 0 = .ok (.iload_n 2, 1) := by decide +kernel
theorem dX3_ofSpeaker_1 : decode cX3_ofSpeaker 1 = .ok (.tableswitch 97 0 6 #[43, 53, 59, 65, 71, 85, 91], 43) := by decide +kernel
theorem dX3_ofSpeaker_44 : decode cX3_ofSpeaker 44 = .ok (.aload_n 0, 1) := by decide +kernel
theorem dX3_ofSpeaker_45 : decode cX3_ofSpeaker 45 = .ok (.getfield 9, 3) := by decide +kernel
theorem dX3_ofSpeaker_48 : decode cX3_ofSpeaker 48 = .ok (.getfield 48, 3) := by decide +kernel
theorem dX3_ofSpeaker_51 : decode cX3_ofSpeaker 51 = .ok (.iload_n 1, 1) := by decide +kernel
theorem dX3_ofSpeaker_52 : decode cX3_ofSpeaker 52 = .ok (.iaload, 1) := by decide +kernel
theorem dX3_ofSpeaker_53 : decode cX3_ofSpeaker 53 = .ok (.ireturn, 1) := by decide +kernel
theorem dX3_ofSpeaker_54 : decode cX3_ofSpeaker 54 = .ok (.aload_n 0, 1) := by decide +kernel
theorem dX3_ofSpeaker_55 : decode cX3_ofSpeaker 55 = .ok (.iload_n 1, 1) := by decide +kernel
theorem dX3_ofSpeaker_56 : decode cX3_ofSpeaker 56 = .ok (.invokevirtual 51, 3) := by decide +kernel
theorem dX3_ofSpeaker_59 : decode cX3_ofSpeaker 59 = .ok (.ireturn, 1) := by decide +kernel
theorem dX3_ofSpeaker_60 : decode cX3_ofSpeaker 60 = .ok (.aload_n 0, 1) := by decide +kernel
theorem dX3_ofSpeaker_61 : decode cX3_ofSpeaker 61 = .ok (.iload_n 1, 1) := by decide +kernel
theorem dX3_ofSpeaker_62 : decode cX3_ofSpeaker 62 = .ok (.invokevirtual 55, 3) := by decide +kernel
theorem dX3_ofSpeaker_65 : decode cX3_ofSpeaker 65 = .ok (.ireturn, 1) := by decide +kernel
theorem dX3_ofSpeaker_66 : decode cX3_ofSpeaker 66 = .ok (.aload_n 0, 1) := by decide +kernel
theorem dX3_ofSpeaker_67 : decode cX3_ofSpeaker 67 = .ok (.iload_n 1, 1) := by decide +kernel
theorem dX3_ofSpeaker_68 : decode cX3_ofSpeaker 68 = .ok (.invokevirtual 58, 3) := by decide +kernel
theorem dX3_ofSpeaker_71 : decode cX3_ofSpeaker 71 = .ok (.ireturn, 1) := by decide +kernel
theorem dX3_ofSpeaker_72 : decode cX3_ofSpeaker 72 = .ok (.aload_n 0, 1) := by decide +kernel
theorem dX3_ofSpeaker_73 : decode cX3_ofSpeaker 73 = .ok (.getfield 9, 3) := by decide +kernel
theorem dX3_ofSpeaker_76 : decode cX3_ofSpeaker 76 = .ok (.getfield 61, 3) := by decide +kernel
theorem dX3_ofSpeaker_79 : decode cX3_ofSpeaker 79 = .ok (.aload_n 0, 1) := by decide +kernel
theorem dX3_ofSpeaker_80 : decode cX3_ofSpeaker 80 = .ok (.iload_n 1, 1) := by decide +kernel
theorem dX3_ofSpeaker_81 : decode cX3_ofSpeaker 81 = .ok (.invokevirtual 51, 3) := by decide +kernel
theorem dX3_ofSpeaker_84 : decode cX3_ofSpeaker 84 = .ok (.isub, 1) := by decide +kernel
theorem dX3_ofSpeaker_85 : decode cX3_ofSpeaker 85 = .ok (.ireturn, 1) := by decide +kernel
theorem dX3_ofSpeaker_86 : decode cX3_ofSpeaker 86 = .ok (.aload_n 0, 1) := by decide +kernel
theorem dX3_ofSpeaker_87 : decode cX3_ofSpeaker 87 = .ok (.iload_n 1, 1) := by decide +kernel
theorem dX3_ofSpeaker_88 : decode cX3_ofSpeaker 88 = .ok (.invokevirtual 65, 3) := by decide +kernel
theorem dX3_ofSpeaker_91 : decode cX3_ofSpeaker 91 = .ok (.ireturn, 1) := by decide +kernel
theorem dX3_ofSpeaker_92 : decode cX3_ofSpeaker 92 = .ok (.aload_n 0, 1) := by decide +kernel
theorem dX3_ofSpeaker_93 : decode cX3_ofSpeaker 93 = .ok (.iload_n 1, 1) := by decide +kernel
theorem dX3_ofSpeaker_94 : decode cX3_ofSpeaker 94 = .ok (.invokevirtual 68, 3) := by decide +kernel
theorem dX3_ofSpeaker_97 : decode cX3_ofSpeaker 97 = .ok (.ireturn, 1) := by decide +kernel
theorem dX3_ofSpeaker_98 : decode cX3_ofSpeaker 98 = .ok (.aload_n 0, 1) := by decide +kernel
theorem dX3_ofSpeaker_99 : decode cX3_ofSpeaker 99 = .ok (.iload_n 1, 1) := by decide +kernel
theorem dX3_ofSpeaker_100 : decode cX3_ofSpeaker 100 = .ok (.invokevirtual 71, 3) := by decide +kernel
theorem dX3_ofSpeaker_103 : decode cX3_ofSpeaker 103 = .ok (.ireturn, 1) := by decide +kernel
theorem dX3_heardBeats_0 : decode cX3_heardBeats 0 = .ok (.iconst 0, 1) := by decide +kernel
theorem dX3_heardBeats_1 : decode cX3_heardBeats 1 = .ok (.istore_n 2, 1) := by decide +kernel
theorem dX3_heardBeats_2 : decode cX3_heardBeats 2 = .ok (.iconst 0, 1) := by decide +kernel
theorem dX3_heardBeats_3 : decode cX3_heardBeats 3 = .ok (.istore_n 3, 1) := by decide +kernel
theorem dX3_heardBeats_4 : decode cX3_heardBeats 4 = .ok (.iload_n 3, 1) := by decide +kernel
theorem dX3_heardBeats_5 : decode cX3_heardBeats 5 = .ok (.aload_n 0, 1) := by decide +kernel
theorem dX3_heardBeats_6 : decode cX3_heardBeats 6 = .ok (.getfield 9, 3) := by decide +kernel
theorem dX3_heardBeats_9 : decode cX3_heardBeats 9 = .ok (.getfield 61, 3) := by decide +kernel
theorem dX3_heardBeats_12 : decode cX3_heardBeats 12 = .ok (.if_icmp .ge 27, 3) := by decide +kernel
theorem dX3_heardBeats_15 : decode cX3_heardBeats 15 = .ok (.aload_n 0, 1) := by decide +kernel
theorem dX3_heardBeats_16 : decode cX3_heardBeats 16 = .ok (.getfield 9, 3) := by decide +kernel
theorem dX3_heardBeats_19 : decode cX3_heardBeats 19 = .ok (.getfield 41, 3) := by decide +kernel
theorem dX3_heardBeats_22 : decode cX3_heardBeats 22 = .ok (.iload_n 1, 1) := by decide +kernel
theorem dX3_heardBeats_23 : decode cX3_heardBeats 23 = .ok (.aaload, 1) := by decide +kernel
theorem dX3_heardBeats_24 : decode cX3_heardBeats 24 = .ok (.iload_n 3, 1) := by decide +kernel
theorem dX3_heardBeats_25 : decode cX3_heardBeats 25 = .ok (.iaload, 1) := by decide +kernel
theorem dX3_heardBeats_26 : decode cX3_heardBeats 26 = .ok (.iconst (-1), 1) := by decide +kernel
theorem dX3_heardBeats_27 : decode cX3_heardBeats 27 = .ok (.if_icmp .eq 6, 3) := by decide +kernel
theorem dX3_heardBeats_30 : decode cX3_heardBeats 30 = .ok (.iinc 2 1, 3) := by decide +kernel
theorem dX3_heardBeats_33 : decode cX3_heardBeats 33 = .ok (.iinc 3 1, 3) := by decide +kernel
theorem dX3_heardBeats_36 : decode cX3_heardBeats 36 = .ok (.goto (-32), 3) := by decide +kernel
theorem dX3_heardBeats_39 : decode cX3_heardBeats 39 = .ok (.iload_n 2, 1) := by decide +kernel
theorem dX3_heardBeats_40 : decode cX3_heardBeats 40 = .ok (.ireturn, 1) := by decide +kernel
theorem dX3_heardWordsByBeats_0 : decode cX3_heardWordsByBeats 0 = .ok (.iconst 0, 1) := by decide +kernel
theorem dX3_heardWordsByBeats_1 : decode cX3_heardWordsByBeats 1 = .ok (.istore_n 2, 1) := by decide +kernel
theorem dX3_heardWordsByBeats_2 : decode cX3_heardWordsByBeats 2 = .ok (.iconst 0, 1) := by decide +kernel
theorem dX3_heardWordsByBeats_3 : decode cX3_heardWordsByBeats 3 = .ok (.istore_n 3, 1) := by decide +kernel
theorem dX3_heardWordsByBeats_4 : decode cX3_heardWordsByBeats 4 = .ok (.iload_n 3, 1) := by decide +kernel
theorem dX3_heardWordsByBeats_5 : decode cX3_heardWordsByBeats 5 = .ok (.aload_n 0, 1) := by decide +kernel
theorem dX3_heardWordsByBeats_6 : decode cX3_heardWordsByBeats 6 = .ok (.getfield 9, 3) := by decide +kernel
theorem dX3_heardWordsByBeats_9 : decode cX3_heardWordsByBeats 9 = .ok (.getfield 61, 3) := by decide +kernel
theorem dX3_heardWordsByBeats_12 : decode cX3_heardWordsByBeats 12 = .ok (.if_icmp .ge 47, 3) := by decide +kernel
theorem dX3_heardWordsByBeats_15 : decode cX3_heardWordsByBeats 15 = .ok (.aload_n 0, 1) := by decide +kernel
theorem dX3_heardWordsByBeats_16 : decode cX3_heardWordsByBeats 16 = .ok (.getfield 9, 3) := by decide +kernel
theorem dX3_heardWordsByBeats_19 : decode cX3_heardWordsByBeats 19 = .ok (.getfield 41, 3) := by decide +kernel
theorem dX3_heardWordsByBeats_22 : decode cX3_heardWordsByBeats 22 = .ok (.iload_n 1, 1) := by decide +kernel
theorem dX3_heardWordsByBeats_23 : decode cX3_heardWordsByBeats 23 = .ok (.aaload, 1) := by decide +kernel
theorem dX3_heardWordsByBeats_24 : decode cX3_heardWordsByBeats 24 = .ok (.iload_n 3, 1) := by decide +kernel
theorem dX3_heardWordsByBeats_25 : decode cX3_heardWordsByBeats 25 = .ok (.iaload, 1) := by decide +kernel
theorem dX3_heardWordsByBeats_26 : decode cX3_heardWordsByBeats 26 = .ok (.istore 4, 2) := by decide +kernel
theorem dX3_heardWordsByBeats_28 : decode cX3_heardWordsByBeats 28 = .ok (.iload 4, 2) := by decide +kernel
theorem dX3_heardWordsByBeats_30 : decode cX3_heardWordsByBeats 30 = .ok (.iconst (-1), 1) := by decide +kernel
theorem dX3_heardWordsByBeats_31 : decode cX3_heardWordsByBeats 31 = .ok (.if_icmp .eq 22, 3) := by decide +kernel
theorem dX3_heardWordsByBeats_34 : decode cX3_heardWordsByBeats 34 = .ok (.aload_n 0, 1) := by decide +kernel
theorem dX3_heardWordsByBeats_35 : decode cX3_heardWordsByBeats 35 = .ok (.getfield 9, 3) := by decide +kernel
theorem dX3_heardWordsByBeats_38 : decode cX3_heardWordsByBeats 38 = .ok (.getfield 38, 3) := by decide +kernel
theorem dX3_heardWordsByBeats_41 : decode cX3_heardWordsByBeats 41 = .ok (.iload_n 1, 1) := by decide +kernel
theorem dX3_heardWordsByBeats_42 : decode cX3_heardWordsByBeats 42 = .ok (.aaload, 1) := by decide +kernel
theorem dX3_heardWordsByBeats_43 : decode cX3_heardWordsByBeats 43 = .ok (.iload 4, 2) := by decide +kernel
theorem dX3_heardWordsByBeats_45 : decode cX3_heardWordsByBeats 45 = .ok (.iaload, 1) := by decide +kernel
theorem dX3_heardWordsByBeats_46 : decode cX3_heardWordsByBeats 46 = .ok (.iload_n 3, 1) := by decide +kernel
theorem dX3_heardWordsByBeats_47 : decode cX3_heardWordsByBeats 47 = .ok (.if_icmp .ne 6, 3) := by decide +kernel
theorem dX3_heardWordsByBeats_50 : decode cX3_heardWordsByBeats 50 = .ok (.iinc 2 1, 3) := by decide +kernel
theorem dX3_heardWordsByBeats_53 : decode cX3_heardWordsByBeats 53 = .ok (.iinc 3 1, 3) := by decide +kernel
theorem dX3_heardWordsByBeats_56 : decode cX3_heardWordsByBeats 56 = .ok (.goto (-52), 3) := by decide +kernel
theorem dX3_heardWordsByBeats_59 : decode cX3_heardWordsByBeats 59 = .ok (.iload_n 2, 1) := by decide +kernel
theorem dX3_heardWordsByBeats_60 : decode cX3_heardWordsByBeats 60 = .ok (.ireturn, 1) := by decide +kernel
theorem dX3_heardWordsByWords_0 : decode cX3_heardWordsByWords 0 = .ok (.iconst 0, 1) := by decide +kernel
theorem dX3_heardWordsByWords_1 : decode cX3_heardWordsByWords 1 = .ok (.istore_n 2, 1) := by decide +kernel
theorem dX3_heardWordsByWords_2 : decode cX3_heardWordsByWords 2 = .ok (.iconst 0, 1) := by decide +kernel
theorem dX3_heardWordsByWords_3 : decode cX3_heardWordsByWords 3 = .ok (.istore_n 3, 1) := by decide +kernel
theorem dX3_heardWordsByWords_4 : decode cX3_heardWordsByWords 4 = .ok (.iload_n 3, 1) := by decide +kernel
theorem dX3_heardWordsByWords_5 : decode cX3_heardWordsByWords 5 = .ok (.aload_n 0, 1) := by decide +kernel
theorem dX3_heardWordsByWords_6 : decode cX3_heardWordsByWords 6 = .ok (.getfield 9, 3) := by decide +kernel
theorem dX3_heardWordsByWords_9 : decode cX3_heardWordsByWords 9 = .ok (.getfield 74, 3) := by decide +kernel
theorem dX3_heardWordsByWords_12 : decode cX3_heardWordsByWords 12 = .ok (.if_icmp .ge 27, 3) := by decide +kernel
theorem dX3_heardWordsByWords_15 : decode cX3_heardWordsByWords 15 = .ok (.aload_n 0, 1) := by decide +kernel
theorem dX3_heardWordsByWords_16 : decode cX3_heardWordsByWords 16 = .ok (.getfield 9, 3) := by decide +kernel
theorem dX3_heardWordsByWords_19 : decode cX3_heardWordsByWords 19 = .ok (.getfield 38, 3) := by decide +kernel
theorem dX3_heardWordsByWords_22 : decode cX3_heardWordsByWords 22 = .ok (.iload_n 1, 1) := by decide +kernel
theorem dX3_heardWordsByWords_23 : decode cX3_heardWordsByWords 23 = .ok (.aaload, 1) := by decide +kernel
theorem dX3_heardWordsByWords_24 : decode cX3_heardWordsByWords 24 = .ok (.iload_n 3, 1) := by decide +kernel
theorem dX3_heardWordsByWords_25 : decode cX3_heardWordsByWords 25 = .ok (.iaload, 1) := by decide +kernel
theorem dX3_heardWordsByWords_26 : decode cX3_heardWordsByWords 26 = .ok (.iconst (-1), 1) := by decide +kernel
theorem dX3_heardWordsByWords_27 : decode cX3_heardWordsByWords 27 = .ok (.if_icmp .eq 6, 3) := by decide +kernel
theorem dX3_heardWordsByWords_30 : decode cX3_heardWordsByWords 30 = .ok (.iinc 2 1, 3) := by decide +kernel
theorem dX3_heardWordsByWords_33 : decode cX3_heardWordsByWords 33 = .ok (.iinc 3 1, 3) := by decide +kernel
theorem dX3_heardWordsByWords_36 : decode cX3_heardWordsByWords 36 = .ok (.goto (-32), 3) := by decide +kernel
theorem dX3_heardWordsByWords_39 : decode cX3_heardWordsByWords 39 = .ok (.iload_n 2, 1) := by decide +kernel
theorem dX3_heardWordsByWords_40 : decode cX3_heardWordsByWords 40 = .ok (.ireturn, 1) := by decide +kernel
theorem dX3_repeatedBeats_0 : decode cX3_repeatedBeats 0 = .ok (.iconst 0, 1) := by decide +kernel
theorem dX3_repeatedBeats_1 : decode cX3_repeatedBeats 1 = .ok (.istore_n 2, 1) := by decide +kernel
theorem dX3_repeatedBeats_2 : decode cX3_repeatedBeats 2 = .ok (.iconst 0, 1) := by decide +kernel
theorem dX3_repeatedBeats_3 : decode cX3_repeatedBeats 3 = .ok (.istore_n 3, 1) := by decide +kernel
theorem dX3_repeatedBeats_4 : decode cX3_repeatedBeats 4 = .ok (.iload_n 3, 1) := by decide +kernel
theorem dX3_repeatedBeats_5 : decode cX3_repeatedBeats 5 = .ok (.aload_n 0, 1) := by decide +kernel
theorem dX3_repeatedBeats_6 : decode cX3_repeatedBeats 6 = .ok (.getfield 9, 3) := by decide +kernel
theorem dX3_repeatedBeats_9 : decode cX3_repeatedBeats 9 = .ok (.getfield 61, 3) := by decide +kernel
theorem dX3_repeatedBeats_12 : decode cX3_repeatedBeats 12 = .ok (.if_icmp .ge 21, 3) := by decide +kernel
theorem dX3_repeatedBeats_15 : decode cX3_repeatedBeats 15 = .ok (.aload_n 0, 1) := by decide +kernel
theorem dX3_repeatedBeats_16 : decode cX3_repeatedBeats 16 = .ok (.iload_n 1, 1) := by decide +kernel
theorem dX3_repeatedBeats_17 : decode cX3_repeatedBeats 17 = .ok (.iload_n 3, 1) := by decide +kernel
theorem dX3_repeatedBeats_18 : decode cX3_repeatedBeats 18 = .ok (.invokevirtual 44, 3) := by decide +kernel
theorem dX3_repeatedBeats_21 : decode cX3_repeatedBeats 21 = .ok (.ifCond .eq 6, 3) := by decide +kernel
theorem dX3_repeatedBeats_24 : decode cX3_repeatedBeats 24 = .ok (.iinc 2 1, 3) := by decide +kernel
theorem dX3_repeatedBeats_27 : decode cX3_repeatedBeats 27 = .ok (.iinc 3 1, 3) := by decide +kernel
theorem dX3_repeatedBeats_30 : decode cX3_repeatedBeats 30 = .ok (.goto (-26), 3) := by decide +kernel
theorem dX3_repeatedBeats_33 : decode cX3_repeatedBeats 33 = .ok (.iload_n 2, 1) := by decide +kernel
theorem dX3_repeatedBeats_34 : decode cX3_repeatedBeats 34 = .ok (.ireturn, 1) := by decide +kernel
theorem dX3_gaps_0 : decode cX3_gaps 0 = .ok (.iconst 0, 1) := by decide +kernel
theorem dX3_gaps_1 : decode cX3_gaps 1 = .ok (.istore_n 2, 1) := by decide +kernel
theorem dX3_gaps_2 : decode cX3_gaps 2 = .ok (.iconst 0, 1) := by decide +kernel
theorem dX3_gaps_3 : decode cX3_gaps 3 = .ok (.istore_n 3, 1) := by decide +kernel
theorem dX3_gaps_4 : decode cX3_gaps 4 = .ok (.iconst 0, 1) := by decide +kernel
theorem dX3_gaps_5 : decode cX3_gaps 5 = .ok (.istore 4, 2) := by decide +kernel
theorem dX3_gaps_7 : decode cX3_gaps 7 = .ok (.iconst 0, 1) := by decide +kernel
theorem dX3_gaps_8 : decode cX3_gaps 8 = .ok (.istore 5, 2) := by decide +kernel
theorem dX3_gaps_10 : decode cX3_gaps 10 = .ok (.iload 5, 2) := by decide +kernel
theorem dX3_gaps_12 : decode cX3_gaps 12 = .ok (.aload_n 0, 1) := by decide +kernel
theorem dX3_gaps_13 : decode cX3_gaps 13 = .ok (.getfield 9, 3) := by decide +kernel
theorem dX3_gaps_16 : decode cX3_gaps 16 = .ok (.getfield 61, 3) := by decide +kernel
theorem dX3_gaps_19 : decode cX3_gaps 19 = .ok (.if_icmp .ge 44, 3) := by decide +kernel
theorem dX3_gaps_22 : decode cX3_gaps 22 = .ok (.aload_n 0, 1) := by decide +kernel
theorem dX3_gaps_23 : decode cX3_gaps 23 = .ok (.getfield 9, 3) := by decide +kernel
theorem dX3_gaps_26 : decode cX3_gaps 26 = .ok (.getfield 41, 3) := by decide +kernel
theorem dX3_gaps_29 : decode cX3_gaps 29 = .ok (.iload_n 1, 1) := by decide +kernel
theorem dX3_gaps_30 : decode cX3_gaps 30 = .ok (.aaload, 1) := by decide +kernel
theorem dX3_gaps_31 : decode cX3_gaps 31 = .ok (.iload 5, 2) := by decide +kernel
theorem dX3_gaps_33 : decode cX3_gaps 33 = .ok (.iaload, 1) := by decide +kernel
theorem dX3_gaps_34 : decode cX3_gaps 34 = .ok (.iconst (-1), 1) := by decide +kernel
theorem dX3_gaps_35 : decode cX3_gaps 35 = .ok (.if_icmp .ne 9, 3) := by decide +kernel
theorem dX3_gaps_38 : decode cX3_gaps 38 = .ok (.iload_n 3, 1) := by decide +kernel
theorem dX3_gaps_39 : decode cX3_gaps 39 = .ok (.istore 4, 2) := by decide +kernel
theorem dX3_gaps_41 : decode cX3_gaps 41 = .ok (.goto 16, 3) := by decide +kernel
theorem dX3_gaps_44 : decode cX3_gaps 44 = .ok (.iload 4, 2) := by decide +kernel
theorem dX3_gaps_46 : decode cX3_gaps 46 = .ok (.ifCond .eq 6, 3) := by decide +kernel
theorem dX3_gaps_49 : decode cX3_gaps 49 = .ok (.iinc 2 1, 3) := by decide +kernel
theorem dX3_gaps_52 : decode cX3_gaps 52 = .ok (.iconst 1, 1) := by decide +kernel
theorem dX3_gaps_53 : decode cX3_gaps 53 = .ok (.istore_n 3, 1) := by decide +kernel
theorem dX3_gaps_54 : decode cX3_gaps 54 = .ok (.iconst 0, 1) := by decide +kernel
theorem dX3_gaps_55 : decode cX3_gaps 55 = .ok (.istore 4, 2) := by decide +kernel
theorem dX3_gaps_57 : decode cX3_gaps 57 = .ok (.iinc 5 1, 3) := by decide +kernel
theorem dX3_gaps_60 : decode cX3_gaps 60 = .ok (.goto (-50), 3) := by decide +kernel
theorem dX3_gaps_63 : decode cX3_gaps 63 = .ok (.iload_n 2, 1) := by decide +kernel
theorem dX3_gaps_64 : decode cX3_gaps 64 = .ok (.ireturn, 1) := by decide +kernel
theorem dX3_wordsSaidBy_0 : decode cX3_wordsSaidBy 0 = .ok (.iconst 0, 1) := by decide +kernel
theorem dX3_wordsSaidBy_1 : decode cX3_wordsSaidBy 1 = .ok (.istore_n 2, 1) := by decide +kernel
theorem dX3_wordsSaidBy_2 : decode cX3_wordsSaidBy 2 = .ok (.iconst 0, 1) := by decide +kernel
theorem dX3_wordsSaidBy_3 : decode cX3_wordsSaidBy 3 = .ok (.istore_n 3, 1) := by decide +kernel
theorem dX3_wordsSaidBy_4 : decode cX3_wordsSaidBy 4 = .ok (.iload_n 3, 1) := by decide +kernel
theorem dX3_wordsSaidBy_5 : decode cX3_wordsSaidBy 5 = .ok (.aload_n 0, 1) := by decide +kernel
theorem dX3_wordsSaidBy_6 : decode cX3_wordsSaidBy 6 = .ok (.getfield 9, 3) := by decide +kernel
theorem dX3_wordsSaidBy_9 : decode cX3_wordsSaidBy 9 = .ok (.getfield 74, 3) := by decide +kernel
theorem dX3_wordsSaidBy_12 : decode cX3_wordsSaidBy 12 = .ok (.if_icmp .ge 25, 3) := by decide +kernel
theorem dX3_wordsSaidBy_15 : decode cX3_wordsSaidBy 15 = .ok (.aload_n 0, 1) := by decide +kernel
theorem dX3_wordsSaidBy_16 : decode cX3_wordsSaidBy 16 = .ok (.getfield 9, 3) := by decide +kernel
theorem dX3_wordsSaidBy_19 : decode cX3_wordsSaidBy 19 = .ok (.getfield 15, 3) := by decide +kernel
theorem dX3_wordsSaidBy_22 : decode cX3_wordsSaidBy 22 = .ok (.iload_n 3, 1) := by decide +kernel
theorem dX3_wordsSaidBy_23 : decode cX3_wordsSaidBy 23 = .ok (.iaload, 1) := by decide +kernel
theorem dX3_wordsSaidBy_24 : decode cX3_wordsSaidBy 24 = .ok (.iload_n 1, 1) := by decide +kernel
theorem dX3_wordsSaidBy_25 : decode cX3_wordsSaidBy 25 = .ok (.if_icmp .ne 6, 3) := by decide +kernel
theorem dX3_wordsSaidBy_28 : decode cX3_wordsSaidBy 28 = .ok (.iinc 2 1, 3) := by decide +kernel
theorem dX3_wordsSaidBy_31 : decode cX3_wordsSaidBy 31 = .ok (.iinc 3 1, 3) := by decide +kernel
theorem dX3_wordsSaidBy_34 : decode cX3_wordsSaidBy 34 = .ok (.goto (-30), 3) := by decide +kernel
theorem dX3_wordsSaidBy_37 : decode cX3_wordsSaidBy 37 = .ok (.iload_n 2, 1) := by decide +kernel
theorem dX3_wordsSaidBy_38 : decode cX3_wordsSaidBy 38 = .ok (.ireturn, 1) := by decide +kernel
theorem dX3_hearingOf_0 : decode cX3_hearingOf 0 = .ok (.aload_n 0, 1) := by decide +kernel
theorem dX3_hearingOf_1 : decode cX3_hearingOf 1 = .ok (.getfield 9, 3) := by decide +kernel
theorem dX3_hearingOf_4 : decode cX3_hearingOf 4 = .ok (.getfield 77, 3) := by decide +kernel
theorem dX3_hearingOf_7 : decode cX3_hearingOf 7 = .ok (.iload_n 1, 1) := by decide +kernel
theorem dX3_hearingOf_8 : decode cX3_hearingOf 8 = .ok (.iload_n 2, 1) := by decide +kernel
theorem dX3_hearingOf_9 : decode cX3_hearingOf 9 = .ok (.invokestatic 80, 3) := by decide +kernel
theorem dX3_hearingOf_12 : decode cX3_hearingOf 12 = .ok (.iaload, 1) := by decide +kernel
theorem dX3_hearingOf_13 : decode cX3_hearingOf 13 = .ok (.istore 4, 2) := by decide +kernel
theorem dX3_hearingOf_15 : decode cX3_hearingOf 15 = .ok (.iload 4, 2) := by decide +kernel
theorem dX3_hearingOf_17 : decode cX3_hearingOf 17 = .ok (.ifCond .ne 5, 3) := by decide +kernel
theorem dX3_hearingOf_20 : decode cX3_hearingOf 20 = .ok (.iconst (-1), 1) := by decide +kernel
theorem dX3_hearingOf_21 : decode cX3_hearingOf 21 = .ok (.ireturn, 1) := by decide +kernel
theorem dX3_hearingOf_22 : decode cX3_hearingOf 22 = .ok (.iconst 0, 1) := by decide +kernel
theorem dX3_hearingOf_23 : decode cX3_hearingOf 23 = .ok (.istore 5, 2) := by decide +kernel
theorem dX3_hearingOf_25 : decode cX3_hearingOf 25 = .ok (.iconst (-1), 1) := by decide +kernel
theorem dX3_hearingOf_26 : decode cX3_hearingOf 26 = .ok (.istore 6, 2) := by decide +kernel
theorem dX3_hearingOf_28 : decode cX3_hearingOf 28 = .ok (.iconst 1, 1) := by decide +kernel
theorem dX3_hearingOf_29 : decode cX3_hearingOf 29 = .ok (.istore 7, 2) := by decide +kernel
theorem dX3_hearingOf_31 : decode cX3_hearingOf 31 = .ok (.iconst 0, 1) := by decide +kernel
theorem dX3_hearingOf_32 : decode cX3_hearingOf 32 = .ok (.istore 8, 2) := by decide +kernel
theorem dX3_hearingOf_34 : decode cX3_hearingOf 34 = .ok (.iload 8, 2) := by decide +kernel
theorem dX3_hearingOf_36 : decode cX3_hearingOf 36 = .ok (.aload_n 0, 1) := by decide +kernel
theorem dX3_hearingOf_37 : decode cX3_hearingOf 37 = .ok (.getfield 9, 3) := by decide +kernel
theorem dX3_hearingOf_40 : decode cX3_hearingOf 40 = .ok (.getfield 74, 3) := by decide +kernel
theorem dX3_hearingOf_43 : decode cX3_hearingOf 43 = .ok (.if_icmp .ge 95, 3) := by decide +kernel
theorem dX3_hearingOf_46 : decode cX3_hearingOf 46 = .ok (.aload_n 0, 1) := by decide +kernel
theorem dX3_hearingOf_47 : decode cX3_hearingOf 47 = .ok (.getfield 9, 3) := by decide +kernel
theorem dX3_hearingOf_50 : decode cX3_hearingOf 50 = .ok (.getfield 38, 3) := by decide +kernel
theorem dX3_hearingOf_53 : decode cX3_hearingOf 53 = .ok (.iload_n 3, 1) := by decide +kernel
theorem dX3_hearingOf_54 : decode cX3_hearingOf 54 = .ok (.aaload, 1) := by decide +kernel
theorem dX3_hearingOf_55 : decode cX3_hearingOf 55 = .ok (.iload 8, 2) := by decide +kernel
theorem dX3_hearingOf_57 : decode cX3_hearingOf 57 = .ok (.iaload, 1) := by decide +kernel
theorem dX3_hearingOf_58 : decode cX3_hearingOf 58 = .ok (.istore 9, 2) := by decide +kernel
theorem dX3_hearingOf_60 : decode cX3_hearingOf 60 = .ok (.aload_n 0, 1) := by decide +kernel
theorem dX3_hearingOf_61 : decode cX3_hearingOf 61 = .ok (.getfield 9, 3) := by decide +kernel
theorem dX3_hearingOf_64 : decode cX3_hearingOf 64 = .ok (.getfield 15, 3) := by decide +kernel
theorem dX3_hearingOf_67 : decode cX3_hearingOf 67 = .ok (.iload 8, 2) := by decide +kernel
theorem dX3_hearingOf_69 : decode cX3_hearingOf 69 = .ok (.iaload, 1) := by decide +kernel
theorem dX3_hearingOf_70 : decode cX3_hearingOf 70 = .ok (.iload_n 1, 1) := by decide +kernel
theorem dX3_hearingOf_71 : decode cX3_hearingOf 71 = .ok (.if_icmp .ne 21, 3) := by decide +kernel
theorem dX3_hearingOf_74 : decode cX3_hearingOf 74 = .ok (.aload_n 0, 1) := by decide +kernel
theorem dX3_hearingOf_75 : decode cX3_hearingOf 75 = .ok (.getfield 9, 3) := by decide +kernel
theorem dX3_hearingOf_78 : decode cX3_hearingOf 78 = .ok (.getfield 24, 3) := by decide +kernel
theorem dX3_hearingOf_81 : decode cX3_hearingOf 81 = .ok (.iload 8, 2) := by decide +kernel
theorem dX3_hearingOf_83 : decode cX3_hearingOf 83 = .ok (.iaload, 1) := by decide +kernel
theorem dX3_hearingOf_84 : decode cX3_hearingOf 84 = .ok (.iload_n 2, 1) := by decide +kernel
theorem dX3_hearingOf_85 : decode cX3_hearingOf 85 = .ok (.if_icmp .ne 7, 3) := by decide +kernel
theorem dX3_hearingOf_88 : decode cX3_hearingOf 88 = .ok (.iconst 1, 1) := by decide +kernel
theorem dX3_hearingOf_89 : decode cX3_hearingOf 89 = .ok (.goto 4, 3) := by decide +kernel
theorem dX3_hearingOf_92 : decode cX3_hearingOf 92 = .ok (.iconst 0, 1) := by decide +kernel
theorem dX3_hearingOf_93 : decode cX3_hearingOf 93 = .ok (.istore 10, 2) := by decide +kernel
theorem dX3_hearingOf_95 : decode cX3_hearingOf 95 = .ok (.iload 10, 2) := by decide +kernel
theorem dX3_hearingOf_97 : decode cX3_hearingOf 97 = .ok (.ifCond .eq 35, 3) := by decide +kernel
theorem dX3_hearingOf_100 : decode cX3_hearingOf 100 = .ok (.iload 9, 2) := by decide +kernel
theorem dX3_hearingOf_102 : decode cX3_hearingOf 102 = .ok (.iconst (-1), 1) := by decide +kernel
theorem dX3_hearingOf_103 : decode cX3_hearingOf 103 = .ok (.if_icmp .eq 29, 3) := by decide +kernel
theorem dX3_hearingOf_106 : decode cX3_hearingOf 106 = .ok (.iinc 5 1, 3) := by decide +kernel
theorem dX3_hearingOf_109 : decode cX3_hearingOf 109 = .ok (.iload 7, 2) := by decide +kernel
theorem dX3_hearingOf_111 : decode cX3_hearingOf 111 = .ok (.ifCond .eq 14, 3) := by decide +kernel
theorem dX3_hearingOf_114 : decode cX3_hearingOf 114 = .ok (.iload 9, 2) := by decide +kernel
theorem dX3_hearingOf_116 : decode cX3_hearingOf 116 = .ok (.iload 6, 2) := by decide +kernel
theorem dX3_hearingOf_118 : decode cX3_hearingOf 118 = .ok (.if_icmp .le 7, 3) := by decide +kernel
theorem dX3_hearingOf_121 : decode cX3_hearingOf 121 = .ok (.iconst 1, 1) := by decide +kernel
theorem dX3_hearingOf_122 : decode cX3_hearingOf 122 = .ok (.goto 4, 3) := by decide +kernel
theorem dX3_hearingOf_125 : decode cX3_hearingOf 125 = .ok (.iconst 0, 1) := by decide +kernel
theorem dX3_hearingOf_126 : decode cX3_hearingOf 126 = .ok (.istore 7, 2) := by decide +kernel
theorem dX3_hearingOf_128 : decode cX3_hearingOf 128 = .ok (.iload 9, 2) := by decide +kernel
theorem dX3_hearingOf_130 : decode cX3_hearingOf 130 = .ok (.istore 6, 2) := by decide +kernel
theorem dX3_hearingOf_132 : decode cX3_hearingOf 132 = .ok (.iinc 8 1, 3) := by decide +kernel
theorem dX3_hearingOf_135 : decode cX3_hearingOf 135 = .ok (.goto (-101), 3) := by decide +kernel
theorem dX3_hearingOf_138 : decode cX3_hearingOf 138 = .ok (.iload 5, 2) := by decide +kernel
theorem dX3_hearingOf_140 : decode cX3_hearingOf 140 = .ok (.iload 4, 2) := by decide +kernel
theorem dX3_hearingOf_142 : decode cX3_hearingOf 142 = .ok (.if_icmp .ge 14, 3) := by decide +kernel
theorem dX3_hearingOf_145 : decode cX3_hearingOf 145 = .ok (.iload 5, 2) := by decide +kernel
theorem dX3_hearingOf_147 : decode cX3_hearingOf 147 = .ok (.ifCond .ne 7, 3) := by decide +kernel
theorem dX3_hearingOf_150 : decode cX3_hearingOf 150 = .ok (.iconst 0, 1) := by decide +kernel
theorem dX3_hearingOf_151 : decode cX3_hearingOf 151 = .ok (.goto 4, 3) := by decide +kernel
theorem dX3_hearingOf_154 : decode cX3_hearingOf 154 = .ok (.iconst 1, 1) := by decide +kernel
theorem dX3_hearingOf_155 : decode cX3_hearingOf 155 = .ok (.ireturn, 1) := by decide +kernel
theorem dX3_hearingOf_156 : decode cX3_hearingOf 156 = .ok (.iload 7, 2) := by decide +kernel
theorem dX3_hearingOf_158 : decode cX3_hearingOf 158 = .ok (.ifCond .eq 7, 3) := by decide +kernel
theorem dX3_hearingOf_161 : decode cX3_hearingOf 161 = .ok (.iconst 3, 1) := by decide +kernel
theorem dX3_hearingOf_162 : decode cX3_hearingOf 162 = .ok (.goto 4, 3) := by decide +kernel
theorem dX3_hearingOf_165 : decode cX3_hearingOf 165 = .ok (.iconst 2, 1) := by decide +kernel
theorem dX3_hearingOf_166 : decode cX3_hearingOf 166 = .ok (.ireturn, 1) := by decide +kernel
theorem dX3_ofAll_0 : decode cX3_ofAll 0 = .ok (.iload_n 1, 1) := by decide +kernel
theorem dX3_ofAll_1 : decode cX3_ofAll 1 = .ok (.tableswitch 106 0 7 #[47, 55, 63, 70, 76, 81, 86, 96], 47) := by decide +kernel
theorem dX3_ofAll_48 : decode cX3_ofAll 48 = .ok (.aload_n 0, 1) := by decide +kernel
theorem dX3_ofAll_49 : decode cX3_ofAll 49 = .ok (.getfield 9, 3) := by decide +kernel
theorem dX3_ofAll_52 : decode cX3_ofAll 52 = .ok (.getfield 61, 3) := by decide +kernel
theorem dX3_ofAll_55 : decode cX3_ofAll 55 = .ok (.ireturn, 1) := by decide +kernel
theorem dX3_ofAll_56 : decode cX3_ofAll 56 = .ok (.aload_n 0, 1) := by decide +kernel
theorem dX3_ofAll_57 : decode cX3_ofAll 57 = .ok (.getfield 9, 3) := by decide +kernel
theorem dX3_ofAll_60 : decode cX3_ofAll 60 = .ok (.getfield 74, 3) := by decide +kernel
theorem dX3_ofAll_63 : decode cX3_ofAll 63 = .ok (.ireturn, 1) := by decide +kernel
theorem dX3_ofAll_64 : decode cX3_ofAll 64 = .ok (.aload_n 0, 1) := by decide +kernel
theorem dX3_ofAll_65 : decode cX3_ofAll 65 = .ok (.bipush 63, 2) := by decide +kernel
theorem dX3_ofAll_67 : decode cX3_ofAll 67 = .ok (.invokevirtual 84, 3) := by decide +kernel
theorem dX3_ofAll_70 : decode cX3_ofAll 70 = .ok (.ireturn, 1) := by decide +kernel
theorem dX3_ofAll_71 : decode cX3_ofAll 71 = .ok (.aload_n 0, 1) := by decide +kernel
theorem dX3_ofAll_72 : decode cX3_ofAll 72 = .ok (.iconst 0, 1) := by decide +kernel
theorem dX3_ofAll_73 : decode cX3_ofAll 73 = .ok (.invokevirtual 84, 3) := by decide +kernel
theorem dX3_ofAll_76 : decode cX3_ofAll 76 = .ok (.ireturn, 1) := by decide +kernel
theorem dX3_ofAll_77 : decode cX3_ofAll 77 = .ok (.aload_n 0, 1) := by decide +kernel
theorem dX3_ofAll_78 : decode cX3_ofAll 78 = .ok (.invokevirtual 87, 3) := by decide +kernel
theorem dX3_ofAll_81 : decode cX3_ofAll 81 = .ok (.ireturn, 1) := by decide +kernel
theorem dX3_ofAll_82 : decode cX3_ofAll 82 = .ok (.aload_n 0, 1) := by decide +kernel
theorem dX3_ofAll_83 : decode cX3_ofAll 83 = .ok (.invokevirtual 91, 3) := by decide +kernel
theorem dX3_ofAll_86 : decode cX3_ofAll 86 = .ok (.ireturn, 1) := by decide +kernel
theorem dX3_ofAll_87 : decode cX3_ofAll 87 = .ok (.aload_n 0, 1) := by decide +kernel
theorem dX3_ofAll_88 : decode cX3_ofAll 88 = .ok (.getfield 9, 3) := by decide +kernel
theorem dX3_ofAll_91 : decode cX3_ofAll 91 = .ok (.getfield 94, 3) := by decide +kernel
theorem dX3_ofAll_94 : decode cX3_ofAll 94 = .ok (.iconst 0, 1) := by decide +kernel
theorem dX3_ofAll_95 : decode cX3_ofAll 95 = .ok (.iaload, 1) := by decide +kernel
theorem dX3_ofAll_96 : decode cX3_ofAll 96 = .ok (.ireturn, 1) := by decide +kernel
theorem dX3_ofAll_97 : decode cX3_ofAll 97 = .ok (.aload_n 0, 1) := by decide +kernel
theorem dX3_ofAll_98 : decode cX3_ofAll 98 = .ok (.getfield 9, 3) := by decide +kernel
theorem dX3_ofAll_101 : decode cX3_ofAll 101 = .ok (.getfield 94, 3) := by decide +kernel
theorem dX3_ofAll_104 : decode cX3_ofAll 104 = .ok (.iconst 1, 1) := by decide +kernel
theorem dX3_ofAll_105 : decode cX3_ofAll 105 = .ok (.iaload, 1) := by decide +kernel
theorem dX3_ofAll_106 : decode cX3_ofAll 106 = .ok (.ireturn, 1) := by decide +kernel
theorem dX3_ofAll_107 : decode cX3_ofAll 107 = .ok (.aload_n 0, 1) := by decide +kernel
theorem dX3_ofAll_108 : decode cX3_ofAll 108 = .ok (.getfield 9, 3) := by decide +kernel
theorem dX3_ofAll_111 : decode cX3_ofAll 111 = .ok (.getfield 94, 3) := by decide +kernel
theorem dX3_ofAll_114 : decode cX3_ofAll 114 = .ok (.iconst 2, 1) := by decide +kernel
theorem dX3_ofAll_115 : decode cX3_ofAll 115 = .ok (.iaload, 1) := by decide +kernel
theorem dX3_ofAll_116 : decode cX3_ofAll 116 = .ok (.ireturn, 1) := by decide +kernel
theorem dX3_wordsHeardByMask_0 : decode cX3_wordsHeardByMask 0 = .ok (.iconst 0, 1) := by decide +kernel
theorem dX3_wordsHeardByMask_1 : decode cX3_wordsHeardByMask 1 = .ok (.istore_n 2, 1) := by decide +kernel
theorem dX3_wordsHeardByMask_2 : decode cX3_wordsHeardByMask 2 = .ok (.iconst 0, 1) := by decide +kernel
theorem dX3_wordsHeardByMask_3 : decode cX3_wordsHeardByMask 3 = .ok (.istore_n 3, 1) := by decide +kernel
theorem dX3_wordsHeardByMask_4 : decode cX3_wordsHeardByMask 4 = .ok (.iload_n 3, 1) := by decide +kernel
theorem dX3_wordsHeardByMask_5 : decode cX3_wordsHeardByMask 5 = .ok (.aload_n 0, 1) := by decide +kernel
theorem dX3_wordsHeardByMask_6 : decode cX3_wordsHeardByMask 6 = .ok (.getfield 9, 3) := by decide +kernel
theorem dX3_wordsHeardByMask_9 : decode cX3_wordsHeardByMask 9 = .ok (.getfield 74, 3) := by decide +kernel
theorem dX3_wordsHeardByMask_12 : decode cX3_wordsHeardByMask 12 = .ok (.if_icmp .ge 28, 3) := by decide +kernel
theorem dX3_wordsHeardByMask_15 : decode cX3_wordsHeardByMask 15 = .ok (.aload_n 0, 1) := by decide +kernel
theorem dX3_wordsHeardByMask_16 : decode cX3_wordsHeardByMask 16 = .ok (.aload_n 0, 1) := by decide +kernel
theorem dX3_wordsHeardByMask_17 : decode cX3_wordsHeardByMask 17 = .ok (.getfield 9, 3) := by decide +kernel
theorem dX3_wordsHeardByMask_20 : decode cX3_wordsHeardByMask 20 = .ok (.getfield 38, 3) := by decide +kernel
theorem dX3_wordsHeardByMask_23 : decode cX3_wordsHeardByMask 23 = .ok (.iload_n 3, 1) := by decide +kernel
theorem dX3_wordsHeardByMask_24 : decode cX3_wordsHeardByMask 24 = .ok (.invokevirtual 34, 3) := by decide +kernel
theorem dX3_wordsHeardByMask_27 : decode cX3_wordsHeardByMask 27 = .ok (.iload_n 1, 1) := by decide +kernel
theorem dX3_wordsHeardByMask_28 : decode cX3_wordsHeardByMask 28 = .ok (.if_icmp .ne 6, 3) := by decide +kernel
theorem dX3_wordsHeardByMask_31 : decode cX3_wordsHeardByMask 31 = .ok (.iinc 2 1, 3) := by decide +kernel
theorem dX3_wordsHeardByMask_34 : decode cX3_wordsHeardByMask 34 = .ok (.iinc 3 1, 3) := by decide +kernel
theorem dX3_wordsHeardByMask_37 : decode cX3_wordsHeardByMask 37 = .ok (.goto (-33), 3) := by decide +kernel
theorem dX3_wordsHeardByMask_40 : decode cX3_wordsHeardByMask 40 = .ok (.iload_n 2, 1) := by decide +kernel
theorem dX3_wordsHeardByMask_41 : decode cX3_wordsHeardByMask 41 = .ok (.ireturn, 1) := by decide +kernel
theorem dX3_messages_0 : decode cX3_messages 0 = .ok (.iconst 0, 1) := by decide +kernel
theorem dX3_messages_1 : decode cX3_messages 1 = .ok (.istore_n 1, 1) := by decide +kernel
theorem dX3_messages_2 : decode cX3_messages 2 = .ok (.iconst 0, 1) := by decide +kernel
theorem dX3_messages_3 : decode cX3_messages 3 = .ok (.istore_n 2, 1) := by decide +kernel
theorem dX3_messages_4 : decode cX3_messages 4 = .ok (.iload_n 2, 1) := by decide +kernel
theorem dX3_messages_5 : decode cX3_messages 5 = .ok (.aload_n 0, 1) := by decide +kernel
theorem dX3_messages_6 : decode cX3_messages 6 = .ok (.getfield 9, 3) := by decide +kernel
theorem dX3_messages_9 : decode cX3_messages 9 = .ok (.getfield 77, 3) := by decide +kernel
theorem dX3_messages_12 : decode cX3_messages 12 = .ok (.arraylength, 1) := by decide +kernel
theorem dX3_messages_13 : decode cX3_messages 13 = .ok (.if_icmp .ge 24, 3) := by decide +kernel
theorem dX3_messages_16 : decode cX3_messages 16 = .ok (.aload_n 0, 1) := by decide +kernel
theorem dX3_messages_17 : decode cX3_messages 17 = .ok (.getfield 9, 3) := by decide +kernel
theorem dX3_messages_20 : decode cX3_messages 20 = .ok (.getfield 77, 3) := by decide +kernel
theorem dX3_messages_23 : decode cX3_messages 23 = .ok (.iload_n 2, 1) := by decide +kernel
theorem dX3_messages_24 : decode cX3_messages 24 = .ok (.iaload, 1) := by decide +kernel
theorem dX3_messages_25 : decode cX3_messages 25 = .ok (.ifCond .le 6, 3) := by decide +kernel
theorem dX3_messages_28 : decode cX3_messages 28 = .ok (.iinc 1 1, 3) := by decide +kernel
theorem dX3_messages_31 : decode cX3_messages 31 = .ok (.iinc 2 1, 3) := by decide +kernel
theorem dX3_messages_34 : decode cX3_messages 34 = .ok (.goto (-30), 3) := by decide +kernel
theorem dX3_messages_37 : decode cX3_messages 37 = .ok (.iload_n 1, 1) := by decide +kernel
theorem dX3_messages_38 : decode cX3_messages 38 = .ok (.ireturn, 1) := by decide +kernel
theorem dX3_messagesHeardWhole_0 : decode cX3_messagesHeardWhole 0 = .ok (.iconst 0, 1) := by decide +kernel
theorem dX3_messagesHeardWhole_1 : decode cX3_messagesHeardWhole 1 = .ok (.istore_n 1, 1) := by decide +kernel
theorem dX3_messagesHeardWhole_2 : decode cX3_messagesHeardWhole 2 = .ok (.iconst 0, 1) := by decide +kernel
theorem dX3_messagesHeardWhole_3 : decode cX3_messagesHeardWhole 3 = .ok (.istore_n 2, 1) := by decide +kernel
theorem dX3_messagesHeardWhole_4 : decode cX3_messagesHeardWhole 4 = .ok (.iload_n 2, 1) := by decide +kernel
theorem dX3_messagesHeardWhole_5 : decode cX3_messagesHeardWhole 5 = .ok (.bipush 6, 2) := by decide +kernel
theorem dX3_messagesHeardWhole_7 : decode cX3_messagesHeardWhole 7 = .ok (.if_icmp .ge 35, 3) := by decide +kernel
theorem dX3_messagesHeardWhole_10 : decode cX3_messagesHeardWhole 10 = .ok (.iconst 0, 1) := by decide +kernel
theorem dX3_messagesHeardWhole_11 : decode cX3_messagesHeardWhole 11 = .ok (.istore_n 3, 1) := by decide +kernel
theorem dX3_messagesHeardWhole_12 : decode cX3_messagesHeardWhole 12 = .ok (.iload_n 3, 1) := by decide +kernel
theorem dX3_messagesHeardWhole_13 : decode cX3_messagesHeardWhole 13 = .ok (.bipush 10, 2) := by decide +kernel
theorem dX3_messagesHeardWhole_15 : decode cX3_messagesHeardWhole 15 = .ok (.if_icmp .ge 21, 3) := by decide +kernel
theorem dX3_messagesHeardWhole_18 : decode cX3_messagesHeardWhole 18 = .ok (.aload_n 0, 1) := by decide +kernel
theorem dX3_messagesHeardWhole_19 : decode cX3_messagesHeardWhole 19 = .ok (.iload_n 2, 1) := by decide +kernel
theorem dX3_messagesHeardWhole_20 : decode cX3_messagesHeardWhole 20 = .ok (.iload_n 3, 1) := by decide +kernel
theorem dX3_messagesHeardWhole_21 : decode cX3_messagesHeardWhole 21 = .ok (.invokevirtual 97, 3) := by decide +kernel
theorem dX3_messagesHeardWhole_24 : decode cX3_messagesHeardWhole 24 = .ok (.ifCond .eq 6, 3) := by decide +kernel
theorem dX3_messagesHeardWhole_27 : decode cX3_messagesHeardWhole 27 = .ok (.iinc 1 1, 3) := by decide +kernel
theorem dX3_messagesHeardWhole_30 : decode cX3_messagesHeardWhole 30 = .ok (.iinc 3 1, 3) := by decide +kernel
theorem dX3_messagesHeardWhole_33 : decode cX3_messagesHeardWhole 33 = .ok (.goto (-21), 3) := by decide +kernel
theorem dX3_messagesHeardWhole_36 : decode cX3_messagesHeardWhole 36 = .ok (.iinc 2 1, 3) := by decide +kernel
theorem dX3_messagesHeardWhole_39 : decode cX3_messagesHeardWhole 39 = .ok (.goto (-35), 3) := by decide +kernel
theorem dX3_messagesHeardWhole_42 : decode cX3_messagesHeardWhole 42 = .ok (.iload_n 1, 1) := by decide +kernel
theorem dX3_messagesHeardWhole_43 : decode cX3_messagesHeardWhole 43 = .ok (.ireturn, 1) := by decide +kernel
theorem dX3_allHeardWhole_0 : decode cX3_allHeardWhole 0 = .ok (.iconst 0, 1) := by decide +kernel
theorem dX3_allHeardWhole_1 : decode cX3_allHeardWhole 1 = .ok (.istore_n 3, 1) := by decide +kernel
theorem dX3_allHeardWhole_2 : decode cX3_allHeardWhole 2 = .ok (.iload_n 3, 1) := by decide +kernel
theorem dX3_allHeardWhole_3 : decode cX3_allHeardWhole 3 = .ok (.bipush 6, 2) := by decide +kernel
theorem dX3_allHeardWhole_5 : decode cX3_allHeardWhole 5 = .ok (.if_icmp .ge 22, 3) := by decide +kernel
theorem dX3_allHeardWhole_8 : decode cX3_allHeardWhole 8 = .ok (.aload_n 0, 1) := by decide +kernel
theorem dX3_allHeardWhole_9 : decode cX3_allHeardWhole 9 = .ok (.iload_n 1, 1) := by decide +kernel
theorem dX3_allHeardWhole_10 : decode cX3_allHeardWhole 10 = .ok (.iload_n 2, 1) := by decide +kernel
theorem dX3_allHeardWhole_11 : decode cX3_allHeardWhole 11 = .ok (.iload_n 3, 1) := by decide +kernel
theorem dX3_allHeardWhole_12 : decode cX3_allHeardWhole 12 = .ok (.invokevirtual 100, 3) := by decide +kernel
theorem dX3_allHeardWhole_15 : decode cX3_allHeardWhole 15 = .ok (.iconst 3, 1) := by decide +kernel
theorem dX3_allHeardWhole_16 : decode cX3_allHeardWhole 16 = .ok (.if_icmp .eq 5, 3) := by decide +kernel
theorem dX3_allHeardWhole_19 : decode cX3_allHeardWhole 19 = .ok (.iconst 0, 1) := by decide +kernel
theorem dX3_allHeardWhole_20 : decode cX3_allHeardWhole 20 = .ok (.ireturn, 1) := by decide +kernel
theorem dX3_allHeardWhole_21 : decode cX3_allHeardWhole 21 = .ok (.iinc 3 1, 3) := by decide +kernel
theorem dX3_allHeardWhole_24 : decode cX3_allHeardWhole 24 = .ok (.goto (-22), 3) := by decide +kernel
theorem dX3_allHeardWhole_27 : decode cX3_allHeardWhole 27 = .ok (.iconst 1, 1) := by decide +kernel
theorem dX3_allHeardWhole_28 : decode cX3_allHeardWhole 28 = .ok (.ireturn, 1) := by decide +kernel
theorem dX3_whyUnheard_0 : decode cX3_whyUnheard 0 = .ok (.aload_n 0, 1) := by decide +kernel
theorem dX3_whyUnheard_1 : decode cX3_whyUnheard 1 = .ok (.getfield 9, 3) := by decide +kernel
theorem dX3_whyUnheard_4 : decode cX3_whyUnheard 4 = .ok (.getfield 38, 3) := by decide +kernel
theorem dX3_whyUnheard_7 : decode cX3_whyUnheard 7 = .ok (.iload_n 2, 1) := by decide +kernel
theorem dX3_whyUnheard_8 : decode cX3_whyUnheard 8 = .ok (.aaload, 1) := by decide +kernel
theorem dX3_whyUnheard_9 : decode cX3_whyUnheard 9 = .ok (.iload_n 1, 1) := by decide +kernel
theorem dX3_whyUnheard_10 : decode cX3_whyUnheard 10 = .ok (.iaload, 1) := by decide +kernel
theorem dX3_whyUnheard_11 : decode cX3_whyUnheard 11 = .ok (.iconst (-1), 1) := by decide +kernel
theorem dX3_whyUnheard_12 : decode cX3_whyUnheard 12 = .ok (.if_icmp .eq 5, 3) := by decide +kernel
theorem dX3_whyUnheard_15 : decode cX3_whyUnheard 15 = .ok (.iconst 0, 1) := by decide +kernel
theorem dX3_whyUnheard_16 : decode cX3_whyUnheard 16 = .ok (.ireturn, 1) := by decide +kernel
theorem dX3_whyUnheard_17 : decode cX3_whyUnheard 17 = .ok (.aload_n 0, 1) := by decide +kernel
theorem dX3_whyUnheard_18 : decode cX3_whyUnheard 18 = .ok (.getfield 9, 3) := by decide +kernel
theorem dX3_whyUnheard_21 : decode cX3_whyUnheard 21 = .ok (.getfield 30, 3) := by decide +kernel
theorem dX3_whyUnheard_24 : decode cX3_whyUnheard 24 = .ok (.iload_n 2, 1) := by decide +kernel
theorem dX3_whyUnheard_25 : decode cX3_whyUnheard 25 = .ok (.aaload, 1) := by decide +kernel
theorem dX3_whyUnheard_26 : decode cX3_whyUnheard 26 = .ok (.iload_n 1, 1) := by decide +kernel
theorem dX3_whyUnheard_27 : decode cX3_whyUnheard 27 = .ok (.iaload, 1) := by decide +kernel
theorem dX3_whyUnheard_28 : decode cX3_whyUnheard 28 = .ok (.istore_n 3, 1) := by decide +kernel
theorem dX3_whyUnheard_29 : decode cX3_whyUnheard 29 = .ok (.iload_n 3, 1) := by decide +kernel
theorem dX3_whyUnheard_30 : decode cX3_whyUnheard 30 = .ok (.iconst (-1), 1) := by decide +kernel
theorem dX3_whyUnheard_31 : decode cX3_whyUnheard 31 = .ok (.if_icmp .ne 5, 3) := by decide +kernel
theorem dX3_whyUnheard_34 : decode cX3_whyUnheard 34 = .ok (.iconst 1, 1) := by decide +kernel
theorem dX3_whyUnheard_35 : decode cX3_whyUnheard 35 = .ok (.ireturn, 1) := by decide +kernel
theorem dX3_whyUnheard_36 : decode cX3_whyUnheard 36 = .ok (.iload_n 3, 1) := by decide +kernel
theorem dX3_whyUnheard_37 : decode cX3_whyUnheard 37 = .ok (.aload_n 0, 1) := by decide +kernel
theorem dX3_whyUnheard_38 : decode cX3_whyUnheard 38 = .ok (.getfield 9, 3) := by decide +kernel
theorem dX3_whyUnheard_41 : decode cX3_whyUnheard 41 = .ok (.getfield 61, 3) := by decide +kernel
theorem dX3_whyUnheard_44 : decode cX3_whyUnheard 44 = .ok (.if_icmp .lt 7, 3) := by decide +kernel
theorem dX3_whyUnheard_47 : decode cX3_whyUnheard 47 = .ok (.iconst 2, 1) := by decide +kernel
theorem dX3_whyUnheard_48 : decode cX3_whyUnheard 48 = .ok (.goto 4, 3) := by decide +kernel
theorem dX3_whyUnheard_51 : decode cX3_whyUnheard 51 = .ok (.iconst 3, 1) := by decide +kernel
theorem dX3_whyUnheard_52 : decode cX3_whyUnheard 52 = .ok (.ireturn, 1) := by decide +kernel
theorem dX3_silentBeatsUntilHeard_0 : decode cX3_silentBeatsUntilHeard 0 = .ok (.aload_n 0, 1) := by decide +kernel
theorem dX3_silentBeatsUntilHeard_1 : decode cX3_silentBeatsUntilHeard 1 = .ok (.getfield 9, 3) := by decide +kernel
theorem dX3_silentBeatsUntilHeard_4 : decode cX3_silentBeatsUntilHeard 4 = .ok (.getfield 38, 3) := by decide +kernel
theorem dX3_silentBeatsUntilHeard_7 : decode cX3_silentBeatsUntilHeard 7 = .ok (.iload_n 2, 1) := by decide +kernel
theorem dX3_silentBeatsUntilHeard_8 : decode cX3_silentBeatsUntilHeard 8 = .ok (.aaload, 1) := by decide +kernel
theorem dX3_silentBeatsUntilHeard_9 : decode cX3_silentBeatsUntilHeard 9 = .ok (.iload_n 1, 1) := by decide +kernel
theorem dX3_silentBeatsUntilHeard_10 : decode cX3_silentBeatsUntilHeard 10 = .ok (.iaload, 1) := by decide +kernel
theorem dX3_silentBeatsUntilHeard_11 : decode cX3_silentBeatsUntilHeard 11 = .ok (.iconst (-1), 1) := by decide +kernel
theorem dX3_silentBeatsUntilHeard_12 : decode cX3_silentBeatsUntilHeard 12 = .ok (.if_icmp .eq 5, 3) := by decide +kernel
theorem dX3_silentBeatsUntilHeard_15 : decode cX3_silentBeatsUntilHeard 15 = .ok (.iconst 0, 1) := by decide +kernel
theorem dX3_silentBeatsUntilHeard_16 : decode cX3_silentBeatsUntilHeard 16 = .ok (.ireturn, 1) := by decide +kernel
theorem dX3_silentBeatsUntilHeard_17 : decode cX3_silentBeatsUntilHeard 17 = .ok (.iconst 1, 1) := by decide +kernel
theorem dX3_silentBeatsUntilHeard_18 : decode cX3_silentBeatsUntilHeard 18 = .ok (.istore_n 3, 1) := by decide +kernel
theorem dX3_silentBeatsUntilHeard_19 : decode cX3_silentBeatsUntilHeard 19 = .ok (.iload_n 3, 1) := by decide +kernel
theorem dX3_silentBeatsUntilHeard_20 : decode cX3_silentBeatsUntilHeard 20 = .ok (.bipush 60, 2) := by decide +kernel
theorem dX3_silentBeatsUntilHeard_22 : decode cX3_silentBeatsUntilHeard 22 = .ok (.if_icmp .gt 34, 3) := by decide +kernel
theorem dX3_silentBeatsUntilHeard_25 : decode cX3_silentBeatsUntilHeard 25 = .ok (.aload_n 0, 1) := by decide +kernel
theorem dX3_silentBeatsUntilHeard_26 : decode cX3_silentBeatsUntilHeard 26 = .ok (.getfield 9, 3) := by decide +kernel
theorem dX3_silentBeatsUntilHeard_29 : decode cX3_silentBeatsUntilHeard 29 = .ok (.iload_n 2, 1) := by decide +kernel
theorem dX3_silentBeatsUntilHeard_30 : decode cX3_silentBeatsUntilHeard 30 = .ok (.aload_n 0, 1) := by decide +kernel
theorem dX3_silentBeatsUntilHeard_31 : decode cX3_silentBeatsUntilHeard 31 = .ok (.getfield 9, 3) := by decide +kernel
theorem dX3_silentBeatsUntilHeard_34 : decode cX3_silentBeatsUntilHeard 34 = .ok (.getfield 61, 3) := by decide +kernel
theorem dX3_silentBeatsUntilHeard_37 : decode cX3_silentBeatsUntilHeard 37 = .ok (.iload_n 3, 1) := by decide +kernel
theorem dX3_silentBeatsUntilHeard_38 : decode cX3_silentBeatsUntilHeard 38 = .ok (.iadd, 1) := by decide +kernel
theorem dX3_silentBeatsUntilHeard_39 : decode cX3_silentBeatsUntilHeard 39 = .ok (.iconst 1, 1) := by decide +kernel
theorem dX3_silentBeatsUntilHeard_40 : decode cX3_silentBeatsUntilHeard 40 = .ok (.isub, 1) := by decide +kernel
theorem dX3_silentBeatsUntilHeard_41 : decode cX3_silentBeatsUntilHeard 41 = .ok (.invokevirtual 104, 3) := by decide +kernel
theorem dX3_silentBeatsUntilHeard_44 : decode cX3_silentBeatsUntilHeard 44 = .ok (.iload_n 1, 1) := by decide +kernel
theorem dX3_silentBeatsUntilHeard_45 : decode cX3_silentBeatsUntilHeard 45 = .ok (.if_icmp .ne 5, 3) := by decide +kernel
theorem dX3_silentBeatsUntilHeard_48 : decode cX3_silentBeatsUntilHeard 48 = .ok (.iload_n 3, 1) := by decide +kernel
theorem dX3_silentBeatsUntilHeard_49 : decode cX3_silentBeatsUntilHeard 49 = .ok (.ireturn, 1) := by decide +kernel
theorem dX3_silentBeatsUntilHeard_50 : decode cX3_silentBeatsUntilHeard 50 = .ok (.iinc 3 1, 3) := by decide +kernel
theorem dX3_silentBeatsUntilHeard_53 : decode cX3_silentBeatsUntilHeard 53 = .ok (.goto (-34), 3) := by decide +kernel
theorem dX3_silentBeatsUntilHeard_56 : decode cX3_silentBeatsUntilHeard 56 = .ok (.iconst (-1), 1) := by decide +kernel
theorem dX3_silentBeatsUntilHeard_57 : decode cX3_silentBeatsUntilHeard 57 = .ok (.ireturn, 1) := by decide +kernel
theorem dX3_bestPlace_0 : decode cX3_bestPlace 0 = .ok (.iconst 0, 1) := by decide +kernel
theorem dX3_bestPlace_1 : decode cX3_bestPlace 1 = .ok (.istore_n 1, 1) := by decide +kernel
theorem dX3_bestPlace_2 : decode cX3_bestPlace 2 = .ok (.iconst 0, 1) := by decide +kernel
theorem dX3_bestPlace_3 : decode cX3_bestPlace 3 = .ok (.istore_n 2, 1) := by decide +kernel
theorem dX3_bestPlace_4 : decode cX3_bestPlace 4 = .ok (.iconst 0, 1) := by decide +kernel
theorem dX3_bestPlace_5 : decode cX3_bestPlace 5 = .ok (.istore_n 3, 1) := by decide +kernel
theorem dX3_bestPlace_6 : decode cX3_bestPlace 6 = .ok (.iconst 0, 1) := by decide +kernel
theorem dX3_bestPlace_7 : decode cX3_bestPlace 7 = .ok (.istore 4, 2) := by decide +kernel
theorem dX3_bestPlace_9 : decode cX3_bestPlace 9 = .ok (.iload 4, 2) := by decide +kernel
theorem dX3_bestPlace_11 : decode cX3_bestPlace 11 = .ok (.bipush 6, 2) := by decide +kernel
theorem dX3_bestPlace_13 : decode cX3_bestPlace 13 = .ok (.if_icmp .ge 89, 3) := by decide +kernel
theorem dX3_bestPlace_16 : decode cX3_bestPlace 16 = .ok (.iconst 0, 1) := by decide +kernel
theorem dX3_bestPlace_17 : decode cX3_bestPlace 17 = .ok (.istore 5, 2) := by decide +kernel
theorem dX3_bestPlace_19 : decode cX3_bestPlace 19 = .ok (.iconst 0, 1) := by decide +kernel
theorem dX3_bestPlace_20 : decode cX3_bestPlace 20 = .ok (.istore 6, 2) := by decide +kernel
theorem dX3_bestPlace_22 : decode cX3_bestPlace 22 = .ok (.iconst 0, 1) := by decide +kernel
theorem dX3_bestPlace_23 : decode cX3_bestPlace 23 = .ok (.istore 7, 2) := by decide +kernel
theorem dX3_bestPlace_25 : decode cX3_bestPlace 25 = .ok (.iload 7, 2) := by decide +kernel
theorem dX3_bestPlace_27 : decode cX3_bestPlace 27 = .ok (.bipush 6, 2) := by decide +kernel
theorem dX3_bestPlace_29 : decode cX3_bestPlace 29 = .ok (.if_icmp .ge 40, 3) := by decide +kernel
theorem dX3_bestPlace_32 : decode cX3_bestPlace 32 = .ok (.aload_n 0, 1) := by decide +kernel
theorem dX3_bestPlace_33 : decode cX3_bestPlace 33 = .ok (.getfield 9, 3) := by decide +kernel
theorem dX3_bestPlace_36 : decode cX3_bestPlace 36 = .ok (.iload 4, 2) := by decide +kernel
theorem dX3_bestPlace_38 : decode cX3_bestPlace 38 = .ok (.iload 7, 2) := by decide +kernel
theorem dX3_bestPlace_40 : decode cX3_bestPlace 40 = .ok (.invokevirtual 107, 3) := by decide +kernel
theorem dX3_bestPlace_43 : decode cX3_bestPlace 43 = .ok (.istore 8, 2) := by decide +kernel
theorem dX3_bestPlace_45 : decode cX3_bestPlace 45 = .ok (.iload 8, 2) := by decide +kernel
theorem dX3_bestPlace_47 : decode cX3_bestPlace 47 = .ok (.iconst (-1), 1) := by decide +kernel
theorem dX3_bestPlace_48 : decode cX3_bestPlace 48 = .ok (.if_icmp .eq 15, 3) := by decide +kernel
theorem dX3_bestPlace_51 : decode cX3_bestPlace 51 = .ok (.iinc 5 1, 3) := by decide +kernel
theorem dX3_bestPlace_54 : decode cX3_bestPlace 54 = .ok (.iload 6, 2) := by decide +kernel
theorem dX3_bestPlace_56 : decode cX3_bestPlace 56 = .ok (.iload 8, 2) := by decide +kernel
theorem dX3_bestPlace_58 : decode cX3_bestPlace 58 = .ok (.invokestatic 110, 3) := by decide +kernel
theorem dX3_bestPlace_61 : decode cX3_bestPlace 61 = .ok (.istore 6, 2) := by decide +kernel
theorem dX3_bestPlace_63 : decode cX3_bestPlace 63 = .ok (.iinc 7 1, 3) := by decide +kernel
theorem dX3_bestPlace_66 : decode cX3_bestPlace 66 = .ok (.goto (-41), 3) := by decide +kernel
theorem dX3_bestPlace_69 : decode cX3_bestPlace 69 = .ok (.iload 5, 2) := by decide +kernel
theorem dX3_bestPlace_71 : decode cX3_bestPlace 71 = .ok (.iload_n 2, 1) := by decide +kernel
theorem dX3_bestPlace_72 : decode cX3_bestPlace 72 = .ok (.if_icmp .gt 15, 3) := by decide +kernel
theorem dX3_bestPlace_75 : decode cX3_bestPlace 75 = .ok (.iload 5, 2) := by decide +kernel
theorem dX3_bestPlace_77 : decode cX3_bestPlace 77 = .ok (.iload_n 2, 1) := by decide +kernel
theorem dX3_bestPlace_78 : decode cX3_bestPlace 78 = .ok (.if_icmp .ne 18, 3) := by decide +kernel
theorem dX3_bestPlace_81 : decode cX3_bestPlace 81 = .ok (.iload 6, 2) := by decide +kernel
theorem dX3_bestPlace_83 : decode cX3_bestPlace 83 = .ok (.iload_n 3, 1) := by decide +kernel
theorem dX3_bestPlace_84 : decode cX3_bestPlace 84 = .ok (.if_icmp .ge 12, 3) := by decide +kernel
theorem dX3_bestPlace_87 : decode cX3_bestPlace 87 = .ok (.iload 4, 2) := by decide +kernel
theorem dX3_bestPlace_89 : decode cX3_bestPlace 89 = .ok (.istore_n 1, 1) := by decide +kernel
theorem dX3_bestPlace_90 : decode cX3_bestPlace 90 = .ok (.iload 5, 2) := by decide +kernel
theorem dX3_bestPlace_92 : decode cX3_bestPlace 92 = .ok (.istore_n 2, 1) := by decide +kernel
theorem dX3_bestPlace_93 : decode cX3_bestPlace 93 = .ok (.iload 6, 2) := by decide +kernel
theorem dX3_bestPlace_95 : decode cX3_bestPlace 95 = .ok (.istore_n 3, 1) := by decide +kernel
theorem dX3_bestPlace_96 : decode cX3_bestPlace 96 = .ok (.iinc 4 1, 3) := by decide +kernel
theorem dX3_bestPlace_99 : decode cX3_bestPlace 99 = .ok (.goto (-90), 3) := by decide +kernel
theorem dX3_bestPlace_102 : decode cX3_bestPlace 102 = .ok (.iload_n 1, 1) := by decide +kernel
theorem dX3_bestPlace_103 : decode cX3_bestPlace 103 = .ok (.ireturn, 1) := by decide +kernel
theorem dX3_share_0 : decode cX3_share 0 = .ok (.aload_n 0, 1) := by decide +kernel
theorem dX3_share_1 : decode cX3_share 1 = .ok (.getfield 9, 3) := by decide +kernel
theorem dX3_share_4 : decode cX3_share 4 = .ok (.getfield 61, 3) := by decide +kernel
theorem dX3_share_7 : decode cX3_share 7 = .ok (.ifCond .gt 5, 3) := by decide +kernel
theorem dX3_share_10 : decode cX3_share 10 = .ok (.dconst 0, 1) := by decide +kernel
theorem dX3_share_11 : decode cX3_share 11 = .ok (.dreturn, 1) := by decide +kernel
theorem dX3_share_12 : decode cX3_share 12 = .ok (.iconst 0, 1) := by decide +kernel
theorem dX3_share_13 : decode cX3_share 13 = .ok (.istore_n 1, 1) := by decide +kernel
theorem dX3_share_14 : decode cX3_share 14 = .ok (.iconst 0, 1) := by decide +kernel
theorem dX3_share_15 : decode cX3_share 15 = .ok (.istore_n 2, 1) := by decide +kernel
theorem dX3_share_16 : decode cX3_share 16 = .ok (.iload_n 2, 1) := by decide +kernel
theorem dX3_share_17 : decode cX3_share 17 = .ok (.bipush 6, 2) := by decide +kernel
theorem dX3_share_19 : decode cX3_share 19 = .ok (.if_icmp .ge 17, 3) := by decide +kernel
theorem dX3_share_22 : decode cX3_share 22 = .ok (.iload_n 1, 1) := by decide +kernel
theorem dX3_share_23 : decode cX3_share 23 = .ok (.aload_n 0, 1) := by decide +kernel
theorem dX3_share_24 : decode cX3_share 24 = .ok (.iload_n 2, 1) := by decide +kernel
theorem dX3_share_25 : decode cX3_share 25 = .ok (.invokevirtual 51, 3) := by decide +kernel
theorem dX3_share_28 : decode cX3_share 28 = .ok (.iadd, 1) := by decide +kernel
theorem dX3_share_29 : decode cX3_share 29 = .ok (.istore_n 1, 1) := by decide +kernel
theorem dX3_share_30 : decode cX3_share 30 = .ok (.iinc 2 1, 3) := by decide +kernel
theorem dX3_share_33 : decode cX3_share 33 = .ok (.goto (-17), 3) := by decide +kernel
theorem dX3_share_36 : decode cX3_share 36 = .ok (.iload_n 1, 1) := by decide +kernel
theorem dX3_share_37 : decode cX3_share 37 = .ok (.i2d, 1) := by decide +kernel
theorem dX3_share_38 : decode cX3_share 38 = .ok (.bipush 6, 2) := by decide +kernel
theorem dX3_share_40 : decode cX3_share 40 = .ok (.aload_n 0, 1) := by decide +kernel
theorem dX3_share_41 : decode cX3_share 41 = .ok (.getfield 9, 3) := by decide +kernel
theorem dX3_share_44 : decode cX3_share 44 = .ok (.getfield 61, 3) := by decide +kernel
theorem dX3_share_47 : decode cX3_share 47 = .ok (.imul, 1) := by decide +kernel
theorem dX3_share_48 : decode cX3_share 48 = .ok (.i2d, 1) := by decide +kernel
theorem dX3_share_49 : decode cX3_share 49 = .ok (.ddiv, 1) := by decide +kernel
theorem dX3_share_50 : decode cX3_share 50 = .ok (.dreturn, 1) := by decide +kernel
theorem dX4_init_0 : decode cX4_init 0 = .ok (.aload_n 0, 1) := by decide +kernel
theorem dX4_init_1 : decode cX4_init 1 = .ok (.invokespecial 3, 3) := by decide +kernel
theorem dX4_init_4 : decode cX4_init 4 = .ok (.aload_n 0, 1) := by decide +kernel
theorem dX4_init_5 : decode cX4_init 5 = .ok (.bipush 60, 2) := by decide +kernel
theorem dX4_init_7 : decode cX4_init 7 = .ok (.newarray .char, 2) := by decide +kernel
theorem dX4_init_9 : decode cX4_init 9 = .ok (.putfield 9, 3) := by decide +kernel
theorem dX4_init_12 : decode cX4_init 12 = .ok (.return_, 1) := by decide +kernel
theorem dX4_add_0 : decode cX4_add 0 = .ok (.aload_n 0, 1) := by decide +kernel
theorem dX4_add_1 : decode cX4_add 1 = .ok (.getfield 15, 3) := by decide +kernel
theorem dX4_add_4 : decode cX4_add 4 = .ok (.bipush 60, 2) := by decide +kernel
theorem dX4_add_6 : decode cX4_add 6 = .ok (.if_icmp .ge 23, 3) := by decide +kernel
theorem dX4_add_9 : decode cX4_add 9 = .ok (.aload_n 0, 1) := by decide +kernel
theorem dX4_add_10 : decode cX4_add 10 = .ok (.getfield 9, 3) := by decide +kernel
theorem dX4_add_13 : decode cX4_add 13 = .ok (.aload_n 0, 1) := by decide +kernel
theorem dX4_add_14 : decode cX4_add 14 = .ok (.getfield 15, 3) := by decide +kernel
theorem dX4_add_17 : decode cX4_add 17 = .ok (.iload_n 1, 1) := by decide +kernel
theorem dX4_add_18 : decode cX4_add 18 = .ok (.castore, 1) := by decide +kernel
theorem dX4_add_19 : decode cX4_add 19 = .ok (.aload_n 0, 1) := by decide +kernel
theorem dX4_add_20 : decode cX4_add 20 = .ok (.dup, 1) := by decide +kernel
theorem dX4_add_21 : decode cX4_add 21 = .ok (.getfield 15, 3) := by decide +kernel
theorem dX4_add_24 : decode cX4_add 24 = .ok (.iconst 1, 1) := by decide +kernel
theorem dX4_add_25 : decode cX4_add 25 = .ok (.iadd, 1) := by decide +kernel
theorem dX4_add_26 : decode cX4_add 26 = .ok (.putfield 15, 3) := by decide +kernel
theorem dX4_add_29 : decode cX4_add 29 = .ok (.return_, 1) := by decide +kernel
theorem dX4_errorPlace_0 : decode cX4_errorPlace 0 = .ok (.iconst 0, 1) := by decide +kernel
theorem dX4_errorPlace_1 : decode cX4_errorPlace 1 = .ok (.istore_n 1, 1) := by decide +kernel
theorem dX4_errorPlace_2 : decode cX4_errorPlace 2 = .ok (.iconst 0, 1) := by decide +kernel
theorem dX4_errorPlace_3 : decode cX4_errorPlace 3 = .ok (.istore_n 2, 1) := by decide +kernel
theorem dX4_errorPlace_4 : decode cX4_errorPlace 4 = .ok (.iload_n 2, 1) := by decide +kernel
theorem dX4_errorPlace_5 : decode cX4_errorPlace 5 = .ok (.aload_n 0, 1) := by decide +kernel
theorem dX4_errorPlace_6 : decode cX4_errorPlace 6 = .ok (.getfield 15, 3) := by decide +kernel
theorem dX4_errorPlace_9 : decode cX4_errorPlace 9 = .ok (.if_icmp .ge 27, 3) := by decide +kernel
theorem dX4_errorPlace_12 : decode cX4_errorPlace 12 = .ok (.iload_n 1, 1) := by decide +kernel
theorem dX4_errorPlace_13 : decode cX4_errorPlace 13 = .ok (.aload_n 0, 1) := by decide +kernel
theorem dX4_errorPlace_14 : decode cX4_errorPlace 14 = .ok (.getfield 9, 3) := by decide +kernel
theorem dX4_errorPlace_17 : decode cX4_errorPlace 17 = .ok (.iload_n 2, 1) := by decide +kernel
theorem dX4_errorPlace_18 : decode cX4_errorPlace 18 = .ok (.caload, 1) := by decide +kernel
theorem dX4_errorPlace_19 : decode cX4_errorPlace 19 = .ok (.invokestatic 19, 3) := by decide +kernel
theorem dX4_errorPlace_22 : decode cX4_errorPlace 22 = .ok (.istore_n 1, 1) := by decide +kernel
theorem dX4_errorPlace_23 : decode cX4_errorPlace 23 = .ok (.iload_n 1, 1) := by decide +kernel
theorem dX4_errorPlace_24 : decode cX4_errorPlace 24 = .ok (.iconst (-1), 1) := by decide +kernel
theorem dX4_errorPlace_25 : decode cX4_errorPlace 25 = .ok (.if_icmp .ne 5, 3) := by decide +kernel
theorem dX4_errorPlace_28 : decode cX4_errorPlace 28 = .ok (.iload_n 2, 1) := by decide +kernel
theorem dX4_errorPlace_29 : decode cX4_errorPlace 29 = .ok (.ireturn, 1) := by decide +kernel
theorem dX4_errorPlace_30 : decode cX4_errorPlace 30 = .ok (.iinc 2 1, 3) := by decide +kernel
theorem dX4_errorPlace_33 : decode cX4_errorPlace 33 = .ok (.goto (-29), 3) := by decide +kernel
theorem dX4_errorPlace_36 : decode cX4_errorPlace 36 = .ok (.aload_n 0, 1) := by decide +kernel
theorem dX4_errorPlace_37 : decode cX4_errorPlace 37 = .ok (.getfield 15, 3) := by decide +kernel
theorem dX4_errorPlace_40 : decode cX4_errorPlace 40 = .ok (.ireturn, 1) := by decide +kernel
theorem dX4_isComplete_0 : decode cX4_isComplete 0 = .ok (.iconst 0, 1) := by decide +kernel
theorem dX4_isComplete_1 : decode cX4_isComplete 1 = .ok (.istore_n 1, 1) := by decide +kernel
theorem dX4_isComplete_2 : decode cX4_isComplete 2 = .ok (.iconst 0, 1) := by decide +kernel
theorem dX4_isComplete_3 : decode cX4_isComplete 3 = .ok (.istore_n 2, 1) := by decide +kernel
theorem dX4_isComplete_4 : decode cX4_isComplete 4 = .ok (.iload_n 2, 1) := by decide +kernel
theorem dX4_isComplete_5 : decode cX4_isComplete 5 = .ok (.aload_n 0, 1) := by decide +kernel
theorem dX4_isComplete_6 : decode cX4_isComplete 6 = .ok (.getfield 15, 3) := by decide +kernel
theorem dX4_isComplete_9 : decode cX4_isComplete 9 = .ok (.if_icmp .ge 20, 3) := by decide +kernel
theorem dX4_isComplete_12 : decode cX4_isComplete 12 = .ok (.iload_n 1, 1) := by decide +kernel
theorem dX4_isComplete_13 : decode cX4_isComplete 13 = .ok (.aload_n 0, 1) := by decide +kernel
theorem dX4_isComplete_14 : decode cX4_isComplete 14 = .ok (.getfield 9, 3) := by decide +kernel
theorem dX4_isComplete_17 : decode cX4_isComplete 17 = .ok (.iload_n 2, 1) := by decide +kernel
theorem dX4_isComplete_18 : decode cX4_isComplete 18 = .ok (.caload, 1) := by decide +kernel
theorem dX4_isComplete_19 : decode cX4_isComplete 19 = .ok (.invokestatic 19, 3) := by decide +kernel
theorem dX4_isComplete_22 : decode cX4_isComplete 22 = .ok (.istore_n 1, 1) := by decide +kernel
theorem dX4_isComplete_23 : decode cX4_isComplete 23 = .ok (.iinc 2 1, 3) := by decide +kernel
theorem dX4_isComplete_26 : decode cX4_isComplete 26 = .ok (.goto (-22), 3) := by decide +kernel
theorem dX4_isComplete_29 : decode cX4_isComplete 29 = .ok (.iload_n 1, 1) := by decide +kernel
theorem dX4_isComplete_30 : decode cX4_isComplete 30 = .ok (.tableswitch 44 3 9 #[42, 42, 44, 44, 42, 42, 42], 42) := by decide +kernel
theorem dX4_isComplete_72 : decode cX4_isComplete 72 = .ok (.iconst 1, 1) := by decide +kernel
theorem dX4_isComplete_73 : decode cX4_isComplete 73 = .ok (.ireturn, 1) := by decide +kernel
theorem dX4_isComplete_74 : decode cX4_isComplete 74 = .ok (.iconst 0, 1) := by decide +kernel
theorem dX4_isComplete_75 : decode cX4_isComplete 75 = .ok (.ireturn, 1) := by decide +kernel
theorem dX4_next_0 : decode cX4_next 0 = .ok (.iload_n 0, 1) := by decide +kernel
theorem dX4_next_1 : decode cX4_next 1 = .ok (.tableswitch 190 0 9 #[55, 83, 95, 112, 128, 133, 147, 152, 169, 185], 55) := by decide +kernel
theorem dX4_next_56 : decode cX4_next 56 = .ok (.iload_n 1, 1) := by decide +kernel
theorem dX4_next_57 : decode cX4_next 57 = .ok (.bipush 46, 2) := by decide +kernel
theorem dX4_next_59 : decode cX4_next 59 = .ok (.if_icmp .ne 8, 3) := by decide +kernel
theorem dX4_next_62 : decode cX4_next 62 = .ok (.bipush 6, 2) := by decide +kernel
theorem dX4_next_64 : decode cX4_next 64 = .ok (.goto 19, 3) := by decide +kernel
theorem dX4_next_67 : decode cX4_next 67 = .ok (.iload_n 1, 1) := by decide +kernel
theorem dX4_next_68 : decode cX4_next 68 = .ok (.bipush 48, 2) := by decide +kernel
theorem dX4_next_70 : decode cX4_next 70 = .ok (.bipush 53, 2) := by decide +kernel
theorem dX4_next_72 : decode cX4_next 72 = .ok (.invokestatic 23, 3) := by decide +kernel
theorem dX4_next_75 : decode cX4_next 75 = .ok (.ifCond .eq 7, 3) := by decide +kernel
theorem dX4_next_78 : decode cX4_next 78 = .ok (.iconst 1, 1) := by decide +kernel
theorem dX4_next_79 : decode cX4_next 79 = .ok (.goto 4, 3) := by decide +kernel
theorem dX4_next_82 : decode cX4_next 82 = .ok (.iconst (-1), 1) := by decide +kernel
theorem dX4_next_83 : decode cX4_next 83 = .ok (.ireturn, 1) := by decide +kernel
theorem dX4_next_84 : decode cX4_next 84 = .ok (.iload_n 1, 1) := by decide +kernel
theorem dX4_next_85 : decode cX4_next 85 = .ok (.bipush 58, 2) := by decide +kernel
theorem dX4_next_87 : decode cX4_next 87 = .ok (.if_icmp .ne 7, 3) := by decide +kernel
theorem dX4_next_90 : decode cX4_next 90 = .ok (.iconst 2, 1) := by decide +kernel
theorem dX4_next_91 : decode cX4_next 91 = .ok (.goto 4, 3) := by decide +kernel
theorem dX4_next_94 : decode cX4_next 94 = .ok (.iconst (-1), 1) := by decide +kernel
theorem dX4_next_95 : decode cX4_next 95 = .ok (.ireturn, 1) := by decide +kernel
theorem dX4_next_96 : decode cX4_next 96 = .ok (.iload_n 1, 1) := by decide +kernel
theorem dX4_next_97 : decode cX4_next 97 = .ok (.bipush 49, 2) := by decide +kernel
theorem dX4_next_99 : decode cX4_next 99 = .ok (.bipush 57, 2) := by decide +kernel
theorem dX4_next_101 : decode cX4_next 101 = .ok (.invokestatic 23, 3) := by decide +kernel
theorem dX4_next_104 : decode cX4_next 104 = .ok (.ifCond .eq 7, 3) := by decide +kernel
theorem dX4_next_107 : decode cX4_next 107 = .ok (.iconst 3, 1) := by decide +kernel
theorem dX4_next_108 : decode cX4_next 108 = .ok (.goto 4, 3) := by decide +kernel
theorem dX4_next_111 : decode cX4_next 111 = .ok (.iconst (-1), 1) := by decide +kernel
theorem dX4_next_112 : decode cX4_next 112 = .ok (.ireturn, 1) := by decide +kernel
theorem dX4_next_113 : decode cX4_next 113 = .ok (.iload_n 1, 1) := by decide +kernel
theorem dX4_next_114 : decode cX4_next 114 = .ok (.invokestatic 27, 3) := by decide +kernel
theorem dX4_next_117 : decode cX4_next 117 = .ok (.ifCond .eq 7, 3) := by decide +kernel
theorem dX4_next_120 : decode cX4_next 120 = .ok (.iconst 4, 1) := by decide +kernel
theorem dX4_next_121 : decode cX4_next 121 = .ok (.goto 7, 3) := by decide +kernel
theorem dX4_next_124 : decode cX4_next 124 = .ok (.iload_n 1, 1) := by decide +kernel
theorem dX4_next_125 : decode cX4_next 125 = .ok (.invokestatic 31, 3) := by decide +kernel
theorem dX4_next_128 : decode cX4_next 128 = .ok (.ireturn, 1) := by decide +kernel
theorem dX4_next_129 : decode cX4_next 129 = .ok (.iload_n 1, 1) := by decide +kernel
theorem dX4_next_130 : decode cX4_next 130 = .ok (.invokestatic 31, 3) := by decide +kernel
theorem dX4_next_133 : decode cX4_next 133 = .ok (.ireturn, 1) := by decide +kernel
theorem dX4_next_134 : decode cX4_next 134 = .ok (.iload_n 1, 1) := by decide +kernel
theorem dX4_next_135 : decode cX4_next 135 = .ok (.invokestatic 27, 3) := by decide +kernel
theorem dX4_next_138 : decode cX4_next 138 = .ok (.ifCond .eq 8, 3) := by decide +kernel
theorem dX4_next_141 : decode cX4_next 141 = .ok (.bipush 9, 2) := by decide +kernel
theorem dX4_next_143 : decode cX4_next 143 = .ok (.goto 4, 3) := by decide +kernel
theorem dX4_next_146 : decode cX4_next 146 = .ok (.iconst (-1), 1) := by decide +kernel
theorem dX4_next_147 : decode cX4_next 147 = .ok (.ireturn, 1) := by decide +kernel
theorem dX4_next_148 : decode cX4_next 148 = .ok (.iload_n 1, 1) := by decide +kernel
theorem dX4_next_149 : decode cX4_next 149 = .ok (.invokestatic 35, 3) := by decide +kernel
theorem dX4_next_152 : decode cX4_next 152 = .ok (.ireturn, 1) := by decide +kernel
theorem dX4_next_153 : decode cX4_next 153 = .ok (.iload_n 1, 1) := by decide +kernel
theorem dX4_next_154 : decode cX4_next 154 = .ok (.invokestatic 27, 3) := by decide +kernel
theorem dX4_next_157 : decode cX4_next 157 = .ok (.ifCond .eq 8, 3) := by decide +kernel
theorem dX4_next_160 : decode cX4_next 160 = .ok (.bipush 9, 2) := by decide +kernel
theorem dX4_next_162 : decode cX4_next 162 = .ok (.goto 7, 3) := by decide +kernel
theorem dX4_next_165 : decode cX4_next 165 = .ok (.iload_n 1, 1) := by decide +kernel
theorem dX4_next_166 : decode cX4_next 166 = .ok (.invokestatic 38, 3) := by decide +kernel
theorem dX4_next_169 : decode cX4_next 169 = .ok (.ireturn, 1) := by decide +kernel
theorem dX4_next_170 : decode cX4_next 170 = .ok (.iload_n 1, 1) := by decide +kernel
theorem dX4_next_171 : decode cX4_next 171 = .ok (.bipush 48, 2) := by decide +kernel
theorem dX4_next_173 : decode cX4_next 173 = .ok (.if_icmp .ne 8, 3) := by decide +kernel
theorem dX4_next_176 : decode cX4_next 176 = .ok (.bipush 9, 2) := by decide +kernel
theorem dX4_next_178 : decode cX4_next 178 = .ok (.goto 7, 3) := by decide +kernel
theorem dX4_next_181 : decode cX4_next 181 = .ok (.iload_n 1, 1) := by decide +kernel
theorem dX4_next_182 : decode cX4_next 182 = .ok (.invokestatic 38, 3) := by decide +kernel
theorem dX4_next_185 : decode cX4_next 185 = .ok (.ireturn, 1) := by decide +kernel
theorem dX4_next_186 : decode cX4_next 186 = .ok (.iload_n 1, 1) := by decide +kernel
theorem dX4_next_187 : decode cX4_next 187 = .ok (.invokestatic 38, 3) := by decide +kernel
theorem dX4_next_190 : decode cX4_next 190 = .ok (.ireturn, 1) := by decide +kernel
theorem dX4_next_191 : decode cX4_next 191 = .ok (.iconst (-1), 1) := by decide +kernel
theorem dX4_next_192 : decode cX4_next 192 = .ok (.ireturn, 1) := by decide +kernel
theorem dX4_behindWord_0 : decode cX4_behindWord 0 = .ok (.iload_n 0, 1) := by decide +kernel
theorem dX4_behindWord_1 : decode cX4_behindWord 1 = .ok (.bipush 44, 2) := by decide +kernel
theorem dX4_behindWord_3 : decode cX4_behindWord 3 = .ok (.if_icmp .ne 5, 3) := by decide +kernel
theorem dX4_behindWord_6 : decode cX4_behindWord 6 = .ok (.iconst 2, 1) := by decide +kernel
theorem dX4_behindWord_7 : decode cX4_behindWord 7 = .ok (.ireturn, 1) := by decide +kernel
theorem dX4_behindWord_8 : decode cX4_behindWord 8 = .ok (.iload_n 0, 1) := by decide +kernel
theorem dX4_behindWord_9 : decode cX4_behindWord 9 = .ok (.bipush 35, 2) := by decide +kernel
theorem dX4_behindWord_11 : decode cX4_behindWord 11 = .ok (.if_icmp .ne 7, 3) := by decide +kernel
theorem dX4_behindWord_14 : decode cX4_behindWord 14 = .ok (.iconst 5, 1) := by decide +kernel
theorem dX4_behindWord_15 : decode cX4_behindWord 15 = .ok (.goto 7, 3) := by decide +kernel
theorem dX4_behindWord_18 : decode cX4_behindWord 18 = .ok (.iload_n 0, 1) := by decide +kernel
theorem dX4_behindWord_19 : decode cX4_behindWord 19 = .ok (.invokestatic 38, 3) := by decide +kernel
theorem dX4_behindWord_22 : decode cX4_behindWord 22 = .ok (.ireturn, 1) := by decide +kernel
theorem dX4_behindPart_0 : decode cX4_behindPart 0 = .ok (.iload_n 0, 1) := by decide +kernel
theorem dX4_behindPart_1 : decode cX4_behindPart 1 = .ok (.bipush 59, 2) := by decide +kernel
theorem dX4_behindPart_3 : decode cX4_behindPart 3 = .ok (.if_icmp .ne 7, 3) := by decide +kernel
theorem dX4_behindPart_6 : decode cX4_behindPart 6 = .ok (.iconst 0, 1) := by decide +kernel
theorem dX4_behindPart_7 : decode cX4_behindPart 7 = .ok (.goto 4, 3) := by decide +kernel
theorem dX4_behindPart_10 : decode cX4_behindPart 10 = .ok (.iconst (-1), 1) := by decide +kernel
theorem dX4_behindPart_11 : decode cX4_behindPart 11 = .ok (.ireturn, 1) := by decide +kernel
theorem dX4_pauseDigit_0 : decode cX4_pauseDigit 0 = .ok (.iload_n 0, 1) := by decide +kernel
theorem dX4_pauseDigit_1 : decode cX4_pauseDigit 1 = .ok (.bipush 49, 2) := by decide +kernel
theorem dX4_pauseDigit_3 : decode cX4_pauseDigit 3 = .ok (.bipush 52, 2) := by decide +kernel
theorem dX4_pauseDigit_5 : decode cX4_pauseDigit 5 = .ok (.invokestatic 23, 3) := by decide +kernel
theorem dX4_pauseDigit_8 : decode cX4_pauseDigit 8 = .ok (.ifCond .eq 6, 3) := by decide +kernel
theorem dX4_pauseDigit_11 : decode cX4_pauseDigit 11 = .ok (.bipush 7, 2) := by decide +kernel
theorem dX4_pauseDigit_13 : decode cX4_pauseDigit 13 = .ok (.ireturn, 1) := by decide +kernel
theorem dX4_pauseDigit_14 : decode cX4_pauseDigit 14 = .ok (.iload_n 0, 1) := by decide +kernel
theorem dX4_pauseDigit_15 : decode cX4_pauseDigit 15 = .ok (.bipush 53, 2) := by decide +kernel
theorem dX4_pauseDigit_17 : decode cX4_pauseDigit 17 = .ok (.if_icmp .ne 6, 3) := by decide +kernel
theorem dX4_pauseDigit_20 : decode cX4_pauseDigit 20 = .ok (.bipush 8, 2) := by decide +kernel
theorem dX4_pauseDigit_22 : decode cX4_pauseDigit 22 = .ok (.ireturn, 1) := by decide +kernel
theorem dX4_pauseDigit_23 : decode cX4_pauseDigit 23 = .ok (.iload_n 0, 1) := by decide +kernel
theorem dX4_pauseDigit_24 : decode cX4_pauseDigit 24 = .ok (.bipush 54, 2) := by decide +kernel
theorem dX4_pauseDigit_26 : decode cX4_pauseDigit 26 = .ok (.bipush 57, 2) := by decide +kernel
theorem dX4_pauseDigit_28 : decode cX4_pauseDigit 28 = .ok (.invokestatic 23, 3) := by decide +kernel
theorem dX4_pauseDigit_31 : decode cX4_pauseDigit 31 = .ok (.ifCond .eq 8, 3) := by decide +kernel
theorem dX4_pauseDigit_34 : decode cX4_pauseDigit 34 = .ok (.bipush 9, 2) := by decide +kernel
theorem dX4_pauseDigit_36 : decode cX4_pauseDigit 36 = .ok (.goto 4, 3) := by decide +kernel
theorem dX4_pauseDigit_39 : decode cX4_pauseDigit 39 = .ok (.iconst (-1), 1) := by decide +kernel
theorem dX4_pauseDigit_40 : decode cX4_pauseDigit 40 = .ok (.ireturn, 1) := by decide +kernel
theorem dX4_isDigit_0 : decode cX4_isDigit 0 = .ok (.iload_n 0, 1) := by decide +kernel
theorem dX4_isDigit_1 : decode cX4_isDigit 1 = .ok (.bipush 48, 2) := by decide +kernel
theorem dX4_isDigit_3 : decode cX4_isDigit 3 = .ok (.bipush 57, 2) := by decide +kernel
theorem dX4_isDigit_5 : decode cX4_isDigit 5 = .ok (.invokestatic 23, 3) := by decide +kernel
theorem dX4_isDigit_8 : decode cX4_isDigit 8 = .ok (.ireturn, 1) := by decide +kernel
theorem dX4_happenIn_0 : decode cX4_happenIn 0 = .ok (.iconst 0, 1) := by decide +kernel
theorem dX4_happenIn_1 : decode cX4_happenIn 1 = .ok (.istore_n 2, 1) := by decide +kernel
theorem dX4_happenIn_2 : decode cX4_happenIn 2 = .ok (.iconst 0, 1) := by decide +kernel
theorem dX4_happenIn_3 : decode cX4_happenIn 3 = .ok (.istore_n 3, 1) := by decide +kernel
theorem dX4_happenIn_4 : decode cX4_happenIn 4 = .ok (.iload_n 3, 1) := by decide +kernel
theorem dX4_happenIn_5 : decode cX4_happenIn 5 = .ok (.aload_n 0, 1) := by decide +kernel
theorem dX4_happenIn_6 : decode cX4_happenIn 6 = .ok (.getfield 15, 3) := by decide +kernel
theorem dX4_happenIn_9 : decode cX4_happenIn 9 = .ok (.if_icmp .gt 43, 3) := by decide +kernel
theorem dX4_happenIn_12 : decode cX4_happenIn 12 = .ok (.iload_n 3, 1) := by decide +kernel
theorem dX4_happenIn_13 : decode cX4_happenIn 13 = .ok (.aload_n 0, 1) := by decide +kernel
theorem dX4_happenIn_14 : decode cX4_happenIn 14 = .ok (.getfield 15, 3) := by decide +kernel
theorem dX4_happenIn_17 : decode cX4_happenIn 17 = .ok (.if_icmp .eq 14, 3) := by decide +kernel
theorem dX4_happenIn_20 : decode cX4_happenIn 20 = .ok (.aload_n 0, 1) := by decide +kernel
theorem dX4_happenIn_21 : decode cX4_happenIn 21 = .ok (.getfield 9, 3) := by decide +kernel
theorem dX4_happenIn_24 : decode cX4_happenIn 24 = .ok (.iload_n 3, 1) := by decide +kernel
theorem dX4_happenIn_25 : decode cX4_happenIn 25 = .ok (.caload, 1) := by decide +kernel
theorem dX4_happenIn_26 : decode cX4_happenIn 26 = .ok (.bipush 59, 2) := by decide +kernel
theorem dX4_happenIn_28 : decode cX4_happenIn 28 = .ok (.if_icmp .ne 18, 3) := by decide +kernel
theorem dX4_happenIn_31 : decode cX4_happenIn 31 = .ok (.aload_n 0, 1) := by decide +kernel
theorem dX4_happenIn_32 : decode cX4_happenIn 32 = .ok (.aload_n 1, 1) := by decide +kernel
theorem dX4_happenIn_33 : decode cX4_happenIn 33 = .ok (.iload_n 2, 1) := by decide +kernel
theorem dX4_happenIn_34 : decode cX4_happenIn 34 = .ok (.iload_n 3, 1) := by decide +kernel
theorem dX4_happenIn_35 : decode cX4_happenIn 35 = .ok (.invokevirtual 41, 3) := by decide +kernel
theorem dX4_happenIn_38 : decode cX4_happenIn 38 = .ok (.ifCond .ne 4, 3) := by decide +kernel
theorem dX4_happenIn_41 : decode cX4_happenIn 41 = .ok (.return_, 1) := by decide +kernel
theorem dX4_happenIn_42 : decode cX4_happenIn 42 = .ok (.iload_n 3, 1) := by decide +kernel
theorem dX4_happenIn_43 : decode cX4_happenIn 43 = .ok (.iconst 1, 1) := by decide +kernel
theorem dX4_happenIn_44 : decode cX4_happenIn 44 = .ok (.iadd, 1) := by decide +kernel
theorem dX4_happenIn_45 : decode cX4_happenIn 45 = .ok (.istore_n 2, 1) := by decide +kernel
theorem dX4_happenIn_46 : decode cX4_happenIn 46 = .ok (.iinc 3 1, 3) := by decide +kernel
theorem dX4_happenIn_49 : decode cX4_happenIn 49 = .ok (.goto (-45), 3) := by decide +kernel
theorem dX4_happenIn_52 : decode cX4_happenIn 52 = .ok (.return_, 1) := by decide +kernel
theorem dX4_partHappens_0 : decode cX4_partHappens 0 = .ok (.aload_n 0, 1) := by decide +kernel
theorem dX4_partHappens_1 : decode cX4_partHappens 1 = .ok (.getfield 9, 3) := by decide +kernel
theorem dX4_partHappens_4 : decode cX4_partHappens 4 = .ok (.iload_n 2, 1) := by decide +kernel
theorem dX4_partHappens_5 : decode cX4_partHappens 5 = .ok (.caload, 1) := by decide +kernel
theorem dX4_partHappens_6 : decode cX4_partHappens 6 = .ok (.bipush 46, 2) := by decide +kernel
theorem dX4_partHappens_8 : decode cX4_partHappens 8 = .ok (.if_icmp .ne 13, 3) := by decide +kernel
theorem dX4_partHappens_11 : decode cX4_partHappens 11 = .ok (.aload_n 0, 1) := by decide +kernel
theorem dX4_partHappens_12 : decode cX4_partHappens 12 = .ok (.aload_n 1, 1) := by decide +kernel
theorem dX4_partHappens_13 : decode cX4_partHappens 13 = .ok (.iload_n 2, 1) := by decide +kernel
theorem dX4_partHappens_14 : decode cX4_partHappens 14 = .ok (.iload_n 3, 1) := by decide +kernel
theorem dX4_partHappens_15 : decode cX4_partHappens 15 = .ok (.invokevirtual 45, 3) := by decide +kernel
theorem dX4_partHappens_18 : decode cX4_partHappens 18 = .ok (.goto 10, 3) := by decide +kernel
theorem dX4_partHappens_21 : decode cX4_partHappens 21 = .ok (.aload_n 0, 1) := by decide +kernel
theorem dX4_partHappens_22 : decode cX4_partHappens 22 = .ok (.aload_n 1, 1) := by decide +kernel
theorem dX4_partHappens_23 : decode cX4_partHappens 23 = .ok (.iload_n 2, 1) := by decide +kernel
theorem dX4_partHappens_24 : decode cX4_partHappens 24 = .ok (.iload_n 3, 1) := by decide +kernel
theorem dX4_partHappens_25 : decode cX4_partHappens 25 = .ok (.invokevirtual 48, 3) := by decide +kernel
theorem dX4_partHappens_28 : decode cX4_partHappens 28 = .ok (.ireturn, 1) := by decide +kernel
theorem dX4_restIn_0 : decode cX4_restIn 0 = .ok (.iconst 0, 1) := by decide +kernel
theorem dX4_restIn_1 : decode cX4_restIn 1 = .ok (.istore 4, 2) := by decide +kernel
theorem dX4_restIn_3 : decode cX4_restIn 3 = .ok (.iload_n 2, 1) := by decide +kernel
theorem dX4_restIn_4 : decode cX4_restIn 4 = .ok (.iconst 1, 1) := by decide +kernel
theorem dX4_restIn_5 : decode cX4_restIn 5 = .ok (.iadd, 1) := by decide +kernel
theorem dX4_restIn_6 : decode cX4_restIn 6 = .ok (.istore 5, 2) := by decide +kernel
theorem dX4_restIn_8 : decode cX4_restIn 8 = .ok (.iload 5, 2) := by decide +kernel
theorem dX4_restIn_10 : decode cX4_restIn 10 = .ok (.iload_n 3, 1) := by decide +kernel
theorem dX4_restIn_11 : decode cX4_restIn 11 = .ok (.if_icmp .ge 27, 3) := by decide +kernel
theorem dX4_restIn_14 : decode cX4_restIn 14 = .ok (.iload 4, 2) := by decide +kernel
theorem dX4_restIn_16 : decode cX4_restIn 16 = .ok (.bipush 10, 2) := by decide +kernel
theorem dX4_restIn_18 : decode cX4_restIn 18 = .ok (.imul, 1) := by decide +kernel
theorem dX4_restIn_19 : decode cX4_restIn 19 = .ok (.aload_n 0, 1) := by decide +kernel
theorem dX4_restIn_20 : decode cX4_restIn 20 = .ok (.getfield 9, 3) := by decide +kernel
theorem dX4_restIn_23 : decode cX4_restIn 23 = .ok (.iload 5, 2) := by decide +kernel
theorem dX4_restIn_25 : decode cX4_restIn 25 = .ok (.caload, 1) := by decide +kernel
theorem dX4_restIn_26 : decode cX4_restIn 26 = .ok (.bipush 48, 2) := by decide +kernel
theorem dX4_restIn_28 : decode cX4_restIn 28 = .ok (.isub, 1) := by decide +kernel
theorem dX4_restIn_29 : decode cX4_restIn 29 = .ok (.iadd, 1) := by decide +kernel
theorem dX4_restIn_30 : decode cX4_restIn 30 = .ok (.istore 4, 2) := by decide +kernel
theorem dX4_restIn_32 : decode cX4_restIn 32 = .ok (.iinc 5 1, 3) := by decide +kernel
theorem dX4_restIn_35 : decode cX4_restIn 35 = .ok (.goto (-27), 3) := by decide +kernel
theorem dX4_restIn_38 : decode cX4_restIn 38 = .ok (.aload_n 1, 1) := by decide +kernel
theorem dX4_restIn_39 : decode cX4_restIn 39 = .ok (.iload 4, 2) := by decide +kernel
theorem dX4_restIn_41 : decode cX4_restIn 41 = .ok (.invokevirtual 51, 3) := by decide +kernel
theorem dX4_restIn_44 : decode cX4_restIn 44 = .ok (.ifCond .ne 5, 3) := by decide +kernel
theorem dX4_restIn_47 : decode cX4_restIn 47 = .ok (.iconst 0, 1) := by decide +kernel
theorem dX4_restIn_48 : decode cX4_restIn 48 = .ok (.ireturn, 1) := by decide +kernel
theorem dX4_restIn_49 : decode cX4_restIn 49 = .ok (.aload_n 1, 1) := by decide +kernel
theorem dX4_restIn_50 : decode cX4_restIn 50 = .ok (.iload 4, 2) := by decide +kernel
theorem dX4_restIn_52 : decode cX4_restIn 52 = .ok (.invokevirtual 57, 3) := by decide +kernel
theorem dX4_restIn_55 : decode cX4_restIn 55 = .ok (.iconst 1, 1) := by decide +kernel
theorem dX4_restIn_56 : decode cX4_restIn 56 = .ok (.ireturn, 1) := by decide +kernel
theorem dX4_speakIn_0 : decode cX4_speakIn 0 = .ok (.aload_n 0, 1) := by decide +kernel
theorem dX4_speakIn_1 : decode cX4_speakIn 1 = .ok (.getfield 9, 3) := by decide +kernel
theorem dX4_speakIn_4 : decode cX4_speakIn 4 = .ok (.iload_n 2, 1) := by decide +kernel
theorem dX4_speakIn_5 : decode cX4_speakIn 5 = .ok (.caload, 1) := by decide +kernel
theorem dX4_speakIn_6 : decode cX4_speakIn 6 = .ok (.bipush 48, 2) := by decide +kernel
theorem dX4_speakIn_8 : decode cX4_speakIn 8 = .ok (.isub, 1) := by decide +kernel
theorem dX4_speakIn_9 : decode cX4_speakIn 9 = .ok (.istore 4, 2) := by decide +kernel
theorem dX4_speakIn_11 : decode cX4_speakIn 11 = .ok (.iload_n 3, 1) := by decide +kernel
theorem dX4_speakIn_12 : decode cX4_speakIn 12 = .ok (.iconst 2, 1) := by decide +kernel
theorem dX4_speakIn_13 : decode cX4_speakIn 13 = .ok (.isub, 1) := by decide +kernel
theorem dX4_speakIn_14 : decode cX4_speakIn 14 = .ok (.iload_n 2, 1) := by decide +kernel
theorem dX4_speakIn_15 : decode cX4_speakIn 15 = .ok (.if_icmp .le 20, 3) := by decide +kernel
theorem dX4_speakIn_18 : decode cX4_speakIn 18 = .ok (.aload_n 0, 1) := by decide +kernel
theorem dX4_speakIn_19 : decode cX4_speakIn 19 = .ok (.getfield 9, 3) := by decide +kernel
theorem dX4_speakIn_22 : decode cX4_speakIn 22 = .ok (.iload_n 3, 1) := by decide +kernel
theorem dX4_speakIn_23 : decode cX4_speakIn 23 = .ok (.iconst 2, 1) := by decide +kernel
theorem dX4_speakIn_24 : decode cX4_speakIn 24 = .ok (.isub, 1) := by decide +kernel
theorem dX4_speakIn_25 : decode cX4_speakIn 25 = .ok (.caload, 1) := by decide +kernel
theorem dX4_speakIn_26 : decode cX4_speakIn 26 = .ok (.bipush 35, 2) := by decide +kernel
theorem dX4_speakIn_28 : decode cX4_speakIn 28 = .ok (.if_icmp .ne 7, 3) := by decide +kernel
theorem dX4_speakIn_31 : decode cX4_speakIn 31 = .ok (.iconst 1, 1) := by decide +kernel
theorem dX4_speakIn_32 : decode cX4_speakIn 32 = .ok (.goto 4, 3) := by decide +kernel
theorem dX4_speakIn_35 : decode cX4_speakIn 35 = .ok (.iconst 0, 1) := by decide +kernel
theorem dX4_speakIn_36 : decode cX4_speakIn 36 = .ok (.istore 5, 2) := by decide +kernel
theorem dX4_speakIn_38 : decode cX4_speakIn 38 = .ok (.iload 5, 2) := by decide +kernel
theorem dX4_speakIn_40 : decode cX4_speakIn 40 = .ok (.ifCond .eq 17, 3) := by decide +kernel
theorem dX4_speakIn_43 : decode cX4_speakIn 43 = .ok (.aload_n 0, 1) := by decide +kernel
theorem dX4_speakIn_44 : decode cX4_speakIn 44 = .ok (.getfield 9, 3) := by decide +kernel
theorem dX4_speakIn_47 : decode cX4_speakIn 47 = .ok (.iload_n 3, 1) := by decide +kernel
theorem dX4_speakIn_48 : decode cX4_speakIn 48 = .ok (.iconst 1, 1) := by decide +kernel
theorem dX4_speakIn_49 : decode cX4_speakIn 49 = .ok (.isub, 1) := by decide +kernel
theorem dX4_speakIn_50 : decode cX4_speakIn 50 = .ok (.caload, 1) := by decide +kernel
theorem dX4_speakIn_51 : decode cX4_speakIn 51 = .ok (.bipush 48, 2) := by decide +kernel
theorem dX4_speakIn_53 : decode cX4_speakIn 53 = .ok (.isub, 1) := by decide +kernel
theorem dX4_speakIn_54 : decode cX4_speakIn 54 = .ok (.goto 4, 3) := by decide +kernel
theorem dX4_speakIn_57 : decode cX4_speakIn 57 = .ok (.iconst (-1), 1) := by decide +kernel
theorem dX4_speakIn_58 : decode cX4_speakIn 58 = .ok (.istore 6, 2) := by decide +kernel
theorem dX4_speakIn_60 : decode cX4_speakIn 60 = .ok (.iload 5, 2) := by decide +kernel
theorem dX4_speakIn_62 : decode cX4_speakIn 62 = .ok (.ifCond .eq 9, 3) := by decide +kernel
theorem dX4_speakIn_65 : decode cX4_speakIn 65 = .ok (.iload_n 3, 1) := by decide +kernel
theorem dX4_speakIn_66 : decode cX4_speakIn 66 = .ok (.iconst 2, 1) := by decide +kernel
theorem dX4_speakIn_67 : decode cX4_speakIn 67 = .ok (.isub, 1) := by decide +kernel
theorem dX4_speakIn_68 : decode cX4_speakIn 68 = .ok (.goto 4, 3) := by decide +kernel
theorem dX4_speakIn_71 : decode cX4_speakIn 71 = .ok (.iload_n 3, 1) := by decide +kernel
theorem dX4_speakIn_72 : decode cX4_speakIn 72 = .ok (.istore 7, 2) := by decide +kernel
theorem dX4_speakIn_74 : decode cX4_speakIn 74 = .ok (.iconst 0, 1) := by decide +kernel
theorem dX4_speakIn_75 : decode cX4_speakIn 75 = .ok (.istore 8, 2) := by decide +kernel
theorem dX4_speakIn_77 : decode cX4_speakIn 77 = .ok (.iload_n 2, 1) := by decide +kernel
theorem dX4_speakIn_78 : decode cX4_speakIn 78 = .ok (.iconst 2, 1) := by decide +kernel
theorem dX4_speakIn_79 : decode cX4_speakIn 79 = .ok (.iadd, 1) := by decide +kernel
theorem dX4_speakIn_80 : decode cX4_speakIn 80 = .ok (.istore 9, 2) := by decide +kernel
theorem dX4_speakIn_82 : decode cX4_speakIn 82 = .ok (.iload 9, 2) := by decide +kernel
theorem dX4_speakIn_84 : decode cX4_speakIn 84 = .ok (.iload 7, 2) := by decide +kernel
theorem dX4_speakIn_86 : decode cX4_speakIn 86 = .ok (.if_icmp .gt 72, 3) := by decide +kernel
theorem dX4_speakIn_89 : decode cX4_speakIn 89 = .ok (.iload 9, 2) := by decide +kernel
theorem dX4_speakIn_91 : decode cX4_speakIn 91 = .ok (.iload 7, 2) := by decide +kernel
theorem dX4_speakIn_93 : decode cX4_speakIn 93 = .ok (.if_icmp .ge 36, 3) := by decide +kernel
theorem dX4_speakIn_96 : decode cX4_speakIn 96 = .ok (.aload_n 0, 1) := by decide +kernel
theorem dX4_speakIn_97 : decode cX4_speakIn 97 = .ok (.getfield 9, 3) := by decide +kernel
theorem dX4_speakIn_100 : decode cX4_speakIn 100 = .ok (.iload 9, 2) := by decide +kernel
theorem dX4_speakIn_102 : decode cX4_speakIn 102 = .ok (.caload, 1) := by decide +kernel
theorem dX4_speakIn_103 : decode cX4_speakIn 103 = .ok (.bipush 44, 2) := by decide +kernel
theorem dX4_speakIn_105 : decode cX4_speakIn 105 = .ok (.if_icmp .eq 24, 3) := by decide +kernel
theorem dX4_speakIn_108 : decode cX4_speakIn 108 = .ok (.iload 8, 2) := by decide +kernel
theorem dX4_speakIn_110 : decode cX4_speakIn 110 = .ok (.bipush 10, 2) := by decide +kernel
theorem dX4_speakIn_112 : decode cX4_speakIn 112 = .ok (.imul, 1) := by decide +kernel
theorem dX4_speakIn_113 : decode cX4_speakIn 113 = .ok (.aload_n 0, 1) := by decide +kernel
theorem dX4_speakIn_114 : decode cX4_speakIn 114 = .ok (.getfield 9, 3) := by decide +kernel
theorem dX4_speakIn_117 : decode cX4_speakIn 117 = .ok (.iload 9, 2) := by decide +kernel
theorem dX4_speakIn_119 : decode cX4_speakIn 119 = .ok (.caload, 1) := by decide +kernel
theorem dX4_speakIn_120 : decode cX4_speakIn 120 = .ok (.bipush 48, 2) := by decide +kernel
theorem dX4_speakIn_122 : decode cX4_speakIn 122 = .ok (.isub, 1) := by decide +kernel
theorem dX4_speakIn_123 : decode cX4_speakIn 123 = .ok (.iadd, 1) := by decide +kernel
theorem dX4_speakIn_124 : decode cX4_speakIn 124 = .ok (.istore 8, 2) := by decide +kernel
theorem dX4_speakIn_126 : decode cX4_speakIn 126 = .ok (.goto 26, 3) := by decide +kernel
theorem dX4_speakIn_129 : decode cX4_speakIn 129 = .ok (.aload_n 1, 1) := by decide +kernel
theorem dX4_speakIn_130 : decode cX4_speakIn 130 = .ok (.invokevirtual 61, 3) := by decide +kernel
theorem dX4_speakIn_133 : decode cX4_speakIn 133 = .ok (.ifCond .ne 5, 3) := by decide +kernel
theorem dX4_speakIn_136 : decode cX4_speakIn 136 = .ok (.iconst 0, 1) := by decide +kernel
theorem dX4_speakIn_137 : decode cX4_speakIn 137 = .ok (.ireturn, 1) := by decide +kernel
theorem dX4_speakIn_138 : decode cX4_speakIn 138 = .ok (.aload_n 1, 1) := by decide +kernel
theorem dX4_speakIn_139 : decode cX4_speakIn 139 = .ok (.iload 4, 2) := by decide +kernel
theorem dX4_speakIn_141 : decode cX4_speakIn 141 = .ok (.iload 8, 2) := by decide +kernel
theorem dX4_speakIn_143 : decode cX4_speakIn 143 = .ok (.iload 6, 2) := by decide +kernel
theorem dX4_speakIn_145 : decode cX4_speakIn 145 = .ok (.invokevirtual 65, 3) := by decide +kernel
theorem dX4_speakIn_148 : decode cX4_speakIn 148 = .ok (.pop, 1) := by decide +kernel
theorem dX4_speakIn_149 : decode cX4_speakIn 149 = .ok (.iconst 0, 1) := by decide +kernel
theorem dX4_speakIn_150 : decode cX4_speakIn 150 = .ok (.istore 8, 2) := by decide +kernel
theorem dX4_speakIn_152 : decode cX4_speakIn 152 = .ok (.iinc 9 1, 3) := by decide +kernel
theorem dX4_speakIn_155 : decode cX4_speakIn 155 = .ok (.goto (-73), 3) := by decide +kernel
theorem dX4_speakIn_158 : decode cX4_speakIn 158 = .ok (.iconst 1, 1) := by decide +kernel
theorem dX4_speakIn_159 : decode cX4_speakIn 159 = .ok (.ireturn, 1) := by decide +kernel
theorem dX5_init_0 : decode cX5_init 0 = .ok (.aload_n 0, 1) := by decide +kernel
theorem dX5_init_1 : decode cX5_init 1 = .ok (.invokespecial 1, 3) := by decide +kernel
theorem dX5_init_4 : decode cX5_init 4 = .ok (.new 7, 3) := by decide +kernel
theorem dX5_init_7 : decode cX5_init 7 = .ok (.dup, 1) := by decide +kernel
theorem dX5_init_8 : decode cX5_init 8 = .ok (.invokespecial 9, 3) := by decide +kernel
theorem dX5_init_11 : decode cX5_init 11 = .ok (.astore_n 1, 1) := by decide +kernel
theorem dX5_init_12 : decode cX5_init 12 = .ok (.aload_n 0, 1) := by decide +kernel
theorem dX5_init_13 : decode cX5_init 13 = .ok (.aload_n 1, 1) := by decide +kernel
theorem dX5_init_14 : decode cX5_init 14 = .ok (.putfield 10, 3) := by decide +kernel
theorem dX5_init_17 : decode cX5_init 17 = .ok (.aload_n 0, 1) := by decide +kernel
theorem dX5_init_18 : decode cX5_init 18 = .ok (.new 16, 3) := by decide +kernel
theorem dX5_init_21 : decode cX5_init 21 = .ok (.dup, 1) := by decide +kernel
theorem dX5_init_22 : decode cX5_init 22 = .ok (.aload_n 1, 1) := by decide +kernel
theorem dX5_init_23 : decode cX5_init 23 = .ok (.invokespecial 18, 3) := by decide +kernel
theorem dX5_init_26 : decode cX5_init 26 = .ok (.putfield 21, 3) := by decide +kernel
theorem dX5_init_29 : decode cX5_init 29 = .ok (.aload_n 0, 1) := by decide +kernel
theorem dX5_init_30 : decode cX5_init 30 = .ok (.new 25, 3) := by decide +kernel
theorem dX5_init_33 : decode cX5_init 33 = .ok (.dup, 1) := by decide +kernel
theorem dX5_init_34 : decode cX5_init 34 = .ok (.invokespecial 27, 3) := by decide +kernel
theorem dX5_init_37 : decode cX5_init 37 = .ok (.putfield 28, 3) := by decide +kernel
theorem dX5_init_40 : decode cX5_init 40 = .ok (.aload_n 0, 1) := by decide +kernel
theorem dX5_init_41 : decode cX5_init 41 = .ok (.new 32, 3) := by decide +kernel
theorem dX5_init_44 : decode cX5_init 44 = .ok (.dup, 1) := by decide +kernel
theorem dX5_init_45 : decode cX5_init 45 = .ok (.invokespecial 34, 3) := by decide +kernel
theorem dX5_init_48 : decode cX5_init 48 = .ok (.putfield 35, 3) := by decide +kernel
theorem dX5_init_51 : decode cX5_init 51 = .ok (.return_, 1) := by decide +kernel
theorem dX5_say_0 : decode cX5_say 0 = .ok (.iload_n 1, 1) := by decide +kernel
theorem dX5_say_1 : decode cX5_say 1 = .ok (.invokestatic 39, 3) := by decide +kernel
theorem dX5_say_4 : decode cX5_say 4 = .ok (.iload_n 2, 1) := by decide +kernel
theorem dX5_say_5 : decode cX5_say 5 = .ok (.iconst 1, 1) := by decide +kernel
theorem dX5_say_6 : decode cX5_say 6 = .ok (.bipush 99, 2) := by decide +kernel
theorem dX5_say_8 : decode cX5_say 8 = .ok (.invokestatic 43, 3) := by decide +kernel
theorem dX5_say_11 : decode cX5_say 11 = .ok (.ifCond .eq 17, 3) := by decide +kernel
theorem dX5_say_14 : decode cX5_say 14 = .ok (.iload_n 3, 1) := by decide +kernel
theorem dX5_say_15 : decode cX5_say 15 = .ok (.iconst (-1), 1) := by decide +kernel
theorem dX5_say_16 : decode cX5_say 16 = .ok (.bipush 9, 2) := by decide +kernel
theorem dX5_say_18 : decode cX5_say 18 = .ok (.invokestatic 43, 3) := by decide +kernel
theorem dX5_say_21 : decode cX5_say 21 = .ok (.ifCond .eq 7, 3) := by decide +kernel
theorem dX5_say_24 : decode cX5_say 24 = .ok (.iconst 1, 1) := by decide +kernel
theorem dX5_say_25 : decode cX5_say 25 = .ok (.goto 4, 3) := by decide +kernel
theorem dX5_say_28 : decode cX5_say 28 = .ok (.iconst 0, 1) := by decide +kernel
theorem dX5_say_29 : decode cX5_say 29 = .ok (.invokestatic 47, 3) := by decide +kernel
theorem dX5_say_32 : decode cX5_say 32 = .ok (.aload_n 0, 1) := by decide +kernel
theorem dX5_say_33 : decode cX5_say 33 = .ok (.getfield 10, 3) := by decide +kernel
theorem dX5_say_36 : decode cX5_say 36 = .ok (.invokevirtual 51, 3) := by decide +kernel
theorem dX5_say_39 : decode cX5_say 39 = .ok (.ifCond .ne 13, 3) := by decide +kernel
theorem dX5_say_42 : decode cX5_say 42 = .ok (.new 55, 3) := by decide +kernel
theorem dX5_say_45 : decode cX5_say 45 = .ok (.dup, 1) := by decide +kernel
theorem dX5_say_46 : decode cX5_say 46 = .ok (.ldc 57, 2) := by decide +kernel
theorem dX5_say_48 : decode cX5_say 48 = .ok (.invokespecial 59, 3) := by decide +kernel
theorem dX5_say_51 : decode cX5_say 51 = .ok (.athrow, 1) := by decide +kernel
theorem dX5_say_52 : decode cX5_say 52 = .ok (.aload_n 0, 1) := by decide +kernel
theorem dX5_say_53 : decode cX5_say 53 = .ok (.getfield 28, 3) := by decide +kernel
theorem dX5_say_56 : decode cX5_say 56 = .ok (.aload_n 0, 1) := by decide +kernel
theorem dX5_say_57 : decode cX5_say 57 = .ok (.getfield 10, 3) := by decide +kernel
theorem dX5_say_60 : decode cX5_say 60 = .ok (.invokevirtual 62, 3) := by decide +kernel
theorem dX5_say_63 : decode cX5_say 63 = .ok (.aload_n 0, 1) := by decide +kernel
theorem dX5_say_64 : decode cX5_say 64 = .ok (.getfield 10, 3) := by decide +kernel
theorem dX5_say_67 : decode cX5_say 67 = .ok (.iload_n 1, 1) := by decide +kernel
theorem dX5_say_68 : decode cX5_say 68 = .ok (.iload_n 2, 1) := by decide +kernel
theorem dX5_say_69 : decode cX5_say 69 = .ok (.iload_n 3, 1) := by decide +kernel
theorem dX5_say_70 : decode cX5_say 70 = .ok (.invokevirtual 65, 3) := by decide +kernel
theorem dX5_say_73 : decode cX5_say 73 = .ok (.ireturn, 1) := by decide +kernel
theorem dX5_pass_0 : decode cX5_pass 0 = .ok (.iload_n 1, 1) := by decide +kernel
theorem dX5_pass_1 : decode cX5_pass 1 = .ok (.iconst 1, 1) := by decide +kernel
theorem dX5_pass_2 : decode cX5_pass 2 = .ok (.bipush 50, 2) := by decide +kernel
theorem dX5_pass_4 : decode cX5_pass 4 = .ok (.invokestatic 43, 3) := by decide +kernel
theorem dX5_pass_7 : decode cX5_pass 7 = .ok (.invokestatic 47, 3) := by decide +kernel
theorem dX5_pass_10 : decode cX5_pass 10 = .ok (.aload_n 0, 1) := by decide +kernel
theorem dX5_pass_11 : decode cX5_pass 11 = .ok (.getfield 10, 3) := by decide +kernel
theorem dX5_pass_14 : decode cX5_pass 14 = .ok (.iload_n 1, 1) := by decide +kernel
theorem dX5_pass_15 : decode cX5_pass 15 = .ok (.invokevirtual 69, 3) := by decide +kernel
theorem dX5_pass_18 : decode cX5_pass 18 = .ok (.ifCond .ne 13, 3) := by decide +kernel
theorem dX5_pass_21 : decode cX5_pass 21 = .ok (.new 55, 3) := by decide +kernel
theorem dX5_pass_24 : decode cX5_pass 24 = .ok (.dup, 1) := by decide +kernel
theorem dX5_pass_25 : decode cX5_pass 25 = .ok (.ldc 73, 2) := by decide +kernel
theorem dX5_pass_27 : decode cX5_pass 27 = .ok (.invokespecial 59, 3) := by decide +kernel
theorem dX5_pass_30 : decode cX5_pass 30 = .ok (.athrow, 1) := by decide +kernel
theorem dX5_pass_31 : decode cX5_pass 31 = .ok (.aload_n 0, 1) := by decide +kernel
theorem dX5_pass_32 : decode cX5_pass 32 = .ok (.getfield 28, 3) := by decide +kernel
theorem dX5_pass_35 : decode cX5_pass 35 = .ok (.aload_n 0, 1) := by decide +kernel
theorem dX5_pass_36 : decode cX5_pass 36 = .ok (.getfield 10, 3) := by decide +kernel
theorem dX5_pass_39 : decode cX5_pass 39 = .ok (.invokevirtual 62, 3) := by decide +kernel
theorem dX5_pass_42 : decode cX5_pass 42 = .ok (.aload_n 0, 1) := by decide +kernel
theorem dX5_pass_43 : decode cX5_pass 43 = .ok (.getfield 10, 3) := by decide +kernel
theorem dX5_pass_46 : decode cX5_pass 46 = .ok (.iload_n 1, 1) := by decide +kernel
theorem dX5_pass_47 : decode cX5_pass 47 = .ok (.invokevirtual 75, 3) := by decide +kernel
theorem dX5_pass_50 : decode cX5_pass 50 = .ok (.aload_n 0, 1) := by decide +kernel
theorem dX5_pass_51 : decode cX5_pass 51 = .ok (.getfield 10, 3) := by decide +kernel
theorem dX5_pass_54 : decode cX5_pass 54 = .ok (.getfield 78, 3) := by decide +kernel
theorem dX5_pass_57 : decode cX5_pass 57 = .ok (.ireturn, 1) := by decide +kernel
theorem dX5_wall_0 : decode cX5_wall 0 = .ok (.iload_n 1, 1) := by decide +kernel
theorem dX5_wall_1 : decode cX5_wall 1 = .ok (.invokestatic 39, 3) := by decide +kernel
theorem dX5_wall_4 : decode cX5_wall 4 = .ok (.iload_n 2, 1) := by decide +kernel
theorem dX5_wall_5 : decode cX5_wall 5 = .ok (.iconst 0, 1) := by decide +kernel
theorem dX5_wall_6 : decode cX5_wall 6 = .ok (.iconst 3, 1) := by decide +kernel
theorem dX5_wall_7 : decode cX5_wall 7 = .ok (.invokestatic 43, 3) := by decide +kernel
theorem dX5_wall_10 : decode cX5_wall 10 = .ok (.invokestatic 47, 3) := by decide +kernel
theorem dX5_wall_13 : decode cX5_wall 13 = .ok (.aload_n 0, 1) := by decide +kernel
theorem dX5_wall_14 : decode cX5_wall 14 = .ok (.getfield 28, 3) := by decide +kernel
theorem dX5_wall_17 : decode cX5_wall 17 = .ok (.aload_n 0, 1) := by decide +kernel
theorem dX5_wall_18 : decode cX5_wall 18 = .ok (.getfield 10, 3) := by decide +kernel
theorem dX5_wall_21 : decode cX5_wall 21 = .ok (.invokevirtual 62, 3) := by decide +kernel
theorem dX5_wall_24 : decode cX5_wall 24 = .ok (.aload_n 0, 1) := by decide +kernel
theorem dX5_wall_25 : decode cX5_wall 25 = .ok (.getfield 10, 3) := by decide +kernel
theorem dX5_wall_28 : decode cX5_wall 28 = .ok (.getfield 82, 3) := by decide +kernel
theorem dX5_wall_31 : decode cX5_wall 31 = .ok (.iload_n 1, 1) := by decide +kernel
theorem dX5_wall_32 : decode cX5_wall 32 = .ok (.iaload, 1) := by decide +kernel
theorem dX5_wall_33 : decode cX5_wall 33 = .ok (.istore_n 3, 1) := by decide +kernel
theorem dX5_wall_34 : decode cX5_wall 34 = .ok (.aload_n 0, 1) := by decide +kernel
theorem dX5_wall_35 : decode cX5_wall 35 = .ok (.getfield 10, 3) := by decide +kernel
theorem dX5_wall_38 : decode cX5_wall 38 = .ok (.getfield 82, 3) := by decide +kernel
theorem dX5_wall_41 : decode cX5_wall 41 = .ok (.iload_n 1, 1) := by decide +kernel
theorem dX5_wall_42 : decode cX5_wall 42 = .ok (.iload_n 2, 1) := by decide +kernel
theorem dX5_wall_43 : decode cX5_wall 43 = .ok (.iastore, 1) := by decide +kernel
theorem dX5_wall_44 : decode cX5_wall 44 = .ok (.iload_n 3, 1) := by decide +kernel
theorem dX5_wall_45 : decode cX5_wall 45 = .ok (.ireturn, 1) := by decide +kernel
theorem dX5_set_0 : decode cX5_set 0 = .ok (.iload_n 1, 1) := by decide +kernel
theorem dX5_set_1 : decode cX5_set 1 = .ok (.iconst 0, 1) := by decide +kernel
theorem dX5_set_2 : decode cX5_set 2 = .ok (.iconst 2, 1) := by decide +kernel
theorem dX5_set_3 : decode cX5_set 3 = .ok (.invokestatic 43, 3) := by decide +kernel
theorem dX5_set_6 : decode cX5_set 6 = .ok (.ifCond .ne 13, 3) := by decide +kernel
theorem dX5_set_9 : decode cX5_set 9 = .ok (.new 86, 3) := by decide +kernel
theorem dX5_set_12 : decode cX5_set 12 = .ok (.dup, 1) := by decide +kernel
theorem dX5_set_13 : decode cX5_set 13 = .ok (.ldc 88, 2) := by decide +kernel
theorem dX5_set_15 : decode cX5_set 15 = .ok (.invokespecial 90, 3) := by decide +kernel
theorem dX5_set_18 : decode cX5_set 18 = .ok (.athrow, 1) := by decide +kernel
theorem dX5_set_19 : decode cX5_set 19 = .ok (.iload_n 2, 1) := by decide +kernel
theorem dX5_set_20 : decode cX5_set 20 = .ok (.getstatic 91, 3) := by decide +kernel
theorem dX5_set_23 : decode cX5_set 23 = .ok (.iload_n 1, 1) := by decide +kernel
theorem dX5_set_24 : decode cX5_set 24 = .ok (.iaload, 1) := by decide +kernel
theorem dX5_set_25 : decode cX5_set 25 = .ok (.getstatic 94, 3) := by decide +kernel
theorem dX5_set_28 : decode cX5_set 28 = .ok (.iload_n 1, 1) := by decide +kernel
theorem dX5_set_29 : decode cX5_set 29 = .ok (.iaload, 1) := by decide +kernel
theorem dX5_set_30 : decode cX5_set 30 = .ok (.invokestatic 43, 3) := by decide +kernel
theorem dX5_set_33 : decode cX5_set 33 = .ok (.invokestatic 47, 3) := by decide +kernel
theorem dX5_set_36 : decode cX5_set 36 = .ok (.aload_n 0, 1) := by decide +kernel
theorem dX5_set_37 : decode cX5_set 37 = .ok (.getfield 28, 3) := by decide +kernel
theorem dX5_set_40 : decode cX5_set 40 = .ok (.aload_n 0, 1) := by decide +kernel
theorem dX5_set_41 : decode cX5_set 41 = .ok (.getfield 10, 3) := by decide +kernel
theorem dX5_set_44 : decode cX5_set 44 = .ok (.invokevirtual 62, 3) := by decide +kernel
theorem dX5_set_47 : decode cX5_set 47 = .ok (.aload_n 0, 1) := by decide +kernel
theorem dX5_set_48 : decode cX5_set 48 = .ok (.getfield 10, 3) := by decide +kernel
theorem dX5_set_51 : decode cX5_set 51 = .ok (.getfield 97, 3) := by decide +kernel
theorem dX5_set_54 : decode cX5_set 54 = .ok (.iload_n 1, 1) := by decide +kernel
theorem dX5_set_55 : decode cX5_set 55 = .ok (.iaload, 1) := by decide +kernel
theorem dX5_set_56 : decode cX5_set 56 = .ok (.istore_n 3, 1) := by decide +kernel
theorem dX5_set_57 : decode cX5_set 57 = .ok (.aload_n 0, 1) := by decide +kernel
theorem dX5_set_58 : decode cX5_set 58 = .ok (.getfield 10, 3) := by decide +kernel
theorem dX5_set_61 : decode cX5_set 61 = .ok (.getfield 97, 3) := by decide +kernel
theorem dX5_set_64 : decode cX5_set 64 = .ok (.iload_n 1, 1) := by decide +kernel
theorem dX5_set_65 : decode cX5_set 65 = .ok (.iload_n 2, 1) := by decide +kernel
theorem dX5_set_66 : decode cX5_set 66 = .ok (.iastore, 1) := by decide +kernel
theorem dX5_set_67 : decode cX5_set 67 = .ok (.iload_n 3, 1) := by decide +kernel
theorem dX5_set_68 : decode cX5_set 68 = .ok (.ireturn, 1) := by decide +kernel
theorem dX5_append_0 : decode cX5_append 0 = .ok (.iload_n 1, 1) := by decide +kernel
theorem dX5_append_1 : decode cX5_append 1 = .ok (.bipush 33, 2) := by decide +kernel
theorem dX5_append_3 : decode cX5_append 3 = .ok (.bipush 126, 2) := by decide +kernel
theorem dX5_append_5 : decode cX5_append 5 = .ok (.invokestatic 43, 3) := by decide +kernel
theorem dX5_append_8 : decode cX5_append 8 = .ok (.invokestatic 47, 3) := by decide +kernel
theorem dX5_append_11 : decode cX5_append 11 = .ok (.aload_n 0, 1) := by decide +kernel
theorem dX5_append_12 : decode cX5_append 12 = .ok (.getfield 35, 3) := by decide +kernel
theorem dX5_append_15 : decode cX5_append 15 = .ok (.getfield 100, 3) := by decide +kernel
theorem dX5_append_18 : decode cX5_append 18 = .ok (.bipush 60, 2) := by decide +kernel
theorem dX5_append_20 : decode cX5_append 20 = .ok (.if_icmp .lt 13, 3) := by decide +kernel
theorem dX5_append_23 : decode cX5_append 23 = .ok (.new 55, 3) := by decide +kernel
theorem dX5_append_26 : decode cX5_append 26 = .ok (.dup, 1) := by decide +kernel
theorem dX5_append_27 : decode cX5_append 27 = .ok (.ldc 103, 2) := by decide +kernel
theorem dX5_append_29 : decode cX5_append 29 = .ok (.invokespecial 59, 3) := by decide +kernel
theorem dX5_append_32 : decode cX5_append 32 = .ok (.athrow, 1) := by decide +kernel
theorem dX5_append_33 : decode cX5_append 33 = .ok (.aload_n 0, 1) := by decide +kernel
theorem dX5_append_34 : decode cX5_append 34 = .ok (.getfield 35, 3) := by decide +kernel
theorem dX5_append_37 : decode cX5_append 37 = .ok (.iload_n 1, 1) := by decide +kernel
theorem dX5_append_38 : decode cX5_append 38 = .ok (.i2c, 1) := by decide +kernel
theorem dX5_append_39 : decode cX5_append 39 = .ok (.invokevirtual 105, 3) := by decide +kernel
theorem dX5_append_42 : decode cX5_append 42 = .ok (.aload_n 0, 1) := by decide +kernel
theorem dX5_append_43 : decode cX5_append 43 = .ok (.getfield 35, 3) := by decide +kernel
theorem dX5_append_46 : decode cX5_append 46 = .ok (.getfield 100, 3) := by decide +kernel
theorem dX5_append_49 : decode cX5_append 49 = .ok (.ireturn, 1) := by decide +kernel
theorem dX5_clearBuffer_0 : decode cX5_clearBuffer 0 = .ok (.aload_n 0, 1) := by decide +kernel
theorem dX5_clearBuffer_1 : decode cX5_clearBuffer 1 = .ok (.getfield 35, 3) := by decide +kernel
theorem dX5_clearBuffer_4 : decode cX5_clearBuffer 4 = .ok (.getfield 100, 3) := by decide +kernel
theorem dX5_clearBuffer_7 : decode cX5_clearBuffer 7 = .ok (.istore_n 1, 1) := by decide +kernel
theorem dX5_clearBuffer_8 : decode cX5_clearBuffer 8 = .ok (.aload_n 0, 1) := by decide +kernel
theorem dX5_clearBuffer_9 : decode cX5_clearBuffer 9 = .ok (.getfield 35, 3) := by decide +kernel
theorem dX5_clearBuffer_12 : decode cX5_clearBuffer 12 = .ok (.iconst 0, 1) := by decide +kernel
theorem dX5_clearBuffer_13 : decode cX5_clearBuffer 13 = .ok (.putfield 100, 3) := by decide +kernel
theorem dX5_clearBuffer_16 : decode cX5_clearBuffer 16 = .ok (.iload_n 1, 1) := by decide +kernel
theorem dX5_clearBuffer_17 : decode cX5_clearBuffer 17 = .ok (.ireturn, 1) := by decide +kernel
theorem dX5_firstError_0 : decode cX5_firstError 0 = .ok (.aload_n 0, 1) := by decide +kernel
theorem dX5_firstError_1 : decode cX5_firstError 1 = .ok (.getfield 35, 3) := by decide +kernel
theorem dX5_firstError_4 : decode cX5_firstError 4 = .ok (.invokevirtual 109, 3) := by decide +kernel
theorem dX5_firstError_7 : decode cX5_firstError 7 = .ok (.ireturn, 1) := by decide +kernel
theorem dX5_talk_0 : decode cX5_talk 0 = .ok (.aload_n 0, 1) := by decide +kernel
theorem dX5_talk_1 : decode cX5_talk 1 = .ok (.getfield 35, 3) := by decide +kernel
theorem dX5_talk_4 : decode cX5_talk 4 = .ok (.invokevirtual 113, 3) := by decide +kernel
theorem dX5_talk_7 : decode cX5_talk 7 = .ok (.invokestatic 47, 3) := by decide +kernel
theorem dX5_talk_10 : decode cX5_talk 10 = .ok (.aload_n 0, 1) := by decide +kernel
theorem dX5_talk_11 : decode cX5_talk 11 = .ok (.getfield 28, 3) := by decide +kernel
theorem dX5_talk_14 : decode cX5_talk 14 = .ok (.aload_n 0, 1) := by decide +kernel
theorem dX5_talk_15 : decode cX5_talk 15 = .ok (.getfield 10, 3) := by decide +kernel
theorem dX5_talk_18 : decode cX5_talk 18 = .ok (.invokevirtual 62, 3) := by decide +kernel
theorem dX5_talk_21 : decode cX5_talk 21 = .ok (.aload_n 0, 1) := by decide +kernel
theorem dX5_talk_22 : decode cX5_talk 22 = .ok (.getfield 10, 3) := by decide +kernel
theorem dX5_talk_25 : decode cX5_talk 25 = .ok (.getfield 116, 3) := by decide +kernel
theorem dX5_talk_28 : decode cX5_talk 28 = .ok (.istore_n 1, 1) := by decide +kernel
theorem dX5_talk_29 : decode cX5_talk 29 = .ok (.aload_n 0, 1) := by decide +kernel
theorem dX5_talk_30 : decode cX5_talk 30 = .ok (.getfield 35, 3) := by decide +kernel
theorem dX5_talk_33 : decode cX5_talk 33 = .ok (.aload_n 0, 1) := by decide +kernel
theorem dX5_talk_34 : decode cX5_talk 34 = .ok (.getfield 10, 3) := by decide +kernel
theorem dX5_talk_37 : decode cX5_talk 37 = .ok (.invokevirtual 119, 3) := by decide +kernel
theorem dX5_talk_40 : decode cX5_talk 40 = .ok (.aload_n 0, 1) := by decide +kernel
theorem dX5_talk_41 : decode cX5_talk 41 = .ok (.getfield 35, 3) := by decide +kernel
theorem dX5_talk_44 : decode cX5_talk 44 = .ok (.iconst 0, 1) := by decide +kernel
theorem dX5_talk_45 : decode cX5_talk 45 = .ok (.putfield 100, 3) := by decide +kernel
theorem dX5_talk_48 : decode cX5_talk 48 = .ok (.aload_n 0, 1) := by decide +kernel
theorem dX5_talk_49 : decode cX5_talk 49 = .ok (.getfield 10, 3) := by decide +kernel
theorem dX5_talk_52 : decode cX5_talk 52 = .ok (.getfield 116, 3) := by decide +kernel
theorem dX5_talk_55 : decode cX5_talk 55 = .ok (.iload_n 1, 1) := by decide +kernel
theorem dX5_talk_56 : decode cX5_talk 56 = .ok (.isub, 1) := by decide +kernel
theorem dX5_talk_57 : decode cX5_talk 57 = .ok (.ireturn, 1) := by decide +kernel
theorem dX5_undo_0 : decode cX5_undo 0 = .ok (.aload_n 0, 1) := by decide +kernel
theorem dX5_undo_1 : decode cX5_undo 1 = .ok (.getfield 28, 3) := by decide +kernel
theorem dX5_undo_4 : decode cX5_undo 4 = .ok (.invokevirtual 122, 3) := by decide +kernel
theorem dX5_undo_7 : decode cX5_undo 7 = .ok (.astore_n 1, 1) := by decide +kernel
theorem dX5_undo_8 : decode cX5_undo 8 = .ok (.aload_n 1, 1) := by decide +kernel
theorem dX5_undo_9 : decode cX5_undo 9 = .ok (.ifnonnull 13, 3) := by decide +kernel
theorem dX5_undo_12 : decode cX5_undo 12 = .ok (.new 55, 3) := by decide +kernel
theorem dX5_undo_15 : decode cX5_undo 15 = .ok (.dup, 1) := by decide +kernel
theorem dX5_undo_16 : decode cX5_undo 16 = .ok (.ldc 126, 2) := by decide +kernel
theorem dX5_undo_18 : decode cX5_undo 18 = .ok (.invokespecial 59, 3) := by decide +kernel
theorem dX5_undo_21 : decode cX5_undo 21 = .ok (.athrow, 1) := by decide +kernel
theorem dX5_undo_22 : decode cX5_undo 22 = .ok (.aload_n 0, 1) := by decide +kernel
theorem dX5_undo_23 : decode cX5_undo 23 = .ok (.getfield 10, 3) := by decide +kernel
theorem dX5_undo_26 : decode cX5_undo 26 = .ok (.aload_n 1, 1) := by decide +kernel
theorem dX5_undo_27 : decode cX5_undo 27 = .ok (.invokevirtual 128, 3) := by decide +kernel
theorem dX5_undo_30 : decode cX5_undo 30 = .ok (.aload_n 0, 1) := by decide +kernel
theorem dX5_undo_31 : decode cX5_undo 31 = .ok (.getfield 28, 3) := by decide +kernel
theorem dX5_undo_34 : decode cX5_undo 34 = .ok (.invokevirtual 131, 3) := by decide +kernel
theorem dX5_undo_37 : decode cX5_undo 37 = .ok (.aload_n 0, 1) := by decide +kernel
theorem dX5_undo_38 : decode cX5_undo 38 = .ok (.getfield 28, 3) := by decide +kernel
theorem dX5_undo_41 : decode cX5_undo 41 = .ok (.getfield 134, 3) := by decide +kernel
theorem dX5_undo_44 : decode cX5_undo 44 = .ok (.ireturn, 1) := by decide +kernel
theorem dX5_keep_0 : decode cX5_keep 0 = .ok (.aload_n 0, 1) := by decide +kernel
theorem dX5_keep_1 : decode cX5_keep 1 = .ok (.getfield 137, 3) := by decide +kernel
theorem dX5_keep_4 : decode cX5_keep 4 = .ok (.ifnonnull 14, 3) := by decide +kernel
theorem dX5_keep_7 : decode cX5_keep 7 = .ok (.aload_n 0, 1) := by decide +kernel
theorem dX5_keep_8 : decode cX5_keep 8 = .ok (.new 7, 3) := by decide +kernel
theorem dX5_keep_11 : decode cX5_keep 11 = .ok (.dup, 1) := by decide +kernel
theorem dX5_keep_12 : decode cX5_keep 12 = .ok (.invokespecial 9, 3) := by decide +kernel
theorem dX5_keep_15 : decode cX5_keep 15 = .ok (.putfield 137, 3) := by decide +kernel
theorem dX5_keep_18 : decode cX5_keep 18 = .ok (.aload_n 0, 1) := by decide +kernel
theorem dX5_keep_19 : decode cX5_keep 19 = .ok (.getfield 137, 3) := by decide +kernel
theorem dX5_keep_22 : decode cX5_keep 22 = .ok (.aload_n 0, 1) := by decide +kernel
theorem dX5_keep_23 : decode cX5_keep 23 = .ok (.getfield 10, 3) := by decide +kernel
theorem dX5_keep_26 : decode cX5_keep 26 = .ok (.invokevirtual 128, 3) := by decide +kernel
theorem dX5_keep_29 : decode cX5_keep 29 = .ok (.aload_n 0, 1) := by decide +kernel
theorem dX5_keep_30 : decode cX5_keep 30 = .ok (.getfield 10, 3) := by decide +kernel
theorem dX5_keep_33 : decode cX5_keep 33 = .ok (.getfield 78, 3) := by decide +kernel
theorem dX5_keep_36 : decode cX5_keep 36 = .ok (.ireturn, 1) := by decide +kernel
theorem dX5_restore_0 : decode cX5_restore 0 = .ok (.aload_n 0, 1) := by decide +kernel
theorem dX5_restore_1 : decode cX5_restore 1 = .ok (.getfield 137, 3) := by decide +kernel
theorem dX5_restore_4 : decode cX5_restore 4 = .ok (.ifnonnull 13, 3) := by decide +kernel
theorem dX5_restore_7 : decode cX5_restore 7 = .ok (.new 55, 3) := by decide +kernel
theorem dX5_restore_10 : decode cX5_restore 10 = .ok (.dup, 1) := by decide +kernel
theorem dX5_restore_11 : decode cX5_restore 11 = .ok (.ldc 140, 2) := by decide +kernel
theorem dX5_restore_13 : decode cX5_restore 13 = .ok (.invokespecial 59, 3) := by decide +kernel
theorem dX5_restore_16 : decode cX5_restore 16 = .ok (.athrow, 1) := by decide +kernel
theorem dX5_restore_17 : decode cX5_restore 17 = .ok (.aload_n 0, 1) := by decide +kernel
theorem dX5_restore_18 : decode cX5_restore 18 = .ok (.getfield 28, 3) := by decide +kernel
theorem dX5_restore_21 : decode cX5_restore 21 = .ok (.aload_n 0, 1) := by decide +kernel
theorem dX5_restore_22 : decode cX5_restore 22 = .ok (.getfield 10, 3) := by decide +kernel
theorem dX5_restore_25 : decode cX5_restore 25 = .ok (.invokevirtual 62, 3) := by decide +kernel
theorem dX5_restore_28 : decode cX5_restore 28 = .ok (.aload_n 0, 1) := by decide +kernel
theorem dX5_restore_29 : decode cX5_restore 29 = .ok (.getfield 10, 3) := by decide +kernel
theorem dX5_restore_32 : decode cX5_restore 32 = .ok (.aload_n 0, 1) := by decide +kernel
theorem dX5_restore_33 : decode cX5_restore 33 = .ok (.getfield 137, 3) := by decide +kernel
theorem dX5_restore_36 : decode cX5_restore 36 = .ok (.invokevirtual 128, 3) := by decide +kernel
theorem dX5_restore_39 : decode cX5_restore 39 = .ok (.aload_n 0, 1) := by decide +kernel
theorem dX5_restore_40 : decode cX5_restore 40 = .ok (.getfield 10, 3) := by decide +kernel
theorem dX5_restore_43 : decode cX5_restore 43 = .ok (.getfield 78, 3) := by decide +kernel
theorem dX5_restore_46 : decode cX5_restore 46 = .ok (.ireturn, 1) := by decide +kernel
theorem dX5_said_0 : decode cX5_said 0 = .ok (.iload_n 1, 1) := by decide +kernel
theorem dX5_said_1 : decode cX5_said 1 = .ok (.ifCond .lt 16, 3) := by decide +kernel
theorem dX5_said_4 : decode cX5_said 4 = .ok (.iload_n 2, 1) := by decide +kernel
theorem dX5_said_5 : decode cX5_said 5 = .ok (.iconst 0, 1) := by decide +kernel
theorem dX5_said_6 : decode cX5_said 6 = .ok (.iconst 5, 1) := by decide +kernel
theorem dX5_said_7 : decode cX5_said 7 = .ok (.invokestatic 43, 3) := by decide +kernel
theorem dX5_said_10 : decode cX5_said 10 = .ok (.ifCond .eq 7, 3) := by decide +kernel
theorem dX5_said_13 : decode cX5_said 13 = .ok (.iconst 1, 1) := by decide +kernel
theorem dX5_said_14 : decode cX5_said 14 = .ok (.goto 4, 3) := by decide +kernel
theorem dX5_said_17 : decode cX5_said 17 = .ok (.iconst 0, 1) := by decide +kernel
theorem dX5_said_18 : decode cX5_said 18 = .ok (.invokestatic 47, 3) := by decide +kernel
theorem dX5_said_21 : decode cX5_said 21 = .ok (.iload_n 1, 1) := by decide +kernel
theorem dX5_said_22 : decode cX5_said 22 = .ok (.aload_n 0, 1) := by decide +kernel
theorem dX5_said_23 : decode cX5_said 23 = .ok (.getfield 10, 3) := by decide +kernel
theorem dX5_said_26 : decode cX5_said 26 = .ok (.getfield 116, 3) := by decide +kernel
theorem dX5_said_29 : decode cX5_said 29 = .ok (.if_icmp .ge 15, 3) := by decide +kernel
theorem dX5_said_32 : decode cX5_said 32 = .ok (.aload_n 0, 1) := by decide +kernel
theorem dX5_said_33 : decode cX5_said 33 = .ok (.getfield 21, 3) := by decide +kernel
theorem dX5_said_36 : decode cX5_said 36 = .ok (.iload_n 1, 1) := by decide +kernel
theorem dX5_said_37 : decode cX5_said 37 = .ok (.iload_n 2, 1) := by decide +kernel
theorem dX5_said_38 : decode cX5_said 38 = .ok (.invokevirtual 142, 3) := by decide +kernel
theorem dX5_said_41 : decode cX5_said 41 = .ok (.goto 4, 3) := by decide +kernel
theorem dX5_said_44 : decode cX5_said 44 = .ok (.iconst (-1), 1) := by decide +kernel
theorem dX5_said_45 : decode cX5_said 45 = .ok (.ireturn, 1) := by decide +kernel
theorem dX5_comes_0 : decode cX5_comes 0 = .ok (.iload_n 2, 1) := by decide +kernel
theorem dX5_comes_1 : decode cX5_comes 1 = .ok (.invokestatic 39, 3) := by decide +kernel
theorem dX5_comes_4 : decode cX5_comes 4 = .ok (.iload_n 1, 1) := by decide +kernel
theorem dX5_comes_5 : decode cX5_comes 5 = .ok (.ifCond .lt 7, 3) := by decide +kernel
theorem dX5_comes_8 : decode cX5_comes 8 = .ok (.iconst 1, 1) := by decide +kernel
theorem dX5_comes_9 : decode cX5_comes 9 = .ok (.goto 4, 3) := by decide +kernel
theorem dX5_comes_12 : decode cX5_comes 12 = .ok (.iconst 0, 1) := by decide +kernel
theorem dX5_comes_13 : decode cX5_comes 13 = .ok (.invokestatic 47, 3) := by decide +kernel
theorem dX5_comes_16 : decode cX5_comes 16 = .ok (.iload_n 1, 1) := by decide +kernel
theorem dX5_comes_17 : decode cX5_comes 17 = .ok (.aload_n 0, 1) := by decide +kernel
theorem dX5_comes_18 : decode cX5_comes 18 = .ok (.getfield 10, 3) := by decide +kernel
theorem dX5_comes_21 : decode cX5_comes 21 = .ok (.getfield 116, 3) := by decide +kernel
theorem dX5_comes_24 : decode cX5_comes 24 = .ok (.if_icmp .ge 17, 3) := by decide +kernel
theorem dX5_comes_27 : decode cX5_comes 27 = .ok (.aload_n 0, 1) := by decide +kernel
theorem dX5_comes_28 : decode cX5_comes 28 = .ok (.getfield 10, 3) := by decide +kernel
theorem dX5_comes_31 : decode cX5_comes 31 = .ok (.getfield 146, 3) := by decide +kernel
theorem dX5_comes_34 : decode cX5_comes 34 = .ok (.iload_n 2, 1) := by decide +kernel
theorem dX5_comes_35 : decode cX5_comes 35 = .ok (.aaload, 1) := by decide +kernel
theorem dX5_comes_36 : decode cX5_comes 36 = .ok (.iload_n 1, 1) := by decide +kernel
theorem dX5_comes_37 : decode cX5_comes 37 = .ok (.iaload, 1) := by decide +kernel
theorem dX5_comes_38 : decode cX5_comes 38 = .ok (.goto 4, 3) := by decide +kernel
theorem dX5_comes_41 : decode cX5_comes 41 = .ok (.iconst (-1), 1) := by decide +kernel
theorem dX5_comes_42 : decode cX5_comes 42 = .ok (.ireturn, 1) := by decide +kernel
theorem dX5_heard_0 : decode cX5_heard 0 = .ok (.iload_n 1, 1) := by decide +kernel
theorem dX5_heard_1 : decode cX5_heard 1 = .ok (.invokestatic 39, 3) := by decide +kernel
theorem dX5_heard_4 : decode cX5_heard 4 = .ok (.iload_n 2, 1) := by decide +kernel
theorem dX5_heard_5 : decode cX5_heard 5 = .ok (.ifCond .lt 16, 3) := by decide +kernel
theorem dX5_heard_8 : decode cX5_heard 8 = .ok (.iload_n 3, 1) := by decide +kernel
theorem dX5_heard_9 : decode cX5_heard 9 = .ok (.iconst 0, 1) := by decide +kernel
theorem dX5_heard_10 : decode cX5_heard 10 = .ok (.iconst 2, 1) := by decide +kernel
theorem dX5_heard_11 : decode cX5_heard 11 = .ok (.invokestatic 43, 3) := by decide +kernel
theorem dX5_heard_14 : decode cX5_heard 14 = .ok (.ifCond .eq 7, 3) := by decide +kernel
theorem dX5_heard_17 : decode cX5_heard 17 = .ok (.iconst 1, 1) := by decide +kernel
theorem dX5_heard_18 : decode cX5_heard 18 = .ok (.goto 4, 3) := by decide +kernel
theorem dX5_heard_21 : decode cX5_heard 21 = .ok (.iconst 0, 1) := by decide +kernel
theorem dX5_heard_22 : decode cX5_heard 22 = .ok (.invokestatic 47, 3) := by decide +kernel
theorem dX5_heard_25 : decode cX5_heard 25 = .ok (.iload_n 2, 1) := by decide +kernel
theorem dX5_heard_26 : decode cX5_heard 26 = .ok (.aload_n 0, 1) := by decide +kernel
theorem dX5_heard_27 : decode cX5_heard 27 = .ok (.getfield 10, 3) := by decide +kernel
theorem dX5_heard_30 : decode cX5_heard 30 = .ok (.getfield 78, 3) := by decide +kernel
theorem dX5_heard_33 : decode cX5_heard 33 = .ok (.if_icmp .ge 16, 3) := by decide +kernel
theorem dX5_heard_36 : decode cX5_heard 36 = .ok (.aload_n 0, 1) := by decide +kernel
theorem dX5_heard_37 : decode cX5_heard 37 = .ok (.getfield 21, 3) := by decide +kernel
theorem dX5_heard_40 : decode cX5_heard 40 = .ok (.iload_n 1, 1) := by decide +kernel
theorem dX5_heard_41 : decode cX5_heard 41 = .ok (.iload_n 2, 1) := by decide +kernel
theorem dX5_heard_42 : decode cX5_heard 42 = .ok (.iload_n 3, 1) := by decide +kernel
theorem dX5_heard_43 : decode cX5_heard 43 = .ok (.invokevirtual 150, 3) := by decide +kernel
theorem dX5_heard_46 : decode cX5_heard 46 = .ok (.goto 4, 3) := by decide +kernel
theorem dX5_heard_49 : decode cX5_heard 49 = .ok (.iconst (-1), 1) := by decide +kernel
theorem dX5_heard_50 : decode cX5_heard 50 = .ok (.ireturn, 1) := by decide +kernel
theorem dX5_speaker_0 : decode cX5_speaker 0 = .ok (.iload_n 1, 1) := by decide +kernel
theorem dX5_speaker_1 : decode cX5_speaker 1 = .ok (.invokestatic 39, 3) := by decide +kernel
theorem dX5_speaker_4 : decode cX5_speaker 4 = .ok (.iload_n 2, 1) := by decide +kernel
theorem dX5_speaker_5 : decode cX5_speaker 5 = .ok (.iconst 0, 1) := by decide +kernel
theorem dX5_speaker_6 : decode cX5_speaker 6 = .ok (.bipush 7, 2) := by decide +kernel
theorem dX5_speaker_8 : decode cX5_speaker 8 = .ok (.invokestatic 43, 3) := by decide +kernel
theorem dX5_speaker_11 : decode cX5_speaker 11 = .ok (.invokestatic 47, 3) := by decide +kernel
theorem dX5_speaker_14 : decode cX5_speaker 14 = .ok (.aload_n 0, 1) := by decide +kernel
theorem dX5_speaker_15 : decode cX5_speaker 15 = .ok (.getfield 21, 3) := by decide +kernel
theorem dX5_speaker_18 : decode cX5_speaker 18 = .ok (.iload_n 1, 1) := by decide +kernel
theorem dX5_speaker_19 : decode cX5_speaker 19 = .ok (.iload_n 2, 1) := by decide +kernel
theorem dX5_speaker_20 : decode cX5_speaker 20 = .ok (.invokevirtual 153, 3) := by decide +kernel
theorem dX5_speaker_23 : decode cX5_speaker 23 = .ok (.ireturn, 1) := by decide +kernel
theorem dX5_message_0 : decode cX5_message 0 = .ok (.iload_n 1, 1) := by decide +kernel
theorem dX5_message_1 : decode cX5_message 1 = .ok (.invokestatic 39, 3) := by decide +kernel
theorem dX5_message_4 : decode cX5_message 4 = .ok (.iload_n 3, 1) := by decide +kernel
theorem dX5_message_5 : decode cX5_message 5 = .ok (.invokestatic 39, 3) := by decide +kernel
theorem dX5_message_8 : decode cX5_message 8 = .ok (.iload_n 2, 1) := by decide +kernel
theorem dX5_message_9 : decode cX5_message 9 = .ok (.iconst 0, 1) := by decide +kernel
theorem dX5_message_10 : decode cX5_message 10 = .ok (.bipush 9, 2) := by decide +kernel
theorem dX5_message_12 : decode cX5_message 12 = .ok (.invokestatic 43, 3) := by decide +kernel
theorem dX5_message_15 : decode cX5_message 15 = .ok (.invokestatic 47, 3) := by decide +kernel
theorem dX5_message_18 : decode cX5_message 18 = .ok (.aload_n 0, 1) := by decide +kernel
theorem dX5_message_19 : decode cX5_message 19 = .ok (.getfield 21, 3) := by decide +kernel
theorem dX5_message_22 : decode cX5_message 22 = .ok (.iload_n 1, 1) := by decide +kernel
theorem dX5_message_23 : decode cX5_message 23 = .ok (.iload_n 2, 1) := by decide +kernel
theorem dX5_message_24 : decode cX5_message 24 = .ok (.iload_n 3, 1) := by decide +kernel
theorem dX5_message_25 : decode cX5_message 25 = .ok (.invokevirtual 156, 3) := by decide +kernel
theorem dX5_message_28 : decode cX5_message 28 = .ok (.ireturn, 1) := by decide +kernel
theorem dX5_count_0 : decode cX5_count 0 = .ok (.iload_n 1, 1) := by decide +kernel
theorem dX5_count_1 : decode cX5_count 1 = .ok (.iconst 0, 1) := by decide +kernel
theorem dX5_count_2 : decode cX5_count 2 = .ok (.bipush 9, 2) := by decide +kernel
theorem dX5_count_4 : decode cX5_count 4 = .ok (.invokestatic 43, 3) := by decide +kernel
theorem dX5_count_7 : decode cX5_count 7 = .ok (.invokestatic 47, 3) := by decide +kernel
theorem dX5_count_10 : decode cX5_count 10 = .ok (.aload_n 0, 1) := by decide +kernel
theorem dX5_count_11 : decode cX5_count 11 = .ok (.iload_n 1, 1) := by decide +kernel
theorem dX5_count_12 : decode cX5_count 12 = .ok (.invokevirtual 159, 3) := by decide +kernel
theorem dX5_count_15 : decode cX5_count 15 = .ok (.ireturn, 1) := by decide +kernel
theorem dX5_whyNot_0 : decode cX5_whyNot 0 = .ok (.iload_n 2, 1) := by decide +kernel
theorem dX5_whyNot_1 : decode cX5_whyNot 1 = .ok (.invokestatic 39, 3) := by decide +kernel
theorem dX5_whyNot_4 : decode cX5_whyNot 4 = .ok (.iload_n 1, 1) := by decide +kernel
theorem dX5_whyNot_5 : decode cX5_whyNot 5 = .ok (.ifCond .lt 7, 3) := by decide +kernel
theorem dX5_whyNot_8 : decode cX5_whyNot 8 = .ok (.iconst 1, 1) := by decide +kernel
theorem dX5_whyNot_9 : decode cX5_whyNot 9 = .ok (.goto 4, 3) := by decide +kernel
theorem dX5_whyNot_12 : decode cX5_whyNot 12 = .ok (.iconst 0, 1) := by decide +kernel
theorem dX5_whyNot_13 : decode cX5_whyNot 13 = .ok (.invokestatic 47, 3) := by decide +kernel
theorem dX5_whyNot_16 : decode cX5_whyNot 16 = .ok (.iload_n 1, 1) := by decide +kernel
theorem dX5_whyNot_17 : decode cX5_whyNot 17 = .ok (.aload_n 0, 1) := by decide +kernel
theorem dX5_whyNot_18 : decode cX5_whyNot 18 = .ok (.getfield 10, 3) := by decide +kernel
theorem dX5_whyNot_21 : decode cX5_whyNot 21 = .ok (.getfield 116, 3) := by decide +kernel
theorem dX5_whyNot_24 : decode cX5_whyNot 24 = .ok (.if_icmp .ge 15, 3) := by decide +kernel
theorem dX5_whyNot_27 : decode cX5_whyNot 27 = .ok (.aload_n 0, 1) := by decide +kernel
theorem dX5_whyNot_28 : decode cX5_whyNot 28 = .ok (.getfield 21, 3) := by decide +kernel
theorem dX5_whyNot_31 : decode cX5_whyNot 31 = .ok (.iload_n 1, 1) := by decide +kernel
theorem dX5_whyNot_32 : decode cX5_whyNot 32 = .ok (.iload_n 2, 1) := by decide +kernel
theorem dX5_whyNot_33 : decode cX5_whyNot 33 = .ok (.invokevirtual 163, 3) := by decide +kernel
theorem dX5_whyNot_36 : decode cX5_whyNot 36 = .ok (.goto 4, 3) := by decide +kernel
theorem dX5_whyNot_39 : decode cX5_whyNot 39 = .ok (.iconst (-1), 1) := by decide +kernel
theorem dX5_whyNot_40 : decode cX5_whyNot 40 = .ok (.ireturn, 1) := by decide +kernel
theorem dX5_ifSilent_0 : decode cX5_ifSilent 0 = .ok (.iload_n 1, 1) := by decide +kernel
theorem dX5_ifSilent_1 : decode cX5_ifSilent 1 = .ok (.invokestatic 39, 3) := by decide +kernel
theorem dX5_ifSilent_4 : decode cX5_ifSilent 4 = .ok (.aload_n 0, 1) := by decide +kernel
theorem dX5_ifSilent_5 : decode cX5_ifSilent 5 = .ok (.getfield 10, 3) := by decide +kernel
theorem dX5_ifSilent_8 : decode cX5_ifSilent 8 = .ok (.iload_n 1, 1) := by decide +kernel
theorem dX5_ifSilent_9 : decode cX5_ifSilent 9 = .ok (.aload_n 0, 1) := by decide +kernel
theorem dX5_ifSilent_10 : decode cX5_ifSilent 10 = .ok (.getfield 10, 3) := by decide +kernel
theorem dX5_ifSilent_13 : decode cX5_ifSilent 13 = .ok (.getfield 78, 3) := by decide +kernel
theorem dX5_ifSilent_16 : decode cX5_ifSilent 16 = .ok (.invokevirtual 166, 3) := by decide +kernel
theorem dX5_ifSilent_19 : decode cX5_ifSilent 19 = .ok (.ireturn, 1) := by decide +kernel
theorem dX5_heardIn_0 : decode cX5_heardIn 0 = .ok (.iload_n 2, 1) := by decide +kernel
theorem dX5_heardIn_1 : decode cX5_heardIn 1 = .ok (.invokestatic 39, 3) := by decide +kernel
theorem dX5_heardIn_4 : decode cX5_heardIn 4 = .ok (.iload_n 1, 1) := by decide +kernel
theorem dX5_heardIn_5 : decode cX5_heardIn 5 = .ok (.ifCond .lt 7, 3) := by decide +kernel
theorem dX5_heardIn_8 : decode cX5_heardIn 8 = .ok (.iconst 1, 1) := by decide +kernel
theorem dX5_heardIn_9 : decode cX5_heardIn 9 = .ok (.goto 4, 3) := by decide +kernel
theorem dX5_heardIn_12 : decode cX5_heardIn 12 = .ok (.iconst 0, 1) := by decide +kernel
theorem dX5_heardIn_13 : decode cX5_heardIn 13 = .ok (.invokestatic 47, 3) := by decide +kernel
theorem dX5_heardIn_16 : decode cX5_heardIn 16 = .ok (.iload_n 1, 1) := by decide +kernel
theorem dX5_heardIn_17 : decode cX5_heardIn 17 = .ok (.aload_n 0, 1) := by decide +kernel
theorem dX5_heardIn_18 : decode cX5_heardIn 18 = .ok (.getfield 10, 3) := by decide +kernel
theorem dX5_heardIn_21 : decode cX5_heardIn 21 = .ok (.getfield 116, 3) := by decide +kernel
theorem dX5_heardIn_24 : decode cX5_heardIn 24 = .ok (.if_icmp .ge 15, 3) := by decide +kernel
theorem dX5_heardIn_27 : decode cX5_heardIn 27 = .ok (.aload_n 0, 1) := by decide +kernel
theorem dX5_heardIn_28 : decode cX5_heardIn 28 = .ok (.getfield 21, 3) := by decide +kernel
theorem dX5_heardIn_31 : decode cX5_heardIn 31 = .ok (.iload_n 1, 1) := by decide +kernel
theorem dX5_heardIn_32 : decode cX5_heardIn 32 = .ok (.iload_n 2, 1) := by decide +kernel
theorem dX5_heardIn_33 : decode cX5_heardIn 33 = .ok (.invokevirtual 169, 3) := by decide +kernel
theorem dX5_heardIn_36 : decode cX5_heardIn 36 = .ok (.goto 4, 3) := by decide +kernel
theorem dX5_heardIn_39 : decode cX5_heardIn 39 = .ok (.iconst (-1), 1) := by decide +kernel
theorem dX5_heardIn_40 : decode cX5_heardIn 40 = .ok (.ireturn, 1) := by decide +kernel
theorem dX5_bestSeat_0 : decode cX5_bestSeat 0 = .ok (.aload_n 0, 1) := by decide +kernel
theorem dX5_bestSeat_1 : decode cX5_bestSeat 1 = .ok (.getfield 21, 3) := by decide +kernel
theorem dX5_bestSeat_4 : decode cX5_bestSeat 4 = .ok (.invokevirtual 172, 3) := by decide +kernel
theorem dX5_bestSeat_7 : decode cX5_bestSeat 7 = .ok (.ireturn, 1) := by decide +kernel
theorem dX5_heardShare_0 : decode cX5_heardShare 0 = .ok (.aload_n 0, 1) := by decide +kernel
theorem dX5_heardShare_1 : decode cX5_heardShare 1 = .ok (.getfield 21, 3) := by decide +kernel
theorem dX5_heardShare_4 : decode cX5_heardShare 4 = .ok (.invokevirtual 175, 3) := by decide +kernel
theorem dX5_heardShare_7 : decode cX5_heardShare 7 = .ok (.dreturn, 1) := by decide +kernel
theorem dX5_digest_0 : decode cX5_digest 0 = .ok (.new 179, 3) := by decide +kernel
theorem dX5_digest_3 : decode cX5_digest 3 = .ok (.dup, 1) := by decide +kernel
theorem dX5_digest_4 : decode cX5_digest 4 = .ok (.invokespecial 181, 3) := by decide +kernel
theorem dX5_digest_7 : decode cX5_digest 7 = .ok (.astore_n 1, 1) := by decide +kernel
theorem dX5_digest_8 : decode cX5_digest 8 = .ok (.iconst 0, 1) := by decide +kernel
theorem dX5_digest_9 : decode cX5_digest 9 = .ok (.istore_n 2, 1) := by decide +kernel
theorem dX5_digest_10 : decode cX5_digest 10 = .ok (.iload_n 2, 1) := by decide +kernel
theorem dX5_digest_11 : decode cX5_digest 11 = .ok (.bipush 9, 2) := by decide +kernel
theorem dX5_digest_13 : decode cX5_digest 13 = .ok (.if_icmp .gt 19, 3) := by decide +kernel
theorem dX5_digest_16 : decode cX5_digest 16 = .ok (.aload_n 1, 1) := by decide +kernel
theorem dX5_digest_17 : decode cX5_digest 17 = .ok (.aload_n 0, 1) := by decide +kernel
theorem dX5_digest_18 : decode cX5_digest 18 = .ok (.iload_n 2, 1) := by decide +kernel
theorem dX5_digest_19 : decode cX5_digest 19 = .ok (.invokevirtual 159, 3) := by decide +kernel
theorem dX5_digest_22 : decode cX5_digest 22 = .ok (.i2l, 1) := by decide +kernel
theorem dX5_digest_23 : decode cX5_digest 23 = .ok (.invokevirtual 182, 3) := by decide +kernel
theorem dX5_digest_26 : decode cX5_digest 26 = .ok (.iinc 2 1, 3) := by decide +kernel
theorem dX5_digest_29 : decode cX5_digest 29 = .ok (.goto (-19), 3) := by decide +kernel
theorem dX5_digest_32 : decode cX5_digest 32 = .ok (.aload_n 0, 1) := by decide +kernel
theorem dX5_digest_33 : decode cX5_digest 33 = .ok (.aload_n 1, 1) := by decide +kernel
theorem dX5_digest_34 : decode cX5_digest 34 = .ok (.invokevirtual 186, 3) := by decide +kernel
theorem dX5_digest_37 : decode cX5_digest 37 = .ok (.aload_n 0, 1) := by decide +kernel
theorem dX5_digest_38 : decode cX5_digest 38 = .ok (.aload_n 1, 1) := by decide +kernel
theorem dX5_digest_39 : decode cX5_digest 39 = .ok (.invokevirtual 190, 3) := by decide +kernel
theorem dX5_digest_42 : decode cX5_digest 42 = .ok (.aload_n 0, 1) := by decide +kernel
theorem dX5_digest_43 : decode cX5_digest 43 = .ok (.aload_n 1, 1) := by decide +kernel
theorem dX5_digest_44 : decode cX5_digest 44 = .ok (.invokevirtual 193, 3) := by decide +kernel
theorem dX5_digest_47 : decode cX5_digest 47 = .ok (.aload_n 0, 1) := by decide +kernel
theorem dX5_digest_48 : decode cX5_digest 48 = .ok (.aload_n 1, 1) := by decide +kernel
theorem dX5_digest_49 : decode cX5_digest 49 = .ok (.invokevirtual 196, 3) := by decide +kernel
theorem dX5_digest_52 : decode cX5_digest 52 = .ok (.iconst 0, 1) := by decide +kernel
theorem dX5_digest_53 : decode cX5_digest 53 = .ok (.istore_n 2, 1) := by decide +kernel
theorem dX5_digest_54 : decode cX5_digest 54 = .ok (.iload_n 2, 1) := by decide +kernel
theorem dX5_digest_55 : decode cX5_digest 55 = .ok (.bipush 6, 2) := by decide +kernel
theorem dX5_digest_57 : decode cX5_digest 57 = .ok (.if_icmp .ge 47, 3) := by decide +kernel
theorem dX5_digest_60 : decode cX5_digest 60 = .ok (.aload_n 1, 1) := by decide +kernel
theorem dX5_digest_61 : decode cX5_digest 61 = .ok (.aload_n 0, 1) := by decide +kernel
theorem dX5_digest_62 : decode cX5_digest 62 = .ok (.getfield 10, 3) := by decide +kernel
theorem dX5_digest_65 : decode cX5_digest 65 = .ok (.getfield 116, 3) := by decide +kernel
theorem dX5_digest_68 : decode cX5_digest 68 = .ok (.ifCond .le 24, 3) := by decide +kernel
theorem dX5_digest_71 : decode cX5_digest 71 = .ok (.aload_n 0, 1) := by decide +kernel
theorem dX5_digest_72 : decode cX5_digest 72 = .ok (.getfield 21, 3) := by decide +kernel
theorem dX5_digest_75 : decode cX5_digest 75 = .ok (.aload_n 0, 1) := by decide +kernel
theorem dX5_digest_76 : decode cX5_digest 76 = .ok (.getfield 10, 3) := by decide +kernel
theorem dX5_digest_79 : decode cX5_digest 79 = .ok (.getfield 116, 3) := by decide +kernel
theorem dX5_digest_82 : decode cX5_digest 82 = .ok (.iconst 1, 1) := by decide +kernel
theorem dX5_digest_83 : decode cX5_digest 83 = .ok (.isub, 1) := by decide +kernel
theorem dX5_digest_84 : decode cX5_digest 84 = .ok (.iload_n 2, 1) := by decide +kernel
theorem dX5_digest_85 : decode cX5_digest 85 = .ok (.invokevirtual 169, 3) := by decide +kernel
theorem dX5_digest_88 : decode cX5_digest 88 = .ok (.i2l, 1) := by decide +kernel
theorem dX5_digest_89 : decode cX5_digest 89 = .ok (.goto 6, 3) := by decide +kernel
theorem dX5_digest_92 : decode cX5_digest 92 = .ok (.ldc2_w 199, 3) := by decide +kernel
theorem dX5_digest_95 : decode cX5_digest 95 = .ok (.invokevirtual 182, 3) := by decide +kernel
theorem dX5_digest_98 : decode cX5_digest 98 = .ok (.iinc 2 1, 3) := by decide +kernel
theorem dX5_digest_101 : decode cX5_digest 101 = .ok (.goto (-47), 3) := by decide +kernel
theorem dX5_digest_104 : decode cX5_digest 104 = .ok (.aload_n 1, 1) := by decide +kernel
theorem dX5_digest_105 : decode cX5_digest 105 = .ok (.aload_n 0, 1) := by decide +kernel
theorem dX5_digest_106 : decode cX5_digest 106 = .ok (.getfield 21, 3) := by decide +kernel
theorem dX5_digest_109 : decode cX5_digest 109 = .ok (.invokevirtual 172, 3) := by decide +kernel
theorem dX5_digest_112 : decode cX5_digest 112 = .ok (.i2l, 1) := by decide +kernel
theorem dX5_digest_113 : decode cX5_digest 113 = .ok (.invokevirtual 182, 3) := by decide +kernel
theorem dX5_digest_116 : decode cX5_digest 116 = .ok (.aload_n 1, 1) := by decide +kernel
theorem dX5_digest_117 : decode cX5_digest 117 = .ok (.aload_n 0, 1) := by decide +kernel
theorem dX5_digest_118 : decode cX5_digest 118 = .ok (.getfield 21, 3) := by decide +kernel
theorem dX5_digest_121 : decode cX5_digest 121 = .ok (.invokevirtual 175, 3) := by decide +kernel
theorem dX5_digest_124 : decode cX5_digest 124 = .ok (.invokestatic 201, 3) := by decide +kernel
theorem dX5_digest_127 : decode cX5_digest 127 = .ok (.invokevirtual 182, 3) := by decide +kernel
theorem dX5_digest_130 : decode cX5_digest 130 = .ok (.aload_n 1, 1) := by decide +kernel
theorem dX5_digest_131 : decode cX5_digest 131 = .ok (.aload_n 0, 1) := by decide +kernel
theorem dX5_digest_132 : decode cX5_digest 132 = .ok (.getfield 35, 3) := by decide +kernel
theorem dX5_digest_135 : decode cX5_digest 135 = .ok (.getfield 100, 3) := by decide +kernel
theorem dX5_digest_138 : decode cX5_digest 138 = .ok (.i2l, 1) := by decide +kernel
theorem dX5_digest_139 : decode cX5_digest 139 = .ok (.invokevirtual 182, 3) := by decide +kernel
theorem dX5_digest_142 : decode cX5_digest 142 = .ok (.iconst 0, 1) := by decide +kernel
theorem dX5_digest_143 : decode cX5_digest 143 = .ok (.istore_n 2, 1) := by decide +kernel
theorem dX5_digest_144 : decode cX5_digest 144 = .ok (.iload_n 2, 1) := by decide +kernel
theorem dX5_digest_145 : decode cX5_digest 145 = .ok (.aload_n 0, 1) := by decide +kernel
theorem dX5_digest_146 : decode cX5_digest 146 = .ok (.getfield 35, 3) := by decide +kernel
theorem dX5_digest_149 : decode cX5_digest 149 = .ok (.getfield 100, 3) := by decide +kernel
theorem dX5_digest_152 : decode cX5_digest 152 = .ok (.if_icmp .ge 23, 3) := by decide +kernel
theorem dX5_digest_155 : decode cX5_digest 155 = .ok (.aload_n 1, 1) := by decide +kernel
theorem dX5_digest_156 : decode cX5_digest 156 = .ok (.aload_n 0, 1) := by decide +kernel
theorem dX5_digest_157 : decode cX5_digest 157 = .ok (.getfield 35, 3) := by decide +kernel
theorem dX5_digest_160 : decode cX5_digest 160 = .ok (.getfield 205, 3) := by decide +kernel
theorem dX5_digest_163 : decode cX5_digest 163 = .ok (.iload_n 2, 1) := by decide +kernel
theorem dX5_digest_164 : decode cX5_digest 164 = .ok (.caload, 1) := by decide +kernel
theorem dX5_digest_165 : decode cX5_digest 165 = .ok (.i2l, 1) := by decide +kernel
theorem dX5_digest_166 : decode cX5_digest 166 = .ok (.invokevirtual 182, 3) := by decide +kernel
theorem dX5_digest_169 : decode cX5_digest 169 = .ok (.iinc 2 1, 3) := by decide +kernel
theorem dX5_digest_172 : decode cX5_digest 172 = .ok (.goto (-28), 3) := by decide +kernel
theorem dX5_digest_175 : decode cX5_digest 175 = .ok (.aload_n 1, 1) := by decide +kernel
theorem dX5_digest_176 : decode cX5_digest 176 = .ok (.getfield 209, 3) := by decide +kernel
theorem dX5_digest_179 : decode cX5_digest 179 = .ok (.lreturn, 1) := by decide +kernel
theorem dX5_takeSpeakers_0 : decode cX5_takeSpeakers 0 = .ok (.iconst 0, 1) := by decide +kernel
theorem dX5_takeSpeakers_1 : decode cX5_takeSpeakers 1 = .ok (.istore_n 2, 1) := by decide +kernel
theorem dX5_takeSpeakers_2 : decode cX5_takeSpeakers 2 = .ok (.iload_n 2, 1) := by decide +kernel
theorem dX5_takeSpeakers_3 : decode cX5_takeSpeakers 3 = .ok (.bipush 6, 2) := by decide +kernel
theorem dX5_takeSpeakers_5 : decode cX5_takeSpeakers 5 = .ok (.if_icmp .ge 57, 3) := by decide +kernel
theorem dX5_takeSpeakers_8 : decode cX5_takeSpeakers 8 = .ok (.iconst 0, 1) := by decide +kernel
theorem dX5_takeSpeakers_9 : decode cX5_takeSpeakers 9 = .ok (.istore_n 3, 1) := by decide +kernel
theorem dX5_takeSpeakers_10 : decode cX5_takeSpeakers 10 = .ok (.iload_n 3, 1) := by decide +kernel
theorem dX5_takeSpeakers_11 : decode cX5_takeSpeakers 11 = .ok (.bipush 7, 2) := by decide +kernel
theorem dX5_takeSpeakers_13 : decode cX5_takeSpeakers 13 = .ok (.if_icmp .gt 23, 3) := by decide +kernel
theorem dX5_takeSpeakers_16 : decode cX5_takeSpeakers 16 = .ok (.aload_n 1, 1) := by decide +kernel
theorem dX5_takeSpeakers_17 : decode cX5_takeSpeakers 17 = .ok (.aload_n 0, 1) := by decide +kernel
theorem dX5_takeSpeakers_18 : decode cX5_takeSpeakers 18 = .ok (.getfield 21, 3) := by decide +kernel
theorem dX5_takeSpeakers_21 : decode cX5_takeSpeakers 21 = .ok (.iload_n 2, 1) := by decide +kernel
theorem dX5_takeSpeakers_22 : decode cX5_takeSpeakers 22 = .ok (.iload_n 3, 1) := by decide +kernel
theorem dX5_takeSpeakers_23 : decode cX5_takeSpeakers 23 = .ok (.invokevirtual 153, 3) := by decide +kernel
theorem dX5_takeSpeakers_26 : decode cX5_takeSpeakers 26 = .ok (.i2l, 1) := by decide +kernel
theorem dX5_takeSpeakers_27 : decode cX5_takeSpeakers 27 = .ok (.invokevirtual 182, 3) := by decide +kernel
theorem dX5_takeSpeakers_30 : decode cX5_takeSpeakers 30 = .ok (.iinc 3 1, 3) := by decide +kernel
theorem dX5_takeSpeakers_33 : decode cX5_takeSpeakers 33 = .ok (.goto (-23), 3) := by decide +kernel
theorem dX5_takeSpeakers_36 : decode cX5_takeSpeakers 36 = .ok (.aload_n 1, 1) := by decide +kernel
theorem dX5_takeSpeakers_37 : decode cX5_takeSpeakers 37 = .ok (.aload_n 0, 1) := by decide +kernel
theorem dX5_takeSpeakers_38 : decode cX5_takeSpeakers 38 = .ok (.getfield 10, 3) := by decide +kernel
theorem dX5_takeSpeakers_41 : decode cX5_takeSpeakers 41 = .ok (.iload_n 2, 1) := by decide +kernel
theorem dX5_takeSpeakers_42 : decode cX5_takeSpeakers 42 = .ok (.aload_n 0, 1) := by decide +kernel
theorem dX5_takeSpeakers_43 : decode cX5_takeSpeakers 43 = .ok (.getfield 10, 3) := by decide +kernel
theorem dX5_takeSpeakers_46 : decode cX5_takeSpeakers 46 = .ok (.getfield 78, 3) := by decide +kernel
theorem dX5_takeSpeakers_49 : decode cX5_takeSpeakers 49 = .ok (.invokevirtual 166, 3) := by decide +kernel
theorem dX5_takeSpeakers_52 : decode cX5_takeSpeakers 52 = .ok (.i2l, 1) := by decide +kernel
theorem dX5_takeSpeakers_53 : decode cX5_takeSpeakers 53 = .ok (.invokevirtual 182, 3) := by decide +kernel
theorem dX5_takeSpeakers_56 : decode cX5_takeSpeakers 56 = .ok (.iinc 2 1, 3) := by decide +kernel
theorem dX5_takeSpeakers_59 : decode cX5_takeSpeakers 59 = .ok (.goto (-57), 3) := by decide +kernel
theorem dX5_takeSpeakers_62 : decode cX5_takeSpeakers 62 = .ok (.return_, 1) := by decide +kernel
theorem dX5_takeLatestWords_0 : decode cX5_takeLatestWords 0 = .ok (.iconst 0, 1) := by decide +kernel
theorem dX5_takeLatestWords_1 : decode cX5_takeLatestWords 1 = .ok (.aload_n 0, 1) := by decide +kernel
theorem dX5_takeLatestWords_2 : decode cX5_takeLatestWords 2 = .ok (.getfield 10, 3) := by decide +kernel
theorem dX5_takeLatestWords_5 : decode cX5_takeLatestWords 5 = .ok (.getfield 116, 3) := by decide +kernel
theorem dX5_takeLatestWords_8 : decode cX5_takeLatestWords 8 = .ok (.bipush 12, 2) := by decide +kernel
theorem dX5_takeLatestWords_10 : decode cX5_takeLatestWords 10 = .ok (.isub, 1) := by decide +kernel
theorem dX5_takeLatestWords_11 : decode cX5_takeLatestWords 11 = .ok (.invokestatic 213, 3) := by decide +kernel
theorem dX5_takeLatestWords_14 : decode cX5_takeLatestWords 14 = .ok (.istore_n 2, 1) := by decide +kernel
theorem dX5_takeLatestWords_15 : decode cX5_takeLatestWords 15 = .ok (.aload_n 0, 1) := by decide +kernel
theorem dX5_takeLatestWords_16 : decode cX5_takeLatestWords 16 = .ok (.getfield 10, 3) := by decide +kernel
theorem dX5_takeLatestWords_19 : decode cX5_takeLatestWords 19 = .ok (.getfield 116, 3) := by decide +kernel
theorem dX5_takeLatestWords_22 : decode cX5_takeLatestWords 22 = .ok (.iconst 1, 1) := by decide +kernel
theorem dX5_takeLatestWords_23 : decode cX5_takeLatestWords 23 = .ok (.isub, 1) := by decide +kernel
theorem dX5_takeLatestWords_24 : decode cX5_takeLatestWords 24 = .ok (.istore_n 3, 1) := by decide +kernel
theorem dX5_takeLatestWords_25 : decode cX5_takeLatestWords 25 = .ok (.iload_n 3, 1) := by decide +kernel
theorem dX5_takeLatestWords_26 : decode cX5_takeLatestWords 26 = .ok (.iload_n 2, 1) := by decide +kernel
theorem dX5_takeLatestWords_27 : decode cX5_takeLatestWords 27 = .ok (.if_icmp .lt 87, 3) := by decide +kernel
theorem dX5_takeLatestWords_30 : decode cX5_takeLatestWords 30 = .ok (.iconst 0, 1) := by decide +kernel
theorem dX5_takeLatestWords_31 : decode cX5_takeLatestWords 31 = .ok (.istore 4, 2) := by decide +kernel
theorem dX5_takeLatestWords_33 : decode cX5_takeLatestWords 33 = .ok (.iload 4, 2) := by decide +kernel
theorem dX5_takeLatestWords_35 : decode cX5_takeLatestWords 35 = .ok (.iconst 5, 1) := by decide +kernel
theorem dX5_takeLatestWords_36 : decode cX5_takeLatestWords 36 = .ok (.if_icmp .gt 24, 3) := by decide +kernel
theorem dX5_takeLatestWords_39 : decode cX5_takeLatestWords 39 = .ok (.aload_n 1, 1) := by decide +kernel
theorem dX5_takeLatestWords_40 : decode cX5_takeLatestWords 40 = .ok (.aload_n 0, 1) := by decide +kernel
theorem dX5_takeLatestWords_41 : decode cX5_takeLatestWords 41 = .ok (.getfield 21, 3) := by decide +kernel
theorem dX5_takeLatestWords_44 : decode cX5_takeLatestWords 44 = .ok (.iload_n 3, 1) := by decide +kernel
theorem dX5_takeLatestWords_45 : decode cX5_takeLatestWords 45 = .ok (.iload 4, 2) := by decide +kernel
theorem dX5_takeLatestWords_47 : decode cX5_takeLatestWords 47 = .ok (.invokevirtual 142, 3) := by decide +kernel
theorem dX5_takeLatestWords_50 : decode cX5_takeLatestWords 50 = .ok (.i2l, 1) := by decide +kernel
theorem dX5_takeLatestWords_51 : decode cX5_takeLatestWords 51 = .ok (.invokevirtual 182, 3) := by decide +kernel
theorem dX5_takeLatestWords_54 : decode cX5_takeLatestWords 54 = .ok (.iinc 4 1, 3) := by decide +kernel
theorem dX5_takeLatestWords_57 : decode cX5_takeLatestWords 57 = .ok (.goto (-24), 3) := by decide +kernel
theorem dX5_takeLatestWords_60 : decode cX5_takeLatestWords 60 = .ok (.iconst 0, 1) := by decide +kernel
theorem dX5_takeLatestWords_61 : decode cX5_takeLatestWords 61 = .ok (.istore 4, 2) := by decide +kernel
theorem dX5_takeLatestWords_63 : decode cX5_takeLatestWords 63 = .ok (.iload 4, 2) := by decide +kernel
theorem dX5_takeLatestWords_65 : decode cX5_takeLatestWords 65 = .ok (.bipush 6, 2) := by decide +kernel
theorem dX5_takeLatestWords_67 : decode cX5_takeLatestWords 67 = .ok (.if_icmp .ge 41, 3) := by decide +kernel
theorem dX5_takeLatestWords_70 : decode cX5_takeLatestWords 70 = .ok (.aload_n 1, 1) := by decide +kernel
theorem dX5_takeLatestWords_71 : decode cX5_takeLatestWords 71 = .ok (.aload_n 0, 1) := by decide +kernel
theorem dX5_takeLatestWords_72 : decode cX5_takeLatestWords 72 = .ok (.getfield 10, 3) := by decide +kernel
theorem dX5_takeLatestWords_75 : decode cX5_takeLatestWords 75 = .ok (.getfield 146, 3) := by decide +kernel
theorem dX5_takeLatestWords_78 : decode cX5_takeLatestWords 78 = .ok (.iload 4, 2) := by decide +kernel
theorem dX5_takeLatestWords_80 : decode cX5_takeLatestWords 80 = .ok (.aaload, 1) := by decide +kernel
theorem dX5_takeLatestWords_81 : decode cX5_takeLatestWords 81 = .ok (.iload_n 3, 1) := by decide +kernel
theorem dX5_takeLatestWords_82 : decode cX5_takeLatestWords 82 = .ok (.iaload, 1) := by decide +kernel
theorem dX5_takeLatestWords_83 : decode cX5_takeLatestWords 83 = .ok (.i2l, 1) := by decide +kernel
theorem dX5_takeLatestWords_84 : decode cX5_takeLatestWords 84 = .ok (.invokevirtual 182, 3) := by decide +kernel
theorem dX5_takeLatestWords_87 : decode cX5_takeLatestWords 87 = .ok (.aload_n 1, 1) := by decide +kernel
theorem dX5_takeLatestWords_88 : decode cX5_takeLatestWords 88 = .ok (.aload_n 0, 1) := by decide +kernel
theorem dX5_takeLatestWords_89 : decode cX5_takeLatestWords 89 = .ok (.getfield 21, 3) := by decide +kernel
theorem dX5_takeLatestWords_92 : decode cX5_takeLatestWords 92 = .ok (.iload_n 3, 1) := by decide +kernel
theorem dX5_takeLatestWords_93 : decode cX5_takeLatestWords 93 = .ok (.iload 4, 2) := by decide +kernel
theorem dX5_takeLatestWords_95 : decode cX5_takeLatestWords 95 = .ok (.invokevirtual 163, 3) := by decide +kernel
theorem dX5_takeLatestWords_98 : decode cX5_takeLatestWords 98 = .ok (.i2l, 1) := by decide +kernel
theorem dX5_takeLatestWords_99 : decode cX5_takeLatestWords 99 = .ok (.invokevirtual 182, 3) := by decide +kernel
theorem dX5_takeLatestWords_102 : decode cX5_takeLatestWords 102 = .ok (.iinc 4 1, 3) := by decide +kernel
theorem dX5_takeLatestWords_105 : decode cX5_takeLatestWords 105 = .ok (.goto (-42), 3) := by decide +kernel
theorem dX5_takeLatestWords_108 : decode cX5_takeLatestWords 108 = .ok (.iinc 3 (-1), 3) := by decide +kernel
theorem dX5_takeLatestWords_111 : decode cX5_takeLatestWords 111 = .ok (.goto (-86), 3) := by decide +kernel
theorem dX5_takeLatestWords_114 : decode cX5_takeLatestWords 114 = .ok (.return_, 1) := by decide +kernel
theorem dX5_takeLatestBeats_0 : decode cX5_takeLatestBeats 0 = .ok (.iconst 0, 1) := by decide +kernel
theorem dX5_takeLatestBeats_1 : decode cX5_takeLatestBeats 1 = .ok (.aload_n 0, 1) := by decide +kernel
theorem dX5_takeLatestBeats_2 : decode cX5_takeLatestBeats 2 = .ok (.getfield 10, 3) := by decide +kernel
theorem dX5_takeLatestBeats_5 : decode cX5_takeLatestBeats 5 = .ok (.getfield 78, 3) := by decide +kernel
theorem dX5_takeLatestBeats_8 : decode cX5_takeLatestBeats 8 = .ok (.bipush 8, 2) := by decide +kernel
theorem dX5_takeLatestBeats_10 : decode cX5_takeLatestBeats 10 = .ok (.isub, 1) := by decide +kernel
theorem dX5_takeLatestBeats_11 : decode cX5_takeLatestBeats 11 = .ok (.invokestatic 213, 3) := by decide +kernel
theorem dX5_takeLatestBeats_14 : decode cX5_takeLatestBeats 14 = .ok (.istore_n 2, 1) := by decide +kernel
theorem dX5_takeLatestBeats_15 : decode cX5_takeLatestBeats 15 = .ok (.aload_n 0, 1) := by decide +kernel
theorem dX5_takeLatestBeats_16 : decode cX5_takeLatestBeats 16 = .ok (.getfield 10, 3) := by decide +kernel
theorem dX5_takeLatestBeats_19 : decode cX5_takeLatestBeats 19 = .ok (.getfield 78, 3) := by decide +kernel
theorem dX5_takeLatestBeats_22 : decode cX5_takeLatestBeats 22 = .ok (.iconst 1, 1) := by decide +kernel
theorem dX5_takeLatestBeats_23 : decode cX5_takeLatestBeats 23 = .ok (.isub, 1) := by decide +kernel
theorem dX5_takeLatestBeats_24 : decode cX5_takeLatestBeats 24 = .ok (.istore_n 3, 1) := by decide +kernel
theorem dX5_takeLatestBeats_25 : decode cX5_takeLatestBeats 25 = .ok (.iload_n 3, 1) := by decide +kernel
theorem dX5_takeLatestBeats_26 : decode cX5_takeLatestBeats 26 = .ok (.iload_n 2, 1) := by decide +kernel
theorem dX5_takeLatestBeats_27 : decode cX5_takeLatestBeats 27 = .ok (.if_icmp .lt 57, 3) := by decide +kernel
theorem dX5_takeLatestBeats_30 : decode cX5_takeLatestBeats 30 = .ok (.iconst 0, 1) := by decide +kernel
theorem dX5_takeLatestBeats_31 : decode cX5_takeLatestBeats 31 = .ok (.istore 4, 2) := by decide +kernel
theorem dX5_takeLatestBeats_33 : decode cX5_takeLatestBeats 33 = .ok (.iload 4, 2) := by decide +kernel
theorem dX5_takeLatestBeats_35 : decode cX5_takeLatestBeats 35 = .ok (.bipush 6, 2) := by decide +kernel
theorem dX5_takeLatestBeats_37 : decode cX5_takeLatestBeats 37 = .ok (.if_icmp .ge 41, 3) := by decide +kernel
theorem dX5_takeLatestBeats_40 : decode cX5_takeLatestBeats 40 = .ok (.iconst 0, 1) := by decide +kernel
theorem dX5_takeLatestBeats_41 : decode cX5_takeLatestBeats 41 = .ok (.istore 5, 2) := by decide +kernel
theorem dX5_takeLatestBeats_43 : decode cX5_takeLatestBeats 43 = .ok (.iload 5, 2) := by decide +kernel
theorem dX5_takeLatestBeats_45 : decode cX5_takeLatestBeats 45 = .ok (.iconst 2, 1) := by decide +kernel
theorem dX5_takeLatestBeats_46 : decode cX5_takeLatestBeats 46 = .ok (.if_icmp .gt 26, 3) := by decide +kernel
theorem dX5_takeLatestBeats_49 : decode cX5_takeLatestBeats 49 = .ok (.aload_n 1, 1) := by decide +kernel
theorem dX5_takeLatestBeats_50 : decode cX5_takeLatestBeats 50 = .ok (.aload_n 0, 1) := by decide +kernel
theorem dX5_takeLatestBeats_51 : decode cX5_takeLatestBeats 51 = .ok (.getfield 21, 3) := by decide +kernel
theorem dX5_takeLatestBeats_54 : decode cX5_takeLatestBeats 54 = .ok (.iload 4, 2) := by decide +kernel
theorem dX5_takeLatestBeats_56 : decode cX5_takeLatestBeats 56 = .ok (.iload_n 3, 1) := by decide +kernel
theorem dX5_takeLatestBeats_57 : decode cX5_takeLatestBeats 57 = .ok (.iload 5, 2) := by decide +kernel
theorem dX5_takeLatestBeats_59 : decode cX5_takeLatestBeats 59 = .ok (.invokevirtual 150, 3) := by decide +kernel
theorem dX5_takeLatestBeats_62 : decode cX5_takeLatestBeats 62 = .ok (.i2l, 1) := by decide +kernel
theorem dX5_takeLatestBeats_63 : decode cX5_takeLatestBeats 63 = .ok (.invokevirtual 182, 3) := by decide +kernel
theorem dX5_takeLatestBeats_66 : decode cX5_takeLatestBeats 66 = .ok (.iinc 5 1, 3) := by decide +kernel
theorem dX5_takeLatestBeats_69 : decode cX5_takeLatestBeats 69 = .ok (.goto (-26), 3) := by decide +kernel
theorem dX5_takeLatestBeats_72 : decode cX5_takeLatestBeats 72 = .ok (.iinc 4 1, 3) := by decide +kernel
theorem dX5_takeLatestBeats_75 : decode cX5_takeLatestBeats 75 = .ok (.goto (-42), 3) := by decide +kernel
theorem dX5_takeLatestBeats_78 : decode cX5_takeLatestBeats 78 = .ok (.iinc 3 (-1), 3) := by decide +kernel
theorem dX5_takeLatestBeats_81 : decode cX5_takeLatestBeats 81 = .ok (.goto (-56), 3) := by decide +kernel
theorem dX5_takeLatestBeats_84 : decode cX5_takeLatestBeats 84 = .ok (.return_, 1) := by decide +kernel
theorem dX5_takeMessages_0 : decode cX5_takeMessages 0 = .ok (.iconst 0, 1) := by decide +kernel
theorem dX5_takeMessages_1 : decode cX5_takeMessages 1 = .ok (.istore_n 2, 1) := by decide +kernel
theorem dX5_takeMessages_2 : decode cX5_takeMessages 2 = .ok (.iload_n 2, 1) := by decide +kernel
theorem dX5_takeMessages_3 : decode cX5_takeMessages 3 = .ok (.bipush 6, 2) := by decide +kernel
theorem dX5_takeMessages_5 : decode cX5_takeMessages 5 = .ok (.if_icmp .ge 65, 3) := by decide +kernel
theorem dX5_takeMessages_8 : decode cX5_takeMessages 8 = .ok (.iconst 0, 1) := by decide +kernel
theorem dX5_takeMessages_9 : decode cX5_takeMessages 9 = .ok (.istore_n 3, 1) := by decide +kernel
theorem dX5_takeMessages_10 : decode cX5_takeMessages 10 = .ok (.iload_n 3, 1) := by decide +kernel
theorem dX5_takeMessages_11 : decode cX5_takeMessages 11 = .ok (.bipush 10, 2) := by decide +kernel
theorem dX5_takeMessages_13 : decode cX5_takeMessages 13 = .ok (.if_icmp .ge 51, 3) := by decide +kernel
theorem dX5_takeMessages_16 : decode cX5_takeMessages 16 = .ok (.iconst 0, 1) := by decide +kernel
theorem dX5_takeMessages_17 : decode cX5_takeMessages 17 = .ok (.istore 4, 2) := by decide +kernel
theorem dX5_takeMessages_19 : decode cX5_takeMessages 19 = .ok (.iconst 0, 1) := by decide +kernel
theorem dX5_takeMessages_20 : decode cX5_takeMessages 20 = .ok (.istore 5, 2) := by decide +kernel
theorem dX5_takeMessages_22 : decode cX5_takeMessages 22 = .ok (.iload 5, 2) := by decide +kernel
theorem dX5_takeMessages_24 : decode cX5_takeMessages 24 = .ok (.bipush 6, 2) := by decide +kernel
theorem dX5_takeMessages_26 : decode cX5_takeMessages 26 = .ok (.if_icmp .ge 25, 3) := by decide +kernel
theorem dX5_takeMessages_29 : decode cX5_takeMessages 29 = .ok (.iload 4, 2) := by decide +kernel
theorem dX5_takeMessages_31 : decode cX5_takeMessages 31 = .ok (.aload_n 0, 1) := by decide +kernel
theorem dX5_takeMessages_32 : decode cX5_takeMessages 32 = .ok (.getfield 21, 3) := by decide +kernel
theorem dX5_takeMessages_35 : decode cX5_takeMessages 35 = .ok (.iload_n 2, 1) := by decide +kernel
theorem dX5_takeMessages_36 : decode cX5_takeMessages 36 = .ok (.iload_n 3, 1) := by decide +kernel
theorem dX5_takeMessages_37 : decode cX5_takeMessages 37 = .ok (.iload 5, 2) := by decide +kernel
theorem dX5_takeMessages_39 : decode cX5_takeMessages 39 = .ok (.invokevirtual 156, 3) := by decide +kernel
theorem dX5_takeMessages_42 : decode cX5_takeMessages 42 = .ok (.iadd, 1) := by decide +kernel
theorem dX5_takeMessages_43 : decode cX5_takeMessages 43 = .ok (.istore 4, 2) := by decide +kernel
theorem dX5_takeMessages_45 : decode cX5_takeMessages 45 = .ok (.iinc 5 1, 3) := by decide +kernel
theorem dX5_takeMessages_48 : decode cX5_takeMessages 48 = .ok (.goto (-26), 3) := by decide +kernel
theorem dX5_takeMessages_51 : decode cX5_takeMessages 51 = .ok (.aload_n 1, 1) := by decide +kernel
theorem dX5_takeMessages_52 : decode cX5_takeMessages 52 = .ok (.iload 4, 2) := by decide +kernel
theorem dX5_takeMessages_54 : decode cX5_takeMessages 54 = .ok (.i2l, 1) := by decide +kernel
theorem dX5_takeMessages_55 : decode cX5_takeMessages 55 = .ok (.invokevirtual 182, 3) := by decide +kernel
theorem dX5_takeMessages_58 : decode cX5_takeMessages 58 = .ok (.iinc 3 1, 3) := by decide +kernel
theorem dX5_takeMessages_61 : decode cX5_takeMessages 61 = .ok (.goto (-51), 3) := by decide +kernel
theorem dX5_takeMessages_64 : decode cX5_takeMessages 64 = .ok (.iinc 2 1, 3) := by decide +kernel
theorem dX5_takeMessages_67 : decode cX5_takeMessages 67 = .ok (.goto (-65), 3) := by decide +kernel
theorem dX5_takeMessages_70 : decode cX5_takeMessages 70 = .ok (.return_, 1) := by decide +kernel
theorem dX5_total_0 : decode cX5_total 0 = .ok (.iload_n 1, 1) := by decide +kernel
theorem dX5_total_1 : decode cX5_total 1 = .ok (.bipush 9, 2) := by decide +kernel
theorem dX5_total_3 : decode cX5_total 3 = .ok (.if_icmp .ne 13, 3) := by decide +kernel
theorem dX5_total_6 : decode cX5_total 6 = .ok (.aload_n 0, 1) := by decide +kernel
theorem dX5_total_7 : decode cX5_total 7 = .ok (.getfield 28, 3) := by decide +kernel
theorem dX5_total_10 : decode cX5_total 10 = .ok (.getfield 134, 3) := by decide +kernel
theorem dX5_total_13 : decode cX5_total 13 = .ok (.goto 11, 3) := by decide +kernel
theorem dX5_total_16 : decode cX5_total 16 = .ok (.aload_n 0, 1) := by decide +kernel
theorem dX5_total_17 : decode cX5_total 17 = .ok (.getfield 21, 3) := by decide +kernel
theorem dX5_total_20 : decode cX5_total 20 = .ok (.iload_n 1, 1) := by decide +kernel
theorem dX5_total_21 : decode cX5_total 21 = .ok (.invokevirtual 218, 3) := by decide +kernel
theorem dX5_total_24 : decode cX5_total 24 = .ok (.ireturn, 1) := by decide +kernel
theorem dX5_isWithin_0 : decode cX5_isWithin 0 = .ok (.iload_n 0, 1) := by decide +kernel
theorem dX5_isWithin_1 : decode cX5_isWithin 1 = .ok (.iload_n 1, 1) := by decide +kernel
theorem dX5_isWithin_2 : decode cX5_isWithin 2 = .ok (.if_icmp .lt 12, 3) := by decide +kernel
theorem dX5_isWithin_5 : decode cX5_isWithin 5 = .ok (.iload_n 0, 1) := by decide +kernel
theorem dX5_isWithin_6 : decode cX5_isWithin 6 = .ok (.iload_n 2, 1) := by decide +kernel
theorem dX5_isWithin_7 : decode cX5_isWithin 7 = .ok (.if_icmp .gt 7, 3) := by decide +kernel
theorem dX5_isWithin_10 : decode cX5_isWithin 10 = .ok (.iconst 1, 1) := by decide +kernel
theorem dX5_isWithin_11 : decode cX5_isWithin 11 = .ok (.goto 4, 3) := by decide +kernel
theorem dX5_isWithin_14 : decode cX5_isWithin 14 = .ok (.iconst 0, 1) := by decide +kernel
theorem dX5_isWithin_15 : decode cX5_isWithin 15 = .ok (.ireturn, 1) := by decide +kernel
theorem dX5_requireSeat_0 : decode cX5_requireSeat 0 = .ok (.iload_n 0, 1) := by decide +kernel
theorem dX5_requireSeat_1 : decode cX5_requireSeat 1 = .ok (.iconst 0, 1) := by decide +kernel
theorem dX5_requireSeat_2 : decode cX5_requireSeat 2 = .ok (.iconst 5, 1) := by decide +kernel
theorem dX5_requireSeat_3 : decode cX5_requireSeat 3 = .ok (.invokestatic 43, 3) := by decide +kernel
theorem dX5_requireSeat_6 : decode cX5_requireSeat 6 = .ok (.ifCond .ne 13, 3) := by decide +kernel
theorem dX5_requireSeat_9 : decode cX5_requireSeat 9 = .ok (.new 86, 3) := by decide +kernel
theorem dX5_requireSeat_12 : decode cX5_requireSeat 12 = .ok (.dup, 1) := by decide +kernel
theorem dX5_requireSeat_13 : decode cX5_requireSeat 13 = .ok (.ldc 221, 2) := by decide +kernel
theorem dX5_requireSeat_15 : decode cX5_requireSeat 15 = .ok (.invokespecial 90, 3) := by decide +kernel
theorem dX5_requireSeat_18 : decode cX5_requireSeat 18 = .ok (.athrow, 1) := by decide +kernel
theorem dX5_requireSeat_19 : decode cX5_requireSeat 19 = .ok (.return_, 1) := by decide +kernel
theorem dX5_require_0 : decode cX5_require 0 = .ok (.iload_n 0, 1) := by decide +kernel
theorem dX5_require_1 : decode cX5_require 1 = .ok (.ifCond .ne 13, 3) := by decide +kernel
theorem dX5_require_4 : decode cX5_require 4 = .ok (.new 223, 3) := by decide +kernel
theorem dX5_require_7 : decode cX5_require 7 = .ok (.dup, 1) := by decide +kernel
theorem dX5_require_8 : decode cX5_require 8 = .ok (.ldc 225, 2) := by decide +kernel
theorem dX5_require_10 : decode cX5_require 10 = .ok (.invokespecial 227, 3) := by decide +kernel
theorem dX5_require_13 : decode cX5_require 13 = .ok (.athrow, 1) := by decide +kernel
theorem dX5_require_14 : decode cX5_require 14 = .ok (.return_, 1) := by decide +kernel
theorem dX6_init_0 : decode cX6_init 0 = .ok (.aload_n 0, 1) := by decide +kernel
theorem dX6_init_1 : decode cX6_init 1 = .ok (.invokespecial 1, 3) := by decide +kernel
theorem dX6_init_4 : decode cX6_init 4 = .ok (.aload_n 0, 1) := by decide +kernel
theorem dX6_init_5 : decode cX6_init 5 = .ok (.ldc 7, 2) := by decide +kernel
theorem dX6_init_7 : decode cX6_init 7 = .ok (.newarray .int, 2) := by decide +kernel
theorem dX6_init_9 : decode cX6_init 9 = .ok (.putfield 8, 3) := by decide +kernel
theorem dX6_init_12 : decode cX6_init 12 = .ok (.aload_n 0, 1) := by decide +kernel
theorem dX6_init_13 : decode cX6_init 13 = .ok (.bipush 60, 2) := by decide +kernel
theorem dX6_init_15 : decode cX6_init 15 = .ok (.newarray .char, 2) := by decide +kernel
theorem dX6_init_17 : decode cX6_init 17 = .ok (.putfield 14, 3) := by decide +kernel
theorem dX6_init_20 : decode cX6_init 20 = .ok (.aload_n 0, 1) := by decide +kernel
theorem dX6_init_21 : decode cX6_init 21 = .ok (.bipush 60, 2) := by decide +kernel
theorem dX6_init_23 : decode cX6_init 23 = .ok (.newarray .int, 2) := by decide +kernel
theorem dX6_init_25 : decode cX6_init 25 = .ok (.putfield 18, 3) := by decide +kernel
theorem dX6_init_28 : decode cX6_init 28 = .ok (.aload_n 0, 1) := by decide +kernel
theorem dX6_init_29 : decode cX6_init 29 = .ok (.getfield 8, 3) := by decide +kernel
theorem dX6_init_32 : decode cX6_init 32 = .ok (.iconst 0, 1) := by decide +kernel
theorem dX6_init_33 : decode cX6_init 33 = .ok (.iconst 1, 1) := by decide +kernel
theorem dX6_init_34 : decode cX6_init 34 = .ok (.iastore, 1) := by decide +kernel
theorem dX6_init_35 : decode cX6_init 35 = .ok (.aload_n 0, 1) := by decide +kernel
theorem dX6_init_36 : decode cX6_init 36 = .ok (.getfield 8, 3) := by decide +kernel
theorem dX6_init_39 : decode cX6_init 39 = .ok (.iconst 1, 1) := by decide +kernel
theorem dX6_init_40 : decode cX6_init 40 = .ok (.iconst 1, 1) := by decide +kernel
theorem dX6_init_41 : decode cX6_init 41 = .ok (.iastore, 1) := by decide +kernel
theorem dX6_init_42 : decode cX6_init 42 = .ok (.aload_n 0, 1) := by decide +kernel
theorem dX6_init_43 : decode cX6_init 43 = .ok (.getfield 8, 3) := by decide +kernel
theorem dX6_init_46 : decode cX6_init 46 = .ok (.iconst 2, 1) := by decide +kernel
theorem dX6_init_47 : decode cX6_init 47 = .ok (.bipush 8, 2) := by decide +kernel
theorem dX6_init_49 : decode cX6_init 49 = .ok (.iastore, 1) := by decide +kernel
theorem dX6_init_50 : decode cX6_init 50 = .ok (.return_, 1) := by decide +kernel
theorem dX6_thrown_0 : decode cX6_thrown 0 = .ok (.aload_n 0, 1) := by decide +kernel
theorem dX6_thrown_1 : decode cX6_thrown 1 = .ok (.getfield 21, 3) := by decide +kernel
theorem dX6_thrown_4 : decode cX6_thrown 4 = .ok (.ireturn, 1) := by decide +kernel
theorem dX6_in_0 : decode cX6_in 0 = .ok (.iload_n 0, 1) := by decide +kernel
theorem dX6_in_1 : decode cX6_in 1 = .ok (.iload_n 1, 1) := by decide +kernel
theorem dX6_in_2 : decode cX6_in 2 = .ok (.if_icmp .lt 12, 3) := by decide +kernel
theorem dX6_in_5 : decode cX6_in 5 = .ok (.iload_n 0, 1) := by decide +kernel
theorem dX6_in_6 : decode cX6_in 6 = .ok (.iload_n 2, 1) := by decide +kernel
theorem dX6_in_7 : decode cX6_in 7 = .ok (.if_icmp .gt 7, 3) := by decide +kernel
theorem dX6_in_10 : decode cX6_in 10 = .ok (.iconst 1, 1) := by decide +kernel
theorem dX6_in_11 : decode cX6_in 11 = .ok (.goto 4, 3) := by decide +kernel
theorem dX6_in_14 : decode cX6_in 14 = .ok (.iconst 0, 1) := by decide +kernel
theorem dX6_in_15 : decode cX6_in 15 = .ok (.ireturn, 1) := by decide +kernel
theorem dX6_goes_0 : decode cX6_goes 0 = .ok (.aload_n 0, 1) := by decide +kernel
theorem dX6_goes_1 : decode cX6_goes 1 = .ok (.iload_n 1, 1) := by decide +kernel
theorem dX6_goes_2 : decode cX6_goes 2 = .ok (.ifCond .ne 7, 3) := by decide +kernel
theorem dX6_goes_5 : decode cX6_goes 5 = .ok (.iconst 1, 1) := by decide +kernel
theorem dX6_goes_6 : decode cX6_goes 6 = .ok (.goto 20, 3) := by decide +kernel
theorem dX6_goes_9 : decode cX6_goes 9 = .ok (.iload_n 2, 1) := by decide +kernel
theorem dX6_goes_10 : decode cX6_goes 10 = .ok (.ifCond .ne 7, 3) := by decide +kernel
theorem dX6_goes_13 : decode cX6_goes 13 = .ok (.iconst 2, 1) := by decide +kernel
theorem dX6_goes_14 : decode cX6_goes 14 = .ok (.goto 12, 3) := by decide +kernel
theorem dX6_goes_17 : decode cX6_goes 17 = .ok (.iload_n 3, 1) := by decide +kernel
theorem dX6_goes_18 : decode cX6_goes 18 = .ok (.ifCond .ne 7, 3) := by decide +kernel
theorem dX6_goes_21 : decode cX6_goes 21 = .ok (.iconst 3, 1) := by decide +kernel
theorem dX6_goes_22 : decode cX6_goes 22 = .ok (.goto 4, 3) := by decide +kernel
theorem dX6_goes_25 : decode cX6_goes 25 = .ok (.iconst 0, 1) := by decide +kernel
theorem dX6_goes_26 : decode cX6_goes 26 = .ok (.putfield 21, 3) := by decide +kernel
theorem dX6_goes_29 : decode cX6_goes 29 = .ok (.aload_n 0, 1) := by decide +kernel
theorem dX6_goes_30 : decode cX6_goes 30 = .ok (.getfield 21, 3) := by decide +kernel
theorem dX6_goes_33 : decode cX6_goes 33 = .ok (.ifCond .ne 7, 3) := by decide +kernel
theorem dX6_goes_36 : decode cX6_goes 36 = .ok (.iconst 1, 1) := by decide +kernel
theorem dX6_goes_37 : decode cX6_goes 37 = .ok (.goto 4, 3) := by decide +kernel
theorem dX6_goes_40 : decode cX6_goes 40 = .ok (.iconst 0, 1) := by decide +kernel
theorem dX6_goes_41 : decode cX6_goes 41 = .ok (.ireturn, 1) := by decide +kernel
theorem dX6_copies_0 : decode cX6_copies 0 = .ok (.iconst 0, 1) := by decide +kernel
theorem dX6_copies_1 : decode cX6_copies 1 = .ok (.istore_n 3, 1) := by decide +kernel
theorem dX6_copies_2 : decode cX6_copies 2 = .ok (.iload_n 3, 1) := by decide +kernel
theorem dX6_copies_3 : decode cX6_copies 3 = .ok (.sipush 4411, 3) := by decide +kernel
theorem dX6_copies_6 : decode cX6_copies 6 = .ok (.if_icmp .ge 33, 3) := by decide +kernel
theorem dX6_copies_9 : decode cX6_copies 9 = .ok (.aload_n 0, 1) := by decide +kernel
theorem dX6_copies_10 : decode cX6_copies 10 = .ok (.getfield 8, 3) := by decide +kernel
theorem dX6_copies_13 : decode cX6_copies 13 = .ok (.sipush 4411, 3) := by decide +kernel
theorem dX6_copies_16 : decode cX6_copies 16 = .ok (.iload_n 2, 1) := by decide +kernel
theorem dX6_copies_17 : decode cX6_copies 17 = .ok (.imul, 1) := by decide +kernel
theorem dX6_copies_18 : decode cX6_copies 18 = .ok (.iload_n 3, 1) := by decide +kernel
theorem dX6_copies_19 : decode cX6_copies 19 = .ok (.iadd, 1) := by decide +kernel
theorem dX6_copies_20 : decode cX6_copies 20 = .ok (.aload_n 0, 1) := by decide +kernel
theorem dX6_copies_21 : decode cX6_copies 21 = .ok (.getfield 8, 3) := by decide +kernel
theorem dX6_copies_24 : decode cX6_copies 24 = .ok (.sipush 4411, 3) := by decide +kernel
theorem dX6_copies_27 : decode cX6_copies 27 = .ok (.iload_n 1, 1) := by decide +kernel
theorem dX6_copies_28 : decode cX6_copies 28 = .ok (.imul, 1) := by decide +kernel
theorem dX6_copies_29 : decode cX6_copies 29 = .ok (.iload_n 3, 1) := by decide +kernel
theorem dX6_copies_30 : decode cX6_copies 30 = .ok (.iadd, 1) := by decide +kernel
theorem dX6_copies_31 : decode cX6_copies 31 = .ok (.iaload, 1) := by decide +kernel
theorem dX6_copies_32 : decode cX6_copies 32 = .ok (.iastore, 1) := by decide +kernel
theorem dX6_copies_33 : decode cX6_copies 33 = .ok (.iinc 3 1, 3) := by decide +kernel
theorem dX6_copies_36 : decode cX6_copies 36 = .ok (.goto (-34), 3) := by decide +kernel
theorem dX6_copies_39 : decode cX6_copies 39 = .ok (.return_, 1) := by decide +kernel
theorem dX6_saves_0 : decode cX6_saves 0 = .ok (.aload_n 0, 1) := by decide +kernel
theorem dX6_saves_1 : decode cX6_saves 1 = .ok (.getfield 25, 3) := by decide +kernel
theorem dX6_saves_4 : decode cX6_saves 4 = .ok (.bipush 6, 2) := by decide +kernel
theorem dX6_saves_6 : decode cX6_saves 6 = .ok (.if_icmp .ne 35, 3) := by decide +kernel
theorem dX6_saves_9 : decode cX6_saves 9 = .ok (.iconst 1, 1) := by decide +kernel
theorem dX6_saves_10 : decode cX6_saves 10 = .ok (.istore_n 1, 1) := by decide +kernel
theorem dX6_saves_11 : decode cX6_saves 11 = .ok (.iload_n 1, 1) := by decide +kernel
theorem dX6_saves_12 : decode cX6_saves 12 = .ok (.bipush 6, 2) := by decide +kernel
theorem dX6_saves_14 : decode cX6_saves 14 = .ok (.if_icmp .ge 17, 3) := by decide +kernel
theorem dX6_saves_17 : decode cX6_saves 17 = .ok (.aload_n 0, 1) := by decide +kernel
theorem dX6_saves_18 : decode cX6_saves 18 = .ok (.iload_n 1, 1) := by decide +kernel
theorem dX6_saves_19 : decode cX6_saves 19 = .ok (.iconst 1, 1) := by decide +kernel
theorem dX6_saves_20 : decode cX6_saves 20 = .ok (.iadd, 1) := by decide +kernel
theorem dX6_saves_21 : decode cX6_saves 21 = .ok (.iload_n 1, 1) := by decide +kernel
theorem dX6_saves_22 : decode cX6_saves 22 = .ok (.invokevirtual 28, 3) := by decide +kernel
theorem dX6_saves_25 : decode cX6_saves 25 = .ok (.iinc 1 1, 3) := by decide +kernel
theorem dX6_saves_28 : decode cX6_saves 28 = .ok (.goto (-17), 3) := by decide +kernel
theorem dX6_saves_31 : decode cX6_saves 31 = .ok (.aload_n 0, 1) := by decide +kernel
theorem dX6_saves_32 : decode cX6_saves 32 = .ok (.dup, 1) := by decide +kernel
theorem dX6_saves_33 : decode cX6_saves 33 = .ok (.getfield 25, 3) := by decide +kernel
theorem dX6_saves_36 : decode cX6_saves 36 = .ok (.iconst 1, 1) := by decide +kernel
theorem dX6_saves_37 : decode cX6_saves 37 = .ok (.isub, 1) := by decide +kernel
theorem dX6_saves_38 : decode cX6_saves 38 = .ok (.putfield 25, 3) := by decide +kernel
theorem dX6_saves_41 : decode cX6_saves 41 = .ok (.aload_n 0, 1) := by decide +kernel
theorem dX6_saves_42 : decode cX6_saves 42 = .ok (.dup, 1) := by decide +kernel
theorem dX6_saves_43 : decode cX6_saves 43 = .ok (.getfield 25, 3) := by decide +kernel
theorem dX6_saves_46 : decode cX6_saves 46 = .ok (.iconst 1, 1) := by decide +kernel
theorem dX6_saves_47 : decode cX6_saves 47 = .ok (.iadd, 1) := by decide +kernel
theorem dX6_saves_48 : decode cX6_saves 48 = .ok (.putfield 25, 3) := by decide +kernel
theorem dX6_saves_51 : decode cX6_saves 51 = .ok (.aload_n 0, 1) := by decide +kernel
theorem dX6_saves_52 : decode cX6_saves 52 = .ok (.iconst 0, 1) := by decide +kernel
theorem dX6_saves_53 : decode cX6_saves 53 = .ok (.aload_n 0, 1) := by decide +kernel
theorem dX6_saves_54 : decode cX6_saves 54 = .ok (.getfield 25, 3) := by decide +kernel
theorem dX6_saves_57 : decode cX6_saves 57 = .ok (.invokevirtual 28, 3) := by decide +kernel
theorem dX6_saves_60 : decode cX6_saves 60 = .ok (.return_, 1) := by decide +kernel
theorem dX6_part_0 : decode cX6_part 0 = .ok (.aload_n 0, 1) := by decide +kernel
theorem dX6_part_1 : decode cX6_part 1 = .ok (.getfield 8, 3) := by decide +kernel
theorem dX6_part_4 : decode cX6_part 4 = .ok (.bipush 11, 2) := by decide +kernel
theorem dX6_part_6 : decode cX6_part 6 = .ok (.bipush 10, 2) := by decide +kernel
theorem dX6_part_8 : decode cX6_part 8 = .ok (.iload_n 1, 1) := by decide +kernel
theorem dX6_part_9 : decode cX6_part 9 = .ok (.imul, 1) := by decide +kernel
theorem dX6_part_10 : decode cX6_part 10 = .ok (.iadd, 1) := by decide +kernel
theorem dX6_part_11 : decode cX6_part 11 = .ok (.iload_n 2, 1) := by decide +kernel
theorem dX6_part_12 : decode cX6_part 12 = .ok (.iadd, 1) := by decide +kernel
theorem dX6_part_13 : decode cX6_part 13 = .ok (.iaload, 1) := by decide +kernel
theorem dX6_part_14 : decode cX6_part 14 = .ok (.ireturn, 1) := by decide +kernel
theorem dX6_isSeat_0 : decode cX6_isSeat 0 = .ok (.iload_n 0, 1) := by decide +kernel
theorem dX6_isSeat_1 : decode cX6_isSeat 1 = .ok (.iconst 0, 1) := by decide +kernel
theorem dX6_isSeat_2 : decode cX6_isSeat 2 = .ok (.iconst 5, 1) := by decide +kernel
theorem dX6_isSeat_3 : decode cX6_isSeat 3 = .ok (.invokestatic 32, 3) := by decide +kernel
theorem dX6_isSeat_6 : decode cX6_isSeat 6 = .ok (.ireturn, 1) := by decide +kernel
theorem dX6_apart_0 : decode cX6_apart 0 = .ok (.iload_n 0, 1) := by decide +kernel
theorem dX6_apart_1 : decode cX6_apart 1 = .ok (.iload_n 1, 1) := by decide +kernel
theorem dX6_apart_2 : decode cX6_apart 2 = .ok (.if_icmp .le 9, 3) := by decide +kernel
theorem dX6_apart_5 : decode cX6_apart 5 = .ok (.iload_n 0, 1) := by decide +kernel
theorem dX6_apart_6 : decode cX6_apart 6 = .ok (.iload_n 1, 1) := by decide +kernel
theorem dX6_apart_7 : decode cX6_apart 7 = .ok (.isub, 1) := by decide +kernel
theorem dX6_apart_8 : decode cX6_apart 8 = .ok (.goto 6, 3) := by decide +kernel
theorem dX6_apart_11 : decode cX6_apart 11 = .ok (.iload_n 1, 1) := by decide +kernel
theorem dX6_apart_12 : decode cX6_apart 12 = .ok (.iload_n 0, 1) := by decide +kernel
theorem dX6_apart_13 : decode cX6_apart 13 = .ok (.isub, 1) := by decide +kernel
theorem dX6_apart_14 : decode cX6_apart 14 = .ok (.istore_n 2, 1) := by decide +kernel
theorem dX6_apart_15 : decode cX6_apart 15 = .ok (.iload_n 2, 1) := by decide +kernel
theorem dX6_apart_16 : decode cX6_apart 16 = .ok (.iconst 3, 1) := by decide +kernel
theorem dX6_apart_17 : decode cX6_apart 17 = .ok (.if_icmp .le 10, 3) := by decide +kernel
theorem dX6_apart_20 : decode cX6_apart 20 = .ok (.bipush 6, 2) := by decide +kernel
theorem dX6_apart_22 : decode cX6_apart 22 = .ok (.iload_n 2, 1) := by decide +kernel
theorem dX6_apart_23 : decode cX6_apart 23 = .ok (.isub, 1) := by decide +kernel
theorem dX6_apart_24 : decode cX6_apart 24 = .ok (.goto 4, 3) := by decide +kernel
theorem dX6_apart_27 : decode cX6_apart 27 = .ok (.iload_n 2, 1) := by decide +kernel
theorem dX6_apart_28 : decode cX6_apart 28 = .ok (.ireturn, 1) := by decide +kernel
theorem dX6_delay_0 : decode cX6_delay 0 = .ok (.iload_n 1, 1) := by decide +kernel
theorem dX6_delay_1 : decode cX6_delay 1 = .ok (.iload_n 2, 1) := by decide +kernel
theorem dX6_delay_2 : decode cX6_delay 2 = .ok (.invokestatic 36, 3) := by decide +kernel
theorem dX6_delay_5 : decode cX6_delay 5 = .ok (.istore_n 3, 1) := by decide +kernel
theorem dX6_delay_6 : decode cX6_delay 6 = .ok (.aload_n 0, 1) := by decide +kernel
theorem dX6_delay_7 : decode cX6_delay 7 = .ok (.getfield 8, 3) := by decide +kernel
theorem dX6_delay_10 : decode cX6_delay 10 = .ok (.iconst 5, 1) := by decide +kernel
theorem dX6_delay_11 : decode cX6_delay 11 = .ok (.iload_n 2, 1) := by decide +kernel
theorem dX6_delay_12 : decode cX6_delay 12 = .ok (.iadd, 1) := by decide +kernel
theorem dX6_delay_13 : decode cX6_delay 13 = .ok (.iaload, 1) := by decide +kernel
theorem dX6_delay_14 : decode cX6_delay 14 = .ok (.istore 4, 2) := by decide +kernel
theorem dX6_delay_16 : decode cX6_delay 16 = .ok (.aload_n 0, 1) := by decide +kernel
theorem dX6_delay_17 : decode cX6_delay 17 = .ok (.getfield 8, 3) := by decide +kernel
theorem dX6_delay_20 : decode cX6_delay 20 = .ok (.iconst 0, 1) := by decide +kernel
theorem dX6_delay_21 : decode cX6_delay 21 = .ok (.iaload, 1) := by decide +kernel
theorem dX6_delay_22 : decode cX6_delay 22 = .ok (.aload_n 0, 1) := by decide +kernel
theorem dX6_delay_23 : decode cX6_delay 23 = .ok (.getfield 8, 3) := by decide +kernel
theorem dX6_delay_26 : decode cX6_delay 26 = .ok (.iconst 1, 1) := by decide +kernel
theorem dX6_delay_27 : decode cX6_delay 27 = .ok (.iaload, 1) := by decide +kernel
theorem dX6_delay_28 : decode cX6_delay 28 = .ok (.iload_n 3, 1) := by decide +kernel
theorem dX6_delay_29 : decode cX6_delay 29 = .ok (.imul, 1) := by decide +kernel
theorem dX6_delay_30 : decode cX6_delay 30 = .ok (.iadd, 1) := by decide +kernel
theorem dX6_delay_31 : decode cX6_delay 31 = .ok (.istore 5, 2) := by decide +kernel
theorem dX6_delay_33 : decode cX6_delay 33 = .ok (.iload 4, 2) := by decide +kernel
theorem dX6_delay_35 : decode cX6_delay 35 = .ok (.iconst 1, 1) := by decide +kernel
theorem dX6_delay_36 : decode cX6_delay 36 = .ok (.if_icmp .ne 8, 3) := by decide +kernel
theorem dX6_delay_39 : decode cX6_delay 39 = .ok (.iload_n 3, 1) := by decide +kernel
theorem dX6_delay_40 : decode cX6_delay 40 = .ok (.iconst 3, 1) := by decide +kernel
theorem dX6_delay_41 : decode cX6_delay 41 = .ok (.if_icmp .eq 14, 3) := by decide +kernel
theorem dX6_delay_44 : decode cX6_delay 44 = .ok (.iload 4, 2) := by decide +kernel
theorem dX6_delay_46 : decode cX6_delay 46 = .ok (.iconst 3, 1) := by decide +kernel
theorem dX6_delay_47 : decode cX6_delay 47 = .ok (.if_icmp .ne 12, 3) := by decide +kernel
theorem dX6_delay_50 : decode cX6_delay 50 = .ok (.iload_n 3, 1) := by decide +kernel
theorem dX6_delay_51 : decode cX6_delay 51 = .ok (.iconst 1, 1) := by decide +kernel
theorem dX6_delay_52 : decode cX6_delay 52 = .ok (.if_icmp .ne 7, 3) := by decide +kernel
theorem dX6_delay_55 : decode cX6_delay 55 = .ok (.iconst (-1), 1) := by decide +kernel
theorem dX6_delay_56 : decode cX6_delay 56 = .ok (.goto 18, 3) := by decide +kernel
theorem dX6_delay_59 : decode cX6_delay 59 = .ok (.iload 4, 2) := by decide +kernel
theorem dX6_delay_61 : decode cX6_delay 61 = .ok (.iconst 2, 1) := by decide +kernel
theorem dX6_delay_62 : decode cX6_delay 62 = .ok (.if_icmp .ne 10, 3) := by decide +kernel
theorem dX6_delay_65 : decode cX6_delay 65 = .ok (.iload 5, 2) := by decide +kernel
theorem dX6_delay_67 : decode cX6_delay 67 = .ok (.iconst 2, 1) := by decide +kernel
theorem dX6_delay_68 : decode cX6_delay 68 = .ok (.iadd, 1) := by decide +kernel
theorem dX6_delay_69 : decode cX6_delay 69 = .ok (.goto 5, 3) := by decide +kernel
theorem dX6_delay_72 : decode cX6_delay 72 = .ok (.iload 5, 2) := by decide +kernel
theorem dX6_delay_74 : decode cX6_delay 74 = .ok (.ireturn, 1) := by decide +kernel
theorem dX6_voice_0 : decode cX6_voice 0 = .ok (.iconst (-1), 1) := by decide +kernel
theorem dX6_voice_1 : decode cX6_voice 1 = .ok (.istore_n 3, 1) := by decide +kernel
theorem dX6_voice_2 : decode cX6_voice 2 = .ok (.iconst (-1), 1) := by decide +kernel
theorem dX6_voice_3 : decode cX6_voice 3 = .ok (.istore 4, 2) := by decide +kernel
theorem dX6_voice_5 : decode cX6_voice 5 = .ok (.iconst (-1), 1) := by decide +kernel
theorem dX6_voice_6 : decode cX6_voice 6 = .ok (.istore 5, 2) := by decide +kernel
theorem dX6_voice_8 : decode cX6_voice 8 = .ok (.iconst (-1), 1) := by decide +kernel
theorem dX6_voice_9 : decode cX6_voice 9 = .ok (.istore 6, 2) := by decide +kernel
theorem dX6_voice_11 : decode cX6_voice 11 = .ok (.iconst 0, 1) := by decide +kernel
theorem dX6_voice_12 : decode cX6_voice 12 = .ok (.istore 7, 2) := by decide +kernel
theorem dX6_voice_14 : decode cX6_voice 14 = .ok (.iload 7, 2) := by decide +kernel
theorem dX6_voice_16 : decode cX6_voice 16 = .ok (.aload_n 0, 1) := by decide +kernel
theorem dX6_voice_17 : decode cX6_voice 17 = .ok (.getfield 8, 3) := by decide +kernel
theorem dX6_voice_20 : decode cX6_voice 20 = .ok (.iconst 4, 1) := by decide +kernel
theorem dX6_voice_21 : decode cX6_voice 21 = .ok (.iaload, 1) := by decide +kernel
theorem dX6_voice_22 : decode cX6_voice 22 = .ok (.if_icmp .ge 92, 3) := by decide +kernel
theorem dX6_voice_25 : decode cX6_voice 25 = .ok (.aload_n 0, 1) := by decide +kernel
theorem dX6_voice_26 : decode cX6_voice 26 = .ok (.iload 7, 2) := by decide +kernel
theorem dX6_voice_28 : decode cX6_voice 28 = .ok (.iconst 4, 1) := by decide +kernel
theorem dX6_voice_29 : decode cX6_voice 29 = .ok (.iload_n 1, 1) := by decide +kernel
theorem dX6_voice_30 : decode cX6_voice 30 = .ok (.iadd, 1) := by decide +kernel
theorem dX6_voice_31 : decode cX6_voice 31 = .ok (.invokevirtual 40, 3) := by decide +kernel
theorem dX6_voice_34 : decode cX6_voice 34 = .ok (.istore 8, 2) := by decide +kernel
theorem dX6_voice_36 : decode cX6_voice 36 = .ok (.iload 8, 2) := by decide +kernel
theorem dX6_voice_38 : decode cX6_voice 38 = .ok (.ifCond .lt 70, 3) := by decide +kernel
theorem dX6_voice_41 : decode cX6_voice 41 = .ok (.iload 8, 2) := by decide +kernel
theorem dX6_voice_43 : decode cX6_voice 43 = .ok (.iload_n 2, 1) := by decide +kernel
theorem dX6_voice_44 : decode cX6_voice 44 = .ok (.if_icmp .gt 64, 3) := by decide +kernel
theorem dX6_voice_47 : decode cX6_voice 47 = .ok (.iload_n 2, 1) := by decide +kernel
theorem dX6_voice_48 : decode cX6_voice 48 = .ok (.iload 8, 2) := by decide +kernel
theorem dX6_voice_50 : decode cX6_voice 50 = .ok (.isub, 1) := by decide +kernel
theorem dX6_voice_51 : decode cX6_voice 51 = .ok (.aload_n 0, 1) := by decide +kernel
theorem dX6_voice_52 : decode cX6_voice 52 = .ok (.getfield 8, 3) := by decide +kernel
theorem dX6_voice_55 : decode cX6_voice 55 = .ok (.iconst 2, 1) := by decide +kernel
theorem dX6_voice_56 : decode cX6_voice 56 = .ok (.iaload, 1) := by decide +kernel
theorem dX6_voice_57 : decode cX6_voice 57 = .ok (.if_icmp .gt 51, 3) := by decide +kernel
theorem dX6_voice_60 : decode cX6_voice 60 = .ok (.iload_n 3, 1) := by decide +kernel
theorem dX6_voice_61 : decode cX6_voice 61 = .ok (.ifCond .lt 10, 3) := by decide +kernel
theorem dX6_voice_64 : decode cX6_voice 64 = .ok (.iload 8, 2) := by decide +kernel
theorem dX6_voice_66 : decode cX6_voice 66 = .ok (.iload 5, 2) := by decide +kernel
theorem dX6_voice_68 : decode cX6_voice 68 = .ok (.if_icmp .lt 20, 3) := by decide +kernel
theorem dX6_voice_71 : decode cX6_voice 71 = .ok (.iload_n 3, 1) := by decide +kernel
theorem dX6_voice_72 : decode cX6_voice 72 = .ok (.istore 4, 2) := by decide +kernel
theorem dX6_voice_74 : decode cX6_voice 74 = .ok (.iload 5, 2) := by decide +kernel
theorem dX6_voice_76 : decode cX6_voice 76 = .ok (.istore 6, 2) := by decide +kernel
theorem dX6_voice_78 : decode cX6_voice 78 = .ok (.iload 7, 2) := by decide +kernel
theorem dX6_voice_80 : decode cX6_voice 80 = .ok (.istore_n 3, 1) := by decide +kernel
theorem dX6_voice_81 : decode cX6_voice 81 = .ok (.iload 8, 2) := by decide +kernel
theorem dX6_voice_83 : decode cX6_voice 83 = .ok (.istore 5, 2) := by decide +kernel
theorem dX6_voice_85 : decode cX6_voice 85 = .ok (.goto 23, 3) := by decide +kernel
theorem dX6_voice_88 : decode cX6_voice 88 = .ok (.iload 4, 2) := by decide +kernel
theorem dX6_voice_90 : decode cX6_voice 90 = .ok (.ifCond .lt 10, 3) := by decide +kernel
theorem dX6_voice_93 : decode cX6_voice 93 = .ok (.iload 8, 2) := by decide +kernel
theorem dX6_voice_95 : decode cX6_voice 95 = .ok (.iload 6, 2) := by decide +kernel
theorem dX6_voice_97 : decode cX6_voice 97 = .ok (.if_icmp .lt 11, 3) := by decide +kernel
theorem dX6_voice_100 : decode cX6_voice 100 = .ok (.iload 7, 2) := by decide +kernel
theorem dX6_voice_102 : decode cX6_voice 102 = .ok (.istore 4, 2) := by decide +kernel
theorem dX6_voice_104 : decode cX6_voice 104 = .ok (.iload 8, 2) := by decide +kernel
theorem dX6_voice_106 : decode cX6_voice 106 = .ok (.istore 6, 2) := by decide +kernel
theorem dX6_voice_108 : decode cX6_voice 108 = .ok (.iinc 7 1, 3) := by decide +kernel
theorem dX6_voice_111 : decode cX6_voice 111 = .ok (.goto (-97), 3) := by decide +kernel
theorem dX6_voice_114 : decode cX6_voice 114 = .ok (.iload 4, 2) := by decide +kernel
theorem dX6_voice_116 : decode cX6_voice 116 = .ok (.ireturn, 1) := by decide +kernel
theorem dX6_ends_0 : decode cX6_ends 0 = .ok (.iconst 0, 1) := by decide +kernel
theorem dX6_ends_1 : decode cX6_ends 1 = .ok (.istore_n 1, 1) := by decide +kernel
theorem dX6_ends_2 : decode cX6_ends 2 = .ok (.iload_n 1, 1) := by decide +kernel
theorem dX6_ends_3 : decode cX6_ends 3 = .ok (.bipush 6, 2) := by decide +kernel
theorem dX6_ends_5 : decode cX6_ends 5 = .ok (.if_icmp .ge 41, 3) := by decide +kernel
theorem dX6_ends_8 : decode cX6_ends 8 = .ok (.aload_n 0, 1) := by decide +kernel
theorem dX6_ends_9 : decode cX6_ends 9 = .ok (.getfield 8, 3) := by decide +kernel
theorem dX6_ends_12 : decode cX6_ends 12 = .ok (.sipush 2011, 3) := by decide +kernel
theorem dX6_ends_15 : decode cX6_ends 15 = .ok (.sipush 400, 3) := by decide +kernel
theorem dX6_ends_18 : decode cX6_ends 18 = .ok (.iload_n 1, 1) := by decide +kernel
theorem dX6_ends_19 : decode cX6_ends 19 = .ok (.imul, 1) := by decide +kernel
theorem dX6_ends_20 : decode cX6_ends 20 = .ok (.iadd, 1) := by decide +kernel
theorem dX6_ends_21 : decode cX6_ends 21 = .ok (.aload_n 0, 1) := by decide +kernel
theorem dX6_ends_22 : decode cX6_ends 22 = .ok (.getfield 8, 3) := by decide +kernel
theorem dX6_ends_25 : decode cX6_ends 25 = .ok (.iconst 3, 1) := by decide +kernel
theorem dX6_ends_26 : decode cX6_ends 26 = .ok (.iaload, 1) := by decide +kernel
theorem dX6_ends_27 : decode cX6_ends 27 = .ok (.iadd, 1) := by decide +kernel
theorem dX6_ends_28 : decode cX6_ends 28 = .ok (.aload_n 0, 1) := by decide +kernel
theorem dX6_ends_29 : decode cX6_ends 29 = .ok (.iload_n 1, 1) := by decide +kernel
theorem dX6_ends_30 : decode cX6_ends 30 = .ok (.aload_n 0, 1) := by decide +kernel
theorem dX6_ends_31 : decode cX6_ends 31 = .ok (.getfield 8, 3) := by decide +kernel
theorem dX6_ends_34 : decode cX6_ends 34 = .ok (.iconst 3, 1) := by decide +kernel
theorem dX6_ends_35 : decode cX6_ends 35 = .ok (.iaload, 1) := by decide +kernel
theorem dX6_ends_36 : decode cX6_ends 36 = .ok (.invokevirtual 43, 3) := by decide +kernel
theorem dX6_ends_39 : decode cX6_ends 39 = .ok (.iastore, 1) := by decide +kernel
theorem dX6_ends_40 : decode cX6_ends 40 = .ok (.iinc 1 1, 3) := by decide +kernel
theorem dX6_ends_43 : decode cX6_ends 43 = .ok (.goto (-41), 3) := by decide +kernel
theorem dX6_ends_46 : decode cX6_ends 46 = .ok (.aload_n 0, 1) := by decide +kernel
theorem dX6_ends_47 : decode cX6_ends 47 = .ok (.getfield 8, 3) := by decide +kernel
theorem dX6_ends_50 : decode cX6_ends 50 = .ok (.iconst 3, 1) := by decide +kernel
theorem dX6_ends_51 : decode cX6_ends 51 = .ok (.dup2, 1) := by decide +kernel
theorem dX6_ends_52 : decode cX6_ends 52 = .ok (.iaload, 1) := by decide +kernel
theorem dX6_ends_53 : decode cX6_ends 53 = .ok (.iconst 1, 1) := by decide +kernel
theorem dX6_ends_54 : decode cX6_ends 54 = .ok (.iadd, 1) := by decide +kernel
theorem dX6_ends_55 : decode cX6_ends 55 = .ok (.iastore, 1) := by decide +kernel
theorem dX6_ends_56 : decode cX6_ends 56 = .ok (.return_, 1) := by decide +kernel
theorem dX6_speaks_0 : decode cX6_speaks 0 = .ok (.aload_n 0, 1) := by decide +kernel
theorem dX6_speaks_1 : decode cX6_speaks 1 = .ok (.getfield 8, 3) := by decide +kernel
theorem dX6_speaks_4 : decode cX6_speaks 4 = .ok (.iconst 4, 1) := by decide +kernel
theorem dX6_speaks_5 : decode cX6_speaks 5 = .ok (.iaload, 1) := by decide +kernel
theorem dX6_speaks_6 : decode cX6_speaks 6 = .ok (.istore 4, 2) := by decide +kernel
theorem dX6_speaks_8 : decode cX6_speaks 8 = .ok (.bipush 11, 2) := by decide +kernel
theorem dX6_speaks_10 : decode cX6_speaks 10 = .ok (.bipush 10, 2) := by decide +kernel
theorem dX6_speaks_12 : decode cX6_speaks 12 = .ok (.iload 4, 2) := by decide +kernel
theorem dX6_speaks_14 : decode cX6_speaks 14 = .ok (.imul, 1) := by decide +kernel
theorem dX6_speaks_15 : decode cX6_speaks 15 = .ok (.iadd, 1) := by decide +kernel
theorem dX6_speaks_16 : decode cX6_speaks 16 = .ok (.istore 5, 2) := by decide +kernel
theorem dX6_speaks_18 : decode cX6_speaks 18 = .ok (.aload_n 0, 1) := by decide +kernel
theorem dX6_speaks_19 : decode cX6_speaks 19 = .ok (.getfield 8, 3) := by decide +kernel
theorem dX6_speaks_22 : decode cX6_speaks 22 = .ok (.iload 5, 2) := by decide +kernel
theorem dX6_speaks_24 : decode cX6_speaks 24 = .ok (.iload_n 1, 1) := by decide +kernel
theorem dX6_speaks_25 : decode cX6_speaks 25 = .ok (.iastore, 1) := by decide +kernel
theorem dX6_speaks_26 : decode cX6_speaks 26 = .ok (.aload_n 0, 1) := by decide +kernel
theorem dX6_speaks_27 : decode cX6_speaks 27 = .ok (.getfield 8, 3) := by decide +kernel
theorem dX6_speaks_30 : decode cX6_speaks 30 = .ok (.iload 5, 2) := by decide +kernel
theorem dX6_speaks_32 : decode cX6_speaks 32 = .ok (.iconst 1, 1) := by decide +kernel
theorem dX6_speaks_33 : decode cX6_speaks 33 = .ok (.iadd, 1) := by decide +kernel
theorem dX6_speaks_34 : decode cX6_speaks 34 = .ok (.iload_n 2, 1) := by decide +kernel
theorem dX6_speaks_35 : decode cX6_speaks 35 = .ok (.iastore, 1) := by decide +kernel
theorem dX6_speaks_36 : decode cX6_speaks 36 = .ok (.aload_n 0, 1) := by decide +kernel
theorem dX6_speaks_37 : decode cX6_speaks 37 = .ok (.getfield 8, 3) := by decide +kernel
theorem dX6_speaks_40 : decode cX6_speaks 40 = .ok (.iload 5, 2) := by decide +kernel
theorem dX6_speaks_42 : decode cX6_speaks 42 = .ok (.iconst 2, 1) := by decide +kernel
theorem dX6_speaks_43 : decode cX6_speaks 43 = .ok (.iadd, 1) := by decide +kernel
theorem dX6_speaks_44 : decode cX6_speaks 44 = .ok (.iload_n 3, 1) := by decide +kernel
theorem dX6_speaks_45 : decode cX6_speaks 45 = .ok (.iastore, 1) := by decide +kernel
theorem dX6_speaks_46 : decode cX6_speaks 46 = .ok (.aload_n 0, 1) := by decide +kernel
theorem dX6_speaks_47 : decode cX6_speaks 47 = .ok (.getfield 8, 3) := by decide +kernel
theorem dX6_speaks_50 : decode cX6_speaks 50 = .ok (.iload 5, 2) := by decide +kernel
theorem dX6_speaks_52 : decode cX6_speaks 52 = .ok (.iconst 3, 1) := by decide +kernel
theorem dX6_speaks_53 : decode cX6_speaks 53 = .ok (.iadd, 1) := by decide +kernel
theorem dX6_speaks_54 : decode cX6_speaks 54 = .ok (.aload_n 0, 1) := by decide +kernel
theorem dX6_speaks_55 : decode cX6_speaks 55 = .ok (.getfield 8, 3) := by decide +kernel
theorem dX6_speaks_58 : decode cX6_speaks 58 = .ok (.iconst 3, 1) := by decide +kernel
theorem dX6_speaks_59 : decode cX6_speaks 59 = .ok (.iaload, 1) := by decide +kernel
theorem dX6_speaks_60 : decode cX6_speaks 60 = .ok (.iastore, 1) := by decide +kernel
theorem dX6_speaks_61 : decode cX6_speaks 61 = .ok (.iconst 0, 1) := by decide +kernel
theorem dX6_speaks_62 : decode cX6_speaks 62 = .ok (.istore 6, 2) := by decide +kernel
theorem dX6_speaks_64 : decode cX6_speaks 64 = .ok (.iload 6, 2) := by decide +kernel
theorem dX6_speaks_66 : decode cX6_speaks 66 = .ok (.bipush 6, 2) := by decide +kernel
theorem dX6_speaks_68 : decode cX6_speaks 68 = .ok (.if_icmp .ge 48, 3) := by decide +kernel
theorem dX6_speaks_71 : decode cX6_speaks 71 = .ok (.aload_n 0, 1) := by decide +kernel
theorem dX6_speaks_72 : decode cX6_speaks 72 = .ok (.iload_n 1, 1) := by decide +kernel
theorem dX6_speaks_73 : decode cX6_speaks 73 = .ok (.iload 6, 2) := by decide +kernel
theorem dX6_speaks_75 : decode cX6_speaks 75 = .ok (.invokevirtual 46, 3) := by decide +kernel
theorem dX6_speaks_78 : decode cX6_speaks 78 = .ok (.istore 7, 2) := by decide +kernel
theorem dX6_speaks_80 : decode cX6_speaks 80 = .ok (.aload_n 0, 1) := by decide +kernel
theorem dX6_speaks_81 : decode cX6_speaks 81 = .ok (.getfield 8, 3) := by decide +kernel
theorem dX6_speaks_84 : decode cX6_speaks 84 = .ok (.iload 5, 2) := by decide +kernel
theorem dX6_speaks_86 : decode cX6_speaks 86 = .ok (.iconst 4, 1) := by decide +kernel
theorem dX6_speaks_87 : decode cX6_speaks 87 = .ok (.iadd, 1) := by decide +kernel
theorem dX6_speaks_88 : decode cX6_speaks 88 = .ok (.iload 6, 2) := by decide +kernel
theorem dX6_speaks_90 : decode cX6_speaks 90 = .ok (.iadd, 1) := by decide +kernel
theorem dX6_speaks_91 : decode cX6_speaks 91 = .ok (.iload 7, 2) := by decide +kernel
theorem dX6_speaks_93 : decode cX6_speaks 93 = .ok (.ifCond .ge 7, 3) := by decide +kernel
theorem dX6_speaks_96 : decode cX6_speaks 96 = .ok (.iconst (-1), 1) := by decide +kernel
theorem dX6_speaks_97 : decode cX6_speaks 97 = .ok (.goto 12, 3) := by decide +kernel
theorem dX6_speaks_100 : decode cX6_speaks 100 = .ok (.aload_n 0, 1) := by decide +kernel
theorem dX6_speaks_101 : decode cX6_speaks 101 = .ok (.getfield 8, 3) := by decide +kernel
theorem dX6_speaks_104 : decode cX6_speaks 104 = .ok (.iconst 3, 1) := by decide +kernel
theorem dX6_speaks_105 : decode cX6_speaks 105 = .ok (.iaload, 1) := by decide +kernel
theorem dX6_speaks_106 : decode cX6_speaks 106 = .ok (.iload 7, 2) := by decide +kernel
theorem dX6_speaks_108 : decode cX6_speaks 108 = .ok (.iadd, 1) := by decide +kernel
theorem dX6_speaks_109 : decode cX6_speaks 109 = .ok (.iastore, 1) := by decide +kernel
theorem dX6_speaks_110 : decode cX6_speaks 110 = .ok (.iinc 6 1, 3) := by decide +kernel
theorem dX6_speaks_113 : decode cX6_speaks 113 = .ok (.goto (-49), 3) := by decide +kernel
theorem dX6_speaks_116 : decode cX6_speaks 116 = .ok (.aload_n 0, 1) := by decide +kernel
theorem dX6_speaks_117 : decode cX6_speaks 117 = .ok (.getfield 8, 3) := by decide +kernel
theorem dX6_speaks_120 : decode cX6_speaks 120 = .ok (.iconst 4, 1) := by decide +kernel
theorem dX6_speaks_121 : decode cX6_speaks 121 = .ok (.dup2, 1) := by decide +kernel
theorem dX6_speaks_122 : decode cX6_speaks 122 = .ok (.iaload, 1) := by decide +kernel
theorem dX6_speaks_123 : decode cX6_speaks 123 = .ok (.iconst 1, 1) := by decide +kernel
theorem dX6_speaks_124 : decode cX6_speaks 124 = .ok (.iadd, 1) := by decide +kernel
theorem dX6_speaks_125 : decode cX6_speaks 125 = .ok (.iastore, 1) := by decide +kernel
theorem dX6_speaks_126 : decode cX6_speaks 126 = .ok (.aload_n 0, 1) := by decide +kernel
theorem dX6_speaks_127 : decode cX6_speaks 127 = .ok (.invokevirtual 49, 3) := by decide +kernel
theorem dX6_speaks_130 : decode cX6_speaks 130 = .ok (.iload 4, 2) := by decide +kernel
theorem dX6_speaks_132 : decode cX6_speaks 132 = .ok (.ireturn, 1) := by decide +kernel
theorem dX6_canSpeak_0 : decode cX6_canSpeak 0 = .ok (.aload_n 0, 1) := by decide +kernel
theorem dX6_canSpeak_1 : decode cX6_canSpeak 1 = .ok (.getfield 8, 3) := by decide +kernel
theorem dX6_canSpeak_4 : decode cX6_canSpeak 4 = .ok (.iconst 4, 1) := by decide +kernel
theorem dX6_canSpeak_5 : decode cX6_canSpeak 5 = .ok (.iaload, 1) := by decide +kernel
theorem dX6_canSpeak_6 : decode cX6_canSpeak 6 = .ok (.sipush 200, 3) := by decide +kernel
theorem dX6_canSpeak_9 : decode cX6_canSpeak 9 = .ok (.if_icmp .ge 19, 3) := by decide +kernel
theorem dX6_canSpeak_12 : decode cX6_canSpeak 12 = .ok (.aload_n 0, 1) := by decide +kernel
theorem dX6_canSpeak_13 : decode cX6_canSpeak 13 = .ok (.getfield 8, 3) := by decide +kernel
theorem dX6_canSpeak_16 : decode cX6_canSpeak 16 = .ok (.iconst 3, 1) := by decide +kernel
theorem dX6_canSpeak_17 : decode cX6_canSpeak 17 = .ok (.iaload, 1) := by decide +kernel
theorem dX6_canSpeak_18 : decode cX6_canSpeak 18 = .ok (.sipush 400, 3) := by decide +kernel
theorem dX6_canSpeak_21 : decode cX6_canSpeak 21 = .ok (.if_icmp .ge 7, 3) := by decide +kernel
theorem dX6_canSpeak_24 : decode cX6_canSpeak 24 = .ok (.iconst 1, 1) := by decide +kernel
theorem dX6_canSpeak_25 : decode cX6_canSpeak 25 = .ok (.goto 4, 3) := by decide +kernel
theorem dX6_canSpeak_28 : decode cX6_canSpeak 28 = .ok (.iconst 0, 1) := by decide +kernel
theorem dX6_canSpeak_29 : decode cX6_canSpeak 29 = .ok (.ireturn, 1) := by decide +kernel
theorem dX6_passes_0 : decode cX6_passes 0 = .ok (.iconst 0, 1) := by decide +kernel
theorem dX6_passes_1 : decode cX6_passes 1 = .ok (.istore_n 2, 1) := by decide +kernel
theorem dX6_passes_2 : decode cX6_passes 2 = .ok (.iload_n 2, 1) := by decide +kernel
theorem dX6_passes_3 : decode cX6_passes 3 = .ok (.iload_n 1, 1) := by decide +kernel
theorem dX6_passes_4 : decode cX6_passes 4 = .ok (.if_icmp .ge 13, 3) := by decide +kernel
theorem dX6_passes_7 : decode cX6_passes 7 = .ok (.aload_n 0, 1) := by decide +kernel
theorem dX6_passes_8 : decode cX6_passes 8 = .ok (.invokevirtual 49, 3) := by decide +kernel
theorem dX6_passes_11 : decode cX6_passes 11 = .ok (.iinc 2 1, 3) := by decide +kernel
theorem dX6_passes_14 : decode cX6_passes 14 = .ok (.goto (-12), 3) := by decide +kernel
theorem dX6_passes_17 : decode cX6_passes 17 = .ok (.return_, 1) := by decide +kernel
theorem dX6_say_0 : decode cX6_say 0 = .ok (.aload_n 0, 1) := by decide +kernel
theorem dX6_say_1 : decode cX6_say 1 = .ok (.iload_n 1, 1) := by decide +kernel
theorem dX6_say_2 : decode cX6_say 2 = .ok (.invokestatic 52, 3) := by decide +kernel
theorem dX6_say_5 : decode cX6_say 5 = .ok (.iload_n 2, 1) := by decide +kernel
theorem dX6_say_6 : decode cX6_say 6 = .ok (.iconst 1, 1) := by decide +kernel
theorem dX6_say_7 : decode cX6_say 7 = .ok (.bipush 99, 2) := by decide +kernel
theorem dX6_say_9 : decode cX6_say 9 = .ok (.invokestatic 32, 3) := by decide +kernel
theorem dX6_say_12 : decode cX6_say 12 = .ok (.ifCond .eq 17, 3) := by decide +kernel
theorem dX6_say_15 : decode cX6_say 15 = .ok (.iload_n 3, 1) := by decide +kernel
theorem dX6_say_16 : decode cX6_say 16 = .ok (.iconst (-1), 1) := by decide +kernel
theorem dX6_say_17 : decode cX6_say 17 = .ok (.bipush 9, 2) := by decide +kernel
theorem dX6_say_19 : decode cX6_say 19 = .ok (.invokestatic 32, 3) := by decide +kernel
theorem dX6_say_22 : decode cX6_say 22 = .ok (.ifCond .eq 7, 3) := by decide +kernel
theorem dX6_say_25 : decode cX6_say 25 = .ok (.iconst 1, 1) := by decide +kernel
theorem dX6_say_26 : decode cX6_say 26 = .ok (.goto 4, 3) := by decide +kernel
theorem dX6_say_29 : decode cX6_say 29 = .ok (.iconst 0, 1) := by decide +kernel
theorem dX6_say_30 : decode cX6_say 30 = .ok (.aload_n 0, 1) := by decide +kernel
theorem dX6_say_31 : decode cX6_say 31 = .ok (.invokevirtual 56, 3) := by decide +kernel
theorem dX6_say_34 : decode cX6_say 34 = .ok (.invokevirtual 60, 3) := by decide +kernel
theorem dX6_say_37 : decode cX6_say 37 = .ok (.ifCond .ne 5, 3) := by decide +kernel
theorem dX6_say_40 : decode cX6_say 40 = .ok (.iconst 0, 1) := by decide +kernel
theorem dX6_say_41 : decode cX6_say 41 = .ok (.ireturn, 1) := by decide +kernel
theorem dX6_say_42 : decode cX6_say 42 = .ok (.aload_n 0, 1) := by decide +kernel
theorem dX6_say_43 : decode cX6_say 43 = .ok (.invokevirtual 64, 3) := by decide +kernel
theorem dX6_say_46 : decode cX6_say 46 = .ok (.aload_n 0, 1) := by decide +kernel
theorem dX6_say_47 : decode cX6_say 47 = .ok (.iload_n 1, 1) := by decide +kernel
theorem dX6_say_48 : decode cX6_say 48 = .ok (.iload_n 2, 1) := by decide +kernel
theorem dX6_say_49 : decode cX6_say 49 = .ok (.iload_n 3, 1) := by decide +kernel
theorem dX6_say_50 : decode cX6_say 50 = .ok (.invokevirtual 67, 3) := by decide +kernel
theorem dX6_say_53 : decode cX6_say 53 = .ok (.ireturn, 1) := by decide +kernel
theorem dX6_pass_0 : decode cX6_pass 0 = .ok (.aload_n 0, 1) := by decide +kernel
theorem dX6_pass_1 : decode cX6_pass 1 = .ok (.iload_n 1, 1) := by decide +kernel
theorem dX6_pass_2 : decode cX6_pass 2 = .ok (.iconst 1, 1) := by decide +kernel
theorem dX6_pass_3 : decode cX6_pass 3 = .ok (.bipush 50, 2) := by decide +kernel
theorem dX6_pass_5 : decode cX6_pass 5 = .ok (.invokestatic 32, 3) := by decide +kernel
theorem dX6_pass_8 : decode cX6_pass 8 = .ok (.iload_n 1, 1) := by decide +kernel
theorem dX6_pass_9 : decode cX6_pass 9 = .ok (.iconst 1, 1) := by decide +kernel
theorem dX6_pass_10 : decode cX6_pass 10 = .ok (.bipush 50, 2) := by decide +kernel
theorem dX6_pass_12 : decode cX6_pass 12 = .ok (.invokestatic 32, 3) := by decide +kernel
theorem dX6_pass_15 : decode cX6_pass 15 = .ok (.ifCond .eq 17, 3) := by decide +kernel
theorem dX6_pass_18 : decode cX6_pass 18 = .ok (.aload_n 0, 1) := by decide +kernel
theorem dX6_pass_19 : decode cX6_pass 19 = .ok (.getfield 8, 3) := by decide +kernel
theorem dX6_pass_22 : decode cX6_pass 22 = .ok (.iconst 3, 1) := by decide +kernel
theorem dX6_pass_23 : decode cX6_pass 23 = .ok (.iaload, 1) := by decide +kernel
theorem dX6_pass_24 : decode cX6_pass 24 = .ok (.iload_n 1, 1) := by decide +kernel
theorem dX6_pass_25 : decode cX6_pass 25 = .ok (.iadd, 1) := by decide +kernel
theorem dX6_pass_26 : decode cX6_pass 26 = .ok (.sipush 400, 3) := by decide +kernel
theorem dX6_pass_29 : decode cX6_pass 29 = .ok (.if_icmp .gt 7, 3) := by decide +kernel
theorem dX6_pass_32 : decode cX6_pass 32 = .ok (.iconst 1, 1) := by decide +kernel
theorem dX6_pass_33 : decode cX6_pass 33 = .ok (.goto 4, 3) := by decide +kernel
theorem dX6_pass_36 : decode cX6_pass 36 = .ok (.iconst 0, 1) := by decide +kernel
theorem dX6_pass_37 : decode cX6_pass 37 = .ok (.iconst 1, 1) := by decide +kernel
theorem dX6_pass_38 : decode cX6_pass 38 = .ok (.invokevirtual 60, 3) := by decide +kernel
theorem dX6_pass_41 : decode cX6_pass 41 = .ok (.ifCond .ne 5, 3) := by decide +kernel
theorem dX6_pass_44 : decode cX6_pass 44 = .ok (.iconst 0, 1) := by decide +kernel
theorem dX6_pass_45 : decode cX6_pass 45 = .ok (.ireturn, 1) := by decide +kernel
theorem dX6_pass_46 : decode cX6_pass 46 = .ok (.aload_n 0, 1) := by decide +kernel
theorem dX6_pass_47 : decode cX6_pass 47 = .ok (.invokevirtual 64, 3) := by decide +kernel
theorem dX6_pass_50 : decode cX6_pass 50 = .ok (.aload_n 0, 1) := by decide +kernel
theorem dX6_pass_51 : decode cX6_pass 51 = .ok (.iload_n 1, 1) := by decide +kernel
theorem dX6_pass_52 : decode cX6_pass 52 = .ok (.invokevirtual 71, 3) := by decide +kernel
theorem dX6_pass_55 : decode cX6_pass 55 = .ok (.aload_n 0, 1) := by decide +kernel
theorem dX6_pass_56 : decode cX6_pass 56 = .ok (.getfield 8, 3) := by decide +kernel
theorem dX6_pass_59 : decode cX6_pass 59 = .ok (.iconst 3, 1) := by decide +kernel
theorem dX6_pass_60 : decode cX6_pass 60 = .ok (.iaload, 1) := by decide +kernel
theorem dX6_pass_61 : decode cX6_pass 61 = .ok (.ireturn, 1) := by decide +kernel
theorem dX6_wall_0 : decode cX6_wall 0 = .ok (.aload_n 0, 1) := by decide +kernel
theorem dX6_wall_1 : decode cX6_wall 1 = .ok (.iload_n 1, 1) := by decide +kernel
theorem dX6_wall_2 : decode cX6_wall 2 = .ok (.invokestatic 52, 3) := by decide +kernel
theorem dX6_wall_5 : decode cX6_wall 5 = .ok (.iload_n 2, 1) := by decide +kernel
theorem dX6_wall_6 : decode cX6_wall 6 = .ok (.iconst 0, 1) := by decide +kernel
theorem dX6_wall_7 : decode cX6_wall 7 = .ok (.iconst 3, 1) := by decide +kernel
theorem dX6_wall_8 : decode cX6_wall 8 = .ok (.invokestatic 32, 3) := by decide +kernel
theorem dX6_wall_11 : decode cX6_wall 11 = .ok (.iconst 1, 1) := by decide +kernel
theorem dX6_wall_12 : decode cX6_wall 12 = .ok (.invokevirtual 60, 3) := by decide +kernel
theorem dX6_wall_15 : decode cX6_wall 15 = .ok (.ifCond .ne 5, 3) := by decide +kernel
theorem dX6_wall_18 : decode cX6_wall 18 = .ok (.iconst 0, 1) := by decide +kernel
theorem dX6_wall_19 : decode cX6_wall 19 = .ok (.ireturn, 1) := by decide +kernel
theorem dX6_wall_20 : decode cX6_wall 20 = .ok (.aload_n 0, 1) := by decide +kernel
theorem dX6_wall_21 : decode cX6_wall 21 = .ok (.invokevirtual 64, 3) := by decide +kernel
theorem dX6_wall_24 : decode cX6_wall 24 = .ok (.aload_n 0, 1) := by decide +kernel
theorem dX6_wall_25 : decode cX6_wall 25 = .ok (.getfield 8, 3) := by decide +kernel
theorem dX6_wall_28 : decode cX6_wall 28 = .ok (.iconst 5, 1) := by decide +kernel
theorem dX6_wall_29 : decode cX6_wall 29 = .ok (.iload_n 1, 1) := by decide +kernel
theorem dX6_wall_30 : decode cX6_wall 30 = .ok (.iadd, 1) := by decide +kernel
theorem dX6_wall_31 : decode cX6_wall 31 = .ok (.iaload, 1) := by decide +kernel
theorem dX6_wall_32 : decode cX6_wall 32 = .ok (.istore_n 3, 1) := by decide +kernel
theorem dX6_wall_33 : decode cX6_wall 33 = .ok (.aload_n 0, 1) := by decide +kernel
theorem dX6_wall_34 : decode cX6_wall 34 = .ok (.getfield 8, 3) := by decide +kernel
theorem dX6_wall_37 : decode cX6_wall 37 = .ok (.iconst 5, 1) := by decide +kernel
theorem dX6_wall_38 : decode cX6_wall 38 = .ok (.iload_n 1, 1) := by decide +kernel
theorem dX6_wall_39 : decode cX6_wall 39 = .ok (.iadd, 1) := by decide +kernel
theorem dX6_wall_40 : decode cX6_wall 40 = .ok (.iload_n 2, 1) := by decide +kernel
theorem dX6_wall_41 : decode cX6_wall 41 = .ok (.iastore, 1) := by decide +kernel
theorem dX6_wall_42 : decode cX6_wall 42 = .ok (.iload_n 3, 1) := by decide +kernel
theorem dX6_wall_43 : decode cX6_wall 43 = .ok (.ireturn, 1) := by decide +kernel
theorem dX6_set_0 : decode cX6_set 0 = .ok (.iload_n 1, 1) := by decide +kernel
theorem dX6_set_1 : decode cX6_set 1 = .ok (.iconst 0, 1) := by decide +kernel
theorem dX6_set_2 : decode cX6_set 2 = .ok (.iconst 2, 1) := by decide +kernel
theorem dX6_set_3 : decode cX6_set 3 = .ok (.invokestatic 32, 3) := by decide +kernel
theorem dX6_set_6 : decode cX6_set 6 = .ok (.istore_n 3, 1) := by decide +kernel
theorem dX6_set_7 : decode cX6_set 7 = .ok (.aload_n 0, 1) := by decide +kernel
theorem dX6_set_8 : decode cX6_set 8 = .ok (.iload_n 3, 1) := by decide +kernel
theorem dX6_set_9 : decode cX6_set 9 = .ok (.iload_n 3, 1) := by decide +kernel
theorem dX6_set_10 : decode cX6_set 10 = .ok (.ifCond .eq 39, 3) := by decide +kernel
theorem dX6_set_13 : decode cX6_set 13 = .ok (.iload_n 2, 1) := by decide +kernel
theorem dX6_set_14 : decode cX6_set 14 = .ok (.iload_n 1, 1) := by decide +kernel
theorem dX6_set_15 : decode cX6_set 15 = .ok (.iconst 2, 1) := by decide +kernel
theorem dX6_set_16 : decode cX6_set 16 = .ok (.if_icmp .ne 7, 3) := by decide +kernel
theorem dX6_set_19 : decode cX6_set 19 = .ok (.iconst 1, 1) := by decide +kernel
theorem dX6_set_20 : decode cX6_set 20 = .ok (.goto 4, 3) := by decide +kernel
theorem dX6_set_23 : decode cX6_set 23 = .ok (.iconst 0, 1) := by decide +kernel
theorem dX6_set_24 : decode cX6_set 24 = .ok (.iload_n 1, 1) := by decide +kernel
theorem dX6_set_25 : decode cX6_set 25 = .ok (.ifCond .ne 7, 3) := by decide +kernel
theorem dX6_set_28 : decode cX6_set 28 = .ok (.iconst 5, 1) := by decide +kernel
theorem dX6_set_29 : decode cX6_set 29 = .ok (.goto 14, 3) := by decide +kernel
theorem dX6_set_32 : decode cX6_set 32 = .ok (.iload_n 1, 1) := by decide +kernel
theorem dX6_set_33 : decode cX6_set 33 = .ok (.iconst 1, 1) := by decide +kernel
theorem dX6_set_34 : decode cX6_set 34 = .ok (.if_icmp .ne 7, 3) := by decide +kernel
theorem dX6_set_37 : decode cX6_set 37 = .ok (.iconst 4, 1) := by decide +kernel
theorem dX6_set_38 : decode cX6_set 38 = .ok (.goto 5, 3) := by decide +kernel
theorem dX6_set_41 : decode cX6_set 41 = .ok (.bipush 50, 2) := by decide +kernel
theorem dX6_set_43 : decode cX6_set 43 = .ok (.invokestatic 32, 3) := by decide +kernel
theorem dX6_set_46 : decode cX6_set 46 = .ok (.ifCond .eq 7, 3) := by decide +kernel
theorem dX6_set_49 : decode cX6_set 49 = .ok (.iconst 1, 1) := by decide +kernel
theorem dX6_set_50 : decode cX6_set 50 = .ok (.goto 4, 3) := by decide +kernel
theorem dX6_set_53 : decode cX6_set 53 = .ok (.iconst 0, 1) := by decide +kernel
theorem dX6_set_54 : decode cX6_set 54 = .ok (.iconst 1, 1) := by decide +kernel
theorem dX6_set_55 : decode cX6_set 55 = .ok (.invokevirtual 60, 3) := by decide +kernel
theorem dX6_set_58 : decode cX6_set 58 = .ok (.ifCond .ne 5, 3) := by decide +kernel
theorem dX6_set_61 : decode cX6_set 61 = .ok (.iconst 0, 1) := by decide +kernel
theorem dX6_set_62 : decode cX6_set 62 = .ok (.ireturn, 1) := by decide +kernel
theorem dX6_set_63 : decode cX6_set 63 = .ok (.aload_n 0, 1) := by decide +kernel
theorem dX6_set_64 : decode cX6_set 64 = .ok (.invokevirtual 64, 3) := by decide +kernel
theorem dX6_set_67 : decode cX6_set 67 = .ok (.aload_n 0, 1) := by decide +kernel
theorem dX6_set_68 : decode cX6_set 68 = .ok (.getfield 8, 3) := by decide +kernel
theorem dX6_set_71 : decode cX6_set 71 = .ok (.iload_n 1, 1) := by decide +kernel
theorem dX6_set_72 : decode cX6_set 72 = .ok (.iaload, 1) := by decide +kernel
theorem dX6_set_73 : decode cX6_set 73 = .ok (.istore 4, 2) := by decide +kernel
theorem dX6_set_75 : decode cX6_set 75 = .ok (.aload_n 0, 1) := by decide +kernel
theorem dX6_set_76 : decode cX6_set 76 = .ok (.getfield 8, 3) := by decide +kernel
theorem dX6_set_79 : decode cX6_set 79 = .ok (.iload_n 1, 1) := by decide +kernel
theorem dX6_set_80 : decode cX6_set 80 = .ok (.iload_n 2, 1) := by decide +kernel
theorem dX6_set_81 : decode cX6_set 81 = .ok (.iastore, 1) := by decide +kernel
theorem dX6_set_82 : decode cX6_set 82 = .ok (.iload 4, 2) := by decide +kernel
theorem dX6_set_84 : decode cX6_set 84 = .ok (.ireturn, 1) := by decide +kernel
theorem dX6_append_0 : decode cX6_append 0 = .ok (.aload_n 0, 1) := by decide +kernel
theorem dX6_append_1 : decode cX6_append 1 = .ok (.iload_n 1, 1) := by decide +kernel
theorem dX6_append_2 : decode cX6_append 2 = .ok (.bipush 33, 2) := by decide +kernel
theorem dX6_append_4 : decode cX6_append 4 = .ok (.bipush 126, 2) := by decide +kernel
theorem dX6_append_6 : decode cX6_append 6 = .ok (.invokestatic 32, 3) := by decide +kernel
theorem dX6_append_9 : decode cX6_append 9 = .ok (.aload_n 0, 1) := by decide +kernel
theorem dX6_append_10 : decode cX6_append 10 = .ok (.getfield 75, 3) := by decide +kernel
theorem dX6_append_13 : decode cX6_append 13 = .ok (.bipush 60, 2) := by decide +kernel
theorem dX6_append_15 : decode cX6_append 15 = .ok (.if_icmp .ge 7, 3) := by decide +kernel
theorem dX6_append_18 : decode cX6_append 18 = .ok (.iconst 1, 1) := by decide +kernel
theorem dX6_append_19 : decode cX6_append 19 = .ok (.goto 4, 3) := by decide +kernel
theorem dX6_append_22 : decode cX6_append 22 = .ok (.iconst 0, 1) := by decide +kernel
theorem dX6_append_23 : decode cX6_append 23 = .ok (.iconst 1, 1) := by decide +kernel
theorem dX6_append_24 : decode cX6_append 24 = .ok (.invokevirtual 60, 3) := by decide +kernel
theorem dX6_append_27 : decode cX6_append 27 = .ok (.ifCond .ne 5, 3) := by decide +kernel
theorem dX6_append_30 : decode cX6_append 30 = .ok (.iconst 0, 1) := by decide +kernel
theorem dX6_append_31 : decode cX6_append 31 = .ok (.ireturn, 1) := by decide +kernel
theorem dX6_append_32 : decode cX6_append 32 = .ok (.aload_n 0, 1) := by decide +kernel
theorem dX6_append_33 : decode cX6_append 33 = .ok (.getfield 14, 3) := by decide +kernel
theorem dX6_append_36 : decode cX6_append 36 = .ok (.aload_n 0, 1) := by decide +kernel
theorem dX6_append_37 : decode cX6_append 37 = .ok (.getfield 75, 3) := by decide +kernel
theorem dX6_append_40 : decode cX6_append 40 = .ok (.iload_n 1, 1) := by decide +kernel
theorem dX6_append_41 : decode cX6_append 41 = .ok (.i2c, 1) := by decide +kernel
theorem dX6_append_42 : decode cX6_append 42 = .ok (.castore, 1) := by decide +kernel
theorem dX6_append_43 : decode cX6_append 43 = .ok (.aload_n 0, 1) := by decide +kernel
theorem dX6_append_44 : decode cX6_append 44 = .ok (.dup, 1) := by decide +kernel
theorem dX6_append_45 : decode cX6_append 45 = .ok (.getfield 75, 3) := by decide +kernel
theorem dX6_append_48 : decode cX6_append 48 = .ok (.iconst 1, 1) := by decide +kernel
theorem dX6_append_49 : decode cX6_append 49 = .ok (.iadd, 1) := by decide +kernel
theorem dX6_append_50 : decode cX6_append 50 = .ok (.putfield 75, 3) := by decide +kernel
theorem dX6_append_53 : decode cX6_append 53 = .ok (.aload_n 0, 1) := by decide +kernel
theorem dX6_append_54 : decode cX6_append 54 = .ok (.getfield 75, 3) := by decide +kernel
theorem dX6_append_57 : decode cX6_append 57 = .ok (.ireturn, 1) := by decide +kernel
theorem dX6_clearBuffer_0 : decode cX6_clearBuffer 0 = .ok (.aload_n 0, 1) := by decide +kernel
theorem dX6_clearBuffer_1 : decode cX6_clearBuffer 1 = .ok (.iconst 0, 1) := by decide +kernel
theorem dX6_clearBuffer_2 : decode cX6_clearBuffer 2 = .ok (.putfield 21, 3) := by decide +kernel
theorem dX6_clearBuffer_5 : decode cX6_clearBuffer 5 = .ok (.aload_n 0, 1) := by decide +kernel
theorem dX6_clearBuffer_6 : decode cX6_clearBuffer 6 = .ok (.getfield 75, 3) := by decide +kernel
theorem dX6_clearBuffer_9 : decode cX6_clearBuffer 9 = .ok (.istore_n 1, 1) := by decide +kernel
theorem dX6_clearBuffer_10 : decode cX6_clearBuffer 10 = .ok (.aload_n 0, 1) := by decide +kernel
theorem dX6_clearBuffer_11 : decode cX6_clearBuffer 11 = .ok (.iconst 0, 1) := by decide +kernel
theorem dX6_clearBuffer_12 : decode cX6_clearBuffer 12 = .ok (.putfield 75, 3) := by decide +kernel
theorem dX6_clearBuffer_15 : decode cX6_clearBuffer 15 = .ok (.iload_n 1, 1) := by decide +kernel
theorem dX6_clearBuffer_16 : decode cX6_clearBuffer 16 = .ok (.ireturn, 1) := by decide +kernel
theorem dX6_isNow_0 : decode cX6_isNow 0 = .ok (.aload_n 0, 1) := by decide +kernel
theorem dX6_isNow_1 : decode cX6_isNow 1 = .ok (.getfield 78, 3) := by decide +kernel
theorem dX6_isNow_4 : decode cX6_isNow 4 = .ok (.ifCond .ne 35, 3) := by decide +kernel
theorem dX6_isNow_7 : decode cX6_isNow 7 = .ok (.aload_n 0, 1) := by decide +kernel
theorem dX6_isNow_8 : decode cX6_isNow 8 = .ok (.getfield 82, 3) := by decide +kernel
theorem dX6_isNow_11 : decode cX6_isNow 11 = .ok (.aload_n 0, 1) := by decide +kernel
theorem dX6_isNow_12 : decode cX6_isNow 12 = .ok (.getfield 75, 3) := by decide +kernel
theorem dX6_isNow_15 : decode cX6_isNow 15 = .ok (.if_icmp .ge 24, 3) := by decide +kernel
theorem dX6_isNow_18 : decode cX6_isNow 18 = .ok (.aload_n 0, 1) := by decide +kernel
theorem dX6_isNow_19 : decode cX6_isNow 19 = .ok (.getfield 14, 3) := by decide +kernel
theorem dX6_isNow_22 : decode cX6_isNow 22 = .ok (.aload_n 0, 1) := by decide +kernel
theorem dX6_isNow_23 : decode cX6_isNow 23 = .ok (.getfield 82, 3) := by decide +kernel
theorem dX6_isNow_26 : decode cX6_isNow 26 = .ok (.caload, 1) := by decide +kernel
theorem dX6_isNow_27 : decode cX6_isNow 27 = .ok (.iload_n 1, 1) := by decide +kernel
theorem dX6_isNow_28 : decode cX6_isNow 28 = .ok (.iload_n 2, 1) := by decide +kernel
theorem dX6_isNow_29 : decode cX6_isNow 29 = .ok (.invokestatic 32, 3) := by decide +kernel
theorem dX6_isNow_32 : decode cX6_isNow 32 = .ok (.ifCond .eq 7, 3) := by decide +kernel
theorem dX6_isNow_35 : decode cX6_isNow 35 = .ok (.iconst 1, 1) := by decide +kernel
theorem dX6_isNow_36 : decode cX6_isNow 36 = .ok (.goto 4, 3) := by decide +kernel
theorem dX6_isNow_39 : decode cX6_isNow 39 = .ok (.iconst 0, 1) := by decide +kernel
theorem dX6_isNow_40 : decode cX6_isNow 40 = .ok (.ireturn, 1) := by decide +kernel
theorem dX6_sign_0 : decode cX6_sign 0 = .ok (.aload_n 0, 1) := by decide +kernel
theorem dX6_sign_1 : decode cX6_sign 1 = .ok (.aload_n 0, 1) := by decide +kernel
theorem dX6_sign_2 : decode cX6_sign 2 = .ok (.getfield 78, 3) := by decide +kernel
theorem dX6_sign_5 : decode cX6_sign 5 = .ok (.ifCond .ne 12, 3) := by decide +kernel
theorem dX6_sign_8 : decode cX6_sign 8 = .ok (.aload_n 0, 1) := by decide +kernel
theorem dX6_sign_9 : decode cX6_sign 9 = .ok (.iload_n 1, 1) := by decide +kernel
theorem dX6_sign_10 : decode cX6_sign 10 = .ok (.iload_n 1, 1) := by decide +kernel
theorem dX6_sign_11 : decode cX6_sign 11 = .ok (.invokevirtual 85, 3) := by decide +kernel
theorem dX6_sign_14 : decode cX6_sign 14 = .ok (.ifCond .ne 7, 3) := by decide +kernel
theorem dX6_sign_17 : decode cX6_sign 17 = .ok (.iconst 1, 1) := by decide +kernel
theorem dX6_sign_18 : decode cX6_sign 18 = .ok (.goto 4, 3) := by decide +kernel
theorem dX6_sign_21 : decode cX6_sign 21 = .ok (.iconst 0, 1) := by decide +kernel
theorem dX6_sign_22 : decode cX6_sign 22 = .ok (.putfield 78, 3) := by decide +kernel
theorem dX6_sign_25 : decode cX6_sign 25 = .ok (.aload_n 0, 1) := by decide +kernel
theorem dX6_sign_26 : decode cX6_sign 26 = .ok (.dup, 1) := by decide +kernel
theorem dX6_sign_27 : decode cX6_sign 27 = .ok (.getfield 82, 3) := by decide +kernel
theorem dX6_sign_30 : decode cX6_sign 30 = .ok (.aload_n 0, 1) := by decide +kernel
theorem dX6_sign_31 : decode cX6_sign 31 = .ok (.getfield 78, 3) := by decide +kernel
theorem dX6_sign_34 : decode cX6_sign 34 = .ok (.ifCond .eq 7, 3) := by decide +kernel
theorem dX6_sign_37 : decode cX6_sign 37 = .ok (.iconst 0, 1) := by decide +kernel
theorem dX6_sign_38 : decode cX6_sign 38 = .ok (.goto 4, 3) := by decide +kernel
theorem dX6_sign_41 : decode cX6_sign 41 = .ok (.iconst 1, 1) := by decide +kernel
theorem dX6_sign_42 : decode cX6_sign 42 = .ok (.iadd, 1) := by decide +kernel
theorem dX6_sign_43 : decode cX6_sign 43 = .ok (.putfield 82, 3) := by decide +kernel
theorem dX6_sign_46 : decode cX6_sign 46 = .ok (.return_, 1) := by decide +kernel
theorem dX6_digit_0 : decode cX6_digit 0 = .ok (.aload_n 0, 1) := by decide +kernel
theorem dX6_digit_1 : decode cX6_digit 1 = .ok (.aload_n 0, 1) := by decide +kernel
theorem dX6_digit_2 : decode cX6_digit 2 = .ok (.getfield 78, 3) := by decide +kernel
theorem dX6_digit_5 : decode cX6_digit 5 = .ok (.ifCond .ne 16, 3) := by decide +kernel
theorem dX6_digit_8 : decode cX6_digit 8 = .ok (.aload_n 0, 1) := by decide +kernel
theorem dX6_digit_9 : decode cX6_digit 9 = .ok (.bipush 48, 2) := by decide +kernel
theorem dX6_digit_11 : decode cX6_digit 11 = .ok (.bipush 48, 2) := by decide +kernel
theorem dX6_digit_13 : decode cX6_digit 13 = .ok (.iload_n 1, 1) := by decide +kernel
theorem dX6_digit_14 : decode cX6_digit 14 = .ok (.iadd, 1) := by decide +kernel
theorem dX6_digit_15 : decode cX6_digit 15 = .ok (.invokevirtual 85, 3) := by decide +kernel
theorem dX6_digit_18 : decode cX6_digit 18 = .ok (.ifCond .ne 7, 3) := by decide +kernel
theorem dX6_digit_21 : decode cX6_digit 21 = .ok (.iconst 1, 1) := by decide +kernel
theorem dX6_digit_22 : decode cX6_digit 22 = .ok (.goto 4, 3) := by decide +kernel
theorem dX6_digit_25 : decode cX6_digit 25 = .ok (.iconst 0, 1) := by decide +kernel
theorem dX6_digit_26 : decode cX6_digit 26 = .ok (.putfield 78, 3) := by decide +kernel
theorem dX6_digit_29 : decode cX6_digit 29 = .ok (.aload_n 0, 1) := by decide +kernel
theorem dX6_digit_30 : decode cX6_digit 30 = .ok (.dup, 1) := by decide +kernel
theorem dX6_digit_31 : decode cX6_digit 31 = .ok (.getfield 82, 3) := by decide +kernel
theorem dX6_digit_34 : decode cX6_digit 34 = .ok (.aload_n 0, 1) := by decide +kernel
theorem dX6_digit_35 : decode cX6_digit 35 = .ok (.getfield 78, 3) := by decide +kernel
theorem dX6_digit_38 : decode cX6_digit 38 = .ok (.ifCond .eq 7, 3) := by decide +kernel
theorem dX6_digit_41 : decode cX6_digit 41 = .ok (.iconst 0, 1) := by decide +kernel
theorem dX6_digit_42 : decode cX6_digit 42 = .ok (.goto 4, 3) := by decide +kernel
theorem dX6_digit_45 : decode cX6_digit 45 = .ok (.iconst 1, 1) := by decide +kernel
theorem dX6_digit_46 : decode cX6_digit 46 = .ok (.iadd, 1) := by decide +kernel
theorem dX6_digit_47 : decode cX6_digit 47 = .ok (.putfield 82, 3) := by decide +kernel
theorem dX6_digit_50 : decode cX6_digit 50 = .ok (.aload_n 0, 1) := by decide +kernel
theorem dX6_digit_51 : decode cX6_digit 51 = .ok (.getfield 78, 3) := by decide +kernel
theorem dX6_digit_54 : decode cX6_digit 54 = .ok (.ifCond .eq 7, 3) := by decide +kernel
theorem dX6_digit_57 : decode cX6_digit 57 = .ok (.iconst 0, 1) := by decide +kernel
theorem dX6_digit_58 : decode cX6_digit 58 = .ok (.goto 17, 3) := by decide +kernel
theorem dX6_digit_61 : decode cX6_digit 61 = .ok (.aload_n 0, 1) := by decide +kernel
theorem dX6_digit_62 : decode cX6_digit 62 = .ok (.getfield 14, 3) := by decide +kernel
theorem dX6_digit_65 : decode cX6_digit 65 = .ok (.aload_n 0, 1) := by decide +kernel
theorem dX6_digit_66 : decode cX6_digit 66 = .ok (.getfield 82, 3) := by decide +kernel
theorem dX6_digit_69 : decode cX6_digit 69 = .ok (.iconst 1, 1) := by decide +kernel
theorem dX6_digit_70 : decode cX6_digit 70 = .ok (.isub, 1) := by decide +kernel
theorem dX6_digit_71 : decode cX6_digit 71 = .ok (.caload, 1) := by decide +kernel
theorem dX6_digit_72 : decode cX6_digit 72 = .ok (.bipush 48, 2) := by decide +kernel
theorem dX6_digit_74 : decode cX6_digit 74 = .ok (.isub, 1) := by decide +kernel
theorem dX6_digit_75 : decode cX6_digit 75 = .ok (.ireturn, 1) := by decide +kernel
theorem dX6_number_0 : decode cX6_number 0 = .ok (.aload_n 0, 1) := by decide +kernel
theorem dX6_number_1 : decode cX6_number 1 = .ok (.aload_n 0, 1) := by decide +kernel
theorem dX6_number_2 : decode cX6_number 2 = .ok (.getfield 78, 3) := by decide +kernel
theorem dX6_number_5 : decode cX6_number 5 = .ok (.ifCond .ne 14, 3) := by decide +kernel
theorem dX6_number_8 : decode cX6_number 8 = .ok (.aload_n 0, 1) := by decide +kernel
theorem dX6_number_9 : decode cX6_number 9 = .ok (.bipush 49, 2) := by decide +kernel
theorem dX6_number_11 : decode cX6_number 11 = .ok (.bipush 57, 2) := by decide +kernel
theorem dX6_number_13 : decode cX6_number 13 = .ok (.invokevirtual 85, 3) := by decide +kernel
theorem dX6_number_16 : decode cX6_number 16 = .ok (.ifCond .ne 7, 3) := by decide +kernel
theorem dX6_number_19 : decode cX6_number 19 = .ok (.iconst 1, 1) := by decide +kernel
theorem dX6_number_20 : decode cX6_number 20 = .ok (.goto 4, 3) := by decide +kernel
theorem dX6_number_23 : decode cX6_number 23 = .ok (.iconst 0, 1) := by decide +kernel
theorem dX6_number_24 : decode cX6_number 24 = .ok (.putfield 78, 3) := by decide +kernel
theorem dX6_number_27 : decode cX6_number 27 = .ok (.aload_n 0, 1) := by decide +kernel
theorem dX6_number_28 : decode cX6_number 28 = .ok (.getfield 78, 3) := by decide +kernel
theorem dX6_number_31 : decode cX6_number 31 = .ok (.ifCond .eq 5, 3) := by decide +kernel
theorem dX6_number_34 : decode cX6_number 34 = .ok (.iconst 0, 1) := by decide +kernel
theorem dX6_number_35 : decode cX6_number 35 = .ok (.ireturn, 1) := by decide +kernel
theorem dX6_number_36 : decode cX6_number 36 = .ok (.aload_n 0, 1) := by decide +kernel
theorem dX6_number_37 : decode cX6_number 37 = .ok (.getfield 14, 3) := by decide +kernel
theorem dX6_number_40 : decode cX6_number 40 = .ok (.aload_n 0, 1) := by decide +kernel
theorem dX6_number_41 : decode cX6_number 41 = .ok (.getfield 82, 3) := by decide +kernel
theorem dX6_number_44 : decode cX6_number 44 = .ok (.caload, 1) := by decide +kernel
theorem dX6_number_45 : decode cX6_number 45 = .ok (.bipush 48, 2) := by decide +kernel
theorem dX6_number_47 : decode cX6_number 47 = .ok (.isub, 1) := by decide +kernel
theorem dX6_number_48 : decode cX6_number 48 = .ok (.istore_n 2, 1) := by decide +kernel
theorem dX6_number_49 : decode cX6_number 49 = .ok (.aload_n 0, 1) := by decide +kernel
theorem dX6_number_50 : decode cX6_number 50 = .ok (.dup, 1) := by decide +kernel
theorem dX6_number_51 : decode cX6_number 51 = .ok (.getfield 82, 3) := by decide +kernel
theorem dX6_number_54 : decode cX6_number 54 = .ok (.iconst 1, 1) := by decide +kernel
theorem dX6_number_55 : decode cX6_number 55 = .ok (.iadd, 1) := by decide +kernel
theorem dX6_number_56 : decode cX6_number 56 = .ok (.putfield 82, 3) := by decide +kernel
theorem dX6_number_59 : decode cX6_number 59 = .ok (.aload_n 0, 1) := by decide +kernel
theorem dX6_number_60 : decode cX6_number 60 = .ok (.bipush 48, 2) := by decide +kernel
theorem dX6_number_62 : decode cX6_number 62 = .ok (.bipush 57, 2) := by decide +kernel
theorem dX6_number_64 : decode cX6_number 64 = .ok (.invokevirtual 85, 3) := by decide +kernel
theorem dX6_number_67 : decode cX6_number 67 = .ok (.ifCond .eq 52, 3) := by decide +kernel
theorem dX6_number_70 : decode cX6_number 70 = .ok (.bipush 10, 2) := by decide +kernel
theorem dX6_number_72 : decode cX6_number 72 = .ok (.iload_n 2, 1) := by decide +kernel
theorem dX6_number_73 : decode cX6_number 73 = .ok (.imul, 1) := by decide +kernel
theorem dX6_number_74 : decode cX6_number 74 = .ok (.aload_n 0, 1) := by decide +kernel
theorem dX6_number_75 : decode cX6_number 75 = .ok (.getfield 14, 3) := by decide +kernel
theorem dX6_number_78 : decode cX6_number 78 = .ok (.aload_n 0, 1) := by decide +kernel
theorem dX6_number_79 : decode cX6_number 79 = .ok (.getfield 82, 3) := by decide +kernel
theorem dX6_number_82 : decode cX6_number 82 = .ok (.caload, 1) := by decide +kernel
theorem dX6_number_83 : decode cX6_number 83 = .ok (.iadd, 1) := by decide +kernel
theorem dX6_number_84 : decode cX6_number 84 = .ok (.bipush 48, 2) := by decide +kernel
theorem dX6_number_86 : decode cX6_number 86 = .ok (.isub, 1) := by decide +kernel
theorem dX6_number_87 : decode cX6_number 87 = .ok (.iload_n 1, 1) := by decide +kernel
theorem dX6_number_88 : decode cX6_number 88 = .ok (.if_icmp .gt 31, 3) := by decide +kernel
theorem dX6_number_91 : decode cX6_number 91 = .ok (.bipush 10, 2) := by decide +kernel
theorem dX6_number_93 : decode cX6_number 93 = .ok (.iload_n 2, 1) := by decide +kernel
theorem dX6_number_94 : decode cX6_number 94 = .ok (.imul, 1) := by decide +kernel
theorem dX6_number_95 : decode cX6_number 95 = .ok (.aload_n 0, 1) := by decide +kernel
theorem dX6_number_96 : decode cX6_number 96 = .ok (.getfield 14, 3) := by decide +kernel
theorem dX6_number_99 : decode cX6_number 99 = .ok (.aload_n 0, 1) := by decide +kernel
theorem dX6_number_100 : decode cX6_number 100 = .ok (.getfield 82, 3) := by decide +kernel
theorem dX6_number_103 : decode cX6_number 103 = .ok (.caload, 1) := by decide +kernel
theorem dX6_number_104 : decode cX6_number 104 = .ok (.iadd, 1) := by decide +kernel
theorem dX6_number_105 : decode cX6_number 105 = .ok (.bipush 48, 2) := by decide +kernel
theorem dX6_number_107 : decode cX6_number 107 = .ok (.isub, 1) := by decide +kernel
theorem dX6_number_108 : decode cX6_number 108 = .ok (.istore_n 2, 1) := by decide +kernel
theorem dX6_number_109 : decode cX6_number 109 = .ok (.aload_n 0, 1) := by decide +kernel
theorem dX6_number_110 : decode cX6_number 110 = .ok (.dup, 1) := by decide +kernel
theorem dX6_number_111 : decode cX6_number 111 = .ok (.getfield 82, 3) := by decide +kernel
theorem dX6_number_114 : decode cX6_number 114 = .ok (.iconst 1, 1) := by decide +kernel
theorem dX6_number_115 : decode cX6_number 115 = .ok (.iadd, 1) := by decide +kernel
theorem dX6_number_116 : decode cX6_number 116 = .ok (.putfield 82, 3) := by decide +kernel
theorem dX6_number_119 : decode cX6_number 119 = .ok (.iload_n 2, 1) := by decide +kernel
theorem dX6_number_120 : decode cX6_number 120 = .ok (.ireturn, 1) := by decide +kernel
theorem dX6_reads_0 : decode cX6_reads 0 = .ok (.aload_n 0, 1) := by decide +kernel
theorem dX6_reads_1 : decode cX6_reads 1 = .ok (.iconst 0, 1) := by decide +kernel
theorem dX6_reads_2 : decode cX6_reads 2 = .ok (.putfield 89, 3) := by decide +kernel
theorem dX6_reads_5 : decode cX6_reads 5 = .ok (.aload_n 0, 1) := by decide +kernel
theorem dX6_reads_6 : decode cX6_reads 6 = .ok (.iconst 0, 1) := by decide +kernel
theorem dX6_reads_7 : decode cX6_reads 7 = .ok (.putfield 92, 3) := by decide +kernel
theorem dX6_reads_10 : decode cX6_reads 10 = .ok (.aload_n 0, 1) := by decide +kernel
theorem dX6_reads_11 : decode cX6_reads 11 = .ok (.iconst (-1), 1) := by decide +kernel
theorem dX6_reads_12 : decode cX6_reads 12 = .ok (.putfield 95, 3) := by decide +kernel
theorem dX6_reads_15 : decode cX6_reads 15 = .ok (.aload_n 0, 1) := by decide +kernel
theorem dX6_reads_16 : decode cX6_reads 16 = .ok (.bipush 46, 2) := by decide +kernel
theorem dX6_reads_18 : decode cX6_reads 18 = .ok (.bipush 46, 2) := by decide +kernel
theorem dX6_reads_20 : decode cX6_reads 20 = .ok (.invokevirtual 85, 3) := by decide +kernel
theorem dX6_reads_23 : decode cX6_reads 23 = .ok (.ifCond .eq 26, 3) := by decide +kernel
theorem dX6_reads_26 : decode cX6_reads 26 = .ok (.aload_n 0, 1) := by decide +kernel
theorem dX6_reads_27 : decode cX6_reads 27 = .ok (.dup, 1) := by decide +kernel
theorem dX6_reads_28 : decode cX6_reads 28 = .ok (.getfield 82, 3) := by decide +kernel
theorem dX6_reads_31 : decode cX6_reads 31 = .ok (.iconst 1, 1) := by decide +kernel
theorem dX6_reads_32 : decode cX6_reads 32 = .ok (.iadd, 1) := by decide +kernel
theorem dX6_reads_33 : decode cX6_reads 33 = .ok (.putfield 82, 3) := by decide +kernel
theorem dX6_reads_36 : decode cX6_reads 36 = .ok (.aload_n 0, 1) := by decide +kernel
theorem dX6_reads_37 : decode cX6_reads 37 = .ok (.aload_n 0, 1) := by decide +kernel
theorem dX6_reads_38 : decode cX6_reads 38 = .ok (.bipush 50, 2) := by decide +kernel
theorem dX6_reads_40 : decode cX6_reads 40 = .ok (.invokevirtual 98, 3) := by decide +kernel
theorem dX6_reads_43 : decode cX6_reads 43 = .ok (.putfield 92, 3) := by decide +kernel
theorem dX6_reads_46 : decode cX6_reads 46 = .ok (.goto 110, 3) := by decide +kernel
theorem dX6_reads_49 : decode cX6_reads 49 = .ok (.aload_n 0, 1) := by decide +kernel
theorem dX6_reads_50 : decode cX6_reads 50 = .ok (.aload_n 0, 1) := by decide +kernel
theorem dX6_reads_51 : decode cX6_reads 51 = .ok (.iconst 5, 1) := by decide +kernel
theorem dX6_reads_52 : decode cX6_reads 52 = .ok (.invokevirtual 102, 3) := by decide +kernel
theorem dX6_reads_55 : decode cX6_reads 55 = .ok (.putfield 105, 3) := by decide +kernel
theorem dX6_reads_58 : decode cX6_reads 58 = .ok (.aload_n 0, 1) := by decide +kernel
theorem dX6_reads_59 : decode cX6_reads 59 = .ok (.bipush 58, 2) := by decide +kernel
theorem dX6_reads_61 : decode cX6_reads 61 = .ok (.invokevirtual 108, 3) := by decide +kernel
theorem dX6_reads_64 : decode cX6_reads 64 = .ok (.iconst 1, 1) := by decide +kernel
theorem dX6_reads_65 : decode cX6_reads 65 = .ok (.istore_n 1, 1) := by decide +kernel
theorem dX6_reads_66 : decode cX6_reads 66 = .ok (.iload_n 1, 1) := by decide +kernel
theorem dX6_reads_67 : decode cX6_reads 67 = .ok (.ifCond .eq 58, 3) := by decide +kernel
theorem dX6_reads_70 : decode cX6_reads 70 = .ok (.aload_n 0, 1) := by decide +kernel
theorem dX6_reads_71 : decode cX6_reads 71 = .ok (.getfield 18, 3) := by decide +kernel
theorem dX6_reads_74 : decode cX6_reads 74 = .ok (.aload_n 0, 1) := by decide +kernel
theorem dX6_reads_75 : decode cX6_reads 75 = .ok (.getfield 89, 3) := by decide +kernel
theorem dX6_reads_78 : decode cX6_reads 78 = .ok (.aload_n 0, 1) := by decide +kernel
theorem dX6_reads_79 : decode cX6_reads 79 = .ok (.bipush 99, 2) := by decide +kernel
theorem dX6_reads_81 : decode cX6_reads 81 = .ok (.invokevirtual 98, 3) := by decide +kernel
theorem dX6_reads_84 : decode cX6_reads 84 = .ok (.iastore, 1) := by decide +kernel
theorem dX6_reads_85 : decode cX6_reads 85 = .ok (.aload_n 0, 1) := by decide +kernel
theorem dX6_reads_86 : decode cX6_reads 86 = .ok (.dup, 1) := by decide +kernel
theorem dX6_reads_87 : decode cX6_reads 87 = .ok (.getfield 89, 3) := by decide +kernel
theorem dX6_reads_90 : decode cX6_reads 90 = .ok (.iconst 1, 1) := by decide +kernel
theorem dX6_reads_91 : decode cX6_reads 91 = .ok (.iadd, 1) := by decide +kernel
theorem dX6_reads_92 : decode cX6_reads 92 = .ok (.putfield 89, 3) := by decide +kernel
theorem dX6_reads_95 : decode cX6_reads 95 = .ok (.aload_n 0, 1) := by decide +kernel
theorem dX6_reads_96 : decode cX6_reads 96 = .ok (.bipush 44, 2) := by decide +kernel
theorem dX6_reads_98 : decode cX6_reads 98 = .ok (.bipush 44, 2) := by decide +kernel
theorem dX6_reads_100 : decode cX6_reads 100 = .ok (.invokevirtual 85, 3) := by decide +kernel
theorem dX6_reads_103 : decode cX6_reads 103 = .ok (.istore_n 1, 1) := by decide +kernel
theorem dX6_reads_104 : decode cX6_reads 104 = .ok (.aload_n 0, 1) := by decide +kernel
theorem dX6_reads_105 : decode cX6_reads 105 = .ok (.dup, 1) := by decide +kernel
theorem dX6_reads_106 : decode cX6_reads 106 = .ok (.getfield 82, 3) := by decide +kernel
theorem dX6_reads_109 : decode cX6_reads 109 = .ok (.iload_n 1, 1) := by decide +kernel
theorem dX6_reads_110 : decode cX6_reads 110 = .ok (.ifCond .eq 7, 3) := by decide +kernel
theorem dX6_reads_113 : decode cX6_reads 113 = .ok (.iconst 1, 1) := by decide +kernel
theorem dX6_reads_114 : decode cX6_reads 114 = .ok (.goto 4, 3) := by decide +kernel
theorem dX6_reads_117 : decode cX6_reads 117 = .ok (.iconst 0, 1) := by decide +kernel
theorem dX6_reads_118 : decode cX6_reads 118 = .ok (.iadd, 1) := by decide +kernel
theorem dX6_reads_119 : decode cX6_reads 119 = .ok (.putfield 82, 3) := by decide +kernel
theorem dX6_reads_122 : decode cX6_reads 122 = .ok (.goto (-56), 3) := by decide +kernel
theorem dX6_reads_125 : decode cX6_reads 125 = .ok (.aload_n 0, 1) := by decide +kernel
theorem dX6_reads_126 : decode cX6_reads 126 = .ok (.bipush 35, 2) := by decide +kernel
theorem dX6_reads_128 : decode cX6_reads 128 = .ok (.bipush 35, 2) := by decide +kernel
theorem dX6_reads_130 : decode cX6_reads 130 = .ok (.invokevirtual 85, 3) := by decide +kernel
theorem dX6_reads_133 : decode cX6_reads 133 = .ok (.ifCond .eq 23, 3) := by decide +kernel
theorem dX6_reads_136 : decode cX6_reads 136 = .ok (.aload_n 0, 1) := by decide +kernel
theorem dX6_reads_137 : decode cX6_reads 137 = .ok (.dup, 1) := by decide +kernel
theorem dX6_reads_138 : decode cX6_reads 138 = .ok (.getfield 82, 3) := by decide +kernel
theorem dX6_reads_141 : decode cX6_reads 141 = .ok (.iconst 1, 1) := by decide +kernel
theorem dX6_reads_142 : decode cX6_reads 142 = .ok (.iadd, 1) := by decide +kernel
theorem dX6_reads_143 : decode cX6_reads 143 = .ok (.putfield 82, 3) := by decide +kernel
theorem dX6_reads_146 : decode cX6_reads 146 = .ok (.aload_n 0, 1) := by decide +kernel
theorem dX6_reads_147 : decode cX6_reads 147 = .ok (.aload_n 0, 1) := by decide +kernel
theorem dX6_reads_148 : decode cX6_reads 148 = .ok (.bipush 9, 2) := by decide +kernel
theorem dX6_reads_150 : decode cX6_reads 150 = .ok (.invokevirtual 102, 3) := by decide +kernel
theorem dX6_reads_153 : decode cX6_reads 153 = .ok (.putfield 95, 3) := by decide +kernel
theorem dX6_reads_156 : decode cX6_reads 156 = .ok (.return_, 1) := by decide +kernel
theorem dX6_readsAll_0 : decode cX6_readsAll 0 = .ok (.aload_n 0, 1) := by decide +kernel
theorem dX6_readsAll_1 : decode cX6_readsAll 1 = .ok (.iconst 0, 1) := by decide +kernel
theorem dX6_readsAll_2 : decode cX6_readsAll 2 = .ok (.putfield 82, 3) := by decide +kernel
theorem dX6_readsAll_5 : decode cX6_readsAll 5 = .ok (.aload_n 0, 1) := by decide +kernel
theorem dX6_readsAll_6 : decode cX6_readsAll 6 = .ok (.iconst 0, 1) := by decide +kernel
theorem dX6_readsAll_7 : decode cX6_readsAll 7 = .ok (.putfield 78, 3) := by decide +kernel
theorem dX6_readsAll_10 : decode cX6_readsAll 10 = .ok (.iconst 1, 1) := by decide +kernel
theorem dX6_readsAll_11 : decode cX6_readsAll 11 = .ok (.istore_n 1, 1) := by decide +kernel
theorem dX6_readsAll_12 : decode cX6_readsAll 12 = .ok (.iload_n 1, 1) := by decide +kernel
theorem dX6_readsAll_13 : decode cX6_readsAll 13 = .ok (.ifCond .eq 37, 3) := by decide +kernel
theorem dX6_readsAll_16 : decode cX6_readsAll 16 = .ok (.aload_n 0, 1) := by decide +kernel
theorem dX6_readsAll_17 : decode cX6_readsAll 17 = .ok (.invokevirtual 111, 3) := by decide +kernel
theorem dX6_readsAll_20 : decode cX6_readsAll 20 = .ok (.aload_n 0, 1) := by decide +kernel
theorem dX6_readsAll_21 : decode cX6_readsAll 21 = .ok (.bipush 59, 2) := by decide +kernel
theorem dX6_readsAll_23 : decode cX6_readsAll 23 = .ok (.bipush 59, 2) := by decide +kernel
theorem dX6_readsAll_25 : decode cX6_readsAll 25 = .ok (.invokevirtual 85, 3) := by decide +kernel
theorem dX6_readsAll_28 : decode cX6_readsAll 28 = .ok (.istore_n 1, 1) := by decide +kernel
theorem dX6_readsAll_29 : decode cX6_readsAll 29 = .ok (.aload_n 0, 1) := by decide +kernel
theorem dX6_readsAll_30 : decode cX6_readsAll 30 = .ok (.dup, 1) := by decide +kernel
theorem dX6_readsAll_31 : decode cX6_readsAll 31 = .ok (.getfield 82, 3) := by decide +kernel
theorem dX6_readsAll_34 : decode cX6_readsAll 34 = .ok (.iload_n 1, 1) := by decide +kernel
theorem dX6_readsAll_35 : decode cX6_readsAll 35 = .ok (.ifCond .eq 7, 3) := by decide +kernel
theorem dX6_readsAll_38 : decode cX6_readsAll 38 = .ok (.iconst 1, 1) := by decide +kernel
theorem dX6_readsAll_39 : decode cX6_readsAll 39 = .ok (.goto 4, 3) := by decide +kernel
theorem dX6_readsAll_42 : decode cX6_readsAll 42 = .ok (.iconst 0, 1) := by decide +kernel
theorem dX6_readsAll_43 : decode cX6_readsAll 43 = .ok (.iadd, 1) := by decide +kernel
theorem dX6_readsAll_44 : decode cX6_readsAll 44 = .ok (.putfield 82, 3) := by decide +kernel
theorem dX6_readsAll_47 : decode cX6_readsAll 47 = .ok (.goto (-35), 3) := by decide +kernel
theorem dX6_readsAll_50 : decode cX6_readsAll 50 = .ok (.aload_n 0, 1) := by decide +kernel
theorem dX6_readsAll_51 : decode cX6_readsAll 51 = .ok (.aload_n 0, 1) := by decide +kernel
theorem dX6_readsAll_52 : decode cX6_readsAll 52 = .ok (.getfield 78, 3) := by decide +kernel
theorem dX6_readsAll_55 : decode cX6_readsAll 55 = .ok (.ifCond .ne 14, 3) := by decide +kernel
theorem dX6_readsAll_58 : decode cX6_readsAll 58 = .ok (.aload_n 0, 1) := by decide +kernel
theorem dX6_readsAll_59 : decode cX6_readsAll 59 = .ok (.getfield 82, 3) := by decide +kernel
theorem dX6_readsAll_62 : decode cX6_readsAll 62 = .ok (.aload_n 0, 1) := by decide +kernel
theorem dX6_readsAll_63 : decode cX6_readsAll 63 = .ok (.getfield 75, 3) := by decide +kernel
theorem dX6_readsAll_66 : decode cX6_readsAll 66 = .ok (.if_icmp .ge 7, 3) := by decide +kernel
theorem dX6_readsAll_69 : decode cX6_readsAll 69 = .ok (.iconst 1, 1) := by decide +kernel
theorem dX6_readsAll_70 : decode cX6_readsAll 70 = .ok (.goto 4, 3) := by decide +kernel
theorem dX6_readsAll_73 : decode cX6_readsAll 73 = .ok (.iconst 0, 1) := by decide +kernel
theorem dX6_readsAll_74 : decode cX6_readsAll 74 = .ok (.putfield 78, 3) := by decide +kernel
theorem dX6_readsAll_77 : decode cX6_readsAll 77 = .ok (.return_, 1) := by decide +kernel
theorem dX6_firstError_0 : decode cX6_firstError 0 = .ok (.aload_n 0, 1) := by decide +kernel
theorem dX6_firstError_1 : decode cX6_firstError 1 = .ok (.iconst 0, 1) := by decide +kernel
theorem dX6_firstError_2 : decode cX6_firstError 2 = .ok (.putfield 21, 3) := by decide +kernel
theorem dX6_firstError_5 : decode cX6_firstError 5 = .ok (.aload_n 0, 1) := by decide +kernel
theorem dX6_firstError_6 : decode cX6_firstError 6 = .ok (.invokevirtual 114, 3) := by decide +kernel
theorem dX6_firstError_9 : decode cX6_firstError 9 = .ok (.aload_n 0, 1) := by decide +kernel
theorem dX6_firstError_10 : decode cX6_firstError 10 = .ok (.getfield 78, 3) := by decide +kernel
theorem dX6_firstError_13 : decode cX6_firstError 13 = .ok (.ifCond .eq 10, 3) := by decide +kernel
theorem dX6_firstError_16 : decode cX6_firstError 16 = .ok (.aload_n 0, 1) := by decide +kernel
theorem dX6_firstError_17 : decode cX6_firstError 17 = .ok (.getfield 82, 3) := by decide +kernel
theorem dX6_firstError_20 : decode cX6_firstError 20 = .ok (.goto 7, 3) := by decide +kernel
theorem dX6_firstError_23 : decode cX6_firstError 23 = .ok (.aload_n 0, 1) := by decide +kernel
theorem dX6_firstError_24 : decode cX6_firstError 24 = .ok (.getfield 75, 3) := by decide +kernel
theorem dX6_firstError_27 : decode cX6_firstError 27 = .ok (.ireturn, 1) := by decide +kernel
theorem dX6_talk_0 : decode cX6_talk 0 = .ok (.aload_n 0, 1) := by decide +kernel
theorem dX6_talk_1 : decode cX6_talk 1 = .ok (.invokevirtual 114, 3) := by decide +kernel
theorem dX6_talk_4 : decode cX6_talk 4 = .ok (.aload_n 0, 1) := by decide +kernel
theorem dX6_talk_5 : decode cX6_talk 5 = .ok (.aload_n 0, 1) := by decide +kernel
theorem dX6_talk_6 : decode cX6_talk 6 = .ok (.getfield 78, 3) := by decide +kernel
theorem dX6_talk_9 : decode cX6_talk 9 = .ok (.ifCond .ne 7, 3) := by decide +kernel
theorem dX6_talk_12 : decode cX6_talk 12 = .ok (.iconst 1, 1) := by decide +kernel
theorem dX6_talk_13 : decode cX6_talk 13 = .ok (.goto 4, 3) := by decide +kernel
theorem dX6_talk_16 : decode cX6_talk 16 = .ok (.iconst 0, 1) := by decide +kernel
theorem dX6_talk_17 : decode cX6_talk 17 = .ok (.iconst 1, 1) := by decide +kernel
theorem dX6_talk_18 : decode cX6_talk 18 = .ok (.iconst 1, 1) := by decide +kernel
theorem dX6_talk_19 : decode cX6_talk 19 = .ok (.invokevirtual 60, 3) := by decide +kernel
theorem dX6_talk_22 : decode cX6_talk 22 = .ok (.ifCond .ne 5, 3) := by decide +kernel
theorem dX6_talk_25 : decode cX6_talk 25 = .ok (.iconst 0, 1) := by decide +kernel
theorem dX6_talk_26 : decode cX6_talk 26 = .ok (.ireturn, 1) := by decide +kernel
theorem dX6_talk_27 : decode cX6_talk 27 = .ok (.aload_n 0, 1) := by decide +kernel
theorem dX6_talk_28 : decode cX6_talk 28 = .ok (.invokevirtual 64, 3) := by decide +kernel
theorem dX6_talk_31 : decode cX6_talk 31 = .ok (.aload_n 0, 1) := by decide +kernel
theorem dX6_talk_32 : decode cX6_talk 32 = .ok (.iconst 0, 1) := by decide +kernel
theorem dX6_talk_33 : decode cX6_talk 33 = .ok (.putfield 82, 3) := by decide +kernel
theorem dX6_talk_36 : decode cX6_talk 36 = .ok (.iconst 0, 1) := by decide +kernel
theorem dX6_talk_37 : decode cX6_talk 37 = .ok (.istore_n 1, 1) := by decide +kernel
theorem dX6_talk_38 : decode cX6_talk 38 = .ok (.iconst 1, 1) := by decide +kernel
theorem dX6_talk_39 : decode cX6_talk 39 = .ok (.istore_n 2, 1) := by decide +kernel
theorem dX6_talk_40 : decode cX6_talk 40 = .ok (.iload_n 2, 1) := by decide +kernel
theorem dX6_talk_41 : decode cX6_talk 41 = .ok (.ifCond .eq 138, 3) := by decide +kernel
theorem dX6_talk_44 : decode cX6_talk 44 = .ok (.aload_n 0, 1) := by decide +kernel
theorem dX6_talk_45 : decode cX6_talk 45 = .ok (.invokevirtual 111, 3) := by decide +kernel
theorem dX6_talk_48 : decode cX6_talk 48 = .ok (.aload_n 0, 1) := by decide +kernel
theorem dX6_talk_49 : decode cX6_talk 49 = .ok (.getfield 89, 3) := by decide +kernel
theorem dX6_talk_52 : decode cX6_talk 52 = .ok (.ifCond .ne 42, 3) := by decide +kernel
theorem dX6_talk_55 : decode cX6_talk 55 = .ok (.aload_n 0, 1) := by decide +kernel
theorem dX6_talk_56 : decode cX6_talk 56 = .ok (.getfield 8, 3) := by decide +kernel
theorem dX6_talk_59 : decode cX6_talk 59 = .ok (.iconst 3, 1) := by decide +kernel
theorem dX6_talk_60 : decode cX6_talk 60 = .ok (.iaload, 1) := by decide +kernel
theorem dX6_talk_61 : decode cX6_talk 61 = .ok (.aload_n 0, 1) := by decide +kernel
theorem dX6_talk_62 : decode cX6_talk 62 = .ok (.getfield 92, 3) := by decide +kernel
theorem dX6_talk_65 : decode cX6_talk 65 = .ok (.iadd, 1) := by decide +kernel
theorem dX6_talk_66 : decode cX6_talk 66 = .ok (.sipush 400, 3) := by decide +kernel
theorem dX6_talk_69 : decode cX6_talk 69 = .ok (.if_icmp .gt 7, 3) := by decide +kernel
theorem dX6_talk_72 : decode cX6_talk 72 = .ok (.iconst 1, 1) := by decide +kernel
theorem dX6_talk_73 : decode cX6_talk 73 = .ok (.goto 4, 3) := by decide +kernel
theorem dX6_talk_76 : decode cX6_talk 76 = .ok (.iconst 0, 1) := by decide +kernel
theorem dX6_talk_77 : decode cX6_talk 77 = .ok (.istore_n 2, 1) := by decide +kernel
theorem dX6_talk_78 : decode cX6_talk 78 = .ok (.aload_n 0, 1) := by decide +kernel
theorem dX6_talk_79 : decode cX6_talk 79 = .ok (.iload_n 2, 1) := by decide +kernel
theorem dX6_talk_80 : decode cX6_talk 80 = .ok (.ifCond .eq 10, 3) := by decide +kernel
theorem dX6_talk_83 : decode cX6_talk 83 = .ok (.aload_n 0, 1) := by decide +kernel
theorem dX6_talk_84 : decode cX6_talk 84 = .ok (.getfield 92, 3) := by decide +kernel
theorem dX6_talk_87 : decode cX6_talk 87 = .ok (.goto 4, 3) := by decide +kernel
theorem dX6_talk_90 : decode cX6_talk 90 = .ok (.iconst 0, 1) := by decide +kernel
theorem dX6_talk_91 : decode cX6_talk 91 = .ok (.invokevirtual 71, 3) := by decide +kernel
theorem dX6_talk_94 : decode cX6_talk 94 = .ok (.iconst 0, 1) := by decide +kernel
theorem dX6_talk_95 : decode cX6_talk 95 = .ok (.istore_n 3, 1) := by decide +kernel
theorem dX6_talk_96 : decode cX6_talk 96 = .ok (.iload_n 3, 1) := by decide +kernel
theorem dX6_talk_97 : decode cX6_talk 97 = .ok (.aload_n 0, 1) := by decide +kernel
theorem dX6_talk_98 : decode cX6_talk 98 = .ok (.getfield 89, 3) := by decide +kernel
theorem dX6_talk_101 : decode cX6_talk 101 = .ok (.if_icmp .ge 44, 3) := by decide +kernel
theorem dX6_talk_104 : decode cX6_talk 104 = .ok (.iload_n 2, 1) := by decide +kernel
theorem dX6_talk_105 : decode cX6_talk 105 = .ok (.ifCond .eq 40, 3) := by decide +kernel
theorem dX6_talk_108 : decode cX6_talk 108 = .ok (.aload_n 0, 1) := by decide +kernel
theorem dX6_talk_109 : decode cX6_talk 109 = .ok (.invokevirtual 56, 3) := by decide +kernel
theorem dX6_talk_112 : decode cX6_talk 112 = .ok (.istore_n 2, 1) := by decide +kernel
theorem dX6_talk_113 : decode cX6_talk 113 = .ok (.iload_n 2, 1) := by decide +kernel
theorem dX6_talk_114 : decode cX6_talk 114 = .ok (.ifCond .eq 25, 3) := by decide +kernel
theorem dX6_talk_117 : decode cX6_talk 117 = .ok (.aload_n 0, 1) := by decide +kernel
theorem dX6_talk_118 : decode cX6_talk 118 = .ok (.aload_n 0, 1) := by decide +kernel
theorem dX6_talk_119 : decode cX6_talk 119 = .ok (.getfield 105, 3) := by decide +kernel
theorem dX6_talk_122 : decode cX6_talk 122 = .ok (.aload_n 0, 1) := by decide +kernel
theorem dX6_talk_123 : decode cX6_talk 123 = .ok (.getfield 18, 3) := by decide +kernel
theorem dX6_talk_126 : decode cX6_talk 126 = .ok (.iload_n 3, 1) := by decide +kernel
theorem dX6_talk_127 : decode cX6_talk 127 = .ok (.iaload, 1) := by decide +kernel
theorem dX6_talk_128 : decode cX6_talk 128 = .ok (.aload_n 0, 1) := by decide +kernel
theorem dX6_talk_129 : decode cX6_talk 129 = .ok (.getfield 95, 3) := by decide +kernel
theorem dX6_talk_132 : decode cX6_talk 132 = .ok (.invokevirtual 67, 3) := by decide +kernel
theorem dX6_talk_135 : decode cX6_talk 135 = .ok (.pop, 1) := by decide +kernel
theorem dX6_talk_136 : decode cX6_talk 136 = .ok (.iinc 1 1, 3) := by decide +kernel
theorem dX6_talk_139 : decode cX6_talk 139 = .ok (.iinc 3 1, 3) := by decide +kernel
theorem dX6_talk_142 : decode cX6_talk 142 = .ok (.goto (-46), 3) := by decide +kernel
theorem dX6_talk_145 : decode cX6_talk 145 = .ok (.iload_n 2, 1) := by decide +kernel
theorem dX6_talk_146 : decode cX6_talk 146 = .ok (.ifCond .eq 18, 3) := by decide +kernel
theorem dX6_talk_149 : decode cX6_talk 149 = .ok (.aload_n 0, 1) := by decide +kernel
theorem dX6_talk_150 : decode cX6_talk 150 = .ok (.getfield 82, 3) := by decide +kernel
theorem dX6_talk_153 : decode cX6_talk 153 = .ok (.aload_n 0, 1) := by decide +kernel
theorem dX6_talk_154 : decode cX6_talk 154 = .ok (.getfield 75, 3) := by decide +kernel
theorem dX6_talk_157 : decode cX6_talk 157 = .ok (.if_icmp .ge 7, 3) := by decide +kernel
theorem dX6_talk_160 : decode cX6_talk 160 = .ok (.iconst 1, 1) := by decide +kernel
theorem dX6_talk_161 : decode cX6_talk 161 = .ok (.goto 4, 3) := by decide +kernel
theorem dX6_talk_164 : decode cX6_talk 164 = .ok (.iconst 0, 1) := by decide +kernel
theorem dX6_talk_165 : decode cX6_talk 165 = .ok (.istore_n 2, 1) := by decide +kernel
theorem dX6_talk_166 : decode cX6_talk 166 = .ok (.aload_n 0, 1) := by decide +kernel
theorem dX6_talk_167 : decode cX6_talk 167 = .ok (.dup, 1) := by decide +kernel
theorem dX6_talk_168 : decode cX6_talk 168 = .ok (.getfield 82, 3) := by decide +kernel
theorem dX6_talk_171 : decode cX6_talk 171 = .ok (.iconst 1, 1) := by decide +kernel
theorem dX6_talk_172 : decode cX6_talk 172 = .ok (.iadd, 1) := by decide +kernel
theorem dX6_talk_173 : decode cX6_talk 173 = .ok (.putfield 82, 3) := by decide +kernel
theorem dX6_talk_176 : decode cX6_talk 176 = .ok (.goto (-136), 3) := by decide +kernel
theorem dX6_talk_179 : decode cX6_talk 179 = .ok (.aload_n 0, 1) := by decide +kernel
theorem dX6_talk_180 : decode cX6_talk 180 = .ok (.iconst 0, 1) := by decide +kernel
theorem dX6_talk_181 : decode cX6_talk 181 = .ok (.putfield 75, 3) := by decide +kernel
theorem dX6_talk_184 : decode cX6_talk 184 = .ok (.iload_n 1, 1) := by decide +kernel
theorem dX6_talk_185 : decode cX6_talk 185 = .ok (.ireturn, 1) := by decide +kernel
theorem dX6_undo_0 : decode cX6_undo 0 = .ok (.aload_n 0, 1) := by decide +kernel
theorem dX6_undo_1 : decode cX6_undo 1 = .ok (.aload_n 0, 1) := by decide +kernel
theorem dX6_undo_2 : decode cX6_undo 2 = .ok (.getfield 25, 3) := by decide +kernel
theorem dX6_undo_5 : decode cX6_undo 5 = .ok (.ifCond .le 7, 3) := by decide +kernel
theorem dX6_undo_8 : decode cX6_undo 8 = .ok (.iconst 1, 1) := by decide +kernel
theorem dX6_undo_9 : decode cX6_undo 9 = .ok (.goto 4, 3) := by decide +kernel
theorem dX6_undo_12 : decode cX6_undo 12 = .ok (.iconst 0, 1) := by decide +kernel
theorem dX6_undo_13 : decode cX6_undo 13 = .ok (.iconst 1, 1) := by decide +kernel
theorem dX6_undo_14 : decode cX6_undo 14 = .ok (.iconst 1, 1) := by decide +kernel
theorem dX6_undo_15 : decode cX6_undo 15 = .ok (.invokevirtual 60, 3) := by decide +kernel
theorem dX6_undo_18 : decode cX6_undo 18 = .ok (.ifCond .ne 5, 3) := by decide +kernel
theorem dX6_undo_21 : decode cX6_undo 21 = .ok (.iconst 0, 1) := by decide +kernel
theorem dX6_undo_22 : decode cX6_undo 22 = .ok (.ireturn, 1) := by decide +kernel
theorem dX6_undo_23 : decode cX6_undo 23 = .ok (.aload_n 0, 1) := by decide +kernel
theorem dX6_undo_24 : decode cX6_undo 24 = .ok (.aload_n 0, 1) := by decide +kernel
theorem dX6_undo_25 : decode cX6_undo 25 = .ok (.getfield 25, 3) := by decide +kernel
theorem dX6_undo_28 : decode cX6_undo 28 = .ok (.iconst 0, 1) := by decide +kernel
theorem dX6_undo_29 : decode cX6_undo 29 = .ok (.invokevirtual 28, 3) := by decide +kernel
theorem dX6_undo_32 : decode cX6_undo 32 = .ok (.aload_n 0, 1) := by decide +kernel
theorem dX6_undo_33 : decode cX6_undo 33 = .ok (.dup, 1) := by decide +kernel
theorem dX6_undo_34 : decode cX6_undo 34 = .ok (.getfield 25, 3) := by decide +kernel
theorem dX6_undo_37 : decode cX6_undo 37 = .ok (.iconst 1, 1) := by decide +kernel
theorem dX6_undo_38 : decode cX6_undo 38 = .ok (.isub, 1) := by decide +kernel
theorem dX6_undo_39 : decode cX6_undo 39 = .ok (.putfield 25, 3) := by decide +kernel
theorem dX6_undo_42 : decode cX6_undo 42 = .ok (.aload_n 0, 1) := by decide +kernel
theorem dX6_undo_43 : decode cX6_undo 43 = .ok (.getfield 25, 3) := by decide +kernel
theorem dX6_undo_46 : decode cX6_undo 46 = .ok (.ireturn, 1) := by decide +kernel
theorem dX6_keep_0 : decode cX6_keep 0 = .ok (.aload_n 0, 1) := by decide +kernel
theorem dX6_keep_1 : decode cX6_keep 1 = .ok (.iconst 0, 1) := by decide +kernel
theorem dX6_keep_2 : decode cX6_keep 2 = .ok (.putfield 21, 3) := by decide +kernel
theorem dX6_keep_5 : decode cX6_keep 5 = .ok (.aload_n 0, 1) := by decide +kernel
theorem dX6_keep_6 : decode cX6_keep 6 = .ok (.iconst 0, 1) := by decide +kernel
theorem dX6_keep_7 : decode cX6_keep 7 = .ok (.bipush 7, 2) := by decide +kernel
theorem dX6_keep_9 : decode cX6_keep 9 = .ok (.invokevirtual 28, 3) := by decide +kernel
theorem dX6_keep_12 : decode cX6_keep 12 = .ok (.aload_n 0, 1) := by decide +kernel
theorem dX6_keep_13 : decode cX6_keep 13 = .ok (.iconst 1, 1) := by decide +kernel
theorem dX6_keep_14 : decode cX6_keep 14 = .ok (.putfield 117, 3) := by decide +kernel
theorem dX6_keep_17 : decode cX6_keep 17 = .ok (.aload_n 0, 1) := by decide +kernel
theorem dX6_keep_18 : decode cX6_keep 18 = .ok (.getfield 8, 3) := by decide +kernel
theorem dX6_keep_21 : decode cX6_keep 21 = .ok (.iconst 3, 1) := by decide +kernel
theorem dX6_keep_22 : decode cX6_keep 22 = .ok (.iaload, 1) := by decide +kernel
theorem dX6_keep_23 : decode cX6_keep 23 = .ok (.ireturn, 1) := by decide +kernel
theorem dX6_restore_0 : decode cX6_restore 0 = .ok (.aload_n 0, 1) := by decide +kernel
theorem dX6_restore_1 : decode cX6_restore 1 = .ok (.aload_n 0, 1) := by decide +kernel
theorem dX6_restore_2 : decode cX6_restore 2 = .ok (.getfield 117, 3) := by decide +kernel
theorem dX6_restore_5 : decode cX6_restore 5 = .ok (.iconst 1, 1) := by decide +kernel
theorem dX6_restore_6 : decode cX6_restore 6 = .ok (.iconst 1, 1) := by decide +kernel
theorem dX6_restore_7 : decode cX6_restore 7 = .ok (.invokevirtual 60, 3) := by decide +kernel
theorem dX6_restore_10 : decode cX6_restore 10 = .ok (.ifCond .ne 5, 3) := by decide +kernel
theorem dX6_restore_13 : decode cX6_restore 13 = .ok (.iconst 0, 1) := by decide +kernel
theorem dX6_restore_14 : decode cX6_restore 14 = .ok (.ireturn, 1) := by decide +kernel
theorem dX6_restore_15 : decode cX6_restore 15 = .ok (.aload_n 0, 1) := by decide +kernel
theorem dX6_restore_16 : decode cX6_restore 16 = .ok (.invokevirtual 64, 3) := by decide +kernel
theorem dX6_restore_19 : decode cX6_restore 19 = .ok (.aload_n 0, 1) := by decide +kernel
theorem dX6_restore_20 : decode cX6_restore 20 = .ok (.bipush 7, 2) := by decide +kernel
theorem dX6_restore_22 : decode cX6_restore 22 = .ok (.iconst 0, 1) := by decide +kernel
theorem dX6_restore_23 : decode cX6_restore 23 = .ok (.invokevirtual 28, 3) := by decide +kernel
theorem dX6_restore_26 : decode cX6_restore 26 = .ok (.aload_n 0, 1) := by decide +kernel
theorem dX6_restore_27 : decode cX6_restore 27 = .ok (.getfield 8, 3) := by decide +kernel
theorem dX6_restore_30 : decode cX6_restore 30 = .ok (.iconst 3, 1) := by decide +kernel
theorem dX6_restore_31 : decode cX6_restore 31 = .ok (.iaload, 1) := by decide +kernel
theorem dX6_restore_32 : decode cX6_restore 32 = .ok (.ireturn, 1) := by decide +kernel
theorem dX6_heardAt_0 : decode cX6_heardAt 0 = .ok (.iload_n 2, 1) := by decide +kernel
theorem dX6_heardAt_1 : decode cX6_heardAt 1 = .ok (.iconst 0, 1) := by decide +kernel
theorem dX6_heardAt_2 : decode cX6_heardAt 2 = .ok (.aload_n 0, 1) := by decide +kernel
theorem dX6_heardAt_3 : decode cX6_heardAt 3 = .ok (.getfield 8, 3) := by decide +kernel
theorem dX6_heardAt_6 : decode cX6_heardAt 6 = .ok (.iconst 3, 1) := by decide +kernel
theorem dX6_heardAt_7 : decode cX6_heardAt 7 = .ok (.iaload, 1) := by decide +kernel
theorem dX6_heardAt_8 : decode cX6_heardAt 8 = .ok (.iconst 1, 1) := by decide +kernel
theorem dX6_heardAt_9 : decode cX6_heardAt 9 = .ok (.isub, 1) := by decide +kernel
theorem dX6_heardAt_10 : decode cX6_heardAt 10 = .ok (.invokestatic 32, 3) := by decide +kernel
theorem dX6_heardAt_13 : decode cX6_heardAt 13 = .ok (.ifCond .eq 22, 3) := by decide +kernel
theorem dX6_heardAt_16 : decode cX6_heardAt 16 = .ok (.aload_n 0, 1) := by decide +kernel
theorem dX6_heardAt_17 : decode cX6_heardAt 17 = .ok (.getfield 8, 3) := by decide +kernel
theorem dX6_heardAt_20 : decode cX6_heardAt 20 = .ok (.sipush 2011, 3) := by decide +kernel
theorem dX6_heardAt_23 : decode cX6_heardAt 23 = .ok (.sipush 400, 3) := by decide +kernel
theorem dX6_heardAt_26 : decode cX6_heardAt 26 = .ok (.iload_n 1, 1) := by decide +kernel
theorem dX6_heardAt_27 : decode cX6_heardAt 27 = .ok (.imul, 1) := by decide +kernel
theorem dX6_heardAt_28 : decode cX6_heardAt 28 = .ok (.iadd, 1) := by decide +kernel
theorem dX6_heardAt_29 : decode cX6_heardAt 29 = .ok (.iload_n 2, 1) := by decide +kernel
theorem dX6_heardAt_30 : decode cX6_heardAt 30 = .ok (.iadd, 1) := by decide +kernel
theorem dX6_heardAt_31 : decode cX6_heardAt 31 = .ok (.iaload, 1) := by decide +kernel
theorem dX6_heardAt_32 : decode cX6_heardAt 32 = .ok (.goto 4, 3) := by decide +kernel
theorem dX6_heardAt_35 : decode cX6_heardAt 35 = .ok (.iconst (-1), 1) := by decide +kernel
theorem dX6_heardAt_36 : decode cX6_heardAt 36 = .ok (.ireturn, 1) := by decide +kernel
theorem dX6_firstHeard_0 : decode cX6_firstHeard 0 = .ok (.iconst (-1), 1) := by decide +kernel
theorem dX6_firstHeard_1 : decode cX6_firstHeard 1 = .ok (.istore_n 3, 1) := by decide +kernel
theorem dX6_firstHeard_2 : decode cX6_firstHeard 2 = .ok (.aload_n 0, 1) := by decide +kernel
theorem dX6_firstHeard_3 : decode cX6_firstHeard 3 = .ok (.getfield 8, 3) := by decide +kernel
theorem dX6_firstHeard_6 : decode cX6_firstHeard 6 = .ok (.iconst 3, 1) := by decide +kernel
theorem dX6_firstHeard_7 : decode cX6_firstHeard 7 = .ok (.iaload, 1) := by decide +kernel
theorem dX6_firstHeard_8 : decode cX6_firstHeard 8 = .ok (.iconst 1, 1) := by decide +kernel
theorem dX6_firstHeard_9 : decode cX6_firstHeard 9 = .ok (.isub, 1) := by decide +kernel
theorem dX6_firstHeard_10 : decode cX6_firstHeard 10 = .ok (.istore 4, 2) := by decide +kernel
theorem dX6_firstHeard_12 : decode cX6_firstHeard 12 = .ok (.iload 4, 2) := by decide +kernel
theorem dX6_firstHeard_14 : decode cX6_firstHeard 14 = .ok (.aload_n 0, 1) := by decide +kernel
theorem dX6_firstHeard_15 : decode cX6_firstHeard 15 = .ok (.iload_n 1, 1) := by decide +kernel
theorem dX6_firstHeard_16 : decode cX6_firstHeard 16 = .ok (.iconst 3, 1) := by decide +kernel
theorem dX6_firstHeard_17 : decode cX6_firstHeard 17 = .ok (.invokevirtual 40, 3) := by decide +kernel
theorem dX6_firstHeard_20 : decode cX6_firstHeard 20 = .ok (.if_icmp .lt 37, 3) := by decide +kernel
theorem dX6_firstHeard_23 : decode cX6_firstHeard 23 = .ok (.aload_n 0, 1) := by decide +kernel
theorem dX6_firstHeard_24 : decode cX6_firstHeard 24 = .ok (.getfield 8, 3) := by decide +kernel
theorem dX6_firstHeard_27 : decode cX6_firstHeard 27 = .ok (.sipush 2011, 3) := by decide +kernel
theorem dX6_firstHeard_30 : decode cX6_firstHeard 30 = .ok (.sipush 400, 3) := by decide +kernel
theorem dX6_firstHeard_33 : decode cX6_firstHeard 33 = .ok (.iload_n 2, 1) := by decide +kernel
theorem dX6_firstHeard_34 : decode cX6_firstHeard 34 = .ok (.imul, 1) := by decide +kernel
theorem dX6_firstHeard_35 : decode cX6_firstHeard 35 = .ok (.iadd, 1) := by decide +kernel
theorem dX6_firstHeard_36 : decode cX6_firstHeard 36 = .ok (.iload 4, 2) := by decide +kernel
theorem dX6_firstHeard_38 : decode cX6_firstHeard 38 = .ok (.iadd, 1) := by decide +kernel
theorem dX6_firstHeard_39 : decode cX6_firstHeard 39 = .ok (.iaload, 1) := by decide +kernel
theorem dX6_firstHeard_40 : decode cX6_firstHeard 40 = .ok (.iload_n 1, 1) := by decide +kernel
theorem dX6_firstHeard_41 : decode cX6_firstHeard 41 = .ok (.if_icmp .ne 8, 3) := by decide +kernel
theorem dX6_firstHeard_44 : decode cX6_firstHeard 44 = .ok (.iload 4, 2) := by decide +kernel
theorem dX6_firstHeard_46 : decode cX6_firstHeard 46 = .ok (.goto 4, 3) := by decide +kernel
theorem dX6_firstHeard_49 : decode cX6_firstHeard 49 = .ok (.iload_n 3, 1) := by decide +kernel
theorem dX6_firstHeard_50 : decode cX6_firstHeard 50 = .ok (.istore_n 3, 1) := by decide +kernel
theorem dX6_firstHeard_51 : decode cX6_firstHeard 51 = .ok (.iinc 4 (-1), 3) := by decide +kernel
theorem dX6_firstHeard_54 : decode cX6_firstHeard 54 = .ok (.goto (-42), 3) := by decide +kernel
theorem dX6_firstHeard_57 : decode cX6_firstHeard 57 = .ok (.iload_n 3, 1) := by decide +kernel
theorem dX6_firstHeard_58 : decode cX6_firstHeard 58 = .ok (.ireturn, 1) := by decide +kernel
theorem dX6_hearers_0 : decode cX6_hearers 0 = .ok (.iconst 0, 1) := by decide +kernel
theorem dX6_hearers_1 : decode cX6_hearers 1 = .ok (.istore_n 2, 1) := by decide +kernel
theorem dX6_hearers_2 : decode cX6_hearers 2 = .ok (.iconst 0, 1) := by decide +kernel
theorem dX6_hearers_3 : decode cX6_hearers 3 = .ok (.istore_n 3, 1) := by decide +kernel
theorem dX6_hearers_4 : decode cX6_hearers 4 = .ok (.iload_n 3, 1) := by decide +kernel
theorem dX6_hearers_5 : decode cX6_hearers 5 = .ok (.bipush 6, 2) := by decide +kernel
theorem dX6_hearers_7 : decode cX6_hearers 7 = .ok (.if_icmp .ge 28, 3) := by decide +kernel
theorem dX6_hearers_10 : decode cX6_hearers 10 = .ok (.iload_n 2, 1) := by decide +kernel
theorem dX6_hearers_11 : decode cX6_hearers 11 = .ok (.aload_n 0, 1) := by decide +kernel
theorem dX6_hearers_12 : decode cX6_hearers 12 = .ok (.iload_n 1, 1) := by decide +kernel
theorem dX6_hearers_13 : decode cX6_hearers 13 = .ok (.iload_n 3, 1) := by decide +kernel
theorem dX6_hearers_14 : decode cX6_hearers 14 = .ok (.invokevirtual 120, 3) := by decide +kernel
theorem dX6_hearers_17 : decode cX6_hearers 17 = .ok (.ifCond .lt 9, 3) := by decide +kernel
theorem dX6_hearers_20 : decode cX6_hearers 20 = .ok (.iconst 1, 1) := by decide +kernel
theorem dX6_hearers_21 : decode cX6_hearers 21 = .ok (.iload_n 3, 1) := by decide +kernel
theorem dX6_hearers_22 : decode cX6_hearers 22 = .ok (.ishl, 1) := by decide +kernel
theorem dX6_hearers_23 : decode cX6_hearers 23 = .ok (.goto 4, 3) := by decide +kernel
theorem dX6_hearers_26 : decode cX6_hearers 26 = .ok (.iconst 0, 1) := by decide +kernel
theorem dX6_hearers_27 : decode cX6_hearers 27 = .ok (.ior, 1) := by decide +kernel
theorem dX6_hearers_28 : decode cX6_hearers 28 = .ok (.istore_n 2, 1) := by decide +kernel
theorem dX6_hearers_29 : decode cX6_hearers 29 = .ok (.iinc 3 1, 3) := by decide +kernel
theorem dX6_hearers_32 : decode cX6_hearers 32 = .ok (.goto (-28), 3) := by decide +kernel
theorem dX6_hearers_35 : decode cX6_hearers 35 = .ok (.iload_n 2, 1) := by decide +kernel
theorem dX6_hearers_36 : decode cX6_hearers 36 = .ok (.ireturn, 1) := by decide +kernel
theorem dX6_reached_0 : decode cX6_reached 0 = .ok (.iconst 0, 1) := by decide +kernel
theorem dX6_reached_1 : decode cX6_reached 1 = .ok (.istore_n 2, 1) := by decide +kernel
theorem dX6_reached_2 : decode cX6_reached 2 = .ok (.iconst 0, 1) := by decide +kernel
theorem dX6_reached_3 : decode cX6_reached 3 = .ok (.istore_n 3, 1) := by decide +kernel
theorem dX6_reached_4 : decode cX6_reached 4 = .ok (.iload_n 3, 1) := by decide +kernel
theorem dX6_reached_5 : decode cX6_reached 5 = .ok (.bipush 6, 2) := by decide +kernel
theorem dX6_reached_7 : decode cX6_reached 7 = .ok (.if_icmp .ge 30, 3) := by decide +kernel
theorem dX6_reached_10 : decode cX6_reached 10 = .ok (.iload_n 2, 1) := by decide +kernel
theorem dX6_reached_11 : decode cX6_reached 11 = .ok (.aload_n 0, 1) := by decide +kernel
theorem dX6_reached_12 : decode cX6_reached 12 = .ok (.iload_n 1, 1) := by decide +kernel
theorem dX6_reached_13 : decode cX6_reached 13 = .ok (.iconst 4, 1) := by decide +kernel
theorem dX6_reached_14 : decode cX6_reached 14 = .ok (.iload_n 3, 1) := by decide +kernel
theorem dX6_reached_15 : decode cX6_reached 15 = .ok (.iadd, 1) := by decide +kernel
theorem dX6_reached_16 : decode cX6_reached 16 = .ok (.invokevirtual 40, 3) := by decide +kernel
theorem dX6_reached_19 : decode cX6_reached 19 = .ok (.ifCond .lt 9, 3) := by decide +kernel
theorem dX6_reached_22 : decode cX6_reached 22 = .ok (.iconst 1, 1) := by decide +kernel
theorem dX6_reached_23 : decode cX6_reached 23 = .ok (.iload_n 3, 1) := by decide +kernel
theorem dX6_reached_24 : decode cX6_reached 24 = .ok (.ishl, 1) := by decide +kernel
theorem dX6_reached_25 : decode cX6_reached 25 = .ok (.goto 4, 3) := by decide +kernel
theorem dX6_reached_28 : decode cX6_reached 28 = .ok (.iconst 0, 1) := by decide +kernel
theorem dX6_reached_29 : decode cX6_reached 29 = .ok (.ior, 1) := by decide +kernel
theorem dX6_reached_30 : decode cX6_reached 30 = .ok (.istore_n 2, 1) := by decide +kernel
theorem dX6_reached_31 : decode cX6_reached 31 = .ok (.iinc 3 1, 3) := by decide +kernel
theorem dX6_reached_34 : decode cX6_reached 34 = .ok (.goto (-30), 3) := by decide +kernel
theorem dX6_reached_37 : decode cX6_reached 37 = .ok (.iload_n 2, 1) := by decide +kernel
theorem dX6_reached_38 : decode cX6_reached 38 = .ok (.ireturn, 1) := by decide +kernel
theorem dX6_ofWord_0 : decode cX6_ofWord 0 = .ok (.iload_n 1, 1) := by decide +kernel
theorem dX6_ofWord_1 : decode cX6_ofWord 1 = .ok (.aload_n 0, 1) := by decide +kernel
theorem dX6_ofWord_2 : decode cX6_ofWord 2 = .ok (.getfield 8, 3) := by decide +kernel
theorem dX6_ofWord_5 : decode cX6_ofWord 5 = .ok (.iconst 4, 1) := by decide +kernel
theorem dX6_ofWord_6 : decode cX6_ofWord 6 = .ok (.iaload, 1) := by decide +kernel
theorem dX6_ofWord_7 : decode cX6_ofWord 7 = .ok (.if_icmp .lt 5, 3) := by decide +kernel
theorem dX6_ofWord_10 : decode cX6_ofWord 10 = .ok (.iconst (-1), 1) := by decide +kernel
theorem dX6_ofWord_11 : decode cX6_ofWord 11 = .ok (.ireturn, 1) := by decide +kernel
theorem dX6_ofWord_12 : decode cX6_ofWord 12 = .ok (.iload_n 2, 1) := by decide +kernel
theorem dX6_ofWord_13 : decode cX6_ofWord 13 = .ok (.iconst 4, 1) := by decide +kernel
theorem dX6_ofWord_14 : decode cX6_ofWord 14 = .ok (.if_icmp .ne 11, 3) := by decide +kernel
theorem dX6_ofWord_17 : decode cX6_ofWord 17 = .ok (.aload_n 0, 1) := by decide +kernel
theorem dX6_ofWord_18 : decode cX6_ofWord 18 = .ok (.iload_n 1, 1) := by decide +kernel
theorem dX6_ofWord_19 : decode cX6_ofWord 19 = .ok (.invokevirtual 123, 3) := by decide +kernel
theorem dX6_ofWord_22 : decode cX6_ofWord 22 = .ok (.goto 22, 3) := by decide +kernel
theorem dX6_ofWord_25 : decode cX6_ofWord 25 = .ok (.iload_n 2, 1) := by decide +kernel
theorem dX6_ofWord_26 : decode cX6_ofWord 26 = .ok (.iconst 5, 1) := by decide +kernel
theorem dX6_ofWord_27 : decode cX6_ofWord 27 = .ok (.if_icmp .ne 11, 3) := by decide +kernel
theorem dX6_ofWord_30 : decode cX6_ofWord 30 = .ok (.aload_n 0, 1) := by decide +kernel
theorem dX6_ofWord_31 : decode cX6_ofWord 31 = .ok (.iload_n 1, 1) := by decide +kernel
theorem dX6_ofWord_32 : decode cX6_ofWord 32 = .ok (.invokevirtual 126, 3) := by decide +kernel
theorem dX6_ofWord_35 : decode cX6_ofWord 35 = .ok (.goto 9, 3) := by decide +kernel
theorem dX6_ofWord_38 : decode cX6_ofWord 38 = .ok (.aload_n 0, 1) := by decide +kernel
theorem dX6_ofWord_39 : decode cX6_ofWord 39 = .ok (.iload_n 1, 1) := by decide +kernel
theorem dX6_ofWord_40 : decode cX6_ofWord 40 = .ok (.iload_n 2, 1) := by decide +kernel
theorem dX6_ofWord_41 : decode cX6_ofWord 41 = .ok (.invokevirtual 40, 3) := by decide +kernel
theorem dX6_ofWord_44 : decode cX6_ofWord 44 = .ok (.ireturn, 1) := by decide +kernel
theorem dX6_said_0 : decode cX6_said 0 = .ok (.aload_n 0, 1) := by decide +kernel
theorem dX6_said_1 : decode cX6_said 1 = .ok (.iload_n 1, 1) := by decide +kernel
theorem dX6_said_2 : decode cX6_said 2 = .ok (.ifCond .lt 16, 3) := by decide +kernel
theorem dX6_said_5 : decode cX6_said 5 = .ok (.iload_n 2, 1) := by decide +kernel
theorem dX6_said_6 : decode cX6_said 6 = .ok (.iconst 0, 1) := by decide +kernel
theorem dX6_said_7 : decode cX6_said 7 = .ok (.iconst 5, 1) := by decide +kernel
theorem dX6_said_8 : decode cX6_said 8 = .ok (.invokestatic 32, 3) := by decide +kernel
theorem dX6_said_11 : decode cX6_said 11 = .ok (.ifCond .eq 7, 3) := by decide +kernel
theorem dX6_said_14 : decode cX6_said 14 = .ok (.iconst 1, 1) := by decide +kernel
theorem dX6_said_15 : decode cX6_said 15 = .ok (.goto 4, 3) := by decide +kernel
theorem dX6_said_18 : decode cX6_said 18 = .ok (.iconst 0, 1) := by decide +kernel
theorem dX6_said_19 : decode cX6_said 19 = .ok (.iconst 1, 1) := by decide +kernel
theorem dX6_said_20 : decode cX6_said 20 = .ok (.iconst 1, 1) := by decide +kernel
theorem dX6_said_21 : decode cX6_said 21 = .ok (.invokevirtual 60, 3) := by decide +kernel
theorem dX6_said_24 : decode cX6_said 24 = .ok (.ifCond .ne 5, 3) := by decide +kernel
theorem dX6_said_27 : decode cX6_said 27 = .ok (.iconst 0, 1) := by decide +kernel
theorem dX6_said_28 : decode cX6_said 28 = .ok (.ireturn, 1) := by decide +kernel
theorem dX6_said_29 : decode cX6_said 29 = .ok (.aload_n 0, 1) := by decide +kernel
theorem dX6_said_30 : decode cX6_said 30 = .ok (.iload_n 1, 1) := by decide +kernel
theorem dX6_said_31 : decode cX6_said 31 = .ok (.iload_n 2, 1) := by decide +kernel
theorem dX6_said_32 : decode cX6_said 32 = .ok (.invokevirtual 129, 3) := by decide +kernel
theorem dX6_said_35 : decode cX6_said 35 = .ok (.ireturn, 1) := by decide +kernel
theorem dX6_comesTo_0 : decode cX6_comesTo 0 = .ok (.iload_n 1, 1) := by decide +kernel
theorem dX6_comesTo_1 : decode cX6_comesTo 1 = .ok (.aload_n 0, 1) := by decide +kernel
theorem dX6_comesTo_2 : decode cX6_comesTo 2 = .ok (.getfield 8, 3) := by decide +kernel
theorem dX6_comesTo_5 : decode cX6_comesTo 5 = .ok (.iconst 4, 1) := by decide +kernel
theorem dX6_comesTo_6 : decode cX6_comesTo 6 = .ok (.iaload, 1) := by decide +kernel
theorem dX6_comesTo_7 : decode cX6_comesTo 7 = .ok (.if_icmp .lt 7, 3) := by decide +kernel
theorem dX6_comesTo_10 : decode cX6_comesTo 10 = .ok (.iconst (-1), 1) := by decide +kernel
theorem dX6_comesTo_11 : decode cX6_comesTo 11 = .ok (.goto 11, 3) := by decide +kernel
theorem dX6_comesTo_14 : decode cX6_comesTo 14 = .ok (.aload_n 0, 1) := by decide +kernel
theorem dX6_comesTo_15 : decode cX6_comesTo 15 = .ok (.iload_n 1, 1) := by decide +kernel
theorem dX6_comesTo_16 : decode cX6_comesTo 16 = .ok (.iconst 4, 1) := by decide +kernel
theorem dX6_comesTo_17 : decode cX6_comesTo 17 = .ok (.iload_n 2, 1) := by decide +kernel
theorem dX6_comesTo_18 : decode cX6_comesTo 18 = .ok (.iadd, 1) := by decide +kernel
theorem dX6_comesTo_19 : decode cX6_comesTo 19 = .ok (.invokevirtual 40, 3) := by decide +kernel
theorem dX6_comesTo_22 : decode cX6_comesTo 22 = .ok (.ireturn, 1) := by decide +kernel
theorem dX6_comes_0 : decode cX6_comes 0 = .ok (.aload_n 0, 1) := by decide +kernel
theorem dX6_comes_1 : decode cX6_comes 1 = .ok (.iload_n 2, 1) := by decide +kernel
theorem dX6_comes_2 : decode cX6_comes 2 = .ok (.invokestatic 52, 3) := by decide +kernel
theorem dX6_comes_5 : decode cX6_comes 5 = .ok (.iload_n 1, 1) := by decide +kernel
theorem dX6_comes_6 : decode cX6_comes 6 = .ok (.ifCond .lt 7, 3) := by decide +kernel
theorem dX6_comes_9 : decode cX6_comes 9 = .ok (.iconst 1, 1) := by decide +kernel
theorem dX6_comes_10 : decode cX6_comes 10 = .ok (.goto 4, 3) := by decide +kernel
theorem dX6_comes_13 : decode cX6_comes 13 = .ok (.iconst 0, 1) := by decide +kernel
theorem dX6_comes_14 : decode cX6_comes 14 = .ok (.iconst 1, 1) := by decide +kernel
theorem dX6_comes_15 : decode cX6_comes 15 = .ok (.invokevirtual 60, 3) := by decide +kernel
theorem dX6_comes_18 : decode cX6_comes 18 = .ok (.ifCond .ne 5, 3) := by decide +kernel
theorem dX6_comes_21 : decode cX6_comes 21 = .ok (.iconst 0, 1) := by decide +kernel
theorem dX6_comes_22 : decode cX6_comes 22 = .ok (.ireturn, 1) := by decide +kernel
theorem dX6_comes_23 : decode cX6_comes 23 = .ok (.aload_n 0, 1) := by decide +kernel
theorem dX6_comes_24 : decode cX6_comes 24 = .ok (.iload_n 1, 1) := by decide +kernel
theorem dX6_comes_25 : decode cX6_comes 25 = .ok (.iload_n 2, 1) := by decide +kernel
theorem dX6_comes_26 : decode cX6_comes 26 = .ok (.invokevirtual 132, 3) := by decide +kernel
theorem dX6_comes_29 : decode cX6_comes 29 = .ok (.ireturn, 1) := by decide +kernel
theorem dX6_ofHeard_0 : decode cX6_ofHeard 0 = .ok (.aload_n 0, 1) := by decide +kernel
theorem dX6_ofHeard_1 : decode cX6_ofHeard 1 = .ok (.iload_n 1, 1) := by decide +kernel
theorem dX6_ofHeard_2 : decode cX6_ofHeard 2 = .ok (.iload_n 2, 1) := by decide +kernel
theorem dX6_ofHeard_3 : decode cX6_ofHeard 3 = .ok (.invokevirtual 135, 3) := by decide +kernel
theorem dX6_ofHeard_6 : decode cX6_ofHeard 6 = .ok (.istore 4, 2) := by decide +kernel
theorem dX6_ofHeard_8 : decode cX6_ofHeard 8 = .ok (.iload 4, 2) := by decide +kernel
theorem dX6_ofHeard_10 : decode cX6_ofHeard 10 = .ok (.ifCond .ge 5, 3) := by decide +kernel
theorem dX6_ofHeard_13 : decode cX6_ofHeard 13 = .ok (.iconst (-1), 1) := by decide +kernel
theorem dX6_ofHeard_14 : decode cX6_ofHeard 14 = .ok (.ireturn, 1) := by decide +kernel
theorem dX6_ofHeard_15 : decode cX6_ofHeard 15 = .ok (.iload_n 3, 1) := by decide +kernel
theorem dX6_ofHeard_16 : decode cX6_ofHeard 16 = .ok (.ifCond .ne 8, 3) := by decide +kernel
theorem dX6_ofHeard_19 : decode cX6_ofHeard 19 = .ok (.iload 4, 2) := by decide +kernel
theorem dX6_ofHeard_21 : decode cX6_ofHeard 21 = .ok (.goto 36, 3) := by decide +kernel
theorem dX6_ofHeard_24 : decode cX6_ofHeard 24 = .ok (.iload_n 3, 1) := by decide +kernel
theorem dX6_ofHeard_25 : decode cX6_ofHeard 25 = .ok (.iconst 1, 1) := by decide +kernel
theorem dX6_ofHeard_26 : decode cX6_ofHeard 26 = .ok (.if_icmp .ne 13, 3) := by decide +kernel
theorem dX6_ofHeard_29 : decode cX6_ofHeard 29 = .ok (.aload_n 0, 1) := by decide +kernel
theorem dX6_ofHeard_30 : decode cX6_ofHeard 30 = .ok (.iload 4, 2) := by decide +kernel
theorem dX6_ofHeard_32 : decode cX6_ofHeard 32 = .ok (.iconst 1, 1) := by decide +kernel
theorem dX6_ofHeard_33 : decode cX6_ofHeard 33 = .ok (.invokevirtual 40, 3) := by decide +kernel
theorem dX6_ofHeard_36 : decode cX6_ofHeard 36 = .ok (.goto 21, 3) := by decide +kernel
theorem dX6_ofHeard_39 : decode cX6_ofHeard 39 = .ok (.aload_n 0, 1) := by decide +kernel
theorem dX6_ofHeard_40 : decode cX6_ofHeard 40 = .ok (.iload_n 1, 1) := by decide +kernel
theorem dX6_ofHeard_41 : decode cX6_ofHeard 41 = .ok (.iload_n 2, 1) := by decide +kernel
theorem dX6_ofHeard_42 : decode cX6_ofHeard 42 = .ok (.iconst 1, 1) := by decide +kernel
theorem dX6_ofHeard_43 : decode cX6_ofHeard 43 = .ok (.isub, 1) := by decide +kernel
theorem dX6_ofHeard_44 : decode cX6_ofHeard 44 = .ok (.invokevirtual 135, 3) := by decide +kernel
theorem dX6_ofHeard_47 : decode cX6_ofHeard 47 = .ok (.iload 4, 2) := by decide +kernel
theorem dX6_ofHeard_49 : decode cX6_ofHeard 49 = .ok (.if_icmp .ne 7, 3) := by decide +kernel
theorem dX6_ofHeard_52 : decode cX6_ofHeard 52 = .ok (.iconst 1, 1) := by decide +kernel
theorem dX6_ofHeard_53 : decode cX6_ofHeard 53 = .ok (.goto 4, 3) := by decide +kernel
theorem dX6_ofHeard_56 : decode cX6_ofHeard 56 = .ok (.iconst 0, 1) := by decide +kernel
theorem dX6_ofHeard_57 : decode cX6_ofHeard 57 = .ok (.ireturn, 1) := by decide +kernel
theorem dX6_heard_0 : decode cX6_heard 0 = .ok (.aload_n 0, 1) := by decide +kernel
theorem dX6_heard_1 : decode cX6_heard 1 = .ok (.iload_n 1, 1) := by decide +kernel
theorem dX6_heard_2 : decode cX6_heard 2 = .ok (.invokestatic 52, 3) := by decide +kernel
theorem dX6_heard_5 : decode cX6_heard 5 = .ok (.iload_n 2, 1) := by decide +kernel
theorem dX6_heard_6 : decode cX6_heard 6 = .ok (.ifCond .lt 16, 3) := by decide +kernel
theorem dX6_heard_9 : decode cX6_heard 9 = .ok (.iload_n 3, 1) := by decide +kernel
theorem dX6_heard_10 : decode cX6_heard 10 = .ok (.iconst 0, 1) := by decide +kernel
theorem dX6_heard_11 : decode cX6_heard 11 = .ok (.iconst 2, 1) := by decide +kernel
theorem dX6_heard_12 : decode cX6_heard 12 = .ok (.invokestatic 32, 3) := by decide +kernel
theorem dX6_heard_15 : decode cX6_heard 15 = .ok (.ifCond .eq 7, 3) := by decide +kernel
theorem dX6_heard_18 : decode cX6_heard 18 = .ok (.iconst 1, 1) := by decide +kernel
theorem dX6_heard_19 : decode cX6_heard 19 = .ok (.goto 4, 3) := by decide +kernel
theorem dX6_heard_22 : decode cX6_heard 22 = .ok (.iconst 0, 1) := by decide +kernel
theorem dX6_heard_23 : decode cX6_heard 23 = .ok (.iconst 1, 1) := by decide +kernel
theorem dX6_heard_24 : decode cX6_heard 24 = .ok (.invokevirtual 60, 3) := by decide +kernel
theorem dX6_heard_27 : decode cX6_heard 27 = .ok (.ifCond .ne 5, 3) := by decide +kernel
theorem dX6_heard_30 : decode cX6_heard 30 = .ok (.iconst 0, 1) := by decide +kernel
theorem dX6_heard_31 : decode cX6_heard 31 = .ok (.ireturn, 1) := by decide +kernel
theorem dX6_heard_32 : decode cX6_heard 32 = .ok (.aload_n 0, 1) := by decide +kernel
theorem dX6_heard_33 : decode cX6_heard 33 = .ok (.iload_n 1, 1) := by decide +kernel
theorem dX6_heard_34 : decode cX6_heard 34 = .ok (.iload_n 2, 1) := by decide +kernel
theorem dX6_heard_35 : decode cX6_heard 35 = .ok (.iload_n 3, 1) := by decide +kernel
theorem dX6_heard_36 : decode cX6_heard 36 = .ok (.invokevirtual 138, 3) := by decide +kernel
theorem dX6_heard_39 : decode cX6_heard 39 = .ok (.ireturn, 1) := by decide +kernel
theorem dX6_distinct_0 : decode cX6_distinct 0 = .ok (.iconst 0, 1) := by decide +kernel
theorem dX6_distinct_1 : decode cX6_distinct 1 = .ok (.istore_n 2, 1) := by decide +kernel
theorem dX6_distinct_2 : decode cX6_distinct 2 = .ok (.iconst 0, 1) := by decide +kernel
theorem dX6_distinct_3 : decode cX6_distinct 3 = .ok (.istore_n 3, 1) := by decide +kernel
theorem dX6_distinct_4 : decode cX6_distinct 4 = .ok (.iload_n 3, 1) := by decide +kernel
theorem dX6_distinct_5 : decode cX6_distinct 5 = .ok (.aload_n 0, 1) := by decide +kernel
theorem dX6_distinct_6 : decode cX6_distinct 6 = .ok (.getfield 8, 3) := by decide +kernel
theorem dX6_distinct_9 : decode cX6_distinct 9 = .ok (.iconst 4, 1) := by decide +kernel
theorem dX6_distinct_10 : decode cX6_distinct 10 = .ok (.iaload, 1) := by decide +kernel
theorem dX6_distinct_11 : decode cX6_distinct 11 = .ok (.if_icmp .ge 26, 3) := by decide +kernel
theorem dX6_distinct_14 : decode cX6_distinct 14 = .ok (.iload_n 2, 1) := by decide +kernel
theorem dX6_distinct_15 : decode cX6_distinct 15 = .ok (.aload_n 0, 1) := by decide +kernel
theorem dX6_distinct_16 : decode cX6_distinct 16 = .ok (.iload_n 3, 1) := by decide +kernel
theorem dX6_distinct_17 : decode cX6_distinct 17 = .ok (.iload_n 1, 1) := by decide +kernel
theorem dX6_distinct_18 : decode cX6_distinct 18 = .ok (.invokevirtual 120, 3) := by decide +kernel
theorem dX6_distinct_21 : decode cX6_distinct 21 = .ok (.ifCond .lt 7, 3) := by decide +kernel
theorem dX6_distinct_24 : decode cX6_distinct 24 = .ok (.iconst 1, 1) := by decide +kernel
theorem dX6_distinct_25 : decode cX6_distinct 25 = .ok (.goto 4, 3) := by decide +kernel
theorem dX6_distinct_28 : decode cX6_distinct 28 = .ok (.iconst 0, 1) := by decide +kernel
theorem dX6_distinct_29 : decode cX6_distinct 29 = .ok (.iadd, 1) := by decide +kernel
theorem dX6_distinct_30 : decode cX6_distinct 30 = .ok (.istore_n 2, 1) := by decide +kernel
theorem dX6_distinct_31 : decode cX6_distinct 31 = .ok (.iinc 3 1, 3) := by decide +kernel
theorem dX6_distinct_34 : decode cX6_distinct 34 = .ok (.goto (-30), 3) := by decide +kernel
theorem dX6_distinct_37 : decode cX6_distinct 37 = .ok (.iload_n 2, 1) := by decide +kernel
theorem dX6_distinct_38 : decode cX6_distinct 38 = .ok (.ireturn, 1) := by decide +kernel
theorem dX6_wordsOf_0 : decode cX6_wordsOf 0 = .ok (.iconst 0, 1) := by decide +kernel
theorem dX6_wordsOf_1 : decode cX6_wordsOf 1 = .ok (.istore_n 2, 1) := by decide +kernel
theorem dX6_wordsOf_2 : decode cX6_wordsOf 2 = .ok (.iconst 0, 1) := by decide +kernel
theorem dX6_wordsOf_3 : decode cX6_wordsOf 3 = .ok (.istore_n 3, 1) := by decide +kernel
theorem dX6_wordsOf_4 : decode cX6_wordsOf 4 = .ok (.iload_n 3, 1) := by decide +kernel
theorem dX6_wordsOf_5 : decode cX6_wordsOf 5 = .ok (.aload_n 0, 1) := by decide +kernel
theorem dX6_wordsOf_6 : decode cX6_wordsOf 6 = .ok (.getfield 8, 3) := by decide +kernel
theorem dX6_wordsOf_9 : decode cX6_wordsOf 9 = .ok (.iconst 4, 1) := by decide +kernel
theorem dX6_wordsOf_10 : decode cX6_wordsOf 10 = .ok (.iaload, 1) := by decide +kernel
theorem dX6_wordsOf_11 : decode cX6_wordsOf 11 = .ok (.if_icmp .ge 27, 3) := by decide +kernel
theorem dX6_wordsOf_14 : decode cX6_wordsOf 14 = .ok (.iload_n 2, 1) := by decide +kernel
theorem dX6_wordsOf_15 : decode cX6_wordsOf 15 = .ok (.aload_n 0, 1) := by decide +kernel
theorem dX6_wordsOf_16 : decode cX6_wordsOf 16 = .ok (.iload_n 3, 1) := by decide +kernel
theorem dX6_wordsOf_17 : decode cX6_wordsOf 17 = .ok (.iconst 0, 1) := by decide +kernel
theorem dX6_wordsOf_18 : decode cX6_wordsOf 18 = .ok (.invokevirtual 40, 3) := by decide +kernel
theorem dX6_wordsOf_21 : decode cX6_wordsOf 21 = .ok (.iload_n 1, 1) := by decide +kernel
theorem dX6_wordsOf_22 : decode cX6_wordsOf 22 = .ok (.if_icmp .ne 7, 3) := by decide +kernel
theorem dX6_wordsOf_25 : decode cX6_wordsOf 25 = .ok (.iconst 1, 1) := by decide +kernel
theorem dX6_wordsOf_26 : decode cX6_wordsOf 26 = .ok (.goto 4, 3) := by decide +kernel
theorem dX6_wordsOf_29 : decode cX6_wordsOf 29 = .ok (.iconst 0, 1) := by decide +kernel
theorem dX6_wordsOf_30 : decode cX6_wordsOf 30 = .ok (.iadd, 1) := by decide +kernel
theorem dX6_wordsOf_31 : decode cX6_wordsOf 31 = .ok (.istore_n 2, 1) := by decide +kernel
theorem dX6_wordsOf_32 : decode cX6_wordsOf 32 = .ok (.iinc 3 1, 3) := by decide +kernel
theorem dX6_wordsOf_35 : decode cX6_wordsOf 35 = .ok (.goto (-31), 3) := by decide +kernel
theorem dX6_wordsOf_38 : decode cX6_wordsOf 38 = .ok (.iload_n 2, 1) := by decide +kernel
theorem dX6_wordsOf_39 : decode cX6_wordsOf 39 = .ok (.ireturn, 1) := by decide +kernel
theorem dX6_gaps_0 : decode cX6_gaps 0 = .ok (.iconst 0, 1) := by decide +kernel
theorem dX6_gaps_1 : decode cX6_gaps 1 = .ok (.istore_n 2, 1) := by decide +kernel
theorem dX6_gaps_2 : decode cX6_gaps 2 = .ok (.iconst 0, 1) := by decide +kernel
theorem dX6_gaps_3 : decode cX6_gaps 3 = .ok (.istore_n 3, 1) := by decide +kernel
theorem dX6_gaps_4 : decode cX6_gaps 4 = .ok (.iconst 0, 1) := by decide +kernel
theorem dX6_gaps_5 : decode cX6_gaps 5 = .ok (.istore 4, 2) := by decide +kernel
theorem dX6_gaps_7 : decode cX6_gaps 7 = .ok (.iconst 0, 1) := by decide +kernel
theorem dX6_gaps_8 : decode cX6_gaps 8 = .ok (.istore 5, 2) := by decide +kernel
theorem dX6_gaps_10 : decode cX6_gaps 10 = .ok (.iload 5, 2) := by decide +kernel
theorem dX6_gaps_12 : decode cX6_gaps 12 = .ok (.aload_n 0, 1) := by decide +kernel
theorem dX6_gaps_13 : decode cX6_gaps 13 = .ok (.getfield 8, 3) := by decide +kernel
theorem dX6_gaps_16 : decode cX6_gaps 16 = .ok (.iconst 3, 1) := by decide +kernel
theorem dX6_gaps_17 : decode cX6_gaps 17 = .ok (.iaload, 1) := by decide +kernel
theorem dX6_gaps_18 : decode cX6_gaps 18 = .ok (.if_icmp .ge 75, 3) := by decide +kernel
theorem dX6_gaps_21 : decode cX6_gaps 21 = .ok (.aload_n 0, 1) := by decide +kernel
theorem dX6_gaps_22 : decode cX6_gaps 22 = .ok (.iload_n 1, 1) := by decide +kernel
theorem dX6_gaps_23 : decode cX6_gaps 23 = .ok (.iload 5, 2) := by decide +kernel
theorem dX6_gaps_25 : decode cX6_gaps 25 = .ok (.invokevirtual 135, 3) := by decide +kernel
theorem dX6_gaps_28 : decode cX6_gaps 28 = .ok (.ifCond .lt 7, 3) := by decide +kernel
theorem dX6_gaps_31 : decode cX6_gaps 31 = .ok (.iconst 1, 1) := by decide +kernel
theorem dX6_gaps_32 : decode cX6_gaps 32 = .ok (.goto 4, 3) := by decide +kernel
theorem dX6_gaps_35 : decode cX6_gaps 35 = .ok (.iconst 0, 1) := by decide +kernel
theorem dX6_gaps_36 : decode cX6_gaps 36 = .ok (.istore 6, 2) := by decide +kernel
theorem dX6_gaps_38 : decode cX6_gaps 38 = .ok (.iload_n 2, 1) := by decide +kernel
theorem dX6_gaps_39 : decode cX6_gaps 39 = .ok (.iload 6, 2) := by decide +kernel
theorem dX6_gaps_41 : decode cX6_gaps 41 = .ok (.ifCond .eq 16, 3) := by decide +kernel
theorem dX6_gaps_44 : decode cX6_gaps 44 = .ok (.iload_n 3, 1) := by decide +kernel
theorem dX6_gaps_45 : decode cX6_gaps 45 = .ok (.ifCond .eq 12, 3) := by decide +kernel
theorem dX6_gaps_48 : decode cX6_gaps 48 = .ok (.iload 4, 2) := by decide +kernel
theorem dX6_gaps_50 : decode cX6_gaps 50 = .ok (.ifCond .eq 7, 3) := by decide +kernel
theorem dX6_gaps_53 : decode cX6_gaps 53 = .ok (.iconst 1, 1) := by decide +kernel
theorem dX6_gaps_54 : decode cX6_gaps 54 = .ok (.goto 4, 3) := by decide +kernel
theorem dX6_gaps_57 : decode cX6_gaps 57 = .ok (.iconst 0, 1) := by decide +kernel
theorem dX6_gaps_58 : decode cX6_gaps 58 = .ok (.iadd, 1) := by decide +kernel
theorem dX6_gaps_59 : decode cX6_gaps 59 = .ok (.istore_n 2, 1) := by decide +kernel
theorem dX6_gaps_60 : decode cX6_gaps 60 = .ok (.iload_n 3, 1) := by decide +kernel
theorem dX6_gaps_61 : decode cX6_gaps 61 = .ok (.ifCond .ne 8, 3) := by decide +kernel
theorem dX6_gaps_64 : decode cX6_gaps 64 = .ok (.iload 6, 2) := by decide +kernel
theorem dX6_gaps_66 : decode cX6_gaps 66 = .ok (.ifCond .eq 7, 3) := by decide +kernel
theorem dX6_gaps_69 : decode cX6_gaps 69 = .ok (.iconst 1, 1) := by decide +kernel
theorem dX6_gaps_70 : decode cX6_gaps 70 = .ok (.goto 4, 3) := by decide +kernel
theorem dX6_gaps_73 : decode cX6_gaps 73 = .ok (.iconst 0, 1) := by decide +kernel
theorem dX6_gaps_74 : decode cX6_gaps 74 = .ok (.istore_n 3, 1) := by decide +kernel
theorem dX6_gaps_75 : decode cX6_gaps 75 = .ok (.iload 6, 2) := by decide +kernel
theorem dX6_gaps_77 : decode cX6_gaps 77 = .ok (.ifCond .ne 7, 3) := by decide +kernel
theorem dX6_gaps_80 : decode cX6_gaps 80 = .ok (.iconst 1, 1) := by decide +kernel
theorem dX6_gaps_81 : decode cX6_gaps 81 = .ok (.goto 4, 3) := by decide +kernel
theorem dX6_gaps_84 : decode cX6_gaps 84 = .ok (.iconst 0, 1) := by decide +kernel
theorem dX6_gaps_85 : decode cX6_gaps 85 = .ok (.istore 4, 2) := by decide +kernel
theorem dX6_gaps_87 : decode cX6_gaps 87 = .ok (.iinc 5 1, 3) := by decide +kernel
theorem dX6_gaps_90 : decode cX6_gaps 90 = .ok (.goto (-80), 3) := by decide +kernel
theorem dX6_gaps_93 : decode cX6_gaps 93 = .ok (.iload_n 2, 1) := by decide +kernel
theorem dX6_gaps_94 : decode cX6_gaps 94 = .ok (.ireturn, 1) := by decide +kernel
theorem dX6_beatsOf_0 : decode cX6_beatsOf 0 = .ok (.iconst 0, 1) := by decide +kernel
theorem dX6_beatsOf_1 : decode cX6_beatsOf 1 = .ok (.istore_n 3, 1) := by decide +kernel
theorem dX6_beatsOf_2 : decode cX6_beatsOf 2 = .ok (.iconst 0, 1) := by decide +kernel
theorem dX6_beatsOf_3 : decode cX6_beatsOf 3 = .ok (.istore 4, 2) := by decide +kernel
theorem dX6_beatsOf_5 : decode cX6_beatsOf 5 = .ok (.iload 4, 2) := by decide +kernel
theorem dX6_beatsOf_7 : decode cX6_beatsOf 7 = .ok (.aload_n 0, 1) := by decide +kernel
theorem dX6_beatsOf_8 : decode cX6_beatsOf 8 = .ok (.getfield 8, 3) := by decide +kernel
theorem dX6_beatsOf_11 : decode cX6_beatsOf 11 = .ok (.iconst 3, 1) := by decide +kernel
theorem dX6_beatsOf_12 : decode cX6_beatsOf 12 = .ok (.iaload, 1) := by decide +kernel
theorem dX6_beatsOf_13 : decode cX6_beatsOf 13 = .ok (.if_icmp .ge 46, 3) := by decide +kernel
theorem dX6_beatsOf_16 : decode cX6_beatsOf 16 = .ok (.iload_n 3, 1) := by decide +kernel
theorem dX6_beatsOf_17 : decode cX6_beatsOf 17 = .ok (.iload_n 2, 1) := by decide +kernel
theorem dX6_beatsOf_18 : decode cX6_beatsOf 18 = .ok (.ifCond .eq 18, 3) := by decide +kernel
theorem dX6_beatsOf_21 : decode cX6_beatsOf 21 = .ok (.aload_n 0, 1) := by decide +kernel
theorem dX6_beatsOf_22 : decode cX6_beatsOf 22 = .ok (.iload_n 1, 1) := by decide +kernel
theorem dX6_beatsOf_23 : decode cX6_beatsOf 23 = .ok (.iload 4, 2) := by decide +kernel
theorem dX6_beatsOf_25 : decode cX6_beatsOf 25 = .ok (.iconst 2, 1) := by decide +kernel
theorem dX6_beatsOf_26 : decode cX6_beatsOf 26 = .ok (.invokevirtual 138, 3) := by decide +kernel
theorem dX6_beatsOf_29 : decode cX6_beatsOf 29 = .ok (.iconst 1, 1) := by decide +kernel
theorem dX6_beatsOf_30 : decode cX6_beatsOf 30 = .ok (.if_icmp .ne 20, 3) := by decide +kernel
theorem dX6_beatsOf_33 : decode cX6_beatsOf 33 = .ok (.goto 13, 3) := by decide +kernel
theorem dX6_beatsOf_36 : decode cX6_beatsOf 36 = .ok (.aload_n 0, 1) := by decide +kernel
theorem dX6_beatsOf_37 : decode cX6_beatsOf 37 = .ok (.iload_n 1, 1) := by decide +kernel
theorem dX6_beatsOf_38 : decode cX6_beatsOf 38 = .ok (.iload 4, 2) := by decide +kernel
theorem dX6_beatsOf_40 : decode cX6_beatsOf 40 = .ok (.invokevirtual 135, 3) := by decide +kernel
theorem dX6_beatsOf_43 : decode cX6_beatsOf 43 = .ok (.ifCond .lt 7, 3) := by decide +kernel
theorem dX6_beatsOf_46 : decode cX6_beatsOf 46 = .ok (.iconst 1, 1) := by decide +kernel
theorem dX6_beatsOf_47 : decode cX6_beatsOf 47 = .ok (.goto 4, 3) := by decide +kernel
theorem dX6_beatsOf_50 : decode cX6_beatsOf 50 = .ok (.iconst 0, 1) := by decide +kernel
theorem dX6_beatsOf_51 : decode cX6_beatsOf 51 = .ok (.iadd, 1) := by decide +kernel
theorem dX6_beatsOf_52 : decode cX6_beatsOf 52 = .ok (.istore_n 3, 1) := by decide +kernel
theorem dX6_beatsOf_53 : decode cX6_beatsOf 53 = .ok (.iinc 4 1, 3) := by decide +kernel
theorem dX6_beatsOf_56 : decode cX6_beatsOf 56 = .ok (.goto (-51), 3) := by decide +kernel
theorem dX6_beatsOf_59 : decode cX6_beatsOf 59 = .ok (.iload_n 3, 1) := by decide +kernel
theorem dX6_beatsOf_60 : decode cX6_beatsOf 60 = .ok (.ireturn, 1) := by decide +kernel
theorem dX6_ofSpeaker_0 : decode cX6_ofSpeaker 0 = .ok (.iload_n 2, 1) := by decide +kernel
theorem dX6_ofSpeaker_1 : decode cX6_ofSpeaker 1 = .ok (.tableswitch 92 0 6 #[43, 52, 92, 59, 66, 80, 86], 43) := by decide +kernel
theorem dX6_ofSpeaker_44 : decode cX6_ofSpeaker 44 = .ok (.aload_n 0, 1) := by decide +kernel
theorem dX6_ofSpeaker_45 : decode cX6_ofSpeaker 45 = .ok (.getfield 8, 3) := by decide +kernel
theorem dX6_ofSpeaker_48 : decode cX6_ofSpeaker 48 = .ok (.iconst 5, 1) := by decide +kernel
theorem dX6_ofSpeaker_49 : decode cX6_ofSpeaker 49 = .ok (.iload_n 1, 1) := by decide +kernel
theorem dX6_ofSpeaker_50 : decode cX6_ofSpeaker 50 = .ok (.iadd, 1) := by decide +kernel
theorem dX6_ofSpeaker_51 : decode cX6_ofSpeaker 51 = .ok (.iaload, 1) := by decide +kernel
theorem dX6_ofSpeaker_52 : decode cX6_ofSpeaker 52 = .ok (.ireturn, 1) := by decide +kernel
theorem dX6_ofSpeaker_53 : decode cX6_ofSpeaker 53 = .ok (.aload_n 0, 1) := by decide +kernel
theorem dX6_ofSpeaker_54 : decode cX6_ofSpeaker 54 = .ok (.iload_n 1, 1) := by decide +kernel
theorem dX6_ofSpeaker_55 : decode cX6_ofSpeaker 55 = .ok (.iconst 0, 1) := by decide +kernel
theorem dX6_ofSpeaker_56 : decode cX6_ofSpeaker 56 = .ok (.invokevirtual 141, 3) := by decide +kernel
theorem dX6_ofSpeaker_59 : decode cX6_ofSpeaker 59 = .ok (.ireturn, 1) := by decide +kernel
theorem dX6_ofSpeaker_60 : decode cX6_ofSpeaker 60 = .ok (.aload_n 0, 1) := by decide +kernel
theorem dX6_ofSpeaker_61 : decode cX6_ofSpeaker 61 = .ok (.iload_n 1, 1) := by decide +kernel
theorem dX6_ofSpeaker_62 : decode cX6_ofSpeaker 62 = .ok (.iconst 1, 1) := by decide +kernel
theorem dX6_ofSpeaker_63 : decode cX6_ofSpeaker 63 = .ok (.invokevirtual 141, 3) := by decide +kernel
theorem dX6_ofSpeaker_66 : decode cX6_ofSpeaker 66 = .ok (.ireturn, 1) := by decide +kernel
theorem dX6_ofSpeaker_67 : decode cX6_ofSpeaker 67 = .ok (.aload_n 0, 1) := by decide +kernel
theorem dX6_ofSpeaker_68 : decode cX6_ofSpeaker 68 = .ok (.getfield 8, 3) := by decide +kernel
theorem dX6_ofSpeaker_71 : decode cX6_ofSpeaker 71 = .ok (.iconst 3, 1) := by decide +kernel
theorem dX6_ofSpeaker_72 : decode cX6_ofSpeaker 72 = .ok (.iaload, 1) := by decide +kernel
theorem dX6_ofSpeaker_73 : decode cX6_ofSpeaker 73 = .ok (.aload_n 0, 1) := by decide +kernel
theorem dX6_ofSpeaker_74 : decode cX6_ofSpeaker 74 = .ok (.iload_n 1, 1) := by decide +kernel
theorem dX6_ofSpeaker_75 : decode cX6_ofSpeaker 75 = .ok (.iconst 0, 1) := by decide +kernel
theorem dX6_ofSpeaker_76 : decode cX6_ofSpeaker 76 = .ok (.invokevirtual 141, 3) := by decide +kernel
theorem dX6_ofSpeaker_79 : decode cX6_ofSpeaker 79 = .ok (.isub, 1) := by decide +kernel
theorem dX6_ofSpeaker_80 : decode cX6_ofSpeaker 80 = .ok (.ireturn, 1) := by decide +kernel
theorem dX6_ofSpeaker_81 : decode cX6_ofSpeaker 81 = .ok (.aload_n 0, 1) := by decide +kernel
theorem dX6_ofSpeaker_82 : decode cX6_ofSpeaker 82 = .ok (.iload_n 1, 1) := by decide +kernel
theorem dX6_ofSpeaker_83 : decode cX6_ofSpeaker 83 = .ok (.invokevirtual 145, 3) := by decide +kernel
theorem dX6_ofSpeaker_86 : decode cX6_ofSpeaker 86 = .ok (.ireturn, 1) := by decide +kernel
theorem dX6_ofSpeaker_87 : decode cX6_ofSpeaker 87 = .ok (.aload_n 0, 1) := by decide +kernel
theorem dX6_ofSpeaker_88 : decode cX6_ofSpeaker 88 = .ok (.iload_n 1, 1) := by decide +kernel
theorem dX6_ofSpeaker_89 : decode cX6_ofSpeaker 89 = .ok (.invokevirtual 148, 3) := by decide +kernel
theorem dX6_ofSpeaker_92 : decode cX6_ofSpeaker 92 = .ok (.ireturn, 1) := by decide +kernel
theorem dX6_ofSpeaker_93 : decode cX6_ofSpeaker 93 = .ok (.aload_n 0, 1) := by decide +kernel
theorem dX6_ofSpeaker_94 : decode cX6_ofSpeaker 94 = .ok (.iload_n 1, 1) := by decide +kernel
theorem dX6_ofSpeaker_95 : decode cX6_ofSpeaker 95 = .ok (.invokevirtual 151, 3) := by decide +kernel
theorem dX6_ofSpeaker_98 : decode cX6_ofSpeaker 98 = .ok (.ireturn, 1) := by decide +kernel
theorem dX6_speaker_0 : decode cX6_speaker 0 = .ok (.aload_n 0, 1) := by decide +kernel
theorem dX6_speaker_1 : decode cX6_speaker 1 = .ok (.iload_n 1, 1) := by decide +kernel
theorem dX6_speaker_2 : decode cX6_speaker 2 = .ok (.invokestatic 52, 3) := by decide +kernel
theorem dX6_speaker_5 : decode cX6_speaker 5 = .ok (.iload_n 2, 1) := by decide +kernel
theorem dX6_speaker_6 : decode cX6_speaker 6 = .ok (.iconst 0, 1) := by decide +kernel
theorem dX6_speaker_7 : decode cX6_speaker 7 = .ok (.bipush 7, 2) := by decide +kernel
theorem dX6_speaker_9 : decode cX6_speaker 9 = .ok (.invokestatic 32, 3) := by decide +kernel
theorem dX6_speaker_12 : decode cX6_speaker 12 = .ok (.iconst 1, 1) := by decide +kernel
theorem dX6_speaker_13 : decode cX6_speaker 13 = .ok (.invokevirtual 60, 3) := by decide +kernel
theorem dX6_speaker_16 : decode cX6_speaker 16 = .ok (.ifCond .ne 5, 3) := by decide +kernel
theorem dX6_speaker_19 : decode cX6_speaker 19 = .ok (.iconst 0, 1) := by decide +kernel
theorem dX6_speaker_20 : decode cX6_speaker 20 = .ok (.ireturn, 1) := by decide +kernel
theorem dX6_speaker_21 : decode cX6_speaker 21 = .ok (.aload_n 0, 1) := by decide +kernel
theorem dX6_speaker_22 : decode cX6_speaker 22 = .ok (.iload_n 1, 1) := by decide +kernel
theorem dX6_speaker_23 : decode cX6_speaker 23 = .ok (.iload_n 2, 1) := by decide +kernel
theorem dX6_speaker_24 : decode cX6_speaker 24 = .ok (.invokevirtual 154, 3) := by decide +kernel
theorem dX6_speaker_27 : decode cX6_speaker 27 = .ok (.ireturn, 1) := by decide +kernel
theorem dX6_how_0 : decode cX6_how 0 = .ok (.iconst 0, 1) := by decide +kernel
theorem dX6_how_1 : decode cX6_how 1 = .ok (.istore 4, 2) := by decide +kernel
theorem dX6_how_3 : decode cX6_how 3 = .ok (.iconst 0, 1) := by decide +kernel
theorem dX6_how_4 : decode cX6_how 4 = .ok (.istore 5, 2) := by decide +kernel
theorem dX6_how_6 : decode cX6_how 6 = .ok (.iconst (-1), 1) := by decide +kernel
theorem dX6_how_7 : decode cX6_how 7 = .ok (.istore 6, 2) := by decide +kernel
theorem dX6_how_9 : decode cX6_how 9 = .ok (.iconst 1, 1) := by decide +kernel
theorem dX6_how_10 : decode cX6_how 10 = .ok (.istore 7, 2) := by decide +kernel
theorem dX6_how_12 : decode cX6_how 12 = .ok (.iconst 0, 1) := by decide +kernel
theorem dX6_how_13 : decode cX6_how 13 = .ok (.istore 8, 2) := by decide +kernel
theorem dX6_how_15 : decode cX6_how 15 = .ok (.iload 8, 2) := by decide +kernel
theorem dX6_how_17 : decode cX6_how 17 = .ok (.aload_n 0, 1) := by decide +kernel
theorem dX6_how_18 : decode cX6_how 18 = .ok (.getfield 8, 3) := by decide +kernel
theorem dX6_how_21 : decode cX6_how 21 = .ok (.iconst 4, 1) := by decide +kernel
theorem dX6_how_22 : decode cX6_how 22 = .ok (.iaload, 1) := by decide +kernel
theorem dX6_how_23 : decode cX6_how 23 = .ok (.if_icmp .ge 93, 3) := by decide +kernel
theorem dX6_how_26 : decode cX6_how 26 = .ok (.aload_n 0, 1) := by decide +kernel
theorem dX6_how_27 : decode cX6_how 27 = .ok (.iload 8, 2) := by decide +kernel
theorem dX6_how_29 : decode cX6_how 29 = .ok (.iconst 0, 1) := by decide +kernel
theorem dX6_how_30 : decode cX6_how 30 = .ok (.invokevirtual 40, 3) := by decide +kernel
theorem dX6_how_33 : decode cX6_how 33 = .ok (.iload_n 1, 1) := by decide +kernel
theorem dX6_how_34 : decode cX6_how 34 = .ok (.if_icmp .ne 76, 3) := by decide +kernel
theorem dX6_how_37 : decode cX6_how 37 = .ok (.aload_n 0, 1) := by decide +kernel
theorem dX6_how_38 : decode cX6_how 38 = .ok (.iload 8, 2) := by decide +kernel
theorem dX6_how_40 : decode cX6_how 40 = .ok (.iconst 2, 1) := by decide +kernel
theorem dX6_how_41 : decode cX6_how 41 = .ok (.invokevirtual 40, 3) := by decide +kernel
theorem dX6_how_44 : decode cX6_how 44 = .ok (.iload_n 2, 1) := by decide +kernel
theorem dX6_how_45 : decode cX6_how 45 = .ok (.if_icmp .ne 65, 3) := by decide +kernel
theorem dX6_how_48 : decode cX6_how 48 = .ok (.aload_n 0, 1) := by decide +kernel
theorem dX6_how_49 : decode cX6_how 49 = .ok (.iload 8, 2) := by decide +kernel
theorem dX6_how_51 : decode cX6_how 51 = .ok (.iload_n 3, 1) := by decide +kernel
theorem dX6_how_52 : decode cX6_how 52 = .ok (.invokevirtual 120, 3) := by decide +kernel
theorem dX6_how_55 : decode cX6_how 55 = .ok (.istore 9, 2) := by decide +kernel
theorem dX6_how_57 : decode cX6_how 57 = .ok (.iinc 4 1, 3) := by decide +kernel
theorem dX6_how_60 : decode cX6_how 60 = .ok (.iload 5, 2) := by decide +kernel
theorem dX6_how_62 : decode cX6_how 62 = .ok (.iload 9, 2) := by decide +kernel
theorem dX6_how_64 : decode cX6_how 64 = .ok (.ifCond .lt 7, 3) := by decide +kernel
theorem dX6_how_67 : decode cX6_how 67 = .ok (.iconst 1, 1) := by decide +kernel
theorem dX6_how_68 : decode cX6_how 68 = .ok (.goto 4, 3) := by decide +kernel
theorem dX6_how_71 : decode cX6_how 71 = .ok (.iconst 0, 1) := by decide +kernel
theorem dX6_how_72 : decode cX6_how 72 = .ok (.iadd, 1) := by decide +kernel
theorem dX6_how_73 : decode cX6_how 73 = .ok (.istore 5, 2) := by decide +kernel
theorem dX6_how_75 : decode cX6_how 75 = .ok (.iload 7, 2) := by decide +kernel
theorem dX6_how_77 : decode cX6_how 77 = .ok (.ifCond .eq 14, 3) := by decide +kernel
theorem dX6_how_80 : decode cX6_how 80 = .ok (.iload 9, 2) := by decide +kernel
theorem dX6_how_82 : decode cX6_how 82 = .ok (.iload 6, 2) := by decide +kernel
theorem dX6_how_84 : decode cX6_how 84 = .ok (.if_icmp .le 7, 3) := by decide +kernel
theorem dX6_how_87 : decode cX6_how 87 = .ok (.iconst 1, 1) := by decide +kernel
theorem dX6_how_88 : decode cX6_how 88 = .ok (.goto 4, 3) := by decide +kernel
theorem dX6_how_91 : decode cX6_how 91 = .ok (.iconst 0, 1) := by decide +kernel
theorem dX6_how_92 : decode cX6_how 92 = .ok (.istore 7, 2) := by decide +kernel
theorem dX6_how_94 : decode cX6_how 94 = .ok (.iload 9, 2) := by decide +kernel
theorem dX6_how_96 : decode cX6_how 96 = .ok (.iload 6, 2) := by decide +kernel
theorem dX6_how_98 : decode cX6_how 98 = .ok (.if_icmp .le 8, 3) := by decide +kernel
theorem dX6_how_101 : decode cX6_how 101 = .ok (.iload 9, 2) := by decide +kernel
theorem dX6_how_103 : decode cX6_how 103 = .ok (.goto 5, 3) := by decide +kernel
theorem dX6_how_106 : decode cX6_how 106 = .ok (.iload 6, 2) := by decide +kernel
theorem dX6_how_108 : decode cX6_how 108 = .ok (.istore 6, 2) := by decide +kernel
theorem dX6_how_110 : decode cX6_how 110 = .ok (.iinc 8 1, 3) := by decide +kernel
theorem dX6_how_113 : decode cX6_how 113 = .ok (.goto (-98), 3) := by decide +kernel
theorem dX6_how_116 : decode cX6_how 116 = .ok (.iload 4, 2) := by decide +kernel
theorem dX6_how_118 : decode cX6_how 118 = .ok (.ifCond .ne 7, 3) := by decide +kernel
theorem dX6_how_121 : decode cX6_how 121 = .ok (.iconst (-1), 1) := by decide +kernel
theorem dX6_how_122 : decode cX6_how 122 = .ok (.goto 33, 3) := by decide +kernel
theorem dX6_how_125 : decode cX6_how 125 = .ok (.iload 5, 2) := by decide +kernel
theorem dX6_how_127 : decode cX6_how 127 = .ok (.ifCond .ne 7, 3) := by decide +kernel
theorem dX6_how_130 : decode cX6_how 130 = .ok (.iconst 0, 1) := by decide +kernel
theorem dX6_how_131 : decode cX6_how 131 = .ok (.goto 24, 3) := by decide +kernel
theorem dX6_how_134 : decode cX6_how 134 = .ok (.iload 5, 2) := by decide +kernel
theorem dX6_how_136 : decode cX6_how 136 = .ok (.iload 4, 2) := by decide +kernel
theorem dX6_how_138 : decode cX6_how 138 = .ok (.if_icmp .ge 7, 3) := by decide +kernel
theorem dX6_how_141 : decode cX6_how 141 = .ok (.iconst 1, 1) := by decide +kernel
theorem dX6_how_142 : decode cX6_how 142 = .ok (.goto 13, 3) := by decide +kernel
theorem dX6_how_145 : decode cX6_how 145 = .ok (.iload 7, 2) := by decide +kernel
theorem dX6_how_147 : decode cX6_how 147 = .ok (.ifCond .eq 7, 3) := by decide +kernel
theorem dX6_how_150 : decode cX6_how 150 = .ok (.iconst 3, 1) := by decide +kernel
theorem dX6_how_151 : decode cX6_how 151 = .ok (.goto 4, 3) := by decide +kernel
theorem dX6_how_154 : decode cX6_how 154 = .ok (.iconst 2, 1) := by decide +kernel
theorem dX6_how_155 : decode cX6_how 155 = .ok (.ireturn, 1) := by decide +kernel
theorem dX6_message_0 : decode cX6_message 0 = .ok (.aload_n 0, 1) := by decide +kernel
theorem dX6_message_1 : decode cX6_message 1 = .ok (.iload_n 1, 1) := by decide +kernel
theorem dX6_message_2 : decode cX6_message 2 = .ok (.invokestatic 52, 3) := by decide +kernel
theorem dX6_message_5 : decode cX6_message 5 = .ok (.ifCond .eq 14, 3) := by decide +kernel
theorem dX6_message_8 : decode cX6_message 8 = .ok (.iload_n 3, 1) := by decide +kernel
theorem dX6_message_9 : decode cX6_message 9 = .ok (.invokestatic 52, 3) := by decide +kernel
theorem dX6_message_12 : decode cX6_message 12 = .ok (.ifCond .eq 7, 3) := by decide +kernel
theorem dX6_message_15 : decode cX6_message 15 = .ok (.iconst 1, 1) := by decide +kernel
theorem dX6_message_16 : decode cX6_message 16 = .ok (.goto 4, 3) := by decide +kernel
theorem dX6_message_19 : decode cX6_message 19 = .ok (.iconst 0, 1) := by decide +kernel
theorem dX6_message_20 : decode cX6_message 20 = .ok (.iload_n 2, 1) := by decide +kernel
theorem dX6_message_21 : decode cX6_message 21 = .ok (.iconst 0, 1) := by decide +kernel
theorem dX6_message_22 : decode cX6_message 22 = .ok (.bipush 9, 2) := by decide +kernel
theorem dX6_message_24 : decode cX6_message 24 = .ok (.invokestatic 32, 3) := by decide +kernel
theorem dX6_message_27 : decode cX6_message 27 = .ok (.iconst 1, 1) := by decide +kernel
theorem dX6_message_28 : decode cX6_message 28 = .ok (.invokevirtual 60, 3) := by decide +kernel
theorem dX6_message_31 : decode cX6_message 31 = .ok (.ifCond .ne 5, 3) := by decide +kernel
theorem dX6_message_34 : decode cX6_message 34 = .ok (.iconst 0, 1) := by decide +kernel
theorem dX6_message_35 : decode cX6_message 35 = .ok (.ireturn, 1) := by decide +kernel
theorem dX6_message_36 : decode cX6_message 36 = .ok (.aload_n 0, 1) := by decide +kernel
theorem dX6_message_37 : decode cX6_message 37 = .ok (.iload_n 1, 1) := by decide +kernel
theorem dX6_message_38 : decode cX6_message 38 = .ok (.iload_n 2, 1) := by decide +kernel
theorem dX6_message_39 : decode cX6_message 39 = .ok (.iload_n 3, 1) := by decide +kernel
theorem dX6_message_40 : decode cX6_message 40 = .ok (.invokevirtual 157, 3) := by decide +kernel
theorem dX6_message_43 : decode cX6_message 43 = .ok (.ireturn, 1) := by decide +kernel
theorem dX6_wordsHeardBy_0 : decode cX6_wordsHeardBy 0 = .ok (.iconst 0, 1) := by decide +kernel
theorem dX6_wordsHeardBy_1 : decode cX6_wordsHeardBy 1 = .ok (.istore_n 2, 1) := by decide +kernel
theorem dX6_wordsHeardBy_2 : decode cX6_wordsHeardBy 2 = .ok (.iconst 0, 1) := by decide +kernel
theorem dX6_wordsHeardBy_3 : decode cX6_wordsHeardBy 3 = .ok (.istore_n 3, 1) := by decide +kernel
theorem dX6_wordsHeardBy_4 : decode cX6_wordsHeardBy 4 = .ok (.iload_n 3, 1) := by decide +kernel
theorem dX6_wordsHeardBy_5 : decode cX6_wordsHeardBy 5 = .ok (.aload_n 0, 1) := by decide +kernel
theorem dX6_wordsHeardBy_6 : decode cX6_wordsHeardBy 6 = .ok (.getfield 8, 3) := by decide +kernel
theorem dX6_wordsHeardBy_9 : decode cX6_wordsHeardBy 9 = .ok (.iconst 4, 1) := by decide +kernel
theorem dX6_wordsHeardBy_10 : decode cX6_wordsHeardBy 10 = .ok (.iaload, 1) := by decide +kernel
theorem dX6_wordsHeardBy_11 : decode cX6_wordsHeardBy 11 = .ok (.if_icmp .ge 26, 3) := by decide +kernel
theorem dX6_wordsHeardBy_14 : decode cX6_wordsHeardBy 14 = .ok (.iload_n 2, 1) := by decide +kernel
theorem dX6_wordsHeardBy_15 : decode cX6_wordsHeardBy 15 = .ok (.aload_n 0, 1) := by decide +kernel
theorem dX6_wordsHeardBy_16 : decode cX6_wordsHeardBy 16 = .ok (.iload_n 3, 1) := by decide +kernel
theorem dX6_wordsHeardBy_17 : decode cX6_wordsHeardBy 17 = .ok (.invokevirtual 126, 3) := by decide +kernel
theorem dX6_wordsHeardBy_20 : decode cX6_wordsHeardBy 20 = .ok (.iload_n 1, 1) := by decide +kernel
theorem dX6_wordsHeardBy_21 : decode cX6_wordsHeardBy 21 = .ok (.if_icmp .ne 7, 3) := by decide +kernel
theorem dX6_wordsHeardBy_24 : decode cX6_wordsHeardBy 24 = .ok (.iconst 1, 1) := by decide +kernel
theorem dX6_wordsHeardBy_25 : decode cX6_wordsHeardBy 25 = .ok (.goto 4, 3) := by decide +kernel
theorem dX6_wordsHeardBy_28 : decode cX6_wordsHeardBy 28 = .ok (.iconst 0, 1) := by decide +kernel
theorem dX6_wordsHeardBy_29 : decode cX6_wordsHeardBy 29 = .ok (.iadd, 1) := by decide +kernel
theorem dX6_wordsHeardBy_30 : decode cX6_wordsHeardBy 30 = .ok (.istore_n 2, 1) := by decide +kernel
theorem dX6_wordsHeardBy_31 : decode cX6_wordsHeardBy 31 = .ok (.iinc 3 1, 3) := by decide +kernel
theorem dX6_wordsHeardBy_34 : decode cX6_wordsHeardBy 34 = .ok (.goto (-30), 3) := by decide +kernel
theorem dX6_wordsHeardBy_37 : decode cX6_wordsHeardBy 37 = .ok (.iload_n 2, 1) := by decide +kernel
theorem dX6_wordsHeardBy_38 : decode cX6_wordsHeardBy 38 = .ok (.ireturn, 1) := by decide +kernel
theorem dX6_messages_0 : decode cX6_messages 0 = .ok (.iconst 0, 1) := by decide +kernel
theorem dX6_messages_1 : decode cX6_messages 1 = .ok (.istore_n 2, 1) := by decide +kernel
theorem dX6_messages_2 : decode cX6_messages 2 = .ok (.iconst 0, 1) := by decide +kernel
theorem dX6_messages_3 : decode cX6_messages 3 = .ok (.istore_n 3, 1) := by decide +kernel
theorem dX6_messages_4 : decode cX6_messages 4 = .ok (.iload_n 3, 1) := by decide +kernel
theorem dX6_messages_5 : decode cX6_messages 5 = .ok (.bipush 60, 2) := by decide +kernel
theorem dX6_messages_7 : decode cX6_messages 7 = .ok (.if_icmp .ge 96, 3) := by decide +kernel
theorem dX6_messages_10 : decode cX6_messages 10 = .ok (.aload_n 0, 1) := by decide +kernel
theorem dX6_messages_11 : decode cX6_messages 11 = .ok (.iload_n 3, 1) := by decide +kernel
theorem dX6_messages_12 : decode cX6_messages 12 = .ok (.bipush 10, 2) := by decide +kernel
theorem dX6_messages_14 : decode cX6_messages 14 = .ok (.idiv, 1) := by decide +kernel
theorem dX6_messages_15 : decode cX6_messages 15 = .ok (.iload_n 3, 1) := by decide +kernel
theorem dX6_messages_16 : decode cX6_messages 16 = .ok (.bipush 10, 2) := by decide +kernel
theorem dX6_messages_18 : decode cX6_messages 18 = .ok (.irem, 1) := by decide +kernel
theorem dX6_messages_19 : decode cX6_messages 19 = .ok (.iconst 0, 1) := by decide +kernel
theorem dX6_messages_20 : decode cX6_messages 20 = .ok (.invokevirtual 157, 3) := by decide +kernel
theorem dX6_messages_23 : decode cX6_messages 23 = .ok (.iconst (-1), 1) := by decide +kernel
theorem dX6_messages_24 : decode cX6_messages 24 = .ok (.if_icmp .eq 7, 3) := by decide +kernel
theorem dX6_messages_27 : decode cX6_messages 27 = .ok (.iconst 1, 1) := by decide +kernel
theorem dX6_messages_28 : decode cX6_messages 28 = .ok (.goto 4, 3) := by decide +kernel
theorem dX6_messages_31 : decode cX6_messages 31 = .ok (.iconst 0, 1) := by decide +kernel
theorem dX6_messages_32 : decode cX6_messages 32 = .ok (.istore 4, 2) := by decide +kernel
theorem dX6_messages_34 : decode cX6_messages 34 = .ok (.iconst 0, 1) := by decide +kernel
theorem dX6_messages_35 : decode cX6_messages 35 = .ok (.istore 5, 2) := by decide +kernel
theorem dX6_messages_37 : decode cX6_messages 37 = .ok (.iload 5, 2) := by decide +kernel
theorem dX6_messages_39 : decode cX6_messages 39 = .ok (.bipush 6, 2) := by decide +kernel
theorem dX6_messages_41 : decode cX6_messages 41 = .ok (.if_icmp .ge 43, 3) := by decide +kernel
theorem dX6_messages_44 : decode cX6_messages 44 = .ok (.iload 4, 2) := by decide +kernel
theorem dX6_messages_46 : decode cX6_messages 46 = .ok (.ifCond .eq 38, 3) := by decide +kernel
theorem dX6_messages_49 : decode cX6_messages 49 = .ok (.iload_n 1, 1) := by decide +kernel
theorem dX6_messages_50 : decode cX6_messages 50 = .ok (.ifCond .eq 34, 3) := by decide +kernel
theorem dX6_messages_53 : decode cX6_messages 53 = .ok (.aload_n 0, 1) := by decide +kernel
theorem dX6_messages_54 : decode cX6_messages 54 = .ok (.iload_n 3, 1) := by decide +kernel
theorem dX6_messages_55 : decode cX6_messages 55 = .ok (.bipush 10, 2) := by decide +kernel
theorem dX6_messages_57 : decode cX6_messages 57 = .ok (.idiv, 1) := by decide +kernel
theorem dX6_messages_58 : decode cX6_messages 58 = .ok (.iload_n 3, 1) := by decide +kernel
theorem dX6_messages_59 : decode cX6_messages 59 = .ok (.bipush 10, 2) := by decide +kernel
theorem dX6_messages_61 : decode cX6_messages 61 = .ok (.irem, 1) := by decide +kernel
theorem dX6_messages_62 : decode cX6_messages 62 = .ok (.iload 5, 2) := by decide +kernel
theorem dX6_messages_64 : decode cX6_messages 64 = .ok (.invokevirtual 157, 3) := by decide +kernel
theorem dX6_messages_67 : decode cX6_messages 67 = .ok (.iconst 3, 1) := by decide +kernel
theorem dX6_messages_68 : decode cX6_messages 68 = .ok (.if_icmp .ne 7, 3) := by decide +kernel
theorem dX6_messages_71 : decode cX6_messages 71 = .ok (.iconst 1, 1) := by decide +kernel
theorem dX6_messages_72 : decode cX6_messages 72 = .ok (.goto 4, 3) := by decide +kernel
theorem dX6_messages_75 : decode cX6_messages 75 = .ok (.iconst 0, 1) := by decide +kernel
theorem dX6_messages_76 : decode cX6_messages 76 = .ok (.istore 4, 2) := by decide +kernel
theorem dX6_messages_78 : decode cX6_messages 78 = .ok (.iinc 5 1, 3) := by decide +kernel
theorem dX6_messages_81 : decode cX6_messages 81 = .ok (.goto (-44), 3) := by decide +kernel
theorem dX6_messages_84 : decode cX6_messages 84 = .ok (.iload_n 2, 1) := by decide +kernel
theorem dX6_messages_85 : decode cX6_messages 85 = .ok (.iload 4, 2) := by decide +kernel
theorem dX6_messages_87 : decode cX6_messages 87 = .ok (.ifCond .eq 7, 3) := by decide +kernel
theorem dX6_messages_90 : decode cX6_messages 90 = .ok (.iconst 1, 1) := by decide +kernel
theorem dX6_messages_91 : decode cX6_messages 91 = .ok (.goto 4, 3) := by decide +kernel
theorem dX6_messages_94 : decode cX6_messages 94 = .ok (.iconst 0, 1) := by decide +kernel
theorem dX6_messages_95 : decode cX6_messages 95 = .ok (.iadd, 1) := by decide +kernel
theorem dX6_messages_96 : decode cX6_messages 96 = .ok (.istore_n 2, 1) := by decide +kernel
theorem dX6_messages_97 : decode cX6_messages 97 = .ok (.iinc 3 1, 3) := by decide +kernel
theorem dX6_messages_100 : decode cX6_messages 100 = .ok (.goto (-96), 3) := by decide +kernel
theorem dX6_messages_103 : decode cX6_messages 103 = .ok (.iload_n 2, 1) := by decide +kernel
theorem dX6_messages_104 : decode cX6_messages 104 = .ok (.ireturn, 1) := by decide +kernel
theorem dX6_counted_0 : decode cX6_counted 0 = .ok (.iload_n 1, 1) := by decide +kernel
theorem dX6_counted_1 : decode cX6_counted 1 = .ok (.tableswitch 99 0 9 #[55, 62, 69, 76, 82, 88, 99, 99, 99, 94], 55) := by decide +kernel
theorem dX6_counted_56 : decode cX6_counted 56 = .ok (.aload_n 0, 1) := by decide +kernel
theorem dX6_counted_57 : decode cX6_counted 57 = .ok (.getfield 8, 3) := by decide +kernel
theorem dX6_counted_60 : decode cX6_counted 60 = .ok (.iconst 3, 1) := by decide +kernel
theorem dX6_counted_61 : decode cX6_counted 61 = .ok (.iaload, 1) := by decide +kernel
theorem dX6_counted_62 : decode cX6_counted 62 = .ok (.ireturn, 1) := by decide +kernel
theorem dX6_counted_63 : decode cX6_counted 63 = .ok (.aload_n 0, 1) := by decide +kernel
theorem dX6_counted_64 : decode cX6_counted 64 = .ok (.getfield 8, 3) := by decide +kernel
theorem dX6_counted_67 : decode cX6_counted 67 = .ok (.iconst 4, 1) := by decide +kernel
theorem dX6_counted_68 : decode cX6_counted 68 = .ok (.iaload, 1) := by decide +kernel
theorem dX6_counted_69 : decode cX6_counted 69 = .ok (.ireturn, 1) := by decide +kernel
theorem dX6_counted_70 : decode cX6_counted 70 = .ok (.aload_n 0, 1) := by decide +kernel
theorem dX6_counted_71 : decode cX6_counted 71 = .ok (.bipush 63, 2) := by decide +kernel
theorem dX6_counted_73 : decode cX6_counted 73 = .ok (.invokevirtual 160, 3) := by decide +kernel
theorem dX6_counted_76 : decode cX6_counted 76 = .ok (.ireturn, 1) := by decide +kernel
theorem dX6_counted_77 : decode cX6_counted 77 = .ok (.aload_n 0, 1) := by decide +kernel
theorem dX6_counted_78 : decode cX6_counted 78 = .ok (.iconst 0, 1) := by decide +kernel
theorem dX6_counted_79 : decode cX6_counted 79 = .ok (.invokevirtual 160, 3) := by decide +kernel
theorem dX6_counted_82 : decode cX6_counted 82 = .ok (.ireturn, 1) := by decide +kernel
theorem dX6_counted_83 : decode cX6_counted 83 = .ok (.aload_n 0, 1) := by decide +kernel
theorem dX6_counted_84 : decode cX6_counted 84 = .ok (.iconst 0, 1) := by decide +kernel
theorem dX6_counted_85 : decode cX6_counted 85 = .ok (.invokevirtual 163, 3) := by decide +kernel
theorem dX6_counted_88 : decode cX6_counted 88 = .ok (.ireturn, 1) := by decide +kernel
theorem dX6_counted_89 : decode cX6_counted 89 = .ok (.aload_n 0, 1) := by decide +kernel
theorem dX6_counted_90 : decode cX6_counted 90 = .ok (.iconst 1, 1) := by decide +kernel
theorem dX6_counted_91 : decode cX6_counted 91 = .ok (.invokevirtual 163, 3) := by decide +kernel
theorem dX6_counted_94 : decode cX6_counted 94 = .ok (.ireturn, 1) := by decide +kernel
theorem dX6_counted_95 : decode cX6_counted 95 = .ok (.aload_n 0, 1) := by decide +kernel
theorem dX6_counted_96 : decode cX6_counted 96 = .ok (.getfield 25, 3) := by decide +kernel
theorem dX6_counted_99 : decode cX6_counted 99 = .ok (.ireturn, 1) := by decide +kernel
theorem dX6_counted_100 : decode cX6_counted 100 = .ok (.aload_n 0, 1) := by decide +kernel
theorem dX6_counted_101 : decode cX6_counted 101 = .ok (.getfield 8, 3) := by decide +kernel
theorem dX6_counted_104 : decode cX6_counted 104 = .ok (.iload_n 1, 1) := by decide +kernel
theorem dX6_counted_105 : decode cX6_counted 105 = .ok (.bipush 6, 2) := by decide +kernel
theorem dX6_counted_107 : decode cX6_counted 107 = .ok (.isub, 1) := by decide +kernel
theorem dX6_counted_108 : decode cX6_counted 108 = .ok (.iaload, 1) := by decide +kernel
theorem dX6_counted_109 : decode cX6_counted 109 = .ok (.ireturn, 1) := by decide +kernel
theorem dX6_count_0 : decode cX6_count 0 = .ok (.aload_n 0, 1) := by decide +kernel
theorem dX6_count_1 : decode cX6_count 1 = .ok (.iload_n 1, 1) := by decide +kernel
theorem dX6_count_2 : decode cX6_count 2 = .ok (.iconst 0, 1) := by decide +kernel
theorem dX6_count_3 : decode cX6_count 3 = .ok (.bipush 9, 2) := by decide +kernel
theorem dX6_count_5 : decode cX6_count 5 = .ok (.invokestatic 32, 3) := by decide +kernel
theorem dX6_count_8 : decode cX6_count 8 = .ok (.iconst 1, 1) := by decide +kernel
theorem dX6_count_9 : decode cX6_count 9 = .ok (.iconst 1, 1) := by decide +kernel
theorem dX6_count_10 : decode cX6_count 10 = .ok (.invokevirtual 60, 3) := by decide +kernel
theorem dX6_count_13 : decode cX6_count 13 = .ok (.ifCond .ne 5, 3) := by decide +kernel
theorem dX6_count_16 : decode cX6_count 16 = .ok (.iconst 0, 1) := by decide +kernel
theorem dX6_count_17 : decode cX6_count 17 = .ok (.ireturn, 1) := by decide +kernel
theorem dX6_count_18 : decode cX6_count 18 = .ok (.aload_n 0, 1) := by decide +kernel
theorem dX6_count_19 : decode cX6_count 19 = .ok (.iload_n 1, 1) := by decide +kernel
theorem dX6_count_20 : decode cX6_count 20 = .ok (.invokevirtual 167, 3) := by decide +kernel
theorem dX6_count_23 : decode cX6_count 23 = .ok (.ireturn, 1) := by decide +kernel
theorem dX6_reason_0 : decode cX6_reason 0 = .ok (.iload_n 1, 1) := by decide +kernel
theorem dX6_reason_1 : decode cX6_reason 1 = .ok (.aload_n 0, 1) := by decide +kernel
theorem dX6_reason_2 : decode cX6_reason 2 = .ok (.getfield 8, 3) := by decide +kernel
theorem dX6_reason_5 : decode cX6_reason 5 = .ok (.iconst 4, 1) := by decide +kernel
theorem dX6_reason_6 : decode cX6_reason 6 = .ok (.iaload, 1) := by decide +kernel
theorem dX6_reason_7 : decode cX6_reason 7 = .ok (.if_icmp .lt 5, 3) := by decide +kernel
theorem dX6_reason_10 : decode cX6_reason 10 = .ok (.iconst (-1), 1) := by decide +kernel
theorem dX6_reason_11 : decode cX6_reason 11 = .ok (.ireturn, 1) := by decide +kernel
theorem dX6_reason_12 : decode cX6_reason 12 = .ok (.aload_n 0, 1) := by decide +kernel
theorem dX6_reason_13 : decode cX6_reason 13 = .ok (.iload_n 1, 1) := by decide +kernel
theorem dX6_reason_14 : decode cX6_reason 14 = .ok (.iconst 4, 1) := by decide +kernel
theorem dX6_reason_15 : decode cX6_reason 15 = .ok (.iload_n 2, 1) := by decide +kernel
theorem dX6_reason_16 : decode cX6_reason 16 = .ok (.iadd, 1) := by decide +kernel
theorem dX6_reason_17 : decode cX6_reason 17 = .ok (.invokevirtual 40, 3) := by decide +kernel
theorem dX6_reason_20 : decode cX6_reason 20 = .ok (.istore_n 3, 1) := by decide +kernel
theorem dX6_reason_21 : decode cX6_reason 21 = .ok (.aload_n 0, 1) := by decide +kernel
theorem dX6_reason_22 : decode cX6_reason 22 = .ok (.iload_n 1, 1) := by decide +kernel
theorem dX6_reason_23 : decode cX6_reason 23 = .ok (.iload_n 2, 1) := by decide +kernel
theorem dX6_reason_24 : decode cX6_reason 24 = .ok (.invokevirtual 120, 3) := by decide +kernel
theorem dX6_reason_27 : decode cX6_reason 27 = .ok (.ifCond .lt 7, 3) := by decide +kernel
theorem dX6_reason_30 : decode cX6_reason 30 = .ok (.iconst 0, 1) := by decide +kernel
theorem dX6_reason_31 : decode cX6_reason 31 = .ok (.goto 26, 3) := by decide +kernel
theorem dX6_reason_34 : decode cX6_reason 34 = .ok (.iload_n 3, 1) := by decide +kernel
theorem dX6_reason_35 : decode cX6_reason 35 = .ok (.ifCond .ge 7, 3) := by decide +kernel
theorem dX6_reason_38 : decode cX6_reason 38 = .ok (.iconst 1, 1) := by decide +kernel
theorem dX6_reason_39 : decode cX6_reason 39 = .ok (.goto 18, 3) := by decide +kernel
theorem dX6_reason_42 : decode cX6_reason 42 = .ok (.iload_n 3, 1) := by decide +kernel
theorem dX6_reason_43 : decode cX6_reason 43 = .ok (.aload_n 0, 1) := by decide +kernel
theorem dX6_reason_44 : decode cX6_reason 44 = .ok (.getfield 8, 3) := by decide +kernel
theorem dX6_reason_47 : decode cX6_reason 47 = .ok (.iconst 3, 1) := by decide +kernel
theorem dX6_reason_48 : decode cX6_reason 48 = .ok (.iaload, 1) := by decide +kernel
theorem dX6_reason_49 : decode cX6_reason 49 = .ok (.if_icmp .lt 7, 3) := by decide +kernel
theorem dX6_reason_52 : decode cX6_reason 52 = .ok (.iconst 2, 1) := by decide +kernel
theorem dX6_reason_53 : decode cX6_reason 53 = .ok (.goto 4, 3) := by decide +kernel
theorem dX6_reason_56 : decode cX6_reason 56 = .ok (.iconst 3, 1) := by decide +kernel
theorem dX6_reason_57 : decode cX6_reason 57 = .ok (.ireturn, 1) := by decide +kernel
theorem dX6_whyNot_0 : decode cX6_whyNot 0 = .ok (.aload_n 0, 1) := by decide +kernel
theorem dX6_whyNot_1 : decode cX6_whyNot 1 = .ok (.iload_n 2, 1) := by decide +kernel
theorem dX6_whyNot_2 : decode cX6_whyNot 2 = .ok (.invokestatic 52, 3) := by decide +kernel
theorem dX6_whyNot_5 : decode cX6_whyNot 5 = .ok (.iload_n 1, 1) := by decide +kernel
theorem dX6_whyNot_6 : decode cX6_whyNot 6 = .ok (.ifCond .lt 7, 3) := by decide +kernel
theorem dX6_whyNot_9 : decode cX6_whyNot 9 = .ok (.iconst 1, 1) := by decide +kernel
theorem dX6_whyNot_10 : decode cX6_whyNot 10 = .ok (.goto 4, 3) := by decide +kernel
theorem dX6_whyNot_13 : decode cX6_whyNot 13 = .ok (.iconst 0, 1) := by decide +kernel
theorem dX6_whyNot_14 : decode cX6_whyNot 14 = .ok (.iconst 1, 1) := by decide +kernel
theorem dX6_whyNot_15 : decode cX6_whyNot 15 = .ok (.invokevirtual 60, 3) := by decide +kernel
theorem dX6_whyNot_18 : decode cX6_whyNot 18 = .ok (.ifCond .ne 5, 3) := by decide +kernel
theorem dX6_whyNot_21 : decode cX6_whyNot 21 = .ok (.iconst 0, 1) := by decide +kernel
theorem dX6_whyNot_22 : decode cX6_whyNot 22 = .ok (.ireturn, 1) := by decide +kernel
theorem dX6_whyNot_23 : decode cX6_whyNot 23 = .ok (.aload_n 0, 1) := by decide +kernel
theorem dX6_whyNot_24 : decode cX6_whyNot 24 = .ok (.iload_n 1, 1) := by decide +kernel
theorem dX6_whyNot_25 : decode cX6_whyNot 25 = .ok (.iload_n 2, 1) := by decide +kernel
theorem dX6_whyNot_26 : decode cX6_whyNot 26 = .ok (.invokevirtual 170, 3) := by decide +kernel
theorem dX6_whyNot_29 : decode cX6_whyNot 29 = .ok (.ireturn, 1) := by decide +kernel
theorem dX6_ifSilent_0 : decode cX6_ifSilent 0 = .ok (.aload_n 0, 1) := by decide +kernel
theorem dX6_ifSilent_1 : decode cX6_ifSilent 1 = .ok (.iload_n 1, 1) := by decide +kernel
theorem dX6_ifSilent_2 : decode cX6_ifSilent 2 = .ok (.invokestatic 52, 3) := by decide +kernel
theorem dX6_ifSilent_5 : decode cX6_ifSilent 5 = .ok (.iconst 1, 1) := by decide +kernel
theorem dX6_ifSilent_6 : decode cX6_ifSilent 6 = .ok (.iconst 1, 1) := by decide +kernel
theorem dX6_ifSilent_7 : decode cX6_ifSilent 7 = .ok (.invokevirtual 60, 3) := by decide +kernel
theorem dX6_ifSilent_10 : decode cX6_ifSilent 10 = .ok (.ifCond .ne 5, 3) := by decide +kernel
theorem dX6_ifSilent_13 : decode cX6_ifSilent 13 = .ok (.iconst 0, 1) := by decide +kernel
theorem dX6_ifSilent_14 : decode cX6_ifSilent 14 = .ok (.ireturn, 1) := by decide +kernel
theorem dX6_ifSilent_15 : decode cX6_ifSilent 15 = .ok (.aload_n 0, 1) := by decide +kernel
theorem dX6_ifSilent_16 : decode cX6_ifSilent 16 = .ok (.iload_n 1, 1) := by decide +kernel
theorem dX6_ifSilent_17 : decode cX6_ifSilent 17 = .ok (.aload_n 0, 1) := by decide +kernel
theorem dX6_ifSilent_18 : decode cX6_ifSilent 18 = .ok (.getfield 8, 3) := by decide +kernel
theorem dX6_ifSilent_21 : decode cX6_ifSilent 21 = .ok (.iconst 3, 1) := by decide +kernel
theorem dX6_ifSilent_22 : decode cX6_ifSilent 22 = .ok (.iaload, 1) := by decide +kernel
theorem dX6_ifSilent_23 : decode cX6_ifSilent 23 = .ok (.invokevirtual 43, 3) := by decide +kernel
theorem dX6_ifSilent_26 : decode cX6_ifSilent 26 = .ok (.ireturn, 1) := by decide +kernel
theorem dX6_silentBeats_0 : decode cX6_silentBeats 0 = .ok (.iload_n 1, 1) := by decide +kernel
theorem dX6_silentBeats_1 : decode cX6_silentBeats 1 = .ok (.ifCond .lt 13, 3) := by decide +kernel
theorem dX6_silentBeats_4 : decode cX6_silentBeats 4 = .ok (.iload_n 1, 1) := by decide +kernel
theorem dX6_silentBeats_5 : decode cX6_silentBeats 5 = .ok (.aload_n 0, 1) := by decide +kernel
theorem dX6_silentBeats_6 : decode cX6_silentBeats 6 = .ok (.getfield 8, 3) := by decide +kernel
theorem dX6_silentBeats_9 : decode cX6_silentBeats 9 = .ok (.iconst 4, 1) := by decide +kernel
theorem dX6_silentBeats_10 : decode cX6_silentBeats 10 = .ok (.iaload, 1) := by decide +kernel
theorem dX6_silentBeats_11 : decode cX6_silentBeats 11 = .ok (.if_icmp .lt 5, 3) := by decide +kernel
theorem dX6_silentBeats_14 : decode cX6_silentBeats 14 = .ok (.iconst (-1), 1) := by decide +kernel
theorem dX6_silentBeats_15 : decode cX6_silentBeats 15 = .ok (.ireturn, 1) := by decide +kernel
theorem dX6_silentBeats_16 : decode cX6_silentBeats 16 = .ok (.aload_n 0, 1) := by decide +kernel
theorem dX6_silentBeats_17 : decode cX6_silentBeats 17 = .ok (.iload_n 1, 1) := by decide +kernel
theorem dX6_silentBeats_18 : decode cX6_silentBeats 18 = .ok (.iload_n 2, 1) := by decide +kernel
theorem dX6_silentBeats_19 : decode cX6_silentBeats 19 = .ok (.invokevirtual 120, 3) := by decide +kernel
theorem dX6_silentBeats_22 : decode cX6_silentBeats 22 = .ok (.ifCond .lt 5, 3) := by decide +kernel
theorem dX6_silentBeats_25 : decode cX6_silentBeats 25 = .ok (.iconst 0, 1) := by decide +kernel
theorem dX6_silentBeats_26 : decode cX6_silentBeats 26 = .ok (.ireturn, 1) := by decide +kernel
theorem dX6_silentBeats_27 : decode cX6_silentBeats 27 = .ok (.iconst (-1), 1) := by decide +kernel
theorem dX6_silentBeats_28 : decode cX6_silentBeats 28 = .ok (.istore_n 3, 1) := by decide +kernel
theorem dX6_silentBeats_29 : decode cX6_silentBeats 29 = .ok (.bipush 60, 2) := by decide +kernel
theorem dX6_silentBeats_31 : decode cX6_silentBeats 31 = .ok (.istore 4, 2) := by decide +kernel
theorem dX6_silentBeats_33 : decode cX6_silentBeats 33 = .ok (.iload 4, 2) := by decide +kernel
theorem dX6_silentBeats_35 : decode cX6_silentBeats 35 = .ok (.ifCond .le 36, 3) := by decide +kernel
theorem dX6_silentBeats_38 : decode cX6_silentBeats 38 = .ok (.aload_n 0, 1) := by decide +kernel
theorem dX6_silentBeats_39 : decode cX6_silentBeats 39 = .ok (.iload_n 2, 1) := by decide +kernel
theorem dX6_silentBeats_40 : decode cX6_silentBeats 40 = .ok (.aload_n 0, 1) := by decide +kernel
theorem dX6_silentBeats_41 : decode cX6_silentBeats 41 = .ok (.getfield 8, 3) := by decide +kernel
theorem dX6_silentBeats_44 : decode cX6_silentBeats 44 = .ok (.iconst 3, 1) := by decide +kernel
theorem dX6_silentBeats_45 : decode cX6_silentBeats 45 = .ok (.iaload, 1) := by decide +kernel
theorem dX6_silentBeats_46 : decode cX6_silentBeats 46 = .ok (.iload 4, 2) := by decide +kernel
theorem dX6_silentBeats_48 : decode cX6_silentBeats 48 = .ok (.iadd, 1) := by decide +kernel
theorem dX6_silentBeats_49 : decode cX6_silentBeats 49 = .ok (.iconst 1, 1) := by decide +kernel
theorem dX6_silentBeats_50 : decode cX6_silentBeats 50 = .ok (.isub, 1) := by decide +kernel
theorem dX6_silentBeats_51 : decode cX6_silentBeats 51 = .ok (.invokevirtual 43, 3) := by decide +kernel
theorem dX6_silentBeats_54 : decode cX6_silentBeats 54 = .ok (.iload_n 1, 1) := by decide +kernel
theorem dX6_silentBeats_55 : decode cX6_silentBeats 55 = .ok (.if_icmp .ne 8, 3) := by decide +kernel
theorem dX6_silentBeats_58 : decode cX6_silentBeats 58 = .ok (.iload 4, 2) := by decide +kernel
theorem dX6_silentBeats_60 : decode cX6_silentBeats 60 = .ok (.goto 4, 3) := by decide +kernel
theorem dX6_silentBeats_63 : decode cX6_silentBeats 63 = .ok (.iload_n 3, 1) := by decide +kernel
theorem dX6_silentBeats_64 : decode cX6_silentBeats 64 = .ok (.istore_n 3, 1) := by decide +kernel
theorem dX6_silentBeats_65 : decode cX6_silentBeats 65 = .ok (.iinc 4 (-1), 3) := by decide +kernel
theorem dX6_silentBeats_68 : decode cX6_silentBeats 68 = .ok (.goto (-35), 3) := by decide +kernel
theorem dX6_silentBeats_71 : decode cX6_silentBeats 71 = .ok (.iload_n 3, 1) := by decide +kernel
theorem dX6_silentBeats_72 : decode cX6_silentBeats 72 = .ok (.ireturn, 1) := by decide +kernel
theorem dX6_heardIn_0 : decode cX6_heardIn 0 = .ok (.aload_n 0, 1) := by decide +kernel
theorem dX6_heardIn_1 : decode cX6_heardIn 1 = .ok (.iload_n 2, 1) := by decide +kernel
theorem dX6_heardIn_2 : decode cX6_heardIn 2 = .ok (.invokestatic 52, 3) := by decide +kernel
theorem dX6_heardIn_5 : decode cX6_heardIn 5 = .ok (.iload_n 1, 1) := by decide +kernel
theorem dX6_heardIn_6 : decode cX6_heardIn 6 = .ok (.ifCond .lt 7, 3) := by decide +kernel
theorem dX6_heardIn_9 : decode cX6_heardIn 9 = .ok (.iconst 1, 1) := by decide +kernel
theorem dX6_heardIn_10 : decode cX6_heardIn 10 = .ok (.goto 4, 3) := by decide +kernel
theorem dX6_heardIn_13 : decode cX6_heardIn 13 = .ok (.iconst 0, 1) := by decide +kernel
theorem dX6_heardIn_14 : decode cX6_heardIn 14 = .ok (.iconst 1, 1) := by decide +kernel
theorem dX6_heardIn_15 : decode cX6_heardIn 15 = .ok (.invokevirtual 60, 3) := by decide +kernel
theorem dX6_heardIn_18 : decode cX6_heardIn 18 = .ok (.ifCond .ne 5, 3) := by decide +kernel
theorem dX6_heardIn_21 : decode cX6_heardIn 21 = .ok (.iconst 0, 1) := by decide +kernel
theorem dX6_heardIn_22 : decode cX6_heardIn 22 = .ok (.ireturn, 1) := by decide +kernel
theorem dX6_heardIn_23 : decode cX6_heardIn 23 = .ok (.aload_n 0, 1) := by decide +kernel
theorem dX6_heardIn_24 : decode cX6_heardIn 24 = .ok (.iload_n 1, 1) := by decide +kernel
theorem dX6_heardIn_25 : decode cX6_heardIn 25 = .ok (.iload_n 2, 1) := by decide +kernel
theorem dX6_heardIn_26 : decode cX6_heardIn 26 = .ok (.invokevirtual 173, 3) := by decide +kernel
theorem dX6_heardIn_29 : decode cX6_heardIn 29 = .ok (.ireturn, 1) := by decide +kernel
theorem dX6_best_0 : decode cX6_best 0 = .ok (.iconst 0, 1) := by decide +kernel
theorem dX6_best_1 : decode cX6_best 1 = .ok (.istore_n 1, 1) := by decide +kernel
theorem dX6_best_2 : decode cX6_best 2 = .ok (.iconst (-1), 1) := by decide +kernel
theorem dX6_best_3 : decode cX6_best 3 = .ok (.istore_n 2, 1) := by decide +kernel
theorem dX6_best_4 : decode cX6_best 4 = .ok (.iconst 0, 1) := by decide +kernel
theorem dX6_best_5 : decode cX6_best 5 = .ok (.istore_n 3, 1) := by decide +kernel
theorem dX6_best_6 : decode cX6_best 6 = .ok (.iconst 0, 1) := by decide +kernel
theorem dX6_best_7 : decode cX6_best 7 = .ok (.istore 4, 2) := by decide +kernel
theorem dX6_best_9 : decode cX6_best 9 = .ok (.iload 4, 2) := by decide +kernel
theorem dX6_best_11 : decode cX6_best 11 = .ok (.bipush 6, 2) := by decide +kernel
theorem dX6_best_13 : decode cX6_best 13 = .ok (.if_icmp .ge 133, 3) := by decide +kernel
theorem dX6_best_16 : decode cX6_best 16 = .ok (.iconst 0, 1) := by decide +kernel
theorem dX6_best_17 : decode cX6_best 17 = .ok (.istore 5, 2) := by decide +kernel
theorem dX6_best_19 : decode cX6_best 19 = .ok (.iconst 0, 1) := by decide +kernel
theorem dX6_best_20 : decode cX6_best 20 = .ok (.istore 6, 2) := by decide +kernel
theorem dX6_best_22 : decode cX6_best 22 = .ok (.iconst 0, 1) := by decide +kernel
theorem dX6_best_23 : decode cX6_best 23 = .ok (.istore 7, 2) := by decide +kernel
theorem dX6_best_25 : decode cX6_best 25 = .ok (.iload 7, 2) := by decide +kernel
theorem dX6_best_27 : decode cX6_best 27 = .ok (.bipush 6, 2) := by decide +kernel
theorem dX6_best_29 : decode cX6_best 29 = .ok (.if_icmp .ge 50, 3) := by decide +kernel
theorem dX6_best_32 : decode cX6_best 32 = .ok (.aload_n 0, 1) := by decide +kernel
theorem dX6_best_33 : decode cX6_best 33 = .ok (.iload 4, 2) := by decide +kernel
theorem dX6_best_35 : decode cX6_best 35 = .ok (.iload 7, 2) := by decide +kernel
theorem dX6_best_37 : decode cX6_best 37 = .ok (.invokevirtual 46, 3) := by decide +kernel
theorem dX6_best_40 : decode cX6_best 40 = .ok (.istore 8, 2) := by decide +kernel
theorem dX6_best_42 : decode cX6_best 42 = .ok (.iload 5, 2) := by decide +kernel
theorem dX6_best_44 : decode cX6_best 44 = .ok (.iload 8, 2) := by decide +kernel
theorem dX6_best_46 : decode cX6_best 46 = .ok (.ifCond .lt 7, 3) := by decide +kernel
theorem dX6_best_49 : decode cX6_best 49 = .ok (.iconst 1, 1) := by decide +kernel
theorem dX6_best_50 : decode cX6_best 50 = .ok (.goto 4, 3) := by decide +kernel
theorem dX6_best_53 : decode cX6_best 53 = .ok (.iconst 0, 1) := by decide +kernel
theorem dX6_best_54 : decode cX6_best 54 = .ok (.iadd, 1) := by decide +kernel
theorem dX6_best_55 : decode cX6_best 55 = .ok (.istore 5, 2) := by decide +kernel
theorem dX6_best_57 : decode cX6_best 57 = .ok (.iload 8, 2) := by decide +kernel
theorem dX6_best_59 : decode cX6_best 59 = .ok (.iload 6, 2) := by decide +kernel
theorem dX6_best_61 : decode cX6_best 61 = .ok (.if_icmp .le 8, 3) := by decide +kernel
theorem dX6_best_64 : decode cX6_best 64 = .ok (.iload 8, 2) := by decide +kernel
theorem dX6_best_66 : decode cX6_best 66 = .ok (.goto 5, 3) := by decide +kernel
theorem dX6_best_69 : decode cX6_best 69 = .ok (.iload 6, 2) := by decide +kernel
theorem dX6_best_71 : decode cX6_best 71 = .ok (.istore 6, 2) := by decide +kernel
theorem dX6_best_73 : decode cX6_best 73 = .ok (.iinc 7 1, 3) := by decide +kernel
theorem dX6_best_76 : decode cX6_best 76 = .ok (.goto (-51), 3) := by decide +kernel
theorem dX6_best_79 : decode cX6_best 79 = .ok (.iload 5, 2) := by decide +kernel
theorem dX6_best_81 : decode cX6_best 81 = .ok (.iload_n 2, 1) := by decide +kernel
theorem dX6_best_82 : decode cX6_best 82 = .ok (.if_icmp .gt 15, 3) := by decide +kernel
theorem dX6_best_85 : decode cX6_best 85 = .ok (.iload 5, 2) := by decide +kernel
theorem dX6_best_87 : decode cX6_best 87 = .ok (.iload_n 2, 1) := by decide +kernel
theorem dX6_best_88 : decode cX6_best 88 = .ok (.if_icmp .ne 13, 3) := by decide +kernel
theorem dX6_best_91 : decode cX6_best 91 = .ok (.iload 6, 2) := by decide +kernel
theorem dX6_best_93 : decode cX6_best 93 = .ok (.iload_n 3, 1) := by decide +kernel
theorem dX6_best_94 : decode cX6_best 94 = .ok (.if_icmp .ge 7, 3) := by decide +kernel
theorem dX6_best_97 : decode cX6_best 97 = .ok (.iconst 1, 1) := by decide +kernel
theorem dX6_best_98 : decode cX6_best 98 = .ok (.goto 4, 3) := by decide +kernel
theorem dX6_best_101 : decode cX6_best 101 = .ok (.iconst 0, 1) := by decide +kernel
theorem dX6_best_102 : decode cX6_best 102 = .ok (.istore 7, 2) := by decide +kernel
theorem dX6_best_104 : decode cX6_best 104 = .ok (.iload 7, 2) := by decide +kernel
theorem dX6_best_106 : decode cX6_best 106 = .ok (.ifCond .eq 8, 3) := by decide +kernel
theorem dX6_best_109 : decode cX6_best 109 = .ok (.iload 4, 2) := by decide +kernel
theorem dX6_best_111 : decode cX6_best 111 = .ok (.goto 4, 3) := by decide +kernel
theorem dX6_best_114 : decode cX6_best 114 = .ok (.iload_n 1, 1) := by decide +kernel
theorem dX6_best_115 : decode cX6_best 115 = .ok (.istore_n 1, 1) := by decide +kernel
theorem dX6_best_116 : decode cX6_best 116 = .ok (.iload 7, 2) := by decide +kernel
theorem dX6_best_118 : decode cX6_best 118 = .ok (.ifCond .eq 8, 3) := by decide +kernel
theorem dX6_best_121 : decode cX6_best 121 = .ok (.iload 6, 2) := by decide +kernel
theorem dX6_best_123 : decode cX6_best 123 = .ok (.goto 4, 3) := by decide +kernel
theorem dX6_best_126 : decode cX6_best 126 = .ok (.iload_n 3, 1) := by decide +kernel
theorem dX6_best_127 : decode cX6_best 127 = .ok (.istore_n 3, 1) := by decide +kernel
theorem dX6_best_128 : decode cX6_best 128 = .ok (.iload 7, 2) := by decide +kernel
theorem dX6_best_130 : decode cX6_best 130 = .ok (.ifCond .eq 8, 3) := by decide +kernel
theorem dX6_best_133 : decode cX6_best 133 = .ok (.iload 5, 2) := by decide +kernel
theorem dX6_best_135 : decode cX6_best 135 = .ok (.goto 4, 3) := by decide +kernel
theorem dX6_best_138 : decode cX6_best 138 = .ok (.iload_n 2, 1) := by decide +kernel
theorem dX6_best_139 : decode cX6_best 139 = .ok (.istore_n 2, 1) := by decide +kernel
theorem dX6_best_140 : decode cX6_best 140 = .ok (.iinc 4 1, 3) := by decide +kernel
theorem dX6_best_143 : decode cX6_best 143 = .ok (.goto (-134), 3) := by decide +kernel
theorem dX6_best_146 : decode cX6_best 146 = .ok (.iload_n 1, 1) := by decide +kernel
theorem dX6_best_147 : decode cX6_best 147 = .ok (.ireturn, 1) := by decide +kernel
theorem dX6_bestSeat_0 : decode cX6_bestSeat 0 = .ok (.aload_n 0, 1) := by decide +kernel
theorem dX6_bestSeat_1 : decode cX6_bestSeat 1 = .ok (.iconst 0, 1) := by decide +kernel
theorem dX6_bestSeat_2 : decode cX6_bestSeat 2 = .ok (.putfield 21, 3) := by decide +kernel
theorem dX6_bestSeat_5 : decode cX6_bestSeat 5 = .ok (.aload_n 0, 1) := by decide +kernel
theorem dX6_bestSeat_6 : decode cX6_bestSeat 6 = .ok (.invokevirtual 176, 3) := by decide +kernel
theorem dX6_bestSeat_9 : decode cX6_bestSeat 9 = .ok (.ireturn, 1) := by decide +kernel
theorem dX6_share_0 : decode cX6_share 0 = .ok (.iconst 0, 1) := by decide +kernel
theorem dX6_share_1 : decode cX6_share 1 = .ok (.istore_n 1, 1) := by decide +kernel
theorem dX6_share_2 : decode cX6_share 2 = .ok (.iconst 0, 1) := by decide +kernel
theorem dX6_share_3 : decode cX6_share 3 = .ok (.istore_n 2, 1) := by decide +kernel
theorem dX6_share_4 : decode cX6_share 4 = .ok (.iload_n 2, 1) := by decide +kernel
theorem dX6_share_5 : decode cX6_share 5 = .ok (.bipush 6, 2) := by decide +kernel
theorem dX6_share_7 : decode cX6_share 7 = .ok (.if_icmp .ge 18, 3) := by decide +kernel
theorem dX6_share_10 : decode cX6_share 10 = .ok (.iload_n 1, 1) := by decide +kernel
theorem dX6_share_11 : decode cX6_share 11 = .ok (.aload_n 0, 1) := by decide +kernel
theorem dX6_share_12 : decode cX6_share 12 = .ok (.iload_n 2, 1) := by decide +kernel
theorem dX6_share_13 : decode cX6_share 13 = .ok (.iconst 0, 1) := by decide +kernel
theorem dX6_share_14 : decode cX6_share 14 = .ok (.invokevirtual 141, 3) := by decide +kernel
theorem dX6_share_17 : decode cX6_share 17 = .ok (.iadd, 1) := by decide +kernel
theorem dX6_share_18 : decode cX6_share 18 = .ok (.istore_n 1, 1) := by decide +kernel
theorem dX6_share_19 : decode cX6_share 19 = .ok (.iinc 2 1, 3) := by decide +kernel
theorem dX6_share_22 : decode cX6_share 22 = .ok (.goto (-18), 3) := by decide +kernel
theorem dX6_share_25 : decode cX6_share 25 = .ok (.aload_n 0, 1) := by decide +kernel
theorem dX6_share_26 : decode cX6_share 26 = .ok (.getfield 8, 3) := by decide +kernel
theorem dX6_share_29 : decode cX6_share 29 = .ok (.iconst 3, 1) := by decide +kernel
theorem dX6_share_30 : decode cX6_share 30 = .ok (.iaload, 1) := by decide +kernel
theorem dX6_share_31 : decode cX6_share 31 = .ok (.ifCond .ne 7, 3) := by decide +kernel
theorem dX6_share_34 : decode cX6_share 34 = .ok (.dconst 0, 1) := by decide +kernel
theorem dX6_share_35 : decode cX6_share 35 = .ok (.goto 16, 3) := by decide +kernel
theorem dX6_share_38 : decode cX6_share 38 = .ok (.iload_n 1, 1) := by decide +kernel
theorem dX6_share_39 : decode cX6_share 39 = .ok (.i2d, 1) := by decide +kernel
theorem dX6_share_40 : decode cX6_share 40 = .ok (.bipush 6, 2) := by decide +kernel
theorem dX6_share_42 : decode cX6_share 42 = .ok (.aload_n 0, 1) := by decide +kernel
theorem dX6_share_43 : decode cX6_share 43 = .ok (.getfield 8, 3) := by decide +kernel
theorem dX6_share_46 : decode cX6_share 46 = .ok (.iconst 3, 1) := by decide +kernel
theorem dX6_share_47 : decode cX6_share 47 = .ok (.iaload, 1) := by decide +kernel
theorem dX6_share_48 : decode cX6_share 48 = .ok (.imul, 1) := by decide +kernel
theorem dX6_share_49 : decode cX6_share 49 = .ok (.i2d, 1) := by decide +kernel
theorem dX6_share_50 : decode cX6_share 50 = .ok (.ddiv, 1) := by decide +kernel
theorem dX6_share_51 : decode cX6_share 51 = .ok (.dreturn, 1) := by decide +kernel
theorem dX6_heardShare_0 : decode cX6_heardShare 0 = .ok (.aload_n 0, 1) := by decide +kernel
theorem dX6_heardShare_1 : decode cX6_heardShare 1 = .ok (.iconst 0, 1) := by decide +kernel
theorem dX6_heardShare_2 : decode cX6_heardShare 2 = .ok (.putfield 21, 3) := by decide +kernel
theorem dX6_heardShare_5 : decode cX6_heardShare 5 = .ok (.aload_n 0, 1) := by decide +kernel
theorem dX6_heardShare_6 : decode cX6_heardShare 6 = .ok (.invokevirtual 180, 3) := by decide +kernel
theorem dX6_heardShare_9 : decode cX6_heardShare 9 = .ok (.dreturn, 1) := by decide +kernel
theorem dX6_digest_0 : decode cX6_digest 0 = .ok (.aload_n 0, 1) := by decide +kernel
theorem dX6_digest_1 : decode cX6_digest 1 = .ok (.iconst 0, 1) := by decide +kernel
theorem dX6_digest_2 : decode cX6_digest 2 = .ok (.putfield 21, 3) := by decide +kernel
theorem dX6_digest_5 : decode cX6_digest 5 = .ok (.ldc2_w 184, 3) := by decide +kernel
theorem dX6_digest_8 : decode cX6_digest 8 = .ok (.lstore_n 1, 1) := by decide +kernel
theorem dX6_digest_9 : decode cX6_digest 9 = .ok (.iconst 0, 1) := by decide +kernel
theorem dX6_digest_10 : decode cX6_digest 10 = .ok (.istore_n 3, 1) := by decide +kernel
theorem dX6_digest_11 : decode cX6_digest 11 = .ok (.iload_n 3, 1) := by decide +kernel
theorem dX6_digest_12 : decode cX6_digest 12 = .ok (.bipush 10, 2) := by decide +kernel
theorem dX6_digest_14 : decode cX6_digest 14 = .ok (.if_icmp .ge 22, 3) := by decide +kernel
theorem dX6_digest_17 : decode cX6_digest 17 = .ok (.ldc2_w 186, 3) := by decide +kernel
theorem dX6_digest_20 : decode cX6_digest 20 = .ok (.lload_n 1, 1) := by decide +kernel
theorem dX6_digest_21 : decode cX6_digest 21 = .ok (.lmul, 1) := by decide +kernel
theorem dX6_digest_22 : decode cX6_digest 22 = .ok (.aload_n 0, 1) := by decide +kernel
theorem dX6_digest_23 : decode cX6_digest 23 = .ok (.iload_n 3, 1) := by decide +kernel
theorem dX6_digest_24 : decode cX6_digest 24 = .ok (.invokevirtual 167, 3) := by decide +kernel
theorem dX6_digest_27 : decode cX6_digest 27 = .ok (.i2l, 1) := by decide +kernel
theorem dX6_digest_28 : decode cX6_digest 28 = .ok (.ladd, 1) := by decide +kernel
theorem dX6_digest_29 : decode cX6_digest 29 = .ok (.lstore_n 1, 1) := by decide +kernel
theorem dX6_digest_30 : decode cX6_digest 30 = .ok (.iinc 3 1, 3) := by decide +kernel
theorem dX6_digest_33 : decode cX6_digest 33 = .ok (.goto (-22), 3) := by decide +kernel
theorem dX6_digest_36 : decode cX6_digest 36 = .ok (.iconst 0, 1) := by decide +kernel
theorem dX6_digest_37 : decode cX6_digest 37 = .ok (.istore_n 3, 1) := by decide +kernel
theorem dX6_digest_38 : decode cX6_digest 38 = .ok (.iload_n 3, 1) := by decide +kernel
theorem dX6_digest_39 : decode cX6_digest 39 = .ok (.bipush 6, 2) := by decide +kernel
theorem dX6_digest_41 : decode cX6_digest 41 = .ok (.if_icmp .ge 59, 3) := by decide +kernel
theorem dX6_digest_44 : decode cX6_digest 44 = .ok (.iconst 0, 1) := by decide +kernel
theorem dX6_digest_45 : decode cX6_digest 45 = .ok (.istore 4, 2) := by decide +kernel
theorem dX6_digest_47 : decode cX6_digest 47 = .ok (.iload 4, 2) := by decide +kernel
theorem dX6_digest_49 : decode cX6_digest 49 = .ok (.bipush 8, 2) := by decide +kernel
theorem dX6_digest_51 : decode cX6_digest 51 = .ok (.if_icmp .ge 24, 3) := by decide +kernel
theorem dX6_digest_54 : decode cX6_digest 54 = .ok (.ldc2_w 186, 3) := by decide +kernel
theorem dX6_digest_57 : decode cX6_digest 57 = .ok (.lload_n 1, 1) := by decide +kernel
theorem dX6_digest_58 : decode cX6_digest 58 = .ok (.lmul, 1) := by decide +kernel
theorem dX6_digest_59 : decode cX6_digest 59 = .ok (.aload_n 0, 1) := by decide +kernel
theorem dX6_digest_60 : decode cX6_digest 60 = .ok (.iload_n 3, 1) := by decide +kernel
theorem dX6_digest_61 : decode cX6_digest 61 = .ok (.iload 4, 2) := by decide +kernel
theorem dX6_digest_63 : decode cX6_digest 63 = .ok (.invokevirtual 154, 3) := by decide +kernel
theorem dX6_digest_66 : decode cX6_digest 66 = .ok (.i2l, 1) := by decide +kernel
theorem dX6_digest_67 : decode cX6_digest 67 = .ok (.ladd, 1) := by decide +kernel
theorem dX6_digest_68 : decode cX6_digest 68 = .ok (.lstore_n 1, 1) := by decide +kernel
theorem dX6_digest_69 : decode cX6_digest 69 = .ok (.iinc 4 1, 3) := by decide +kernel
theorem dX6_digest_72 : decode cX6_digest 72 = .ok (.goto (-25), 3) := by decide +kernel
theorem dX6_digest_75 : decode cX6_digest 75 = .ok (.ldc2_w 186, 3) := by decide +kernel
theorem dX6_digest_78 : decode cX6_digest 78 = .ok (.lload_n 1, 1) := by decide +kernel
theorem dX6_digest_79 : decode cX6_digest 79 = .ok (.lmul, 1) := by decide +kernel
theorem dX6_digest_80 : decode cX6_digest 80 = .ok (.aload_n 0, 1) := by decide +kernel
theorem dX6_digest_81 : decode cX6_digest 81 = .ok (.iload_n 3, 1) := by decide +kernel
theorem dX6_digest_82 : decode cX6_digest 82 = .ok (.aload_n 0, 1) := by decide +kernel
theorem dX6_digest_83 : decode cX6_digest 83 = .ok (.getfield 8, 3) := by decide +kernel
theorem dX6_digest_86 : decode cX6_digest 86 = .ok (.iconst 3, 1) := by decide +kernel
theorem dX6_digest_87 : decode cX6_digest 87 = .ok (.iaload, 1) := by decide +kernel
theorem dX6_digest_88 : decode cX6_digest 88 = .ok (.invokevirtual 43, 3) := by decide +kernel
theorem dX6_digest_91 : decode cX6_digest 91 = .ok (.i2l, 1) := by decide +kernel
theorem dX6_digest_92 : decode cX6_digest 92 = .ok (.ladd, 1) := by decide +kernel
theorem dX6_digest_93 : decode cX6_digest 93 = .ok (.lstore_n 1, 1) := by decide +kernel
theorem dX6_digest_94 : decode cX6_digest 94 = .ok (.iinc 3 1, 3) := by decide +kernel
theorem dX6_digest_97 : decode cX6_digest 97 = .ok (.goto (-59), 3) := by decide +kernel
theorem dX6_digest_100 : decode cX6_digest 100 = .ok (.aload_n 0, 1) := by decide +kernel
theorem dX6_digest_101 : decode cX6_digest 101 = .ok (.getfield 8, 3) := by decide +kernel
theorem dX6_digest_104 : decode cX6_digest 104 = .ok (.iconst 4, 1) := by decide +kernel
theorem dX6_digest_105 : decode cX6_digest 105 = .ok (.iaload, 1) := by decide +kernel
theorem dX6_digest_106 : decode cX6_digest 106 = .ok (.iconst 1, 1) := by decide +kernel
theorem dX6_digest_107 : decode cX6_digest 107 = .ok (.isub, 1) := by decide +kernel
theorem dX6_digest_108 : decode cX6_digest 108 = .ok (.istore_n 3, 1) := by decide +kernel
theorem dX6_digest_109 : decode cX6_digest 109 = .ok (.iload_n 3, 1) := by decide +kernel
theorem dX6_digest_110 : decode cX6_digest 110 = .ok (.ifCond .lt 99, 3) := by decide +kernel
theorem dX6_digest_113 : decode cX6_digest 113 = .ok (.iload_n 3, 1) := by decide +kernel
theorem dX6_digest_114 : decode cX6_digest 114 = .ok (.aload_n 0, 1) := by decide +kernel
theorem dX6_digest_115 : decode cX6_digest 115 = .ok (.getfield 8, 3) := by decide +kernel
theorem dX6_digest_118 : decode cX6_digest 118 = .ok (.iconst 4, 1) := by decide +kernel
theorem dX6_digest_119 : decode cX6_digest 119 = .ok (.iaload, 1) := by decide +kernel
theorem dX6_digest_120 : decode cX6_digest 120 = .ok (.bipush 12, 2) := by decide +kernel
theorem dX6_digest_122 : decode cX6_digest 122 = .ok (.isub, 1) := by decide +kernel
theorem dX6_digest_123 : decode cX6_digest 123 = .ok (.if_icmp .lt 86, 3) := by decide +kernel
theorem dX6_digest_126 : decode cX6_digest 126 = .ok (.iconst 0, 1) := by decide +kernel
theorem dX6_digest_127 : decode cX6_digest 127 = .ok (.istore 4, 2) := by decide +kernel
theorem dX6_digest_129 : decode cX6_digest 129 = .ok (.iload 4, 2) := by decide +kernel
theorem dX6_digest_131 : decode cX6_digest 131 = .ok (.bipush 6, 2) := by decide +kernel
theorem dX6_digest_133 : decode cX6_digest 133 = .ok (.if_icmp .ge 24, 3) := by decide +kernel
theorem dX6_digest_136 : decode cX6_digest 136 = .ok (.ldc2_w 186, 3) := by decide +kernel
theorem dX6_digest_139 : decode cX6_digest 139 = .ok (.lload_n 1, 1) := by decide +kernel
theorem dX6_digest_140 : decode cX6_digest 140 = .ok (.lmul, 1) := by decide +kernel
theorem dX6_digest_141 : decode cX6_digest 141 = .ok (.aload_n 0, 1) := by decide +kernel
theorem dX6_digest_142 : decode cX6_digest 142 = .ok (.iload_n 3, 1) := by decide +kernel
theorem dX6_digest_143 : decode cX6_digest 143 = .ok (.iload 4, 2) := by decide +kernel
theorem dX6_digest_145 : decode cX6_digest 145 = .ok (.invokevirtual 129, 3) := by decide +kernel
theorem dX6_digest_148 : decode cX6_digest 148 = .ok (.i2l, 1) := by decide +kernel
theorem dX6_digest_149 : decode cX6_digest 149 = .ok (.ladd, 1) := by decide +kernel
theorem dX6_digest_150 : decode cX6_digest 150 = .ok (.lstore_n 1, 1) := by decide +kernel
theorem dX6_digest_151 : decode cX6_digest 151 = .ok (.iinc 4 1, 3) := by decide +kernel
theorem dX6_digest_154 : decode cX6_digest 154 = .ok (.goto (-25), 3) := by decide +kernel
theorem dX6_digest_157 : decode cX6_digest 157 = .ok (.iconst 0, 1) := by decide +kernel
theorem dX6_digest_158 : decode cX6_digest 158 = .ok (.istore 4, 2) := by decide +kernel
theorem dX6_digest_160 : decode cX6_digest 160 = .ok (.iload 4, 2) := by decide +kernel
theorem dX6_digest_162 : decode cX6_digest 162 = .ok (.bipush 6, 2) := by decide +kernel
theorem dX6_digest_164 : decode cX6_digest 164 = .ok (.if_icmp .ge 39, 3) := by decide +kernel
theorem dX6_digest_167 : decode cX6_digest 167 = .ok (.ldc2_w 186, 3) := by decide +kernel
theorem dX6_digest_170 : decode cX6_digest 170 = .ok (.lload_n 1, 1) := by decide +kernel
theorem dX6_digest_171 : decode cX6_digest 171 = .ok (.lmul, 1) := by decide +kernel
theorem dX6_digest_172 : decode cX6_digest 172 = .ok (.aload_n 0, 1) := by decide +kernel
theorem dX6_digest_173 : decode cX6_digest 173 = .ok (.iload_n 3, 1) := by decide +kernel
theorem dX6_digest_174 : decode cX6_digest 174 = .ok (.iload 4, 2) := by decide +kernel
theorem dX6_digest_176 : decode cX6_digest 176 = .ok (.invokevirtual 132, 3) := by decide +kernel
theorem dX6_digest_179 : decode cX6_digest 179 = .ok (.i2l, 1) := by decide +kernel
theorem dX6_digest_180 : decode cX6_digest 180 = .ok (.ladd, 1) := by decide +kernel
theorem dX6_digest_181 : decode cX6_digest 181 = .ok (.lstore_n 1, 1) := by decide +kernel
theorem dX6_digest_182 : decode cX6_digest 182 = .ok (.ldc2_w 186, 3) := by decide +kernel
theorem dX6_digest_185 : decode cX6_digest 185 = .ok (.lload_n 1, 1) := by decide +kernel
theorem dX6_digest_186 : decode cX6_digest 186 = .ok (.lmul, 1) := by decide +kernel
theorem dX6_digest_187 : decode cX6_digest 187 = .ok (.aload_n 0, 1) := by decide +kernel
theorem dX6_digest_188 : decode cX6_digest 188 = .ok (.iload_n 3, 1) := by decide +kernel
theorem dX6_digest_189 : decode cX6_digest 189 = .ok (.iload 4, 2) := by decide +kernel
theorem dX6_digest_191 : decode cX6_digest 191 = .ok (.invokevirtual 170, 3) := by decide +kernel
theorem dX6_digest_194 : decode cX6_digest 194 = .ok (.i2l, 1) := by decide +kernel
theorem dX6_digest_195 : decode cX6_digest 195 = .ok (.ladd, 1) := by decide +kernel
theorem dX6_digest_196 : decode cX6_digest 196 = .ok (.lstore_n 1, 1) := by decide +kernel
theorem dX6_digest_197 : decode cX6_digest 197 = .ok (.iinc 4 1, 3) := by decide +kernel
theorem dX6_digest_200 : decode cX6_digest 200 = .ok (.goto (-40), 3) := by decide +kernel
theorem dX6_digest_203 : decode cX6_digest 203 = .ok (.iinc 3 (-1), 3) := by decide +kernel
theorem dX6_digest_206 : decode cX6_digest 206 = .ok (.goto (-97), 3) := by decide +kernel
theorem dX6_digest_209 : decode cX6_digest 209 = .ok (.aload_n 0, 1) := by decide +kernel
theorem dX6_digest_210 : decode cX6_digest 210 = .ok (.getfield 8, 3) := by decide +kernel
theorem dX6_digest_213 : decode cX6_digest 213 = .ok (.iconst 3, 1) := by decide +kernel
theorem dX6_digest_214 : decode cX6_digest 214 = .ok (.iaload, 1) := by decide +kernel
theorem dX6_digest_215 : decode cX6_digest 215 = .ok (.iconst 1, 1) := by decide +kernel
theorem dX6_digest_216 : decode cX6_digest 216 = .ok (.isub, 1) := by decide +kernel
theorem dX6_digest_217 : decode cX6_digest 217 = .ok (.istore_n 3, 1) := by decide +kernel
theorem dX6_digest_218 : decode cX6_digest 218 = .ok (.iload_n 3, 1) := by decide +kernel
theorem dX6_digest_219 : decode cX6_digest 219 = .ok (.ifCond .lt 70, 3) := by decide +kernel
theorem dX6_digest_222 : decode cX6_digest 222 = .ok (.iload_n 3, 1) := by decide +kernel
theorem dX6_digest_223 : decode cX6_digest 223 = .ok (.aload_n 0, 1) := by decide +kernel
theorem dX6_digest_224 : decode cX6_digest 224 = .ok (.getfield 8, 3) := by decide +kernel
theorem dX6_digest_227 : decode cX6_digest 227 = .ok (.iconst 3, 1) := by decide +kernel
theorem dX6_digest_228 : decode cX6_digest 228 = .ok (.iaload, 1) := by decide +kernel
theorem dX6_digest_229 : decode cX6_digest 229 = .ok (.bipush 8, 2) := by decide +kernel
theorem dX6_digest_231 : decode cX6_digest 231 = .ok (.isub, 1) := by decide +kernel
theorem dX6_digest_232 : decode cX6_digest 232 = .ok (.if_icmp .lt 57, 3) := by decide +kernel
theorem dX6_digest_235 : decode cX6_digest 235 = .ok (.iconst 0, 1) := by decide +kernel
theorem dX6_digest_236 : decode cX6_digest 236 = .ok (.istore 4, 2) := by decide +kernel
theorem dX6_digest_238 : decode cX6_digest 238 = .ok (.iload 4, 2) := by decide +kernel
theorem dX6_digest_240 : decode cX6_digest 240 = .ok (.bipush 6, 2) := by decide +kernel
theorem dX6_digest_242 : decode cX6_digest 242 = .ok (.if_icmp .ge 41, 3) := by decide +kernel
theorem dX6_digest_245 : decode cX6_digest 245 = .ok (.iconst 0, 1) := by decide +kernel
theorem dX6_digest_246 : decode cX6_digest 246 = .ok (.istore 5, 2) := by decide +kernel
theorem dX6_digest_248 : decode cX6_digest 248 = .ok (.iload 5, 2) := by decide +kernel
theorem dX6_digest_250 : decode cX6_digest 250 = .ok (.iconst 3, 1) := by decide +kernel
theorem dX6_digest_251 : decode cX6_digest 251 = .ok (.if_icmp .ge 26, 3) := by decide +kernel
theorem dX6_digest_254 : decode cX6_digest 254 = .ok (.ldc2_w 186, 3) := by decide +kernel
theorem dX6_digest_257 : decode cX6_digest 257 = .ok (.lload_n 1, 1) := by decide +kernel
theorem dX6_digest_258 : decode cX6_digest 258 = .ok (.lmul, 1) := by decide +kernel
theorem dX6_digest_259 : decode cX6_digest 259 = .ok (.aload_n 0, 1) := by decide +kernel
theorem dX6_digest_260 : decode cX6_digest 260 = .ok (.iload 4, 2) := by decide +kernel
theorem dX6_digest_262 : decode cX6_digest 262 = .ok (.iload_n 3, 1) := by decide +kernel
theorem dX6_digest_263 : decode cX6_digest 263 = .ok (.iload 5, 2) := by decide +kernel
theorem dX6_digest_265 : decode cX6_digest 265 = .ok (.invokevirtual 138, 3) := by decide +kernel
theorem dX6_digest_268 : decode cX6_digest 268 = .ok (.i2l, 1) := by decide +kernel
theorem dX6_digest_269 : decode cX6_digest 269 = .ok (.ladd, 1) := by decide +kernel
theorem dX6_digest_270 : decode cX6_digest 270 = .ok (.lstore_n 1, 1) := by decide +kernel
theorem dX6_digest_271 : decode cX6_digest 271 = .ok (.iinc 5 1, 3) := by decide +kernel
theorem dX6_digest_274 : decode cX6_digest 274 = .ok (.goto (-26), 3) := by decide +kernel
theorem dX6_digest_277 : decode cX6_digest 277 = .ok (.iinc 4 1, 3) := by decide +kernel
theorem dX6_digest_280 : decode cX6_digest 280 = .ok (.goto (-42), 3) := by decide +kernel
theorem dX6_digest_283 : decode cX6_digest 283 = .ok (.iinc 3 (-1), 3) := by decide +kernel
theorem dX6_digest_286 : decode cX6_digest 286 = .ok (.goto (-68), 3) := by decide +kernel
theorem dX6_digest_289 : decode cX6_digest 289 = .ok (.iconst 0, 1) := by decide +kernel
theorem dX6_digest_290 : decode cX6_digest 290 = .ok (.istore_n 3, 1) := by decide +kernel
theorem dX6_digest_291 : decode cX6_digest 291 = .ok (.iload_n 3, 1) := by decide +kernel
theorem dX6_digest_292 : decode cX6_digest 292 = .ok (.bipush 6, 2) := by decide +kernel
theorem dX6_digest_294 : decode cX6_digest 294 = .ok (.if_icmp .ge 68, 3) := by decide +kernel
theorem dX6_digest_297 : decode cX6_digest 297 = .ok (.iconst 0, 1) := by decide +kernel
theorem dX6_digest_298 : decode cX6_digest 298 = .ok (.istore 4, 2) := by decide +kernel
theorem dX6_digest_300 : decode cX6_digest 300 = .ok (.iload 4, 2) := by decide +kernel
theorem dX6_digest_302 : decode cX6_digest 302 = .ok (.bipush 10, 2) := by decide +kernel
theorem dX6_digest_304 : decode cX6_digest 304 = .ok (.if_icmp .ge 52, 3) := by decide +kernel
theorem dX6_digest_307 : decode cX6_digest 307 = .ok (.iconst 0, 1) := by decide +kernel
theorem dX6_digest_308 : decode cX6_digest 308 = .ok (.istore 5, 2) := by decide +kernel
theorem dX6_digest_310 : decode cX6_digest 310 = .ok (.iconst 0, 1) := by decide +kernel
theorem dX6_digest_311 : decode cX6_digest 311 = .ok (.istore 6, 2) := by decide +kernel
theorem dX6_digest_313 : decode cX6_digest 313 = .ok (.iload 6, 2) := by decide +kernel
theorem dX6_digest_315 : decode cX6_digest 315 = .ok (.bipush 6, 2) := by decide +kernel
theorem dX6_digest_317 : decode cX6_digest 317 = .ok (.if_icmp .ge 23, 3) := by decide +kernel
theorem dX6_digest_320 : decode cX6_digest 320 = .ok (.iload 5, 2) := by decide +kernel
theorem dX6_digest_322 : decode cX6_digest 322 = .ok (.aload_n 0, 1) := by decide +kernel
theorem dX6_digest_323 : decode cX6_digest 323 = .ok (.iload_n 3, 1) := by decide +kernel
theorem dX6_digest_324 : decode cX6_digest 324 = .ok (.iload 4, 2) := by decide +kernel
theorem dX6_digest_326 : decode cX6_digest 326 = .ok (.iload 6, 2) := by decide +kernel
theorem dX6_digest_328 : decode cX6_digest 328 = .ok (.invokevirtual 157, 3) := by decide +kernel
theorem dX6_digest_331 : decode cX6_digest 331 = .ok (.iadd, 1) := by decide +kernel
theorem dX6_digest_332 : decode cX6_digest 332 = .ok (.istore 5, 2) := by decide +kernel
theorem dX6_digest_334 : decode cX6_digest 334 = .ok (.iinc 6 1, 3) := by decide +kernel
theorem dX6_digest_337 : decode cX6_digest 337 = .ok (.goto (-24), 3) := by decide +kernel
theorem dX6_digest_340 : decode cX6_digest 340 = .ok (.ldc2_w 186, 3) := by decide +kernel
theorem dX6_digest_343 : decode cX6_digest 343 = .ok (.lload_n 1, 1) := by decide +kernel
theorem dX6_digest_344 : decode cX6_digest 344 = .ok (.lmul, 1) := by decide +kernel
theorem dX6_digest_345 : decode cX6_digest 345 = .ok (.iload 5, 2) := by decide +kernel
theorem dX6_digest_347 : decode cX6_digest 347 = .ok (.i2l, 1) := by decide +kernel
theorem dX6_digest_348 : decode cX6_digest 348 = .ok (.ladd, 1) := by decide +kernel
theorem dX6_digest_349 : decode cX6_digest 349 = .ok (.lstore_n 1, 1) := by decide +kernel
theorem dX6_digest_350 : decode cX6_digest 350 = .ok (.iinc 4 1, 3) := by decide +kernel
theorem dX6_digest_353 : decode cX6_digest 353 = .ok (.goto (-53), 3) := by decide +kernel
theorem dX6_digest_356 : decode cX6_digest 356 = .ok (.iinc 3 1, 3) := by decide +kernel
theorem dX6_digest_359 : decode cX6_digest 359 = .ok (.goto (-68), 3) := by decide +kernel
theorem dX6_digest_362 : decode cX6_digest 362 = .ok (.iconst 0, 1) := by decide +kernel
theorem dX6_digest_363 : decode cX6_digest 363 = .ok (.istore_n 3, 1) := by decide +kernel
theorem dX6_digest_364 : decode cX6_digest 364 = .ok (.iload_n 3, 1) := by decide +kernel
theorem dX6_digest_365 : decode cX6_digest 365 = .ok (.bipush 6, 2) := by decide +kernel
theorem dX6_digest_367 : decode cX6_digest 367 = .ok (.if_icmp .ge 30, 3) := by decide +kernel
theorem dX6_digest_370 : decode cX6_digest 370 = .ok (.ldc2_w 186, 3) := by decide +kernel
theorem dX6_digest_373 : decode cX6_digest 373 = .ok (.lload_n 1, 1) := by decide +kernel
theorem dX6_digest_374 : decode cX6_digest 374 = .ok (.lmul, 1) := by decide +kernel
theorem dX6_digest_375 : decode cX6_digest 375 = .ok (.aload_n 0, 1) := by decide +kernel
theorem dX6_digest_376 : decode cX6_digest 376 = .ok (.aload_n 0, 1) := by decide +kernel
theorem dX6_digest_377 : decode cX6_digest 377 = .ok (.getfield 8, 3) := by decide +kernel
theorem dX6_digest_380 : decode cX6_digest 380 = .ok (.iconst 4, 1) := by decide +kernel
theorem dX6_digest_381 : decode cX6_digest 381 = .ok (.iaload, 1) := by decide +kernel
theorem dX6_digest_382 : decode cX6_digest 382 = .ok (.iconst 1, 1) := by decide +kernel
theorem dX6_digest_383 : decode cX6_digest 383 = .ok (.isub, 1) := by decide +kernel
theorem dX6_digest_384 : decode cX6_digest 384 = .ok (.iload_n 3, 1) := by decide +kernel
theorem dX6_digest_385 : decode cX6_digest 385 = .ok (.invokevirtual 173, 3) := by decide +kernel
theorem dX6_digest_388 : decode cX6_digest 388 = .ok (.i2l, 1) := by decide +kernel
theorem dX6_digest_389 : decode cX6_digest 389 = .ok (.ladd, 1) := by decide +kernel
theorem dX6_digest_390 : decode cX6_digest 390 = .ok (.lstore_n 1, 1) := by decide +kernel
theorem dX6_digest_391 : decode cX6_digest 391 = .ok (.iinc 3 1, 3) := by decide +kernel
theorem dX6_digest_394 : decode cX6_digest 394 = .ok (.goto (-30), 3) := by decide +kernel
theorem dX6_digest_397 : decode cX6_digest 397 = .ok (.ldc2_w 186, 3) := by decide +kernel
theorem dX6_digest_400 : decode cX6_digest 400 = .ok (.lload_n 1, 1) := by decide +kernel
theorem dX6_digest_401 : decode cX6_digest 401 = .ok (.lmul, 1) := by decide +kernel
theorem dX6_digest_402 : decode cX6_digest 402 = .ok (.aload_n 0, 1) := by decide +kernel
theorem dX6_digest_403 : decode cX6_digest 403 = .ok (.invokevirtual 176, 3) := by decide +kernel
theorem dX6_digest_406 : decode cX6_digest 406 = .ok (.i2l, 1) := by decide +kernel
theorem dX6_digest_407 : decode cX6_digest 407 = .ok (.ladd, 1) := by decide +kernel
theorem dX6_digest_408 : decode cX6_digest 408 = .ok (.lstore_n 1, 1) := by decide +kernel
theorem dX6_digest_409 : decode cX6_digest 409 = .ok (.ldc2_w 186, 3) := by decide +kernel
theorem dX6_digest_412 : decode cX6_digest 412 = .ok (.lload_n 1, 1) := by decide +kernel
theorem dX6_digest_413 : decode cX6_digest 413 = .ok (.lmul, 1) := by decide +kernel
theorem dX6_digest_414 : decode cX6_digest 414 = .ok (.aload_n 0, 1) := by decide +kernel
theorem dX6_digest_415 : decode cX6_digest 415 = .ok (.invokevirtual 180, 3) := by decide +kernel
theorem dX6_digest_418 : decode cX6_digest 418 = .ok (.invokestatic 188, 3) := by decide +kernel
theorem dX6_digest_421 : decode cX6_digest 421 = .ok (.ladd, 1) := by decide +kernel
theorem dX6_digest_422 : decode cX6_digest 422 = .ok (.lstore_n 1, 1) := by decide +kernel
theorem dX6_digest_423 : decode cX6_digest 423 = .ok (.ldc2_w 186, 3) := by decide +kernel
theorem dX6_digest_426 : decode cX6_digest 426 = .ok (.lload_n 1, 1) := by decide +kernel
theorem dX6_digest_427 : decode cX6_digest 427 = .ok (.lmul, 1) := by decide +kernel
theorem dX6_digest_428 : decode cX6_digest 428 = .ok (.aload_n 0, 1) := by decide +kernel
theorem dX6_digest_429 : decode cX6_digest 429 = .ok (.getfield 75, 3) := by decide +kernel
theorem dX6_digest_432 : decode cX6_digest 432 = .ok (.i2l, 1) := by decide +kernel
theorem dX6_digest_433 : decode cX6_digest 433 = .ok (.ladd, 1) := by decide +kernel
theorem dX6_digest_434 : decode cX6_digest 434 = .ok (.lstore_n 1, 1) := by decide +kernel
theorem dX6_digest_435 : decode cX6_digest 435 = .ok (.iconst 0, 1) := by decide +kernel
theorem dX6_digest_436 : decode cX6_digest 436 = .ok (.istore_n 3, 1) := by decide +kernel
theorem dX6_digest_437 : decode cX6_digest 437 = .ok (.iload_n 3, 1) := by decide +kernel
theorem dX6_digest_438 : decode cX6_digest 438 = .ok (.aload_n 0, 1) := by decide +kernel
theorem dX6_digest_439 : decode cX6_digest 439 = .ok (.getfield 75, 3) := by decide +kernel
theorem dX6_digest_442 : decode cX6_digest 442 = .ok (.if_icmp .ge 23, 3) := by decide +kernel
theorem dX6_digest_445 : decode cX6_digest 445 = .ok (.ldc2_w 186, 3) := by decide +kernel
theorem dX6_digest_448 : decode cX6_digest 448 = .ok (.lload_n 1, 1) := by decide +kernel
theorem dX6_digest_449 : decode cX6_digest 449 = .ok (.lmul, 1) := by decide +kernel
theorem dX6_digest_450 : decode cX6_digest 450 = .ok (.aload_n 0, 1) := by decide +kernel
theorem dX6_digest_451 : decode cX6_digest 451 = .ok (.getfield 14, 3) := by decide +kernel
theorem dX6_digest_454 : decode cX6_digest 454 = .ok (.iload_n 3, 1) := by decide +kernel
theorem dX6_digest_455 : decode cX6_digest 455 = .ok (.caload, 1) := by decide +kernel
theorem dX6_digest_456 : decode cX6_digest 456 = .ok (.i2l, 1) := by decide +kernel
theorem dX6_digest_457 : decode cX6_digest 457 = .ok (.ladd, 1) := by decide +kernel
theorem dX6_digest_458 : decode cX6_digest 458 = .ok (.lstore_n 1, 1) := by decide +kernel
theorem dX6_digest_459 : decode cX6_digest 459 = .ok (.iinc 3 1, 3) := by decide +kernel
theorem dX6_digest_462 : decode cX6_digest 462 = .ok (.goto (-25), 3) := by decide +kernel
theorem dX6_digest_465 : decode cX6_digest 465 = .ok (.lload_n 1, 1) := by decide +kernel
theorem dX6_digest_466 : decode cX6_digest 466 = .ok (.lreturn, 1) := by decide +kernel
theorem dJxe99ae_isNaN_b9ae7_0 : decode cJxe99ae_isNaN_b9ae7 0 = .ok (.dload_n 0, 1) := by decide +kernel
theorem dJxe99ae_isNaN_b9ae7_1 : decode cJxe99ae_isNaN_b9ae7 1 = .ok (.dload_n 0, 1) := by decide +kernel
theorem dJxe99ae_isNaN_b9ae7_2 : decode cJxe99ae_isNaN_b9ae7 2 = .ok (.dcmp .l, 1) := by decide +kernel
theorem dJxe99ae_isNaN_b9ae7_3 : decode cJxe99ae_isNaN_b9ae7 3 = .ok (.ifCond .eq 7, 3) := by decide +kernel
theorem dJxe99ae_isNaN_b9ae7_6 : decode cJxe99ae_isNaN_b9ae7 6 = .ok (.iconst 1, 1) := by decide +kernel
theorem dJxe99ae_isNaN_b9ae7_7 : decode cJxe99ae_isNaN_b9ae7 7 = .ok (.goto 4, 3) := by decide +kernel
theorem dJxe99ae_isNaN_b9ae7_10 : decode cJxe99ae_isNaN_b9ae7 10 = .ok (.iconst 0, 1) := by decide +kernel
theorem dJxe99ae_isNaN_b9ae7_11 : decode cJxe99ae_isNaN_b9ae7 11 = .ok (.ireturn, 1) := by decide +kernel
theorem dJxe99ae_doubleToLongBits_ccdee_0 : decode cJxe99ae_doubleToLongBits_ccdee 0 = .ok (.dload_n 0, 1) := by decide +kernel
theorem dJxe99ae_doubleToLongBits_ccdee_1 : decode cJxe99ae_doubleToLongBits_ccdee 1 = .ok (.invokestatic 122, 3) := by decide +kernel
theorem dJxe99ae_doubleToLongBits_ccdee_4 : decode cJxe99ae_doubleToLongBits_ccdee 4 = .ok (.ifCond .ne 8, 3) := by decide +kernel
theorem dJxe99ae_doubleToLongBits_ccdee_7 : decode cJxe99ae_doubleToLongBits_ccdee 7 = .ok (.dload_n 0, 1) := by decide +kernel
theorem dJxe99ae_doubleToLongBits_ccdee_8 : decode cJxe99ae_doubleToLongBits_ccdee 8 = .ok (.invokestatic 134, 3) := by decide +kernel
theorem dJxe99ae_doubleToLongBits_ccdee_11 : decode cJxe99ae_doubleToLongBits_ccdee 11 = .ok (.lreturn, 1) := by decide +kernel
theorem dJxe99ae_doubleToLongBits_ccdee_12 : decode cJxe99ae_doubleToLongBits_ccdee 12 = .ok (.ldc2_w 137, 3) := by decide +kernel
theorem dJxe99ae_doubleToLongBits_ccdee_15 : decode cJxe99ae_doubleToLongBits_ccdee 15 = .ok (.lreturn, 1) := by decide +kernel
theorem dJ9_abs_0f7a4_0 : decode cJ9_abs_0f7a4 0 = .ok (.iload_n 0, 1) := by decide +kernel
theorem dJ9_abs_0f7a4_1 : decode cJ9_abs_0f7a4 1 = .ok (.ifCond .ge 8, 3) := by decide +kernel
theorem dJ9_abs_0f7a4_4 : decode cJ9_abs_0f7a4 4 = .ok (.iload_n 0, 1) := by decide +kernel
theorem dJ9_abs_0f7a4_5 : decode cJ9_abs_0f7a4 5 = .ok (.ineg, 1) := by decide +kernel
theorem dJ9_abs_0f7a4_6 : decode cJ9_abs_0f7a4 6 = .ok (.goto 4, 3) := by decide +kernel
theorem dJ9_abs_0f7a4_9 : decode cJ9_abs_0f7a4 9 = .ok (.iload_n 0, 1) := by decide +kernel
theorem dJ9_abs_0f7a4_10 : decode cJ9_abs_0f7a4 10 = .ok (.ireturn, 1) := by decide +kernel
theorem dJ9_max_7cf53_0 : decode cJ9_max_7cf53 0 = .ok (.iload_n 0, 1) := by decide +kernel
theorem dJ9_max_7cf53_1 : decode cJ9_max_7cf53 1 = .ok (.iload_n 1, 1) := by decide +kernel
theorem dJ9_max_7cf53_2 : decode cJ9_max_7cf53 2 = .ok (.if_icmp .lt 7, 3) := by decide +kernel
theorem dJ9_max_7cf53_5 : decode cJ9_max_7cf53 5 = .ok (.iload_n 0, 1) := by decide +kernel
theorem dJ9_max_7cf53_6 : decode cJ9_max_7cf53 6 = .ok (.goto 4, 3) := by decide +kernel
theorem dJ9_max_7cf53_9 : decode cJ9_max_7cf53 9 = .ok (.iload_n 1, 1) := by decide +kernel
theorem dJ9_max_7cf53_10 : decode cJ9_max_7cf53 10 = .ok (.ireturn, 1) := by decide +kernel
theorem dJ9_min_7cf53_0 : decode cJ9_min_7cf53 0 = .ok (.iload_n 0, 1) := by decide +kernel
theorem dJ9_min_7cf53_1 : decode cJ9_min_7cf53 1 = .ok (.iload_n 1, 1) := by decide +kernel
theorem dJ9_min_7cf53_2 : decode cJ9_min_7cf53 2 = .ok (.if_icmp .gt 7, 3) := by decide +kernel
theorem dJ9_min_7cf53_5 : decode cJ9_min_7cf53 5 = .ok (.iload_n 0, 1) := by decide +kernel
theorem dJ9_min_7cf53_6 : decode cJ9_min_7cf53 6 = .ok (.goto 4, 3) := by decide +kernel
theorem dJ9_min_7cf53_9 : decode cJ9_min_7cf53 9 = .ok (.iload_n 1, 1) := by decide +kernel
theorem dJ9_min_7cf53_10 : decode cJ9_min_7cf53 10 = .ok (.ireturn, 1) := by decide +kernel
theorem dL_say_0 : decode cL_say 0 = .ok (.aload 4, 2) := by decide +kernel
theorem dL_say_2 : decode cL_say 2 = .ok (.iconst 0, 1) := by decide +kernel
theorem dL_say_3 : decode cL_say 3 = .ok (.aload_n 0, 1) := by decide +kernel
theorem dL_say_4 : decode cL_say 4 = .ok (.iload_n 1, 1) := by decide +kernel
theorem dL_say_5 : decode cL_say 5 = .ok (.iload_n 2, 1) := by decide +kernel
theorem dL_say_6 : decode cL_say 6 = .ok (.iload_n 3, 1) := by decide +kernel
theorem dL_say_7 : decode cL_say 7 = .ok (.invokevirtual 7, 3) := by decide +kernel
theorem dL_say_10 : decode cL_say 10 = .ok (.i2l, 1) := by decide +kernel
theorem dL_say_11 : decode cL_say 11 = .ok (.lastore, 1) := by decide +kernel
theorem dL_say_12 : decode cL_say 12 = .ok (.goto 15, 3) := by decide +kernel
theorem dL_say_15 : decode cL_say 15 = .ok (.astore 5, 2) := by decide +kernel
theorem dL_say_17 : decode cL_say 17 = .ok (.iconst 1, 1) := by decide +kernel
theorem dL_say_18 : decode cL_say 18 = .ok (.ireturn, 1) := by decide +kernel
theorem dL_say_19 : decode cL_say 19 = .ok (.astore 5, 2) := by decide +kernel
theorem dL_say_21 : decode cL_say 21 = .ok (.iconst 2, 1) := by decide +kernel
theorem dL_say_22 : decode cL_say 22 = .ok (.ireturn, 1) := by decide +kernel
theorem dL_say_23 : decode cL_say 23 = .ok (.astore 5, 2) := by decide +kernel
theorem dL_say_25 : decode cL_say 25 = .ok (.iconst 3, 1) := by decide +kernel
theorem dL_say_26 : decode cL_say 26 = .ok (.ireturn, 1) := by decide +kernel
theorem dL_say_27 : decode cL_say 27 = .ok (.iconst 0, 1) := by decide +kernel
theorem dL_say_28 : decode cL_say 28 = .ok (.ireturn, 1) := by decide +kernel
theorem dL_pass_0 : decode cL_pass 0 = .ok (.aload_n 2, 1) := by decide +kernel
theorem dL_pass_1 : decode cL_pass 1 = .ok (.iconst 0, 1) := by decide +kernel
theorem dL_pass_2 : decode cL_pass 2 = .ok (.aload_n 0, 1) := by decide +kernel
theorem dL_pass_3 : decode cL_pass 3 = .ok (.iload_n 1, 1) := by decide +kernel
theorem dL_pass_4 : decode cL_pass 4 = .ok (.invokevirtual 19, 3) := by decide +kernel
theorem dL_pass_7 : decode cL_pass 7 = .ok (.i2l, 1) := by decide +kernel
theorem dL_pass_8 : decode cL_pass 8 = .ok (.lastore, 1) := by decide +kernel
theorem dL_pass_9 : decode cL_pass 9 = .ok (.goto 9, 3) := by decide +kernel
theorem dL_pass_12 : decode cL_pass 12 = .ok (.astore_n 3, 1) := by decide +kernel
theorem dL_pass_13 : decode cL_pass 13 = .ok (.iconst 1, 1) := by decide +kernel
theorem dL_pass_14 : decode cL_pass 14 = .ok (.ireturn, 1) := by decide +kernel
theorem dL_pass_15 : decode cL_pass 15 = .ok (.astore_n 3, 1) := by decide +kernel
theorem dL_pass_16 : decode cL_pass 16 = .ok (.iconst 2, 1) := by decide +kernel
theorem dL_pass_17 : decode cL_pass 17 = .ok (.ireturn, 1) := by decide +kernel
theorem dL_pass_18 : decode cL_pass 18 = .ok (.iconst 0, 1) := by decide +kernel
theorem dL_pass_19 : decode cL_pass 19 = .ok (.ireturn, 1) := by decide +kernel
theorem dL_wall_0 : decode cL_wall 0 = .ok (.aload_n 3, 1) := by decide +kernel
theorem dL_wall_1 : decode cL_wall 1 = .ok (.iconst 0, 1) := by decide +kernel
theorem dL_wall_2 : decode cL_wall 2 = .ok (.aload_n 0, 1) := by decide +kernel
theorem dL_wall_3 : decode cL_wall 3 = .ok (.iload_n 1, 1) := by decide +kernel
theorem dL_wall_4 : decode cL_wall 4 = .ok (.iload_n 2, 1) := by decide +kernel
theorem dL_wall_5 : decode cL_wall 5 = .ok (.invokevirtual 23, 3) := by decide +kernel
theorem dL_wall_8 : decode cL_wall 8 = .ok (.i2l, 1) := by decide +kernel
theorem dL_wall_9 : decode cL_wall 9 = .ok (.lastore, 1) := by decide +kernel
theorem dL_wall_10 : decode cL_wall 10 = .ok (.goto 11, 3) := by decide +kernel
theorem dL_wall_13 : decode cL_wall 13 = .ok (.astore 4, 2) := by decide +kernel
theorem dL_wall_15 : decode cL_wall 15 = .ok (.iconst 1, 1) := by decide +kernel
theorem dL_wall_16 : decode cL_wall 16 = .ok (.ireturn, 1) := by decide +kernel
theorem dL_wall_17 : decode cL_wall 17 = .ok (.astore 4, 2) := by decide +kernel
theorem dL_wall_19 : decode cL_wall 19 = .ok (.iconst 2, 1) := by decide +kernel
theorem dL_wall_20 : decode cL_wall 20 = .ok (.ireturn, 1) := by decide +kernel
theorem dL_wall_21 : decode cL_wall 21 = .ok (.iconst 0, 1) := by decide +kernel
theorem dL_wall_22 : decode cL_wall 22 = .ok (.ireturn, 1) := by decide +kernel
theorem dL_set_0 : decode cL_set 0 = .ok (.aload_n 3, 1) := by decide +kernel
theorem dL_set_1 : decode cL_set 1 = .ok (.iconst 0, 1) := by decide +kernel
theorem dL_set_2 : decode cL_set 2 = .ok (.aload_n 0, 1) := by decide +kernel
theorem dL_set_3 : decode cL_set 3 = .ok (.iload_n 1, 1) := by decide +kernel
theorem dL_set_4 : decode cL_set 4 = .ok (.iload_n 2, 1) := by decide +kernel
theorem dL_set_5 : decode cL_set 5 = .ok (.invokevirtual 27, 3) := by decide +kernel
theorem dL_set_8 : decode cL_set 8 = .ok (.i2l, 1) := by decide +kernel
theorem dL_set_9 : decode cL_set 9 = .ok (.lastore, 1) := by decide +kernel
theorem dL_set_10 : decode cL_set 10 = .ok (.goto 11, 3) := by decide +kernel
theorem dL_set_13 : decode cL_set 13 = .ok (.astore 4, 2) := by decide +kernel
theorem dL_set_15 : decode cL_set 15 = .ok (.iconst 1, 1) := by decide +kernel
theorem dL_set_16 : decode cL_set 16 = .ok (.ireturn, 1) := by decide +kernel
theorem dL_set_17 : decode cL_set 17 = .ok (.astore 4, 2) := by decide +kernel
theorem dL_set_19 : decode cL_set 19 = .ok (.iconst 2, 1) := by decide +kernel
theorem dL_set_20 : decode cL_set 20 = .ok (.ireturn, 1) := by decide +kernel
theorem dL_set_21 : decode cL_set 21 = .ok (.iconst 0, 1) := by decide +kernel
theorem dL_set_22 : decode cL_set 22 = .ok (.ireturn, 1) := by decide +kernel
theorem dL_append_0 : decode cL_append 0 = .ok (.aload_n 2, 1) := by decide +kernel
theorem dL_append_1 : decode cL_append 1 = .ok (.iconst 0, 1) := by decide +kernel
theorem dL_append_2 : decode cL_append 2 = .ok (.aload_n 0, 1) := by decide +kernel
theorem dL_append_3 : decode cL_append 3 = .ok (.iload_n 1, 1) := by decide +kernel
theorem dL_append_4 : decode cL_append 4 = .ok (.invokevirtual 30, 3) := by decide +kernel
theorem dL_append_7 : decode cL_append 7 = .ok (.i2l, 1) := by decide +kernel
theorem dL_append_8 : decode cL_append 8 = .ok (.lastore, 1) := by decide +kernel
theorem dL_append_9 : decode cL_append 9 = .ok (.goto 9, 3) := by decide +kernel
theorem dL_append_12 : decode cL_append 12 = .ok (.astore_n 3, 1) := by decide +kernel
theorem dL_append_13 : decode cL_append 13 = .ok (.iconst 1, 1) := by decide +kernel
theorem dL_append_14 : decode cL_append 14 = .ok (.ireturn, 1) := by decide +kernel
theorem dL_append_15 : decode cL_append 15 = .ok (.astore_n 3, 1) := by decide +kernel
theorem dL_append_16 : decode cL_append 16 = .ok (.iconst 2, 1) := by decide +kernel
theorem dL_append_17 : decode cL_append 17 = .ok (.ireturn, 1) := by decide +kernel
theorem dL_append_18 : decode cL_append 18 = .ok (.iconst 0, 1) := by decide +kernel
theorem dL_append_19 : decode cL_append 19 = .ok (.ireturn, 1) := by decide +kernel
theorem dL_talk_0 : decode cL_talk 0 = .ok (.aload_n 1, 1) := by decide +kernel
theorem dL_talk_1 : decode cL_talk 1 = .ok (.iconst 0, 1) := by decide +kernel
theorem dL_talk_2 : decode cL_talk 2 = .ok (.aload_n 0, 1) := by decide +kernel
theorem dL_talk_3 : decode cL_talk 3 = .ok (.invokevirtual 33, 3) := by decide +kernel
theorem dL_talk_6 : decode cL_talk 6 = .ok (.i2l, 1) := by decide +kernel
theorem dL_talk_7 : decode cL_talk 7 = .ok (.lastore, 1) := by decide +kernel
theorem dL_talk_8 : decode cL_talk 8 = .ok (.goto 6, 3) := by decide +kernel
theorem dL_talk_11 : decode cL_talk 11 = .ok (.astore_n 2, 1) := by decide +kernel
theorem dL_talk_12 : decode cL_talk 12 = .ok (.iconst 1, 1) := by decide +kernel
theorem dL_talk_13 : decode cL_talk 13 = .ok (.ireturn, 1) := by decide +kernel
theorem dL_talk_14 : decode cL_talk 14 = .ok (.iconst 0, 1) := by decide +kernel
theorem dL_talk_15 : decode cL_talk 15 = .ok (.ireturn, 1) := by decide +kernel
theorem dL_undo_0 : decode cL_undo 0 = .ok (.aload_n 1, 1) := by decide +kernel
theorem dL_undo_1 : decode cL_undo 1 = .ok (.iconst 0, 1) := by decide +kernel
theorem dL_undo_2 : decode cL_undo 2 = .ok (.aload_n 0, 1) := by decide +kernel
theorem dL_undo_3 : decode cL_undo 3 = .ok (.invokevirtual 37, 3) := by decide +kernel
theorem dL_undo_6 : decode cL_undo 6 = .ok (.i2l, 1) := by decide +kernel
theorem dL_undo_7 : decode cL_undo 7 = .ok (.lastore, 1) := by decide +kernel
theorem dL_undo_8 : decode cL_undo 8 = .ok (.goto 6, 3) := by decide +kernel
theorem dL_undo_11 : decode cL_undo 11 = .ok (.astore_n 2, 1) := by decide +kernel
theorem dL_undo_12 : decode cL_undo 12 = .ok (.iconst 1, 1) := by decide +kernel
theorem dL_undo_13 : decode cL_undo 13 = .ok (.ireturn, 1) := by decide +kernel
theorem dL_undo_14 : decode cL_undo 14 = .ok (.iconst 0, 1) := by decide +kernel
theorem dL_undo_15 : decode cL_undo 15 = .ok (.ireturn, 1) := by decide +kernel
theorem dL_restore_0 : decode cL_restore 0 = .ok (.aload_n 1, 1) := by decide +kernel
theorem dL_restore_1 : decode cL_restore 1 = .ok (.iconst 0, 1) := by decide +kernel
theorem dL_restore_2 : decode cL_restore 2 = .ok (.aload_n 0, 1) := by decide +kernel
theorem dL_restore_3 : decode cL_restore 3 = .ok (.invokevirtual 40, 3) := by decide +kernel
theorem dL_restore_6 : decode cL_restore 6 = .ok (.i2l, 1) := by decide +kernel
theorem dL_restore_7 : decode cL_restore 7 = .ok (.lastore, 1) := by decide +kernel
theorem dL_restore_8 : decode cL_restore 8 = .ok (.goto 6, 3) := by decide +kernel
theorem dL_restore_11 : decode cL_restore 11 = .ok (.astore_n 2, 1) := by decide +kernel
theorem dL_restore_12 : decode cL_restore 12 = .ok (.iconst 1, 1) := by decide +kernel
theorem dL_restore_13 : decode cL_restore 13 = .ok (.ireturn, 1) := by decide +kernel
theorem dL_restore_14 : decode cL_restore 14 = .ok (.iconst 0, 1) := by decide +kernel
theorem dL_restore_15 : decode cL_restore 15 = .ok (.ireturn, 1) := by decide +kernel
theorem dL_said_0 : decode cL_said 0 = .ok (.aload_n 3, 1) := by decide +kernel
theorem dL_said_1 : decode cL_said 1 = .ok (.iconst 0, 1) := by decide +kernel
theorem dL_said_2 : decode cL_said 2 = .ok (.aload_n 0, 1) := by decide +kernel
theorem dL_said_3 : decode cL_said 3 = .ok (.iload_n 1, 1) := by decide +kernel
theorem dL_said_4 : decode cL_said 4 = .ok (.iload_n 2, 1) := by decide +kernel
theorem dL_said_5 : decode cL_said 5 = .ok (.invokevirtual 43, 3) := by decide +kernel
theorem dL_said_8 : decode cL_said 8 = .ok (.i2l, 1) := by decide +kernel
theorem dL_said_9 : decode cL_said 9 = .ok (.lastore, 1) := by decide +kernel
theorem dL_said_10 : decode cL_said 10 = .ok (.goto 7, 3) := by decide +kernel
theorem dL_said_13 : decode cL_said 13 = .ok (.astore 4, 2) := by decide +kernel
theorem dL_said_15 : decode cL_said 15 = .ok (.iconst 1, 1) := by decide +kernel
theorem dL_said_16 : decode cL_said 16 = .ok (.ireturn, 1) := by decide +kernel
theorem dL_said_17 : decode cL_said 17 = .ok (.iconst 0, 1) := by decide +kernel
theorem dL_said_18 : decode cL_said 18 = .ok (.ireturn, 1) := by decide +kernel
theorem dL_comes_0 : decode cL_comes 0 = .ok (.aload_n 3, 1) := by decide +kernel
theorem dL_comes_1 : decode cL_comes 1 = .ok (.iconst 0, 1) := by decide +kernel
theorem dL_comes_2 : decode cL_comes 2 = .ok (.aload_n 0, 1) := by decide +kernel
theorem dL_comes_3 : decode cL_comes 3 = .ok (.iload_n 1, 1) := by decide +kernel
theorem dL_comes_4 : decode cL_comes 4 = .ok (.iload_n 2, 1) := by decide +kernel
theorem dL_comes_5 : decode cL_comes 5 = .ok (.invokevirtual 46, 3) := by decide +kernel
theorem dL_comes_8 : decode cL_comes 8 = .ok (.i2l, 1) := by decide +kernel
theorem dL_comes_9 : decode cL_comes 9 = .ok (.lastore, 1) := by decide +kernel
theorem dL_comes_10 : decode cL_comes 10 = .ok (.goto 11, 3) := by decide +kernel
theorem dL_comes_13 : decode cL_comes 13 = .ok (.astore 4, 2) := by decide +kernel
theorem dL_comes_15 : decode cL_comes 15 = .ok (.iconst 1, 1) := by decide +kernel
theorem dL_comes_16 : decode cL_comes 16 = .ok (.ireturn, 1) := by decide +kernel
theorem dL_comes_17 : decode cL_comes 17 = .ok (.astore 4, 2) := by decide +kernel
theorem dL_comes_19 : decode cL_comes 19 = .ok (.iconst 2, 1) := by decide +kernel
theorem dL_comes_20 : decode cL_comes 20 = .ok (.ireturn, 1) := by decide +kernel
theorem dL_comes_21 : decode cL_comes 21 = .ok (.iconst 0, 1) := by decide +kernel
theorem dL_comes_22 : decode cL_comes 22 = .ok (.ireturn, 1) := by decide +kernel
theorem dL_heard_0 : decode cL_heard 0 = .ok (.aload 4, 2) := by decide +kernel
theorem dL_heard_2 : decode cL_heard 2 = .ok (.iconst 0, 1) := by decide +kernel
theorem dL_heard_3 : decode cL_heard 3 = .ok (.aload_n 0, 1) := by decide +kernel
theorem dL_heard_4 : decode cL_heard 4 = .ok (.iload_n 1, 1) := by decide +kernel
theorem dL_heard_5 : decode cL_heard 5 = .ok (.iload_n 2, 1) := by decide +kernel
theorem dL_heard_6 : decode cL_heard 6 = .ok (.iload_n 3, 1) := by decide +kernel
theorem dL_heard_7 : decode cL_heard 7 = .ok (.invokevirtual 49, 3) := by decide +kernel
theorem dL_heard_10 : decode cL_heard 10 = .ok (.i2l, 1) := by decide +kernel
theorem dL_heard_11 : decode cL_heard 11 = .ok (.lastore, 1) := by decide +kernel
theorem dL_heard_12 : decode cL_heard 12 = .ok (.goto 11, 3) := by decide +kernel
theorem dL_heard_15 : decode cL_heard 15 = .ok (.astore 5, 2) := by decide +kernel
theorem dL_heard_17 : decode cL_heard 17 = .ok (.iconst 1, 1) := by decide +kernel
theorem dL_heard_18 : decode cL_heard 18 = .ok (.ireturn, 1) := by decide +kernel
theorem dL_heard_19 : decode cL_heard 19 = .ok (.astore 5, 2) := by decide +kernel
theorem dL_heard_21 : decode cL_heard 21 = .ok (.iconst 2, 1) := by decide +kernel
theorem dL_heard_22 : decode cL_heard 22 = .ok (.ireturn, 1) := by decide +kernel
theorem dL_heard_23 : decode cL_heard 23 = .ok (.iconst 0, 1) := by decide +kernel
theorem dL_heard_24 : decode cL_heard 24 = .ok (.ireturn, 1) := by decide +kernel
theorem dL_speaker_0 : decode cL_speaker 0 = .ok (.aload_n 3, 1) := by decide +kernel
theorem dL_speaker_1 : decode cL_speaker 1 = .ok (.iconst 0, 1) := by decide +kernel
theorem dL_speaker_2 : decode cL_speaker 2 = .ok (.aload_n 0, 1) := by decide +kernel
theorem dL_speaker_3 : decode cL_speaker 3 = .ok (.iload_n 1, 1) := by decide +kernel
theorem dL_speaker_4 : decode cL_speaker 4 = .ok (.iload_n 2, 1) := by decide +kernel
theorem dL_speaker_5 : decode cL_speaker 5 = .ok (.invokevirtual 52, 3) := by decide +kernel
theorem dL_speaker_8 : decode cL_speaker 8 = .ok (.i2l, 1) := by decide +kernel
theorem dL_speaker_9 : decode cL_speaker 9 = .ok (.lastore, 1) := by decide +kernel
theorem dL_speaker_10 : decode cL_speaker 10 = .ok (.goto 11, 3) := by decide +kernel
theorem dL_speaker_13 : decode cL_speaker 13 = .ok (.astore 4, 2) := by decide +kernel
theorem dL_speaker_15 : decode cL_speaker 15 = .ok (.iconst 1, 1) := by decide +kernel
theorem dL_speaker_16 : decode cL_speaker 16 = .ok (.ireturn, 1) := by decide +kernel
theorem dL_speaker_17 : decode cL_speaker 17 = .ok (.astore 4, 2) := by decide +kernel
theorem dL_speaker_19 : decode cL_speaker 19 = .ok (.iconst 2, 1) := by decide +kernel
theorem dL_speaker_20 : decode cL_speaker 20 = .ok (.ireturn, 1) := by decide +kernel
theorem dL_speaker_21 : decode cL_speaker 21 = .ok (.iconst 0, 1) := by decide +kernel
theorem dL_speaker_22 : decode cL_speaker 22 = .ok (.ireturn, 1) := by decide +kernel
theorem dL_message_0 : decode cL_message 0 = .ok (.aload 4, 2) := by decide +kernel
theorem dL_message_2 : decode cL_message 2 = .ok (.iconst 0, 1) := by decide +kernel
theorem dL_message_3 : decode cL_message 3 = .ok (.aload_n 0, 1) := by decide +kernel
theorem dL_message_4 : decode cL_message 4 = .ok (.iload_n 1, 1) := by decide +kernel
theorem dL_message_5 : decode cL_message 5 = .ok (.iload_n 2, 1) := by decide +kernel
theorem dL_message_6 : decode cL_message 6 = .ok (.iload_n 3, 1) := by decide +kernel
theorem dL_message_7 : decode cL_message 7 = .ok (.invokevirtual 55, 3) := by decide +kernel
theorem dL_message_10 : decode cL_message 10 = .ok (.i2l, 1) := by decide +kernel
theorem dL_message_11 : decode cL_message 11 = .ok (.lastore, 1) := by decide +kernel
theorem dL_message_12 : decode cL_message 12 = .ok (.goto 11, 3) := by decide +kernel
theorem dL_message_15 : decode cL_message 15 = .ok (.astore 5, 2) := by decide +kernel
theorem dL_message_17 : decode cL_message 17 = .ok (.iconst 1, 1) := by decide +kernel
theorem dL_message_18 : decode cL_message 18 = .ok (.ireturn, 1) := by decide +kernel
theorem dL_message_19 : decode cL_message 19 = .ok (.astore 5, 2) := by decide +kernel
theorem dL_message_21 : decode cL_message 21 = .ok (.iconst 2, 1) := by decide +kernel
theorem dL_message_22 : decode cL_message 22 = .ok (.ireturn, 1) := by decide +kernel
theorem dL_message_23 : decode cL_message 23 = .ok (.iconst 0, 1) := by decide +kernel
theorem dL_message_24 : decode cL_message 24 = .ok (.ireturn, 1) := by decide +kernel
theorem dL_count_0 : decode cL_count 0 = .ok (.aload_n 2, 1) := by decide +kernel
theorem dL_count_1 : decode cL_count 1 = .ok (.iconst 0, 1) := by decide +kernel
theorem dL_count_2 : decode cL_count 2 = .ok (.aload_n 0, 1) := by decide +kernel
theorem dL_count_3 : decode cL_count 3 = .ok (.iload_n 1, 1) := by decide +kernel
theorem dL_count_4 : decode cL_count 4 = .ok (.invokevirtual 58, 3) := by decide +kernel
theorem dL_count_7 : decode cL_count 7 = .ok (.i2l, 1) := by decide +kernel
theorem dL_count_8 : decode cL_count 8 = .ok (.lastore, 1) := by decide +kernel
theorem dL_count_9 : decode cL_count 9 = .ok (.goto 6, 3) := by decide +kernel
theorem dL_count_12 : decode cL_count 12 = .ok (.astore_n 3, 1) := by decide +kernel
theorem dL_count_13 : decode cL_count 13 = .ok (.iconst 1, 1) := by decide +kernel
theorem dL_count_14 : decode cL_count 14 = .ok (.ireturn, 1) := by decide +kernel
theorem dL_count_15 : decode cL_count 15 = .ok (.iconst 0, 1) := by decide +kernel
theorem dL_count_16 : decode cL_count 16 = .ok (.ireturn, 1) := by decide +kernel
theorem dL_whyNot_0 : decode cL_whyNot 0 = .ok (.aload_n 3, 1) := by decide +kernel
theorem dL_whyNot_1 : decode cL_whyNot 1 = .ok (.iconst 0, 1) := by decide +kernel
theorem dL_whyNot_2 : decode cL_whyNot 2 = .ok (.aload_n 0, 1) := by decide +kernel
theorem dL_whyNot_3 : decode cL_whyNot 3 = .ok (.iload_n 1, 1) := by decide +kernel
theorem dL_whyNot_4 : decode cL_whyNot 4 = .ok (.iload_n 2, 1) := by decide +kernel
theorem dL_whyNot_5 : decode cL_whyNot 5 = .ok (.invokevirtual 61, 3) := by decide +kernel
theorem dL_whyNot_8 : decode cL_whyNot 8 = .ok (.i2l, 1) := by decide +kernel
theorem dL_whyNot_9 : decode cL_whyNot 9 = .ok (.lastore, 1) := by decide +kernel
theorem dL_whyNot_10 : decode cL_whyNot 10 = .ok (.goto 11, 3) := by decide +kernel
theorem dL_whyNot_13 : decode cL_whyNot 13 = .ok (.astore 4, 2) := by decide +kernel
theorem dL_whyNot_15 : decode cL_whyNot 15 = .ok (.iconst 1, 1) := by decide +kernel
theorem dL_whyNot_16 : decode cL_whyNot 16 = .ok (.ireturn, 1) := by decide +kernel
theorem dL_whyNot_17 : decode cL_whyNot 17 = .ok (.astore 4, 2) := by decide +kernel
theorem dL_whyNot_19 : decode cL_whyNot 19 = .ok (.iconst 2, 1) := by decide +kernel
theorem dL_whyNot_20 : decode cL_whyNot 20 = .ok (.ireturn, 1) := by decide +kernel
theorem dL_whyNot_21 : decode cL_whyNot 21 = .ok (.iconst 0, 1) := by decide +kernel
theorem dL_whyNot_22 : decode cL_whyNot 22 = .ok (.ireturn, 1) := by decide +kernel
theorem dL_ifSilent_0 : decode cL_ifSilent 0 = .ok (.aload_n 2, 1) := by decide +kernel
theorem dL_ifSilent_1 : decode cL_ifSilent 1 = .ok (.iconst 0, 1) := by decide +kernel
theorem dL_ifSilent_2 : decode cL_ifSilent 2 = .ok (.aload_n 0, 1) := by decide +kernel
theorem dL_ifSilent_3 : decode cL_ifSilent 3 = .ok (.iload_n 1, 1) := by decide +kernel
theorem dL_ifSilent_4 : decode cL_ifSilent 4 = .ok (.invokevirtual 64, 3) := by decide +kernel
theorem dL_ifSilent_7 : decode cL_ifSilent 7 = .ok (.i2l, 1) := by decide +kernel
theorem dL_ifSilent_8 : decode cL_ifSilent 8 = .ok (.lastore, 1) := by decide +kernel
theorem dL_ifSilent_9 : decode cL_ifSilent 9 = .ok (.goto 6, 3) := by decide +kernel
theorem dL_ifSilent_12 : decode cL_ifSilent 12 = .ok (.astore_n 3, 1) := by decide +kernel
theorem dL_ifSilent_13 : decode cL_ifSilent 13 = .ok (.iconst 1, 1) := by decide +kernel
theorem dL_ifSilent_14 : decode cL_ifSilent 14 = .ok (.ireturn, 1) := by decide +kernel
theorem dL_ifSilent_15 : decode cL_ifSilent 15 = .ok (.iconst 0, 1) := by decide +kernel
theorem dL_ifSilent_16 : decode cL_ifSilent 16 = .ok (.ireturn, 1) := by decide +kernel
theorem dL_heardIn_0 : decode cL_heardIn 0 = .ok (.aload_n 3, 1) := by decide +kernel
theorem dL_heardIn_1 : decode cL_heardIn 1 = .ok (.iconst 0, 1) := by decide +kernel
theorem dL_heardIn_2 : decode cL_heardIn 2 = .ok (.aload_n 0, 1) := by decide +kernel
theorem dL_heardIn_3 : decode cL_heardIn 3 = .ok (.iload_n 1, 1) := by decide +kernel
theorem dL_heardIn_4 : decode cL_heardIn 4 = .ok (.iload_n 2, 1) := by decide +kernel
theorem dL_heardIn_5 : decode cL_heardIn 5 = .ok (.invokevirtual 67, 3) := by decide +kernel
theorem dL_heardIn_8 : decode cL_heardIn 8 = .ok (.i2l, 1) := by decide +kernel
theorem dL_heardIn_9 : decode cL_heardIn 9 = .ok (.lastore, 1) := by decide +kernel
theorem dL_heardIn_10 : decode cL_heardIn 10 = .ok (.goto 11, 3) := by decide +kernel
theorem dL_heardIn_13 : decode cL_heardIn 13 = .ok (.astore 4, 2) := by decide +kernel
theorem dL_heardIn_15 : decode cL_heardIn 15 = .ok (.iconst 1, 1) := by decide +kernel
theorem dL_heardIn_16 : decode cL_heardIn 16 = .ok (.ireturn, 1) := by decide +kernel
theorem dL_heardIn_17 : decode cL_heardIn 17 = .ok (.astore 4, 2) := by decide +kernel
theorem dL_heardIn_19 : decode cL_heardIn 19 = .ok (.iconst 2, 1) := by decide +kernel
theorem dL_heardIn_20 : decode cL_heardIn 20 = .ok (.ireturn, 1) := by decide +kernel
theorem dL_heardIn_21 : decode cL_heardIn 21 = .ok (.iconst 0, 1) := by decide +kernel
theorem dL_heardIn_22 : decode cL_heardIn 22 = .ok (.ireturn, 1) := by decide +kernel
theorem dL_law_0 : decode cL_law 0 = .ok (.new 8, 3) := by decide +kernel
theorem dL_law_3 : decode cL_law 3 = .ok (.dup, 1) := by decide +kernel
theorem dL_law_4 : decode cL_law 4 = .ok (.invokespecial 70, 3) := by decide +kernel
theorem dL_law_7 : decode cL_law 7 = .ok (.astore_n 1, 1) := by decide +kernel
theorem dL_law_8 : decode cL_law 8 = .ok (.new 71, 3) := by decide +kernel
theorem dL_law_11 : decode cL_law 11 = .ok (.dup, 1) := by decide +kernel
theorem dL_law_12 : decode cL_law 12 = .ok (.invokespecial 73, 3) := by decide +kernel
theorem dL_law_15 : decode cL_law 15 = .ok (.astore_n 2, 1) := by decide +kernel
theorem dL_law_16 : decode cL_law 16 = .ok (.iconst 1, 1) := by decide +kernel
theorem dL_law_17 : decode cL_law 17 = .ok (.newarray .long, 2) := by decide +kernel
theorem dL_law_19 : decode cL_law 19 = .ok (.astore_n 3, 1) := by decide +kernel
theorem dL_law_20 : decode cL_law 20 = .ok (.iconst 0, 1) := by decide +kernel
theorem dL_law_21 : decode cL_law 21 = .ok (.istore 4, 2) := by decide +kernel
theorem dL_law_23 : decode cL_law 23 = .ok (.iload 4, 2) := by decide +kernel
theorem dL_law_25 : decode cL_law 25 = .ok (.aload_n 0, 1) := by decide +kernel
theorem dL_law_26 : decode cL_law 26 = .ok (.arraylength, 1) := by decide +kernel
theorem dL_law_27 : decode cL_law 27 = .ok (.iconst 4, 1) := by decide +kernel
theorem dL_law_28 : decode cL_law 28 = .ok (.isub, 1) := by decide +kernel
theorem dL_law_29 : decode cL_law 29 = .ok (.if_icmp .gt 1300, 3) := by decide +kernel
theorem dL_law_32 : decode cL_law 32 = .ok (.aload_n 0, 1) := by decide +kernel
theorem dL_law_33 : decode cL_law 33 = .ok (.iload 4, 2) := by decide +kernel
theorem dL_law_35 : decode cL_law 35 = .ok (.iaload, 1) := by decide +kernel
theorem dL_law_36 : decode cL_law 36 = .ok (.bipush 31, 2) := by decide +kernel
theorem dL_law_38 : decode cL_law 38 = .ok (.iand, 1) := by decide +kernel
theorem dL_law_39 : decode cL_law 39 = .ok (.tableswitch 1284 0 22 #[105, 185, 241, 309, 377, 433, 446, 459, 503, 547, 560, 604, 672, 740, 820, 888, 968, 1024, 1092, 1148, 1216, 1229, 1270], 105) := by decide +kernel
theorem dL_law_144 : decode cL_law 144 = .ok (.aload_n 1, 1) := by decide +kernel
theorem dL_law_145 : decode cL_law 145 = .ok (.aload_n 0, 1) := by decide +kernel
theorem dL_law_146 : decode cL_law 146 = .ok (.iload 4, 2) := by decide +kernel
theorem dL_law_148 : decode cL_law 148 = .ok (.iconst 1, 1) := by decide +kernel
theorem dL_law_149 : decode cL_law 149 = .ok (.iadd, 1) := by decide +kernel
theorem dL_law_150 : decode cL_law 150 = .ok (.iaload, 1) := by decide +kernel
theorem dL_law_151 : decode cL_law 151 = .ok (.aload_n 0, 1) := by decide +kernel
theorem dL_law_152 : decode cL_law 152 = .ok (.iload 4, 2) := by decide +kernel
theorem dL_law_154 : decode cL_law 154 = .ok (.iconst 2, 1) := by decide +kernel
theorem dL_law_155 : decode cL_law 155 = .ok (.iadd, 1) := by decide +kernel
theorem dL_law_156 : decode cL_law 156 = .ok (.iaload, 1) := by decide +kernel
theorem dL_law_157 : decode cL_law 157 = .ok (.aload_n 0, 1) := by decide +kernel
theorem dL_law_158 : decode cL_law 158 = .ok (.iload 4, 2) := by decide +kernel
theorem dL_law_160 : decode cL_law 160 = .ok (.iconst 3, 1) := by decide +kernel
theorem dL_law_161 : decode cL_law 161 = .ok (.iadd, 1) := by decide +kernel
theorem dL_law_162 : decode cL_law 162 = .ok (.iaload, 1) := by decide +kernel
theorem dL_law_163 : decode cL_law 163 = .ok (.aload_n 3, 1) := by decide +kernel
theorem dL_law_164 : decode cL_law 164 = .ok (.invokestatic 74, 3) := by decide +kernel
theorem dL_law_167 : decode cL_law 167 = .ok (.istore 5, 2) := by decide +kernel
theorem dL_law_169 : decode cL_law 169 = .ok (.aload_n 2, 1) := by decide +kernel
theorem dL_law_170 : decode cL_law 170 = .ok (.aload_n 0, 1) := by decide +kernel
theorem dL_law_171 : decode cL_law 171 = .ok (.iload 4, 2) := by decide +kernel
theorem dL_law_173 : decode cL_law 173 = .ok (.iconst 1, 1) := by decide +kernel
theorem dL_law_174 : decode cL_law 174 = .ok (.iadd, 1) := by decide +kernel
theorem dL_law_175 : decode cL_law 175 = .ok (.iaload, 1) := by decide +kernel
theorem dL_law_176 : decode cL_law 176 = .ok (.aload_n 0, 1) := by decide +kernel
theorem dL_law_177 : decode cL_law 177 = .ok (.iload 4, 2) := by decide +kernel
theorem dL_law_179 : decode cL_law 179 = .ok (.iconst 2, 1) := by decide +kernel
theorem dL_law_180 : decode cL_law 180 = .ok (.iadd, 1) := by decide +kernel
theorem dL_law_181 : decode cL_law 181 = .ok (.iaload, 1) := by decide +kernel
theorem dL_law_182 : decode cL_law 182 = .ok (.aload_n 0, 1) := by decide +kernel
theorem dL_law_183 : decode cL_law 183 = .ok (.iload 4, 2) := by decide +kernel
theorem dL_law_185 : decode cL_law 185 = .ok (.iconst 3, 1) := by decide +kernel
theorem dL_law_186 : decode cL_law 186 = .ok (.iadd, 1) := by decide +kernel
theorem dL_law_187 : decode cL_law 187 = .ok (.iaload, 1) := by decide +kernel
theorem dL_law_188 : decode cL_law 188 = .ok (.invokevirtual 79, 3) := by decide +kernel
theorem dL_law_191 : decode cL_law 191 = .ok (.istore 6, 2) := by decide +kernel
theorem dL_law_193 : decode cL_law 193 = .ok (.aload_n 2, 1) := by decide +kernel
theorem dL_law_194 : decode cL_law 194 = .ok (.invokevirtual 80, 3) := by decide +kernel
theorem dL_law_197 : decode cL_law 197 = .ok (.iload 5, 2) := by decide +kernel
theorem dL_law_199 : decode cL_law 199 = .ok (.if_icmp .eq 5, 3) := by decide +kernel
theorem dL_law_202 : decode cL_law 202 = .ok (.iconst 0, 1) := by decide +kernel
theorem dL_law_203 : decode cL_law 203 = .ok (.ireturn, 1) := by decide +kernel
theorem dL_law_204 : decode cL_law 204 = .ok (.iload 5, 2) := by decide +kernel
theorem dL_law_206 : decode cL_law 206 = .ok (.ifCond .ne 15, 3) := by decide +kernel
theorem dL_law_209 : decode cL_law 209 = .ok (.aload_n 3, 1) := by decide +kernel
theorem dL_law_210 : decode cL_law 210 = .ok (.iconst 0, 1) := by decide +kernel
theorem dL_law_211 : decode cL_law 211 = .ok (.laload, 1) := by decide +kernel
theorem dL_law_212 : decode cL_law 212 = .ok (.iload 6, 2) := by decide +kernel
theorem dL_law_214 : decode cL_law 214 = .ok (.i2l, 1) := by decide +kernel
theorem dL_law_215 : decode cL_law 215 = .ok (.lcmp, 1) := by decide +kernel
theorem dL_law_216 : decode cL_law 216 = .ok (.ifCond .eq 5, 3) := by decide +kernel
theorem dL_law_219 : decode cL_law 219 = .ok (.iconst 0, 1) := by decide +kernel
theorem dL_law_220 : decode cL_law 220 = .ok (.ireturn, 1) := by decide +kernel
theorem dL_law_221 : decode cL_law 221 = .ok (.goto 1102, 3) := by decide +kernel
theorem dL_law_224 : decode cL_law 224 = .ok (.aload_n 1, 1) := by decide +kernel
theorem dL_law_225 : decode cL_law 225 = .ok (.aload_n 0, 1) := by decide +kernel
theorem dL_law_226 : decode cL_law 226 = .ok (.iload 4, 2) := by decide +kernel
theorem dL_law_228 : decode cL_law 228 = .ok (.iconst 1, 1) := by decide +kernel
theorem dL_law_229 : decode cL_law 229 = .ok (.iadd, 1) := by decide +kernel
theorem dL_law_230 : decode cL_law 230 = .ok (.iaload, 1) := by decide +kernel
theorem dL_law_231 : decode cL_law 231 = .ok (.aload_n 3, 1) := by decide +kernel
theorem dL_law_232 : decode cL_law 232 = .ok (.invokestatic 83, 3) := by decide +kernel
theorem dL_law_235 : decode cL_law 235 = .ok (.istore 5, 2) := by decide +kernel
theorem dL_law_237 : decode cL_law 237 = .ok (.aload_n 2, 1) := by decide +kernel
theorem dL_law_238 : decode cL_law 238 = .ok (.aload_n 0, 1) := by decide +kernel
theorem dL_law_239 : decode cL_law 239 = .ok (.iload 4, 2) := by decide +kernel
theorem dL_law_241 : decode cL_law 241 = .ok (.iconst 1, 1) := by decide +kernel
theorem dL_law_242 : decode cL_law 242 = .ok (.iadd, 1) := by decide +kernel
theorem dL_law_243 : decode cL_law 243 = .ok (.iaload, 1) := by decide +kernel
theorem dL_law_244 : decode cL_law 244 = .ok (.invokevirtual 86, 3) := by decide +kernel
theorem dL_law_247 : decode cL_law 247 = .ok (.istore 6, 2) := by decide +kernel
theorem dL_law_249 : decode cL_law 249 = .ok (.aload_n 2, 1) := by decide +kernel
theorem dL_law_250 : decode cL_law 250 = .ok (.invokevirtual 80, 3) := by decide +kernel
theorem dL_law_253 : decode cL_law 253 = .ok (.iload 5, 2) := by decide +kernel
theorem dL_law_255 : decode cL_law 255 = .ok (.if_icmp .eq 5, 3) := by decide +kernel
theorem dL_law_258 : decode cL_law 258 = .ok (.iconst 0, 1) := by decide +kernel
theorem dL_law_259 : decode cL_law 259 = .ok (.ireturn, 1) := by decide +kernel
theorem dL_law_260 : decode cL_law 260 = .ok (.iload 5, 2) := by decide +kernel
theorem dL_law_262 : decode cL_law 262 = .ok (.ifCond .ne 15, 3) := by decide +kernel
theorem dL_law_265 : decode cL_law 265 = .ok (.aload_n 3, 1) := by decide +kernel
theorem dL_law_266 : decode cL_law 266 = .ok (.iconst 0, 1) := by decide +kernel
theorem dL_law_267 : decode cL_law 267 = .ok (.laload, 1) := by decide +kernel
theorem dL_law_268 : decode cL_law 268 = .ok (.iload 6, 2) := by decide +kernel
theorem dL_law_270 : decode cL_law 270 = .ok (.i2l, 1) := by decide +kernel
theorem dL_law_271 : decode cL_law 271 = .ok (.lcmp, 1) := by decide +kernel
theorem dL_law_272 : decode cL_law 272 = .ok (.ifCond .eq 5, 3) := by decide +kernel
theorem dL_law_275 : decode cL_law 275 = .ok (.iconst 0, 1) := by decide +kernel
theorem dL_law_276 : decode cL_law 276 = .ok (.ireturn, 1) := by decide +kernel
theorem dL_law_277 : decode cL_law 277 = .ok (.goto 1046, 3) := by decide +kernel
theorem dL_law_280 : decode cL_law 280 = .ok (.aload_n 1, 1) := by decide +kernel
theorem dL_law_281 : decode cL_law 281 = .ok (.aload_n 0, 1) := by decide +kernel
theorem dL_law_282 : decode cL_law 282 = .ok (.iload 4, 2) := by decide +kernel
theorem dL_law_284 : decode cL_law 284 = .ok (.iconst 1, 1) := by decide +kernel
theorem dL_law_285 : decode cL_law 285 = .ok (.iadd, 1) := by decide +kernel
theorem dL_law_286 : decode cL_law 286 = .ok (.iaload, 1) := by decide +kernel
theorem dL_law_287 : decode cL_law 287 = .ok (.aload_n 0, 1) := by decide +kernel
theorem dL_law_288 : decode cL_law 288 = .ok (.iload 4, 2) := by decide +kernel
theorem dL_law_290 : decode cL_law 290 = .ok (.iconst 2, 1) := by decide +kernel
theorem dL_law_291 : decode cL_law 291 = .ok (.iadd, 1) := by decide +kernel
theorem dL_law_292 : decode cL_law 292 = .ok (.iaload, 1) := by decide +kernel
theorem dL_law_293 : decode cL_law 293 = .ok (.aload_n 3, 1) := by decide +kernel
theorem dL_law_294 : decode cL_law 294 = .ok (.invokestatic 87, 3) := by decide +kernel
theorem dL_law_297 : decode cL_law 297 = .ok (.istore 5, 2) := by decide +kernel
theorem dL_law_299 : decode cL_law 299 = .ok (.aload_n 2, 1) := by decide +kernel
theorem dL_law_300 : decode cL_law 300 = .ok (.aload_n 0, 1) := by decide +kernel
theorem dL_law_301 : decode cL_law 301 = .ok (.iload 4, 2) := by decide +kernel
theorem dL_law_303 : decode cL_law 303 = .ok (.iconst 1, 1) := by decide +kernel
theorem dL_law_304 : decode cL_law 304 = .ok (.iadd, 1) := by decide +kernel
theorem dL_law_305 : decode cL_law 305 = .ok (.iaload, 1) := by decide +kernel
theorem dL_law_306 : decode cL_law 306 = .ok (.aload_n 0, 1) := by decide +kernel
theorem dL_law_307 : decode cL_law 307 = .ok (.iload 4, 2) := by decide +kernel
theorem dL_law_309 : decode cL_law 309 = .ok (.iconst 2, 1) := by decide +kernel
theorem dL_law_310 : decode cL_law 310 = .ok (.iadd, 1) := by decide +kernel
theorem dL_law_311 : decode cL_law 311 = .ok (.iaload, 1) := by decide +kernel
theorem dL_law_312 : decode cL_law 312 = .ok (.invokevirtual 90, 3) := by decide +kernel
theorem dL_law_315 : decode cL_law 315 = .ok (.istore 6, 2) := by decide +kernel
theorem dL_law_317 : decode cL_law 317 = .ok (.aload_n 2, 1) := by decide +kernel
theorem dL_law_318 : decode cL_law 318 = .ok (.invokevirtual 80, 3) := by decide +kernel
theorem dL_law_321 : decode cL_law 321 = .ok (.iload 5, 2) := by decide +kernel
theorem dL_law_323 : decode cL_law 323 = .ok (.if_icmp .eq 5, 3) := by decide +kernel
theorem dL_law_326 : decode cL_law 326 = .ok (.iconst 0, 1) := by decide +kernel
theorem dL_law_327 : decode cL_law 327 = .ok (.ireturn, 1) := by decide +kernel
theorem dL_law_328 : decode cL_law 328 = .ok (.iload 5, 2) := by decide +kernel
theorem dL_law_330 : decode cL_law 330 = .ok (.ifCond .ne 15, 3) := by decide +kernel
theorem dL_law_333 : decode cL_law 333 = .ok (.aload_n 3, 1) := by decide +kernel
theorem dL_law_334 : decode cL_law 334 = .ok (.iconst 0, 1) := by decide +kernel
theorem dL_law_335 : decode cL_law 335 = .ok (.laload, 1) := by decide +kernel
theorem dL_law_336 : decode cL_law 336 = .ok (.iload 6, 2) := by decide +kernel
theorem dL_law_338 : decode cL_law 338 = .ok (.i2l, 1) := by decide +kernel
theorem dL_law_339 : decode cL_law 339 = .ok (.lcmp, 1) := by decide +kernel
theorem dL_law_340 : decode cL_law 340 = .ok (.ifCond .eq 5, 3) := by decide +kernel
theorem dL_law_343 : decode cL_law 343 = .ok (.iconst 0, 1) := by decide +kernel
theorem dL_law_344 : decode cL_law 344 = .ok (.ireturn, 1) := by decide +kernel
theorem dL_law_345 : decode cL_law 345 = .ok (.goto 978, 3) := by decide +kernel
theorem dL_law_348 : decode cL_law 348 = .ok (.aload_n 1, 1) := by decide +kernel
theorem dL_law_349 : decode cL_law 349 = .ok (.aload_n 0, 1) := by decide +kernel
theorem dL_law_350 : decode cL_law 350 = .ok (.iload 4, 2) := by decide +kernel
theorem dL_law_352 : decode cL_law 352 = .ok (.iconst 1, 1) := by decide +kernel
theorem dL_law_353 : decode cL_law 353 = .ok (.iadd, 1) := by decide +kernel
theorem dL_law_354 : decode cL_law 354 = .ok (.iaload, 1) := by decide +kernel
theorem dL_law_355 : decode cL_law 355 = .ok (.aload_n 0, 1) := by decide +kernel
theorem dL_law_356 : decode cL_law 356 = .ok (.iload 4, 2) := by decide +kernel
theorem dL_law_358 : decode cL_law 358 = .ok (.iconst 2, 1) := by decide +kernel
theorem dL_law_359 : decode cL_law 359 = .ok (.iadd, 1) := by decide +kernel
theorem dL_law_360 : decode cL_law 360 = .ok (.iaload, 1) := by decide +kernel
theorem dL_law_361 : decode cL_law 361 = .ok (.aload_n 3, 1) := by decide +kernel
theorem dL_law_362 : decode cL_law 362 = .ok (.invokestatic 91, 3) := by decide +kernel
theorem dL_law_365 : decode cL_law 365 = .ok (.istore 5, 2) := by decide +kernel
theorem dL_law_367 : decode cL_law 367 = .ok (.aload_n 2, 1) := by decide +kernel
theorem dL_law_368 : decode cL_law 368 = .ok (.aload_n 0, 1) := by decide +kernel
theorem dL_law_369 : decode cL_law 369 = .ok (.iload 4, 2) := by decide +kernel
theorem dL_law_371 : decode cL_law 371 = .ok (.iconst 1, 1) := by decide +kernel
theorem dL_law_372 : decode cL_law 372 = .ok (.iadd, 1) := by decide +kernel
theorem dL_law_373 : decode cL_law 373 = .ok (.iaload, 1) := by decide +kernel
theorem dL_law_374 : decode cL_law 374 = .ok (.aload_n 0, 1) := by decide +kernel
theorem dL_law_375 : decode cL_law 375 = .ok (.iload 4, 2) := by decide +kernel
theorem dL_law_377 : decode cL_law 377 = .ok (.iconst 2, 1) := by decide +kernel
theorem dL_law_378 : decode cL_law 378 = .ok (.iadd, 1) := by decide +kernel
theorem dL_law_379 : decode cL_law 379 = .ok (.iaload, 1) := by decide +kernel
theorem dL_law_380 : decode cL_law 380 = .ok (.invokevirtual 93, 3) := by decide +kernel
theorem dL_law_383 : decode cL_law 383 = .ok (.istore 6, 2) := by decide +kernel
theorem dL_law_385 : decode cL_law 385 = .ok (.aload_n 2, 1) := by decide +kernel
theorem dL_law_386 : decode cL_law 386 = .ok (.invokevirtual 80, 3) := by decide +kernel
theorem dL_law_389 : decode cL_law 389 = .ok (.iload 5, 2) := by decide +kernel
theorem dL_law_391 : decode cL_law 391 = .ok (.if_icmp .eq 5, 3) := by decide +kernel
theorem dL_law_394 : decode cL_law 394 = .ok (.iconst 0, 1) := by decide +kernel
theorem dL_law_395 : decode cL_law 395 = .ok (.ireturn, 1) := by decide +kernel
theorem dL_law_396 : decode cL_law 396 = .ok (.iload 5, 2) := by decide +kernel
theorem dL_law_398 : decode cL_law 398 = .ok (.ifCond .ne 15, 3) := by decide +kernel
theorem dL_law_401 : decode cL_law 401 = .ok (.aload_n 3, 1) := by decide +kernel
theorem dL_law_402 : decode cL_law 402 = .ok (.iconst 0, 1) := by decide +kernel
theorem dL_law_403 : decode cL_law 403 = .ok (.laload, 1) := by decide +kernel
theorem dL_law_404 : decode cL_law 404 = .ok (.iload 6, 2) := by decide +kernel
theorem dL_law_406 : decode cL_law 406 = .ok (.i2l, 1) := by decide +kernel
theorem dL_law_407 : decode cL_law 407 = .ok (.lcmp, 1) := by decide +kernel
theorem dL_law_408 : decode cL_law 408 = .ok (.ifCond .eq 5, 3) := by decide +kernel
theorem dL_law_411 : decode cL_law 411 = .ok (.iconst 0, 1) := by decide +kernel
theorem dL_law_412 : decode cL_law 412 = .ok (.ireturn, 1) := by decide +kernel
theorem dL_law_413 : decode cL_law 413 = .ok (.goto 910, 3) := by decide +kernel
theorem dL_law_416 : decode cL_law 416 = .ok (.aload_n 1, 1) := by decide +kernel
theorem dL_law_417 : decode cL_law 417 = .ok (.aload_n 0, 1) := by decide +kernel
theorem dL_law_418 : decode cL_law 418 = .ok (.iload 4, 2) := by decide +kernel
theorem dL_law_420 : decode cL_law 420 = .ok (.iconst 1, 1) := by decide +kernel
theorem dL_law_421 : decode cL_law 421 = .ok (.iadd, 1) := by decide +kernel
theorem dL_law_422 : decode cL_law 422 = .ok (.iaload, 1) := by decide +kernel
theorem dL_law_423 : decode cL_law 423 = .ok (.aload_n 3, 1) := by decide +kernel
theorem dL_law_424 : decode cL_law 424 = .ok (.invokestatic 94, 3) := by decide +kernel
theorem dL_law_427 : decode cL_law 427 = .ok (.istore 5, 2) := by decide +kernel
theorem dL_law_429 : decode cL_law 429 = .ok (.aload_n 2, 1) := by decide +kernel
theorem dL_law_430 : decode cL_law 430 = .ok (.aload_n 0, 1) := by decide +kernel
theorem dL_law_431 : decode cL_law 431 = .ok (.iload 4, 2) := by decide +kernel
theorem dL_law_433 : decode cL_law 433 = .ok (.iconst 1, 1) := by decide +kernel
theorem dL_law_434 : decode cL_law 434 = .ok (.iadd, 1) := by decide +kernel
theorem dL_law_435 : decode cL_law 435 = .ok (.iaload, 1) := by decide +kernel
theorem dL_law_436 : decode cL_law 436 = .ok (.invokevirtual 96, 3) := by decide +kernel
theorem dL_law_439 : decode cL_law 439 = .ok (.istore 6, 2) := by decide +kernel
theorem dL_law_441 : decode cL_law 441 = .ok (.aload_n 2, 1) := by decide +kernel
theorem dL_law_442 : decode cL_law 442 = .ok (.invokevirtual 80, 3) := by decide +kernel
theorem dL_law_445 : decode cL_law 445 = .ok (.iload 5, 2) := by decide +kernel
theorem dL_law_447 : decode cL_law 447 = .ok (.if_icmp .eq 5, 3) := by decide +kernel
theorem dL_law_450 : decode cL_law 450 = .ok (.iconst 0, 1) := by decide +kernel
theorem dL_law_451 : decode cL_law 451 = .ok (.ireturn, 1) := by decide +kernel
theorem dL_law_452 : decode cL_law 452 = .ok (.iload 5, 2) := by decide +kernel
theorem dL_law_454 : decode cL_law 454 = .ok (.ifCond .ne 15, 3) := by decide +kernel
theorem dL_law_457 : decode cL_law 457 = .ok (.aload_n 3, 1) := by decide +kernel
theorem dL_law_458 : decode cL_law 458 = .ok (.iconst 0, 1) := by decide +kernel
theorem dL_law_459 : decode cL_law 459 = .ok (.laload, 1) := by decide +kernel
theorem dL_law_460 : decode cL_law 460 = .ok (.iload 6, 2) := by decide +kernel
theorem dL_law_462 : decode cL_law 462 = .ok (.i2l, 1) := by decide +kernel
theorem dL_law_463 : decode cL_law 463 = .ok (.lcmp, 1) := by decide +kernel
theorem dL_law_464 : decode cL_law 464 = .ok (.ifCond .eq 5, 3) := by decide +kernel
theorem dL_law_467 : decode cL_law 467 = .ok (.iconst 0, 1) := by decide +kernel
theorem dL_law_468 : decode cL_law 468 = .ok (.ireturn, 1) := by decide +kernel
theorem dL_law_469 : decode cL_law 469 = .ok (.goto 854, 3) := by decide +kernel
theorem dL_law_472 : decode cL_law 472 = .ok (.aload_n 1, 1) := by decide +kernel
theorem dL_law_473 : decode cL_law 473 = .ok (.invokevirtual 97, 3) := by decide +kernel
theorem dL_law_476 : decode cL_law 476 = .ok (.aload_n 2, 1) := by decide +kernel
theorem dL_law_477 : decode cL_law 477 = .ok (.invokevirtual 100, 3) := by decide +kernel
theorem dL_law_480 : decode cL_law 480 = .ok (.if_icmp .eq 843, 3) := by decide +kernel
theorem dL_law_483 : decode cL_law 483 = .ok (.iconst 0, 1) := by decide +kernel
theorem dL_law_484 : decode cL_law 484 = .ok (.ireturn, 1) := by decide +kernel
theorem dL_law_485 : decode cL_law 485 = .ok (.aload_n 1, 1) := by decide +kernel
theorem dL_law_486 : decode cL_law 486 = .ok (.invokevirtual 101, 3) := by decide +kernel
theorem dL_law_489 : decode cL_law 489 = .ok (.aload_n 2, 1) := by decide +kernel
theorem dL_law_490 : decode cL_law 490 = .ok (.invokevirtual 104, 3) := by decide +kernel
theorem dL_law_493 : decode cL_law 493 = .ok (.if_icmp .eq 830, 3) := by decide +kernel
theorem dL_law_496 : decode cL_law 496 = .ok (.iconst 0, 1) := by decide +kernel
theorem dL_law_497 : decode cL_law 497 = .ok (.ireturn, 1) := by decide +kernel
theorem dL_law_498 : decode cL_law 498 = .ok (.aload_n 1, 1) := by decide +kernel
theorem dL_law_499 : decode cL_law 499 = .ok (.aload_n 3, 1) := by decide +kernel
theorem dL_law_500 : decode cL_law 500 = .ok (.invokestatic 105, 3) := by decide +kernel
theorem dL_law_503 : decode cL_law 503 = .ok (.istore 5, 2) := by decide +kernel
theorem dL_law_505 : decode cL_law 505 = .ok (.aload_n 2, 1) := by decide +kernel
theorem dL_law_506 : decode cL_law 506 = .ok (.invokevirtual 108, 3) := by decide +kernel
theorem dL_law_509 : decode cL_law 509 = .ok (.istore 6, 2) := by decide +kernel
theorem dL_law_511 : decode cL_law 511 = .ok (.aload_n 2, 1) := by decide +kernel
theorem dL_law_512 : decode cL_law 512 = .ok (.invokevirtual 80, 3) := by decide +kernel
theorem dL_law_515 : decode cL_law 515 = .ok (.iload 5, 2) := by decide +kernel
theorem dL_law_517 : decode cL_law 517 = .ok (.if_icmp .eq 5, 3) := by decide +kernel
theorem dL_law_520 : decode cL_law 520 = .ok (.iconst 0, 1) := by decide +kernel
theorem dL_law_521 : decode cL_law 521 = .ok (.ireturn, 1) := by decide +kernel
theorem dL_law_522 : decode cL_law 522 = .ok (.iload 5, 2) := by decide +kernel
theorem dL_law_524 : decode cL_law 524 = .ok (.ifCond .ne 15, 3) := by decide +kernel
theorem dL_law_527 : decode cL_law 527 = .ok (.aload_n 3, 1) := by decide +kernel
theorem dL_law_528 : decode cL_law 528 = .ok (.iconst 0, 1) := by decide +kernel
theorem dL_law_529 : decode cL_law 529 = .ok (.laload, 1) := by decide +kernel
theorem dL_law_530 : decode cL_law 530 = .ok (.iload 6, 2) := by decide +kernel
theorem dL_law_532 : decode cL_law 532 = .ok (.i2l, 1) := by decide +kernel
theorem dL_law_533 : decode cL_law 533 = .ok (.lcmp, 1) := by decide +kernel
theorem dL_law_534 : decode cL_law 534 = .ok (.ifCond .eq 5, 3) := by decide +kernel
theorem dL_law_537 : decode cL_law 537 = .ok (.iconst 0, 1) := by decide +kernel
theorem dL_law_538 : decode cL_law 538 = .ok (.ireturn, 1) := by decide +kernel
theorem dL_law_539 : decode cL_law 539 = .ok (.goto 784, 3) := by decide +kernel
theorem dL_law_542 : decode cL_law 542 = .ok (.aload_n 1, 1) := by decide +kernel
theorem dL_law_543 : decode cL_law 543 = .ok (.aload_n 3, 1) := by decide +kernel
theorem dL_law_544 : decode cL_law 544 = .ok (.invokestatic 109, 3) := by decide +kernel
theorem dL_law_547 : decode cL_law 547 = .ok (.istore 5, 2) := by decide +kernel
theorem dL_law_549 : decode cL_law 549 = .ok (.aload_n 2, 1) := by decide +kernel
theorem dL_law_550 : decode cL_law 550 = .ok (.invokevirtual 111, 3) := by decide +kernel
theorem dL_law_553 : decode cL_law 553 = .ok (.istore 6, 2) := by decide +kernel
theorem dL_law_555 : decode cL_law 555 = .ok (.aload_n 2, 1) := by decide +kernel
theorem dL_law_556 : decode cL_law 556 = .ok (.invokevirtual 80, 3) := by decide +kernel
theorem dL_law_559 : decode cL_law 559 = .ok (.iload 5, 2) := by decide +kernel
theorem dL_law_561 : decode cL_law 561 = .ok (.if_icmp .eq 5, 3) := by decide +kernel
theorem dL_law_564 : decode cL_law 564 = .ok (.iconst 0, 1) := by decide +kernel
theorem dL_law_565 : decode cL_law 565 = .ok (.ireturn, 1) := by decide +kernel
theorem dL_law_566 : decode cL_law 566 = .ok (.iload 5, 2) := by decide +kernel
theorem dL_law_568 : decode cL_law 568 = .ok (.ifCond .ne 15, 3) := by decide +kernel
theorem dL_law_571 : decode cL_law 571 = .ok (.aload_n 3, 1) := by decide +kernel
theorem dL_law_572 : decode cL_law 572 = .ok (.iconst 0, 1) := by decide +kernel
theorem dL_law_573 : decode cL_law 573 = .ok (.laload, 1) := by decide +kernel
theorem dL_law_574 : decode cL_law 574 = .ok (.iload 6, 2) := by decide +kernel
theorem dL_law_576 : decode cL_law 576 = .ok (.i2l, 1) := by decide +kernel
theorem dL_law_577 : decode cL_law 577 = .ok (.lcmp, 1) := by decide +kernel
theorem dL_law_578 : decode cL_law 578 = .ok (.ifCond .eq 5, 3) := by decide +kernel
theorem dL_law_581 : decode cL_law 581 = .ok (.iconst 0, 1) := by decide +kernel
theorem dL_law_582 : decode cL_law 582 = .ok (.ireturn, 1) := by decide +kernel
theorem dL_law_583 : decode cL_law 583 = .ok (.goto 740, 3) := by decide +kernel
theorem dL_law_586 : decode cL_law 586 = .ok (.aload_n 1, 1) := by decide +kernel
theorem dL_law_587 : decode cL_law 587 = .ok (.invokevirtual 112, 3) := by decide +kernel
theorem dL_law_590 : decode cL_law 590 = .ok (.aload_n 2, 1) := by decide +kernel
theorem dL_law_591 : decode cL_law 591 = .ok (.invokevirtual 115, 3) := by decide +kernel
theorem dL_law_594 : decode cL_law 594 = .ok (.if_icmp .eq 729, 3) := by decide +kernel
theorem dL_law_597 : decode cL_law 597 = .ok (.iconst 0, 1) := by decide +kernel
theorem dL_law_598 : decode cL_law 598 = .ok (.ireturn, 1) := by decide +kernel
theorem dL_law_599 : decode cL_law 599 = .ok (.aload_n 1, 1) := by decide +kernel
theorem dL_law_600 : decode cL_law 600 = .ok (.aload_n 3, 1) := by decide +kernel
theorem dL_law_601 : decode cL_law 601 = .ok (.invokestatic 116, 3) := by decide +kernel
theorem dL_law_604 : decode cL_law 604 = .ok (.istore 5, 2) := by decide +kernel
theorem dL_law_606 : decode cL_law 606 = .ok (.aload_n 2, 1) := by decide +kernel
theorem dL_law_607 : decode cL_law 607 = .ok (.invokevirtual 118, 3) := by decide +kernel
theorem dL_law_610 : decode cL_law 610 = .ok (.istore 6, 2) := by decide +kernel
theorem dL_law_612 : decode cL_law 612 = .ok (.aload_n 2, 1) := by decide +kernel
theorem dL_law_613 : decode cL_law 613 = .ok (.invokevirtual 80, 3) := by decide +kernel
theorem dL_law_616 : decode cL_law 616 = .ok (.iload 5, 2) := by decide +kernel
theorem dL_law_618 : decode cL_law 618 = .ok (.if_icmp .eq 5, 3) := by decide +kernel
theorem dL_law_621 : decode cL_law 621 = .ok (.iconst 0, 1) := by decide +kernel
theorem dL_law_622 : decode cL_law 622 = .ok (.ireturn, 1) := by decide +kernel
theorem dL_law_623 : decode cL_law 623 = .ok (.iload 5, 2) := by decide +kernel
theorem dL_law_625 : decode cL_law 625 = .ok (.ifCond .ne 15, 3) := by decide +kernel
theorem dL_law_628 : decode cL_law 628 = .ok (.aload_n 3, 1) := by decide +kernel
theorem dL_law_629 : decode cL_law 629 = .ok (.iconst 0, 1) := by decide +kernel
theorem dL_law_630 : decode cL_law 630 = .ok (.laload, 1) := by decide +kernel
theorem dL_law_631 : decode cL_law 631 = .ok (.iload 6, 2) := by decide +kernel
theorem dL_law_633 : decode cL_law 633 = .ok (.i2l, 1) := by decide +kernel
theorem dL_law_634 : decode cL_law 634 = .ok (.lcmp, 1) := by decide +kernel
theorem dL_law_635 : decode cL_law 635 = .ok (.ifCond .eq 5, 3) := by decide +kernel
theorem dL_law_638 : decode cL_law 638 = .ok (.iconst 0, 1) := by decide +kernel
theorem dL_law_639 : decode cL_law 639 = .ok (.ireturn, 1) := by decide +kernel
theorem dL_law_640 : decode cL_law 640 = .ok (.goto 683, 3) := by decide +kernel
theorem dL_law_643 : decode cL_law 643 = .ok (.aload_n 1, 1) := by decide +kernel
theorem dL_law_644 : decode cL_law 644 = .ok (.aload_n 0, 1) := by decide +kernel
theorem dL_law_645 : decode cL_law 645 = .ok (.iload 4, 2) := by decide +kernel
theorem dL_law_647 : decode cL_law 647 = .ok (.iconst 1, 1) := by decide +kernel
theorem dL_law_648 : decode cL_law 648 = .ok (.iadd, 1) := by decide +kernel
theorem dL_law_649 : decode cL_law 649 = .ok (.iaload, 1) := by decide +kernel
theorem dL_law_650 : decode cL_law 650 = .ok (.aload_n 0, 1) := by decide +kernel
theorem dL_law_651 : decode cL_law 651 = .ok (.iload 4, 2) := by decide +kernel
theorem dL_law_653 : decode cL_law 653 = .ok (.iconst 2, 1) := by decide +kernel
theorem dL_law_654 : decode cL_law 654 = .ok (.iadd, 1) := by decide +kernel
theorem dL_law_655 : decode cL_law 655 = .ok (.iaload, 1) := by decide +kernel
theorem dL_law_656 : decode cL_law 656 = .ok (.aload_n 3, 1) := by decide +kernel
theorem dL_law_657 : decode cL_law 657 = .ok (.invokestatic 119, 3) := by decide +kernel
theorem dL_law_660 : decode cL_law 660 = .ok (.istore 5, 2) := by decide +kernel
theorem dL_law_662 : decode cL_law 662 = .ok (.aload_n 2, 1) := by decide +kernel
theorem dL_law_663 : decode cL_law 663 = .ok (.aload_n 0, 1) := by decide +kernel
theorem dL_law_664 : decode cL_law 664 = .ok (.iload 4, 2) := by decide +kernel
theorem dL_law_666 : decode cL_law 666 = .ok (.iconst 1, 1) := by decide +kernel
theorem dL_law_667 : decode cL_law 667 = .ok (.iadd, 1) := by decide +kernel
theorem dL_law_668 : decode cL_law 668 = .ok (.iaload, 1) := by decide +kernel
theorem dL_law_669 : decode cL_law 669 = .ok (.aload_n 0, 1) := by decide +kernel
theorem dL_law_670 : decode cL_law 670 = .ok (.iload 4, 2) := by decide +kernel
theorem dL_law_672 : decode cL_law 672 = .ok (.iconst 2, 1) := by decide +kernel
theorem dL_law_673 : decode cL_law 673 = .ok (.iadd, 1) := by decide +kernel
theorem dL_law_674 : decode cL_law 674 = .ok (.iaload, 1) := by decide +kernel
theorem dL_law_675 : decode cL_law 675 = .ok (.invokevirtual 121, 3) := by decide +kernel
theorem dL_law_678 : decode cL_law 678 = .ok (.istore 6, 2) := by decide +kernel
theorem dL_law_680 : decode cL_law 680 = .ok (.aload_n 2, 1) := by decide +kernel
theorem dL_law_681 : decode cL_law 681 = .ok (.invokevirtual 80, 3) := by decide +kernel
theorem dL_law_684 : decode cL_law 684 = .ok (.iload 5, 2) := by decide +kernel
theorem dL_law_686 : decode cL_law 686 = .ok (.if_icmp .eq 5, 3) := by decide +kernel
theorem dL_law_689 : decode cL_law 689 = .ok (.iconst 0, 1) := by decide +kernel
theorem dL_law_690 : decode cL_law 690 = .ok (.ireturn, 1) := by decide +kernel
theorem dL_law_691 : decode cL_law 691 = .ok (.iload 5, 2) := by decide +kernel
theorem dL_law_693 : decode cL_law 693 = .ok (.ifCond .ne 15, 3) := by decide +kernel
theorem dL_law_696 : decode cL_law 696 = .ok (.aload_n 3, 1) := by decide +kernel
theorem dL_law_697 : decode cL_law 697 = .ok (.iconst 0, 1) := by decide +kernel
theorem dL_law_698 : decode cL_law 698 = .ok (.laload, 1) := by decide +kernel
theorem dL_law_699 : decode cL_law 699 = .ok (.iload 6, 2) := by decide +kernel
theorem dL_law_701 : decode cL_law 701 = .ok (.i2l, 1) := by decide +kernel
theorem dL_law_702 : decode cL_law 702 = .ok (.lcmp, 1) := by decide +kernel
theorem dL_law_703 : decode cL_law 703 = .ok (.ifCond .eq 5, 3) := by decide +kernel
theorem dL_law_706 : decode cL_law 706 = .ok (.iconst 0, 1) := by decide +kernel
theorem dL_law_707 : decode cL_law 707 = .ok (.ireturn, 1) := by decide +kernel
theorem dL_law_708 : decode cL_law 708 = .ok (.goto 615, 3) := by decide +kernel
theorem dL_law_711 : decode cL_law 711 = .ok (.aload_n 1, 1) := by decide +kernel
theorem dL_law_712 : decode cL_law 712 = .ok (.aload_n 0, 1) := by decide +kernel
theorem dL_law_713 : decode cL_law 713 = .ok (.iload 4, 2) := by decide +kernel
theorem dL_law_715 : decode cL_law 715 = .ok (.iconst 1, 1) := by decide +kernel
theorem dL_law_716 : decode cL_law 716 = .ok (.iadd, 1) := by decide +kernel
theorem dL_law_717 : decode cL_law 717 = .ok (.iaload, 1) := by decide +kernel
theorem dL_law_718 : decode cL_law 718 = .ok (.aload_n 0, 1) := by decide +kernel
theorem dL_law_719 : decode cL_law 719 = .ok (.iload 4, 2) := by decide +kernel
theorem dL_law_721 : decode cL_law 721 = .ok (.iconst 2, 1) := by decide +kernel
theorem dL_law_722 : decode cL_law 722 = .ok (.iadd, 1) := by decide +kernel
theorem dL_law_723 : decode cL_law 723 = .ok (.iaload, 1) := by decide +kernel
theorem dL_law_724 : decode cL_law 724 = .ok (.aload_n 3, 1) := by decide +kernel
theorem dL_law_725 : decode cL_law 725 = .ok (.invokestatic 122, 3) := by decide +kernel
theorem dL_law_728 : decode cL_law 728 = .ok (.istore 5, 2) := by decide +kernel
theorem dL_law_730 : decode cL_law 730 = .ok (.aload_n 2, 1) := by decide +kernel
theorem dL_law_731 : decode cL_law 731 = .ok (.aload_n 0, 1) := by decide +kernel
theorem dL_law_732 : decode cL_law 732 = .ok (.iload 4, 2) := by decide +kernel
theorem dL_law_734 : decode cL_law 734 = .ok (.iconst 1, 1) := by decide +kernel
theorem dL_law_735 : decode cL_law 735 = .ok (.iadd, 1) := by decide +kernel
theorem dL_law_736 : decode cL_law 736 = .ok (.iaload, 1) := by decide +kernel
theorem dL_law_737 : decode cL_law 737 = .ok (.aload_n 0, 1) := by decide +kernel
theorem dL_law_738 : decode cL_law 738 = .ok (.iload 4, 2) := by decide +kernel
theorem dL_law_740 : decode cL_law 740 = .ok (.iconst 2, 1) := by decide +kernel
theorem dL_law_741 : decode cL_law 741 = .ok (.iadd, 1) := by decide +kernel
theorem dL_law_742 : decode cL_law 742 = .ok (.iaload, 1) := by decide +kernel
theorem dL_law_743 : decode cL_law 743 = .ok (.invokevirtual 124, 3) := by decide +kernel
theorem dL_law_746 : decode cL_law 746 = .ok (.istore 6, 2) := by decide +kernel
theorem dL_law_748 : decode cL_law 748 = .ok (.aload_n 2, 1) := by decide +kernel
theorem dL_law_749 : decode cL_law 749 = .ok (.invokevirtual 80, 3) := by decide +kernel
theorem dL_law_752 : decode cL_law 752 = .ok (.iload 5, 2) := by decide +kernel
theorem dL_law_754 : decode cL_law 754 = .ok (.if_icmp .eq 5, 3) := by decide +kernel
theorem dL_law_757 : decode cL_law 757 = .ok (.iconst 0, 1) := by decide +kernel
theorem dL_law_758 : decode cL_law 758 = .ok (.ireturn, 1) := by decide +kernel
theorem dL_law_759 : decode cL_law 759 = .ok (.iload 5, 2) := by decide +kernel
theorem dL_law_761 : decode cL_law 761 = .ok (.ifCond .ne 15, 3) := by decide +kernel
theorem dL_law_764 : decode cL_law 764 = .ok (.aload_n 3, 1) := by decide +kernel
theorem dL_law_765 : decode cL_law 765 = .ok (.iconst 0, 1) := by decide +kernel
theorem dL_law_766 : decode cL_law 766 = .ok (.laload, 1) := by decide +kernel
theorem dL_law_767 : decode cL_law 767 = .ok (.iload 6, 2) := by decide +kernel
theorem dL_law_769 : decode cL_law 769 = .ok (.i2l, 1) := by decide +kernel
theorem dL_law_770 : decode cL_law 770 = .ok (.lcmp, 1) := by decide +kernel
theorem dL_law_771 : decode cL_law 771 = .ok (.ifCond .eq 5, 3) := by decide +kernel
theorem dL_law_774 : decode cL_law 774 = .ok (.iconst 0, 1) := by decide +kernel
theorem dL_law_775 : decode cL_law 775 = .ok (.ireturn, 1) := by decide +kernel
theorem dL_law_776 : decode cL_law 776 = .ok (.goto 547, 3) := by decide +kernel
theorem dL_law_779 : decode cL_law 779 = .ok (.aload_n 1, 1) := by decide +kernel
theorem dL_law_780 : decode cL_law 780 = .ok (.aload_n 0, 1) := by decide +kernel
theorem dL_law_781 : decode cL_law 781 = .ok (.iload 4, 2) := by decide +kernel
theorem dL_law_783 : decode cL_law 783 = .ok (.iconst 1, 1) := by decide +kernel
theorem dL_law_784 : decode cL_law 784 = .ok (.iadd, 1) := by decide +kernel
theorem dL_law_785 : decode cL_law 785 = .ok (.iaload, 1) := by decide +kernel
theorem dL_law_786 : decode cL_law 786 = .ok (.aload_n 0, 1) := by decide +kernel
theorem dL_law_787 : decode cL_law 787 = .ok (.iload 4, 2) := by decide +kernel
theorem dL_law_789 : decode cL_law 789 = .ok (.iconst 2, 1) := by decide +kernel
theorem dL_law_790 : decode cL_law 790 = .ok (.iadd, 1) := by decide +kernel
theorem dL_law_791 : decode cL_law 791 = .ok (.iaload, 1) := by decide +kernel
theorem dL_law_792 : decode cL_law 792 = .ok (.aload_n 0, 1) := by decide +kernel
theorem dL_law_793 : decode cL_law 793 = .ok (.iload 4, 2) := by decide +kernel
theorem dL_law_795 : decode cL_law 795 = .ok (.iconst 3, 1) := by decide +kernel
theorem dL_law_796 : decode cL_law 796 = .ok (.iadd, 1) := by decide +kernel
theorem dL_law_797 : decode cL_law 797 = .ok (.iaload, 1) := by decide +kernel
theorem dL_law_798 : decode cL_law 798 = .ok (.aload_n 3, 1) := by decide +kernel
theorem dL_law_799 : decode cL_law 799 = .ok (.invokestatic 125, 3) := by decide +kernel
theorem dL_law_802 : decode cL_law 802 = .ok (.istore 5, 2) := by decide +kernel
theorem dL_law_804 : decode cL_law 804 = .ok (.aload_n 2, 1) := by decide +kernel
theorem dL_law_805 : decode cL_law 805 = .ok (.aload_n 0, 1) := by decide +kernel
theorem dL_law_806 : decode cL_law 806 = .ok (.iload 4, 2) := by decide +kernel
theorem dL_law_808 : decode cL_law 808 = .ok (.iconst 1, 1) := by decide +kernel
theorem dL_law_809 : decode cL_law 809 = .ok (.iadd, 1) := by decide +kernel
theorem dL_law_810 : decode cL_law 810 = .ok (.iaload, 1) := by decide +kernel
theorem dL_law_811 : decode cL_law 811 = .ok (.aload_n 0, 1) := by decide +kernel
theorem dL_law_812 : decode cL_law 812 = .ok (.iload 4, 2) := by decide +kernel
theorem dL_law_814 : decode cL_law 814 = .ok (.iconst 2, 1) := by decide +kernel
theorem dL_law_815 : decode cL_law 815 = .ok (.iadd, 1) := by decide +kernel
theorem dL_law_816 : decode cL_law 816 = .ok (.iaload, 1) := by decide +kernel
theorem dL_law_817 : decode cL_law 817 = .ok (.aload_n 0, 1) := by decide +kernel
theorem dL_law_818 : decode cL_law 818 = .ok (.iload 4, 2) := by decide +kernel
theorem dL_law_820 : decode cL_law 820 = .ok (.iconst 3, 1) := by decide +kernel
theorem dL_law_821 : decode cL_law 821 = .ok (.iadd, 1) := by decide +kernel
theorem dL_law_822 : decode cL_law 822 = .ok (.iaload, 1) := by decide +kernel
theorem dL_law_823 : decode cL_law 823 = .ok (.invokevirtual 127, 3) := by decide +kernel
theorem dL_law_826 : decode cL_law 826 = .ok (.istore 6, 2) := by decide +kernel
theorem dL_law_828 : decode cL_law 828 = .ok (.aload_n 2, 1) := by decide +kernel
theorem dL_law_829 : decode cL_law 829 = .ok (.invokevirtual 80, 3) := by decide +kernel
theorem dL_law_832 : decode cL_law 832 = .ok (.iload 5, 2) := by decide +kernel
theorem dL_law_834 : decode cL_law 834 = .ok (.if_icmp .eq 5, 3) := by decide +kernel
theorem dL_law_837 : decode cL_law 837 = .ok (.iconst 0, 1) := by decide +kernel
theorem dL_law_838 : decode cL_law 838 = .ok (.ireturn, 1) := by decide +kernel
theorem dL_law_839 : decode cL_law 839 = .ok (.iload 5, 2) := by decide +kernel
theorem dL_law_841 : decode cL_law 841 = .ok (.ifCond .ne 15, 3) := by decide +kernel
theorem dL_law_844 : decode cL_law 844 = .ok (.aload_n 3, 1) := by decide +kernel
theorem dL_law_845 : decode cL_law 845 = .ok (.iconst 0, 1) := by decide +kernel
theorem dL_law_846 : decode cL_law 846 = .ok (.laload, 1) := by decide +kernel
theorem dL_law_847 : decode cL_law 847 = .ok (.iload 6, 2) := by decide +kernel
theorem dL_law_849 : decode cL_law 849 = .ok (.i2l, 1) := by decide +kernel
theorem dL_law_850 : decode cL_law 850 = .ok (.lcmp, 1) := by decide +kernel
theorem dL_law_851 : decode cL_law 851 = .ok (.ifCond .eq 5, 3) := by decide +kernel
theorem dL_law_854 : decode cL_law 854 = .ok (.iconst 0, 1) := by decide +kernel
theorem dL_law_855 : decode cL_law 855 = .ok (.ireturn, 1) := by decide +kernel
theorem dL_law_856 : decode cL_law 856 = .ok (.goto 467, 3) := by decide +kernel
theorem dL_law_859 : decode cL_law 859 = .ok (.aload_n 1, 1) := by decide +kernel
theorem dL_law_860 : decode cL_law 860 = .ok (.aload_n 0, 1) := by decide +kernel
theorem dL_law_861 : decode cL_law 861 = .ok (.iload 4, 2) := by decide +kernel
theorem dL_law_863 : decode cL_law 863 = .ok (.iconst 1, 1) := by decide +kernel
theorem dL_law_864 : decode cL_law 864 = .ok (.iadd, 1) := by decide +kernel
theorem dL_law_865 : decode cL_law 865 = .ok (.iaload, 1) := by decide +kernel
theorem dL_law_866 : decode cL_law 866 = .ok (.aload_n 0, 1) := by decide +kernel
theorem dL_law_867 : decode cL_law 867 = .ok (.iload 4, 2) := by decide +kernel
theorem dL_law_869 : decode cL_law 869 = .ok (.iconst 2, 1) := by decide +kernel
theorem dL_law_870 : decode cL_law 870 = .ok (.iadd, 1) := by decide +kernel
theorem dL_law_871 : decode cL_law 871 = .ok (.iaload, 1) := by decide +kernel
theorem dL_law_872 : decode cL_law 872 = .ok (.aload_n 3, 1) := by decide +kernel
theorem dL_law_873 : decode cL_law 873 = .ok (.invokestatic 128, 3) := by decide +kernel
theorem dL_law_876 : decode cL_law 876 = .ok (.istore 5, 2) := by decide +kernel
theorem dL_law_878 : decode cL_law 878 = .ok (.aload_n 2, 1) := by decide +kernel
theorem dL_law_879 : decode cL_law 879 = .ok (.aload_n 0, 1) := by decide +kernel
theorem dL_law_880 : decode cL_law 880 = .ok (.iload 4, 2) := by decide +kernel
theorem dL_law_882 : decode cL_law 882 = .ok (.iconst 1, 1) := by decide +kernel
theorem dL_law_883 : decode cL_law 883 = .ok (.iadd, 1) := by decide +kernel
theorem dL_law_884 : decode cL_law 884 = .ok (.iaload, 1) := by decide +kernel
theorem dL_law_885 : decode cL_law 885 = .ok (.aload_n 0, 1) := by decide +kernel
theorem dL_law_886 : decode cL_law 886 = .ok (.iload 4, 2) := by decide +kernel
theorem dL_law_888 : decode cL_law 888 = .ok (.iconst 2, 1) := by decide +kernel
theorem dL_law_889 : decode cL_law 889 = .ok (.iadd, 1) := by decide +kernel
theorem dL_law_890 : decode cL_law 890 = .ok (.iaload, 1) := by decide +kernel
theorem dL_law_891 : decode cL_law 891 = .ok (.invokevirtual 130, 3) := by decide +kernel
theorem dL_law_894 : decode cL_law 894 = .ok (.istore 6, 2) := by decide +kernel
theorem dL_law_896 : decode cL_law 896 = .ok (.aload_n 2, 1) := by decide +kernel
theorem dL_law_897 : decode cL_law 897 = .ok (.invokevirtual 80, 3) := by decide +kernel
theorem dL_law_900 : decode cL_law 900 = .ok (.iload 5, 2) := by decide +kernel
theorem dL_law_902 : decode cL_law 902 = .ok (.if_icmp .eq 5, 3) := by decide +kernel
theorem dL_law_905 : decode cL_law 905 = .ok (.iconst 0, 1) := by decide +kernel
theorem dL_law_906 : decode cL_law 906 = .ok (.ireturn, 1) := by decide +kernel
theorem dL_law_907 : decode cL_law 907 = .ok (.iload 5, 2) := by decide +kernel
theorem dL_law_909 : decode cL_law 909 = .ok (.ifCond .ne 15, 3) := by decide +kernel
theorem dL_law_912 : decode cL_law 912 = .ok (.aload_n 3, 1) := by decide +kernel
theorem dL_law_913 : decode cL_law 913 = .ok (.iconst 0, 1) := by decide +kernel
theorem dL_law_914 : decode cL_law 914 = .ok (.laload, 1) := by decide +kernel
theorem dL_law_915 : decode cL_law 915 = .ok (.iload 6, 2) := by decide +kernel
theorem dL_law_917 : decode cL_law 917 = .ok (.i2l, 1) := by decide +kernel
theorem dL_law_918 : decode cL_law 918 = .ok (.lcmp, 1) := by decide +kernel
theorem dL_law_919 : decode cL_law 919 = .ok (.ifCond .eq 5, 3) := by decide +kernel
theorem dL_law_922 : decode cL_law 922 = .ok (.iconst 0, 1) := by decide +kernel
theorem dL_law_923 : decode cL_law 923 = .ok (.ireturn, 1) := by decide +kernel
theorem dL_law_924 : decode cL_law 924 = .ok (.goto 399, 3) := by decide +kernel
theorem dL_law_927 : decode cL_law 927 = .ok (.aload_n 1, 1) := by decide +kernel
theorem dL_law_928 : decode cL_law 928 = .ok (.aload_n 0, 1) := by decide +kernel
theorem dL_law_929 : decode cL_law 929 = .ok (.iload 4, 2) := by decide +kernel
theorem dL_law_931 : decode cL_law 931 = .ok (.iconst 1, 1) := by decide +kernel
theorem dL_law_932 : decode cL_law 932 = .ok (.iadd, 1) := by decide +kernel
theorem dL_law_933 : decode cL_law 933 = .ok (.iaload, 1) := by decide +kernel
theorem dL_law_934 : decode cL_law 934 = .ok (.aload_n 0, 1) := by decide +kernel
theorem dL_law_935 : decode cL_law 935 = .ok (.iload 4, 2) := by decide +kernel
theorem dL_law_937 : decode cL_law 937 = .ok (.iconst 2, 1) := by decide +kernel
theorem dL_law_938 : decode cL_law 938 = .ok (.iadd, 1) := by decide +kernel
theorem dL_law_939 : decode cL_law 939 = .ok (.iaload, 1) := by decide +kernel
theorem dL_law_940 : decode cL_law 940 = .ok (.aload_n 0, 1) := by decide +kernel
theorem dL_law_941 : decode cL_law 941 = .ok (.iload 4, 2) := by decide +kernel
theorem dL_law_943 : decode cL_law 943 = .ok (.iconst 3, 1) := by decide +kernel
theorem dL_law_944 : decode cL_law 944 = .ok (.iadd, 1) := by decide +kernel
theorem dL_law_945 : decode cL_law 945 = .ok (.iaload, 1) := by decide +kernel
theorem dL_law_946 : decode cL_law 946 = .ok (.aload_n 3, 1) := by decide +kernel
theorem dL_law_947 : decode cL_law 947 = .ok (.invokestatic 131, 3) := by decide +kernel
theorem dL_law_950 : decode cL_law 950 = .ok (.istore 5, 2) := by decide +kernel
theorem dL_law_952 : decode cL_law 952 = .ok (.aload_n 2, 1) := by decide +kernel
theorem dL_law_953 : decode cL_law 953 = .ok (.aload_n 0, 1) := by decide +kernel
theorem dL_law_954 : decode cL_law 954 = .ok (.iload 4, 2) := by decide +kernel
theorem dL_law_956 : decode cL_law 956 = .ok (.iconst 1, 1) := by decide +kernel
theorem dL_law_957 : decode cL_law 957 = .ok (.iadd, 1) := by decide +kernel
theorem dL_law_958 : decode cL_law 958 = .ok (.iaload, 1) := by decide +kernel
theorem dL_law_959 : decode cL_law 959 = .ok (.aload_n 0, 1) := by decide +kernel
theorem dL_law_960 : decode cL_law 960 = .ok (.iload 4, 2) := by decide +kernel
theorem dL_law_962 : decode cL_law 962 = .ok (.iconst 2, 1) := by decide +kernel
theorem dL_law_963 : decode cL_law 963 = .ok (.iadd, 1) := by decide +kernel
theorem dL_law_964 : decode cL_law 964 = .ok (.iaload, 1) := by decide +kernel
theorem dL_law_965 : decode cL_law 965 = .ok (.aload_n 0, 1) := by decide +kernel
theorem dL_law_966 : decode cL_law 966 = .ok (.iload 4, 2) := by decide +kernel
theorem dL_law_968 : decode cL_law 968 = .ok (.iconst 3, 1) := by decide +kernel
theorem dL_law_969 : decode cL_law 969 = .ok (.iadd, 1) := by decide +kernel
theorem dL_law_970 : decode cL_law 970 = .ok (.iaload, 1) := by decide +kernel
theorem dL_law_971 : decode cL_law 971 = .ok (.invokevirtual 133, 3) := by decide +kernel
theorem dL_law_974 : decode cL_law 974 = .ok (.istore 6, 2) := by decide +kernel
theorem dL_law_976 : decode cL_law 976 = .ok (.aload_n 2, 1) := by decide +kernel
theorem dL_law_977 : decode cL_law 977 = .ok (.invokevirtual 80, 3) := by decide +kernel
theorem dL_law_980 : decode cL_law 980 = .ok (.iload 5, 2) := by decide +kernel
theorem dL_law_982 : decode cL_law 982 = .ok (.if_icmp .eq 5, 3) := by decide +kernel
theorem dL_law_985 : decode cL_law 985 = .ok (.iconst 0, 1) := by decide +kernel
theorem dL_law_986 : decode cL_law 986 = .ok (.ireturn, 1) := by decide +kernel
theorem dL_law_987 : decode cL_law 987 = .ok (.iload 5, 2) := by decide +kernel
theorem dL_law_989 : decode cL_law 989 = .ok (.ifCond .ne 15, 3) := by decide +kernel
theorem dL_law_992 : decode cL_law 992 = .ok (.aload_n 3, 1) := by decide +kernel
theorem dL_law_993 : decode cL_law 993 = .ok (.iconst 0, 1) := by decide +kernel
theorem dL_law_994 : decode cL_law 994 = .ok (.laload, 1) := by decide +kernel
theorem dL_law_995 : decode cL_law 995 = .ok (.iload 6, 2) := by decide +kernel
theorem dL_law_997 : decode cL_law 997 = .ok (.i2l, 1) := by decide +kernel
theorem dL_law_998 : decode cL_law 998 = .ok (.lcmp, 1) := by decide +kernel
theorem dL_law_999 : decode cL_law 999 = .ok (.ifCond .eq 5, 3) := by decide +kernel
theorem dL_law_1002 : decode cL_law 1002 = .ok (.iconst 0, 1) := by decide +kernel
theorem dL_law_1003 : decode cL_law 1003 = .ok (.ireturn, 1) := by decide +kernel
theorem dL_law_1004 : decode cL_law 1004 = .ok (.goto 319, 3) := by decide +kernel
theorem dL_law_1007 : decode cL_law 1007 = .ok (.aload_n 1, 1) := by decide +kernel
theorem dL_law_1008 : decode cL_law 1008 = .ok (.aload_n 0, 1) := by decide +kernel
theorem dL_law_1009 : decode cL_law 1009 = .ok (.iload 4, 2) := by decide +kernel
theorem dL_law_1011 : decode cL_law 1011 = .ok (.iconst 1, 1) := by decide +kernel
theorem dL_law_1012 : decode cL_law 1012 = .ok (.iadd, 1) := by decide +kernel
theorem dL_law_1013 : decode cL_law 1013 = .ok (.iaload, 1) := by decide +kernel
theorem dL_law_1014 : decode cL_law 1014 = .ok (.aload_n 3, 1) := by decide +kernel
theorem dL_law_1015 : decode cL_law 1015 = .ok (.invokestatic 134, 3) := by decide +kernel
theorem dL_law_1018 : decode cL_law 1018 = .ok (.istore 5, 2) := by decide +kernel
theorem dL_law_1020 : decode cL_law 1020 = .ok (.aload_n 2, 1) := by decide +kernel
theorem dL_law_1021 : decode cL_law 1021 = .ok (.aload_n 0, 1) := by decide +kernel
theorem dL_law_1022 : decode cL_law 1022 = .ok (.iload 4, 2) := by decide +kernel
theorem dL_law_1024 : decode cL_law 1024 = .ok (.iconst 1, 1) := by decide +kernel
theorem dL_law_1025 : decode cL_law 1025 = .ok (.iadd, 1) := by decide +kernel
theorem dL_law_1026 : decode cL_law 1026 = .ok (.iaload, 1) := by decide +kernel
theorem dL_law_1027 : decode cL_law 1027 = .ok (.invokevirtual 136, 3) := by decide +kernel
theorem dL_law_1030 : decode cL_law 1030 = .ok (.istore 6, 2) := by decide +kernel
theorem dL_law_1032 : decode cL_law 1032 = .ok (.aload_n 2, 1) := by decide +kernel
theorem dL_law_1033 : decode cL_law 1033 = .ok (.invokevirtual 80, 3) := by decide +kernel
theorem dL_law_1036 : decode cL_law 1036 = .ok (.iload 5, 2) := by decide +kernel
theorem dL_law_1038 : decode cL_law 1038 = .ok (.if_icmp .eq 5, 3) := by decide +kernel
theorem dL_law_1041 : decode cL_law 1041 = .ok (.iconst 0, 1) := by decide +kernel
theorem dL_law_1042 : decode cL_law 1042 = .ok (.ireturn, 1) := by decide +kernel
theorem dL_law_1043 : decode cL_law 1043 = .ok (.iload 5, 2) := by decide +kernel
theorem dL_law_1045 : decode cL_law 1045 = .ok (.ifCond .ne 15, 3) := by decide +kernel
theorem dL_law_1048 : decode cL_law 1048 = .ok (.aload_n 3, 1) := by decide +kernel
theorem dL_law_1049 : decode cL_law 1049 = .ok (.iconst 0, 1) := by decide +kernel
theorem dL_law_1050 : decode cL_law 1050 = .ok (.laload, 1) := by decide +kernel
theorem dL_law_1051 : decode cL_law 1051 = .ok (.iload 6, 2) := by decide +kernel
theorem dL_law_1053 : decode cL_law 1053 = .ok (.i2l, 1) := by decide +kernel
theorem dL_law_1054 : decode cL_law 1054 = .ok (.lcmp, 1) := by decide +kernel
theorem dL_law_1055 : decode cL_law 1055 = .ok (.ifCond .eq 5, 3) := by decide +kernel
theorem dL_law_1058 : decode cL_law 1058 = .ok (.iconst 0, 1) := by decide +kernel
theorem dL_law_1059 : decode cL_law 1059 = .ok (.ireturn, 1) := by decide +kernel
theorem dL_law_1060 : decode cL_law 1060 = .ok (.goto 263, 3) := by decide +kernel
theorem dL_law_1063 : decode cL_law 1063 = .ok (.aload_n 1, 1) := by decide +kernel
theorem dL_law_1064 : decode cL_law 1064 = .ok (.aload_n 0, 1) := by decide +kernel
theorem dL_law_1065 : decode cL_law 1065 = .ok (.iload 4, 2) := by decide +kernel
theorem dL_law_1067 : decode cL_law 1067 = .ok (.iconst 1, 1) := by decide +kernel
theorem dL_law_1068 : decode cL_law 1068 = .ok (.iadd, 1) := by decide +kernel
theorem dL_law_1069 : decode cL_law 1069 = .ok (.iaload, 1) := by decide +kernel
theorem dL_law_1070 : decode cL_law 1070 = .ok (.aload_n 0, 1) := by decide +kernel
theorem dL_law_1071 : decode cL_law 1071 = .ok (.iload 4, 2) := by decide +kernel
theorem dL_law_1073 : decode cL_law 1073 = .ok (.iconst 2, 1) := by decide +kernel
theorem dL_law_1074 : decode cL_law 1074 = .ok (.iadd, 1) := by decide +kernel
theorem dL_law_1075 : decode cL_law 1075 = .ok (.iaload, 1) := by decide +kernel
theorem dL_law_1076 : decode cL_law 1076 = .ok (.aload_n 3, 1) := by decide +kernel
theorem dL_law_1077 : decode cL_law 1077 = .ok (.invokestatic 137, 3) := by decide +kernel
theorem dL_law_1080 : decode cL_law 1080 = .ok (.istore 5, 2) := by decide +kernel
theorem dL_law_1082 : decode cL_law 1082 = .ok (.aload_n 2, 1) := by decide +kernel
theorem dL_law_1083 : decode cL_law 1083 = .ok (.aload_n 0, 1) := by decide +kernel
theorem dL_law_1084 : decode cL_law 1084 = .ok (.iload 4, 2) := by decide +kernel
theorem dL_law_1086 : decode cL_law 1086 = .ok (.iconst 1, 1) := by decide +kernel
theorem dL_law_1087 : decode cL_law 1087 = .ok (.iadd, 1) := by decide +kernel
theorem dL_law_1088 : decode cL_law 1088 = .ok (.iaload, 1) := by decide +kernel
theorem dL_law_1089 : decode cL_law 1089 = .ok (.aload_n 0, 1) := by decide +kernel
theorem dL_law_1090 : decode cL_law 1090 = .ok (.iload 4, 2) := by decide +kernel
theorem dL_law_1092 : decode cL_law 1092 = .ok (.iconst 2, 1) := by decide +kernel
theorem dL_law_1093 : decode cL_law 1093 = .ok (.iadd, 1) := by decide +kernel
theorem dL_law_1094 : decode cL_law 1094 = .ok (.iaload, 1) := by decide +kernel
theorem dL_law_1095 : decode cL_law 1095 = .ok (.invokevirtual 139, 3) := by decide +kernel
theorem dL_law_1098 : decode cL_law 1098 = .ok (.istore 6, 2) := by decide +kernel
theorem dL_law_1100 : decode cL_law 1100 = .ok (.aload_n 2, 1) := by decide +kernel
theorem dL_law_1101 : decode cL_law 1101 = .ok (.invokevirtual 80, 3) := by decide +kernel
theorem dL_law_1104 : decode cL_law 1104 = .ok (.iload 5, 2) := by decide +kernel
theorem dL_law_1106 : decode cL_law 1106 = .ok (.if_icmp .eq 5, 3) := by decide +kernel
theorem dL_law_1109 : decode cL_law 1109 = .ok (.iconst 0, 1) := by decide +kernel
theorem dL_law_1110 : decode cL_law 1110 = .ok (.ireturn, 1) := by decide +kernel
theorem dL_law_1111 : decode cL_law 1111 = .ok (.iload 5, 2) := by decide +kernel
theorem dL_law_1113 : decode cL_law 1113 = .ok (.ifCond .ne 15, 3) := by decide +kernel
theorem dL_law_1116 : decode cL_law 1116 = .ok (.aload_n 3, 1) := by decide +kernel
theorem dL_law_1117 : decode cL_law 1117 = .ok (.iconst 0, 1) := by decide +kernel
theorem dL_law_1118 : decode cL_law 1118 = .ok (.laload, 1) := by decide +kernel
theorem dL_law_1119 : decode cL_law 1119 = .ok (.iload 6, 2) := by decide +kernel
theorem dL_law_1121 : decode cL_law 1121 = .ok (.i2l, 1) := by decide +kernel
theorem dL_law_1122 : decode cL_law 1122 = .ok (.lcmp, 1) := by decide +kernel
theorem dL_law_1123 : decode cL_law 1123 = .ok (.ifCond .eq 5, 3) := by decide +kernel
theorem dL_law_1126 : decode cL_law 1126 = .ok (.iconst 0, 1) := by decide +kernel
theorem dL_law_1127 : decode cL_law 1127 = .ok (.ireturn, 1) := by decide +kernel
theorem dL_law_1128 : decode cL_law 1128 = .ok (.goto 195, 3) := by decide +kernel
theorem dL_law_1131 : decode cL_law 1131 = .ok (.aload_n 1, 1) := by decide +kernel
theorem dL_law_1132 : decode cL_law 1132 = .ok (.aload_n 0, 1) := by decide +kernel
theorem dL_law_1133 : decode cL_law 1133 = .ok (.iload 4, 2) := by decide +kernel
theorem dL_law_1135 : decode cL_law 1135 = .ok (.iconst 1, 1) := by decide +kernel
theorem dL_law_1136 : decode cL_law 1136 = .ok (.iadd, 1) := by decide +kernel
theorem dL_law_1137 : decode cL_law 1137 = .ok (.iaload, 1) := by decide +kernel
theorem dL_law_1138 : decode cL_law 1138 = .ok (.aload_n 3, 1) := by decide +kernel
theorem dL_law_1139 : decode cL_law 1139 = .ok (.invokestatic 140, 3) := by decide +kernel
theorem dL_law_1142 : decode cL_law 1142 = .ok (.istore 5, 2) := by decide +kernel
theorem dL_law_1144 : decode cL_law 1144 = .ok (.aload_n 2, 1) := by decide +kernel
theorem dL_law_1145 : decode cL_law 1145 = .ok (.aload_n 0, 1) := by decide +kernel
theorem dL_law_1146 : decode cL_law 1146 = .ok (.iload 4, 2) := by decide +kernel
theorem dL_law_1148 : decode cL_law 1148 = .ok (.iconst 1, 1) := by decide +kernel
theorem dL_law_1149 : decode cL_law 1149 = .ok (.iadd, 1) := by decide +kernel
theorem dL_law_1150 : decode cL_law 1150 = .ok (.iaload, 1) := by decide +kernel
theorem dL_law_1151 : decode cL_law 1151 = .ok (.invokevirtual 142, 3) := by decide +kernel
theorem dL_law_1154 : decode cL_law 1154 = .ok (.istore 6, 2) := by decide +kernel
theorem dL_law_1156 : decode cL_law 1156 = .ok (.aload_n 2, 1) := by decide +kernel
theorem dL_law_1157 : decode cL_law 1157 = .ok (.invokevirtual 80, 3) := by decide +kernel
theorem dL_law_1160 : decode cL_law 1160 = .ok (.iload 5, 2) := by decide +kernel
theorem dL_law_1162 : decode cL_law 1162 = .ok (.if_icmp .eq 5, 3) := by decide +kernel
theorem dL_law_1165 : decode cL_law 1165 = .ok (.iconst 0, 1) := by decide +kernel
theorem dL_law_1166 : decode cL_law 1166 = .ok (.ireturn, 1) := by decide +kernel
theorem dL_law_1167 : decode cL_law 1167 = .ok (.iload 5, 2) := by decide +kernel
theorem dL_law_1169 : decode cL_law 1169 = .ok (.ifCond .ne 15, 3) := by decide +kernel
theorem dL_law_1172 : decode cL_law 1172 = .ok (.aload_n 3, 1) := by decide +kernel
theorem dL_law_1173 : decode cL_law 1173 = .ok (.iconst 0, 1) := by decide +kernel
theorem dL_law_1174 : decode cL_law 1174 = .ok (.laload, 1) := by decide +kernel
theorem dL_law_1175 : decode cL_law 1175 = .ok (.iload 6, 2) := by decide +kernel
theorem dL_law_1177 : decode cL_law 1177 = .ok (.i2l, 1) := by decide +kernel
theorem dL_law_1178 : decode cL_law 1178 = .ok (.lcmp, 1) := by decide +kernel
theorem dL_law_1179 : decode cL_law 1179 = .ok (.ifCond .eq 5, 3) := by decide +kernel
theorem dL_law_1182 : decode cL_law 1182 = .ok (.iconst 0, 1) := by decide +kernel
theorem dL_law_1183 : decode cL_law 1183 = .ok (.ireturn, 1) := by decide +kernel
theorem dL_law_1184 : decode cL_law 1184 = .ok (.goto 139, 3) := by decide +kernel
theorem dL_law_1187 : decode cL_law 1187 = .ok (.aload_n 1, 1) := by decide +kernel
theorem dL_law_1188 : decode cL_law 1188 = .ok (.aload_n 0, 1) := by decide +kernel
theorem dL_law_1189 : decode cL_law 1189 = .ok (.iload 4, 2) := by decide +kernel
theorem dL_law_1191 : decode cL_law 1191 = .ok (.iconst 1, 1) := by decide +kernel
theorem dL_law_1192 : decode cL_law 1192 = .ok (.iadd, 1) := by decide +kernel
theorem dL_law_1193 : decode cL_law 1193 = .ok (.iaload, 1) := by decide +kernel
theorem dL_law_1194 : decode cL_law 1194 = .ok (.aload_n 0, 1) := by decide +kernel
theorem dL_law_1195 : decode cL_law 1195 = .ok (.iload 4, 2) := by decide +kernel
theorem dL_law_1197 : decode cL_law 1197 = .ok (.iconst 2, 1) := by decide +kernel
theorem dL_law_1198 : decode cL_law 1198 = .ok (.iadd, 1) := by decide +kernel
theorem dL_law_1199 : decode cL_law 1199 = .ok (.iaload, 1) := by decide +kernel
theorem dL_law_1200 : decode cL_law 1200 = .ok (.aload_n 3, 1) := by decide +kernel
theorem dL_law_1201 : decode cL_law 1201 = .ok (.invokestatic 143, 3) := by decide +kernel
theorem dL_law_1204 : decode cL_law 1204 = .ok (.istore 5, 2) := by decide +kernel
theorem dL_law_1206 : decode cL_law 1206 = .ok (.aload_n 2, 1) := by decide +kernel
theorem dL_law_1207 : decode cL_law 1207 = .ok (.aload_n 0, 1) := by decide +kernel
theorem dL_law_1208 : decode cL_law 1208 = .ok (.iload 4, 2) := by decide +kernel
theorem dL_law_1210 : decode cL_law 1210 = .ok (.iconst 1, 1) := by decide +kernel
theorem dL_law_1211 : decode cL_law 1211 = .ok (.iadd, 1) := by decide +kernel
theorem dL_law_1212 : decode cL_law 1212 = .ok (.iaload, 1) := by decide +kernel
theorem dL_law_1213 : decode cL_law 1213 = .ok (.aload_n 0, 1) := by decide +kernel
theorem dL_law_1214 : decode cL_law 1214 = .ok (.iload 4, 2) := by decide +kernel
theorem dL_law_1216 : decode cL_law 1216 = .ok (.iconst 2, 1) := by decide +kernel
theorem dL_law_1217 : decode cL_law 1217 = .ok (.iadd, 1) := by decide +kernel
theorem dL_law_1218 : decode cL_law 1218 = .ok (.iaload, 1) := by decide +kernel
theorem dL_law_1219 : decode cL_law 1219 = .ok (.invokevirtual 145, 3) := by decide +kernel
theorem dL_law_1222 : decode cL_law 1222 = .ok (.istore 6, 2) := by decide +kernel
theorem dL_law_1224 : decode cL_law 1224 = .ok (.aload_n 2, 1) := by decide +kernel
theorem dL_law_1225 : decode cL_law 1225 = .ok (.invokevirtual 80, 3) := by decide +kernel
theorem dL_law_1228 : decode cL_law 1228 = .ok (.iload 5, 2) := by decide +kernel
theorem dL_law_1230 : decode cL_law 1230 = .ok (.if_icmp .eq 5, 3) := by decide +kernel
theorem dL_law_1233 : decode cL_law 1233 = .ok (.iconst 0, 1) := by decide +kernel
theorem dL_law_1234 : decode cL_law 1234 = .ok (.ireturn, 1) := by decide +kernel
theorem dL_law_1235 : decode cL_law 1235 = .ok (.iload 5, 2) := by decide +kernel
theorem dL_law_1237 : decode cL_law 1237 = .ok (.ifCond .ne 15, 3) := by decide +kernel
theorem dL_law_1240 : decode cL_law 1240 = .ok (.aload_n 3, 1) := by decide +kernel
theorem dL_law_1241 : decode cL_law 1241 = .ok (.iconst 0, 1) := by decide +kernel
theorem dL_law_1242 : decode cL_law 1242 = .ok (.laload, 1) := by decide +kernel
theorem dL_law_1243 : decode cL_law 1243 = .ok (.iload 6, 2) := by decide +kernel
theorem dL_law_1245 : decode cL_law 1245 = .ok (.i2l, 1) := by decide +kernel
theorem dL_law_1246 : decode cL_law 1246 = .ok (.lcmp, 1) := by decide +kernel
theorem dL_law_1247 : decode cL_law 1247 = .ok (.ifCond .eq 5, 3) := by decide +kernel
theorem dL_law_1250 : decode cL_law 1250 = .ok (.iconst 0, 1) := by decide +kernel
theorem dL_law_1251 : decode cL_law 1251 = .ok (.ireturn, 1) := by decide +kernel
theorem dL_law_1252 : decode cL_law 1252 = .ok (.goto 71, 3) := by decide +kernel
theorem dL_law_1255 : decode cL_law 1255 = .ok (.aload_n 1, 1) := by decide +kernel
theorem dL_law_1256 : decode cL_law 1256 = .ok (.invokevirtual 146, 3) := by decide +kernel
theorem dL_law_1259 : decode cL_law 1259 = .ok (.aload_n 2, 1) := by decide +kernel
theorem dL_law_1260 : decode cL_law 1260 = .ok (.invokevirtual 149, 3) := by decide +kernel
theorem dL_law_1263 : decode cL_law 1263 = .ok (.if_icmp .eq 60, 3) := by decide +kernel
theorem dL_law_1266 : decode cL_law 1266 = .ok (.iconst 0, 1) := by decide +kernel
theorem dL_law_1267 : decode cL_law 1267 = .ok (.ireturn, 1) := by decide +kernel
theorem dL_law_1268 : decode cL_law 1268 = .ok (.aload_n 1, 1) := by decide +kernel
theorem dL_law_1269 : decode cL_law 1269 = .ok (.invokevirtual 150, 3) := by decide +kernel
theorem dL_law_1272 : decode cL_law 1272 = .ok (.dstore 5, 2) := by decide +kernel
theorem dL_law_1274 : decode cL_law 1274 = .ok (.aload_n 2, 1) := by decide +kernel
theorem dL_law_1275 : decode cL_law 1275 = .ok (.invokevirtual 154, 3) := by decide +kernel
theorem dL_law_1278 : decode cL_law 1278 = .ok (.dstore 7, 2) := by decide +kernel
theorem dL_law_1280 : decode cL_law 1280 = .ok (.dload 5, 2) := by decide +kernel
theorem dL_law_1282 : decode cL_law 1282 = .ok (.dload 7, 2) := by decide +kernel
theorem dL_law_1284 : decode cL_law 1284 = .ok (.dcmp .l, 1) := by decide +kernel
theorem dL_law_1285 : decode cL_law 1285 = .ok (.ifCond .eq 21, 3) := by decide +kernel
theorem dL_law_1288 : decode cL_law 1288 = .ok (.dload 5, 2) := by decide +kernel
theorem dL_law_1290 : decode cL_law 1290 = .ok (.dload 5, 2) := by decide +kernel
theorem dL_law_1292 : decode cL_law 1292 = .ok (.dcmp .l, 1) := by decide +kernel
theorem dL_law_1293 : decode cL_law 1293 = .ok (.ifCond .eq 11, 3) := by decide +kernel
theorem dL_law_1296 : decode cL_law 1296 = .ok (.dload 7, 2) := by decide +kernel
theorem dL_law_1298 : decode cL_law 1298 = .ok (.dload 7, 2) := by decide +kernel
theorem dL_law_1300 : decode cL_law 1300 = .ok (.dcmp .l, 1) := by decide +kernel
theorem dL_law_1301 : decode cL_law 1301 = .ok (.ifCond .ne 5, 3) := by decide +kernel
theorem dL_law_1304 : decode cL_law 1304 = .ok (.iconst 0, 1) := by decide +kernel
theorem dL_law_1305 : decode cL_law 1305 = .ok (.ireturn, 1) := by decide +kernel
theorem dL_law_1306 : decode cL_law 1306 = .ok (.goto 17, 3) := by decide +kernel
theorem dL_law_1309 : decode cL_law 1309 = .ok (.aload_n 1, 1) := by decide +kernel
theorem dL_law_1310 : decode cL_law 1310 = .ok (.invokevirtual 155, 3) := by decide +kernel
theorem dL_law_1313 : decode cL_law 1313 = .ok (.aload_n 2, 1) := by decide +kernel
theorem dL_law_1314 : decode cL_law 1314 = .ok (.invokevirtual 159, 3) := by decide +kernel
theorem dL_law_1317 : decode cL_law 1317 = .ok (.lcmp, 1) := by decide +kernel
theorem dL_law_1318 : decode cL_law 1318 = .ok (.ifCond .eq 5, 3) := by decide +kernel
theorem dL_law_1321 : decode cL_law 1321 = .ok (.iconst 0, 1) := by decide +kernel
theorem dL_law_1322 : decode cL_law 1322 = .ok (.ireturn, 1) := by decide +kernel
theorem dL_law_1323 : decode cL_law 1323 = .ok (.iinc 4 4, 3) := by decide +kernel
theorem dL_law_1326 : decode cL_law 1326 = .ok (.goto (-1303), 3) := by decide +kernel
theorem dL_law_1329 : decode cL_law 1329 = .ok (.iconst 1, 1) := by decide +kernel
theorem dL_law_1330 : decode cL_law 1330 = .ok (.ireturn, 1) := by decide +kernel
