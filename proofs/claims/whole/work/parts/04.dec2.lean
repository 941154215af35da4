theorem d_Model_init_0 : decode b_Model_init 0 = .ok (.aload_n 0, 1) := by decide +kernel
theorem d_Model_init_1 : decode b_Model_init 1 = .ok (.invokespecial 1, 3) := by decide +kernel
theorem d_Model_init_4 : decode b_Model_init 4 = .ok (.aload_n 0, 1) := by decide +kernel
theorem d_Model_init_5 : decode b_Model_init 5 = .ok (.iconst 4, 1) := by decide +kernel
theorem d_Model_init_6 : decode b_Model_init 6 = .ok (.newarray .int, 2) := by decide +kernel
theorem d_Model_init_8 : decode b_Model_init 8 = .ok (.putfield 7, 3) := by decide +kernel
theorem d_Model_init_11 : decode b_Model_init 11 = .ok (.aload_n 0, 1) := by decide +kernel
theorem d_Model_init_12 : decode b_Model_init 12 = .ok (.iconst 4, 1) := by decide +kernel
theorem d_Model_init_13 : decode b_Model_init 13 = .ok (.newarray .long, 2) := by decide +kernel
theorem d_Model_init_15 : decode b_Model_init 15 = .ok (.putfield 13, 3) := by decide +kernel
theorem d_Model_init_18 : decode b_Model_init 18 = .ok (.aload_n 0, 1) := by decide +kernel
theorem d_Model_init_19 : decode b_Model_init 19 = .ok (.bipush 60, 2) := by decide +kernel
theorem d_Model_init_21 : decode b_Model_init 21 = .ok (.newarray .int, 2) := by decide +kernel
theorem d_Model_init_23 : decode b_Model_init 23 = .ok (.putfield 17, 3) := by decide +kernel
theorem d_Model_init_26 : decode b_Model_init 26 = .ok (.aload_n 0, 1) := by decide +kernel
theorem d_Model_init_27 : decode b_Model_init 27 = .ok (.bipush 60, 2) := by decide +kernel
theorem d_Model_init_29 : decode b_Model_init 29 = .ok (.newarray .int, 2) := by decide +kernel
theorem d_Model_init_31 : decode b_Model_init 31 = .ok (.putfield 20, 3) := by decide +kernel
theorem d_Model_init_34 : decode b_Model_init 34 = .ok (.aload_n 0, 1) := by decide +kernel
theorem d_Model_init_35 : decode b_Model_init 35 = .ok (.bipush 60, 2) := by decide +kernel
theorem d_Model_init_37 : decode b_Model_init 37 = .ok (.newarray .int, 2) := by decide +kernel
theorem d_Model_init_39 : decode b_Model_init 39 = .ok (.putfield 23, 3) := by decide +kernel
theorem d_Model_init_42 : decode b_Model_init 42 = .ok (.aload_n 0, 1) := by decide +kernel
theorem d_Model_init_43 : decode b_Model_init 43 = .ok (.bipush 60, 2) := by decide +kernel
theorem d_Model_init_45 : decode b_Model_init 45 = .ok (.newarray .int, 2) := by decide +kernel
theorem d_Model_init_47 : decode b_Model_init 47 = .ok (.putfield 26, 3) := by decide +kernel
theorem d_Model_init_50 : decode b_Model_init 50 = .ok (.aload_n 0, 1) := by decide +kernel
theorem d_Model_init_51 : decode b_Model_init 51 = .ok (.bipush 60, 2) := by decide +kernel
theorem d_Model_init_53 : decode b_Model_init 53 = .ok (.newarray .int, 2) := by decide +kernel
theorem d_Model_init_55 : decode b_Model_init 55 = .ok (.putfield 29, 3) := by decide +kernel
theorem d_Model_init_58 : decode b_Model_init 58 = .ok (.aload_n 0, 1) := by decide +kernel
theorem d_Model_init_59 : decode b_Model_init 59 = .ok (.bipush 60, 2) := by decide +kernel
theorem d_Model_init_61 : decode b_Model_init 61 = .ok (.newarray .long, 2) := by decide +kernel
theorem d_Model_init_63 : decode b_Model_init 63 = .ok (.putfield 32, 3) := by decide +kernel
theorem d_Model_init_66 : decode b_Model_init 66 = .ok (.aload_n 0, 1) := by decide +kernel
theorem d_Model_init_67 : decode b_Model_init 67 = .ok (.bipush 60, 2) := by decide +kernel
theorem d_Model_init_69 : decode b_Model_init 69 = .ok (.newarray .int, 2) := by decide +kernel
theorem d_Model_init_71 : decode b_Model_init 71 = .ok (.putfield 35, 3) := by decide +kernel
theorem d_Model_init_74 : decode b_Model_init 74 = .ok (.aload_n 0, 1) := by decide +kernel
theorem d_Model_init_75 : decode b_Model_init 75 = .ok (.bipush 100, 2) := by decide +kernel
theorem d_Model_init_77 : decode b_Model_init 77 = .ok (.newarray .long, 2) := by decide +kernel
theorem d_Model_init_79 : decode b_Model_init 79 = .ok (.putfield 38, 3) := by decide +kernel
theorem d_Model_init_82 : decode b_Model_init 82 = .ok (.aload_n 0, 1) := by decide +kernel
theorem d_Model_init_83 : decode b_Model_init 83 = .ok (.sipush 720, 3) := by decide +kernel
theorem d_Model_init_86 : decode b_Model_init 86 = .ok (.newarray .boolean, 2) := by decide +kernel
theorem d_Model_init_88 : decode b_Model_init 88 = .ok (.putfield 41, 3) := by decide +kernel
theorem d_Model_init_91 : decode b_Model_init 91 = .ok (.aload_n 0, 1) := by decide +kernel
theorem d_Model_init_92 : decode b_Model_init 92 = .ok (.sipush 720, 3) := by decide +kernel
theorem d_Model_init_95 : decode b_Model_init 95 = .ok (.newarray .boolean, 2) := by decide +kernel
theorem d_Model_init_97 : decode b_Model_init 97 = .ok (.putfield 45, 3) := by decide +kernel
theorem d_Model_init_100 : decode b_Model_init 100 = .ok (.aload_n 0, 1) := by decide +kernel
theorem d_Model_init_101 : decode b_Model_init 101 = .ok (.sipush 240, 3) := by decide +kernel
theorem d_Model_init_104 : decode b_Model_init 104 = .ok (.newarray .boolean, 2) := by decide +kernel
theorem d_Model_init_106 : decode b_Model_init 106 = .ok (.putfield 48, 3) := by decide +kernel
theorem d_Model_init_109 : decode b_Model_init 109 = .ok (.aload_n 0, 1) := by decide +kernel
theorem d_Model_init_110 : decode b_Model_init 110 = .ok (.bipush 12, 2) := by decide +kernel
theorem d_Model_init_112 : decode b_Model_init 112 = .ok (.newarray .long, 2) := by decide +kernel
theorem d_Model_init_114 : decode b_Model_init 114 = .ok (.putfield 51, 3) := by decide +kernel
theorem d_Model_init_117 : decode b_Model_init 117 = .ok (.aload_n 0, 1) := by decide +kernel
theorem d_Model_init_118 : decode b_Model_init 118 = .ok (.bipush 6, 2) := by decide +kernel
theorem d_Model_init_120 : decode b_Model_init 120 = .ok (.newarray .int, 2) := by decide +kernel
theorem d_Model_init_122 : decode b_Model_init 122 = .ok (.putfield 54, 3) := by decide +kernel
theorem d_Model_init_125 : decode b_Model_init 125 = .ok (.aload_n 0, 1) := by decide +kernel
theorem d_Model_init_126 : decode b_Model_init 126 = .ok (.iconst 4, 1) := by decide +kernel
theorem d_Model_init_127 : decode b_Model_init 127 = .ok (.newarray .int, 2) := by decide +kernel
theorem d_Model_init_129 : decode b_Model_init 129 = .ok (.putfield 57, 3) := by decide +kernel
theorem d_Model_init_132 : decode b_Model_init 132 = .ok (.aload_n 0, 1) := by decide +kernel
theorem d_Model_init_133 : decode b_Model_init 133 = .ok (.bipush 40, 2) := by decide +kernel
theorem d_Model_init_135 : decode b_Model_init 135 = .ok (.newarray .int, 2) := by decide +kernel
theorem d_Model_init_137 : decode b_Model_init 137 = .ok (.putfield 60, 3) := by decide +kernel
theorem d_Model_init_140 : decode b_Model_init 140 = .ok (.aload_n 0, 1) := by decide +kernel
theorem d_Model_init_141 : decode b_Model_init 141 = .ok (.bipush 40, 2) := by decide +kernel
theorem d_Model_init_143 : decode b_Model_init 143 = .ok (.newarray .int, 2) := by decide +kernel
theorem d_Model_init_145 : decode b_Model_init 145 = .ok (.putfield 63, 3) := by decide +kernel
theorem d_Model_init_148 : decode b_Model_init 148 = .ok (.iconst 0, 1) := by decide +kernel
theorem d_Model_init_149 : decode b_Model_init 149 = .ok (.istore_n 1, 1) := by decide +kernel
theorem d_Model_init_150 : decode b_Model_init 150 = .ok (.iload_n 1, 1) := by decide +kernel
theorem d_Model_init_151 : decode b_Model_init 151 = .ok (.bipush 6, 2) := by decide +kernel
theorem d_Model_init_153 : decode b_Model_init 153 = .ok (.if_icmp .ge 16, 3) := by decide +kernel
theorem d_Model_init_156 : decode b_Model_init 156 = .ok (.aload_n 0, 1) := by decide +kernel
theorem d_Model_init_157 : decode b_Model_init 157 = .ok (.getfield 54, 3) := by decide +kernel
theorem d_Model_init_160 : decode b_Model_init 160 = .ok (.iload_n 1, 1) := by decide +kernel
theorem d_Model_init_161 : decode b_Model_init 161 = .ok (.iconst (-1), 1) := by decide +kernel
theorem d_Model_init_162 : decode b_Model_init 162 = .ok (.iastore, 1) := by decide +kernel
theorem d_Model_init_163 : decode b_Model_init 163 = .ok (.iinc 1 1, 3) := by decide +kernel
theorem d_Model_init_166 : decode b_Model_init 166 = .ok (.goto (-16), 3) := by decide +kernel
theorem d_Model_init_169 : decode b_Model_init 169 = .ok (.return_, 1) := by decide +kernel
theorem d_Model_isIn_0 : decode b_Model_isIn 0 = .ok (.lload_n 0, 1) := by decide +kernel
theorem d_Model_isIn_1 : decode b_Model_isIn 1 = .ok (.lload_n 2, 1) := by decide +kernel
theorem d_Model_isIn_2 : decode b_Model_isIn 2 = .ok (.lcmp, 1) := by decide +kernel
theorem d_Model_isIn_3 : decode b_Model_isIn 3 = .ok (.ifCond .lt 14, 3) := by decide +kernel
theorem d_Model_isIn_6 : decode b_Model_isIn 6 = .ok (.lload_n 0, 1) := by decide +kernel
theorem d_Model_isIn_7 : decode b_Model_isIn 7 = .ok (.lload 4, 2) := by decide +kernel
theorem d_Model_isIn_9 : decode b_Model_isIn 9 = .ok (.lcmp, 1) := by decide +kernel
theorem d_Model_isIn_10 : decode b_Model_isIn 10 = .ok (.ifCond .gt 7, 3) := by decide +kernel
theorem d_Model_isIn_13 : decode b_Model_isIn 13 = .ok (.iconst 1, 1) := by decide +kernel
theorem d_Model_isIn_14 : decode b_Model_isIn 14 = .ok (.goto 4, 3) := by decide +kernel
theorem d_Model_isIn_17 : decode b_Model_isIn 17 = .ok (.iconst 0, 1) := by decide +kernel
theorem d_Model_isIn_18 : decode b_Model_isIn 18 = .ok (.ireturn, 1) := by decide +kernel
theorem d_Model_isDevice_0 : decode b_Model_isDevice 0 = .ok (.iload_n 1, 1) := by decide +kernel
theorem d_Model_isDevice_1 : decode b_Model_isDevice 1 = .ok (.ifCond .lt 15, 3) := by decide +kernel
theorem d_Model_isDevice_4 : decode b_Model_isDevice 4 = .ok (.iload_n 1, 1) := by decide +kernel
theorem d_Model_isDevice_5 : decode b_Model_isDevice 5 = .ok (.aload_n 0, 1) := by decide +kernel
theorem d_Model_isDevice_6 : decode b_Model_isDevice 6 = .ok (.getfield 66, 3) := by decide +kernel
theorem d_Model_isDevice_9 : decode b_Model_isDevice 9 = .ok (.if_icmp .ge 7, 3) := by decide +kernel
theorem d_Model_isDevice_12 : decode b_Model_isDevice 12 = .ok (.iconst 1, 1) := by decide +kernel
theorem d_Model_isDevice_13 : decode b_Model_isDevice 13 = .ok (.goto 4, 3) := by decide +kernel
theorem d_Model_isDevice_16 : decode b_Model_isDevice 16 = .ok (.iconst 0, 1) := by decide +kernel
theorem d_Model_isDevice_17 : decode b_Model_isDevice 17 = .ok (.ireturn, 1) := by decide +kernel
theorem d_Model_isSet_0 : decode b_Model_isSet 0 = .ok (.iload_n 1, 1) := by decide +kernel
theorem d_Model_isSet_1 : decode b_Model_isSet 1 = .ok (.ifCond .lt 15, 3) := by decide +kernel
theorem d_Model_isSet_4 : decode b_Model_isSet 4 = .ok (.iload_n 1, 1) := by decide +kernel
theorem d_Model_isSet_5 : decode b_Model_isSet 5 = .ok (.aload_n 0, 1) := by decide +kernel
theorem d_Model_isSet_6 : decode b_Model_isSet 6 = .ok (.getfield 70, 3) := by decide +kernel
theorem d_Model_isSet_9 : decode b_Model_isSet 9 = .ok (.if_icmp .ge 7, 3) := by decide +kernel
theorem d_Model_isSet_12 : decode b_Model_isSet 12 = .ok (.iconst 1, 1) := by decide +kernel
theorem d_Model_isSet_13 : decode b_Model_isSet 13 = .ok (.goto 4, 3) := by decide +kernel
theorem d_Model_isSet_16 : decode b_Model_isSet 16 = .ok (.iconst 0, 1) := by decide +kernel
theorem d_Model_isSet_17 : decode b_Model_isSet 17 = .ok (.ireturn, 1) := by decide +kernel
theorem d_Model_device_0 : decode b_Model_device 0 = .ok (.aload_n 0, 1) := by decide +kernel
theorem d_Model_device_1 : decode b_Model_device 1 = .ok (.getfield 66, 3) := by decide +kernel
theorem d_Model_device_4 : decode b_Model_device 4 = .ok (.iconst 4, 1) := by decide +kernel
theorem d_Model_device_5 : decode b_Model_device 5 = .ok (.if_icmp .ne 5, 3) := by decide +kernel
theorem d_Model_device_8 : decode b_Model_device 8 = .ok (.iconst (-1), 1) := by decide +kernel
theorem d_Model_device_9 : decode b_Model_device 9 = .ok (.ireturn, 1) := by decide +kernel
theorem d_Model_device_10 : decode b_Model_device 10 = .ok (.aload_n 0, 1) := by decide +kernel
theorem d_Model_device_11 : decode b_Model_device 11 = .ok (.dup, 1) := by decide +kernel
theorem d_Model_device_12 : decode b_Model_device 12 = .ok (.getfield 66, 3) := by decide +kernel
theorem d_Model_device_15 : decode b_Model_device 15 = .ok (.iconst 1, 1) := by decide +kernel
theorem d_Model_device_16 : decode b_Model_device 16 = .ok (.iadd, 1) := by decide +kernel
theorem d_Model_device_17 : decode b_Model_device 17 = .ok (.putfield 66, 3) := by decide +kernel
theorem d_Model_device_20 : decode b_Model_device 20 = .ok (.aload_n 0, 1) := by decide +kernel
theorem d_Model_device_21 : decode b_Model_device 21 = .ok (.getfield 66, 3) := by decide +kernel
theorem d_Model_device_24 : decode b_Model_device 24 = .ok (.iconst 1, 1) := by decide +kernel
theorem d_Model_device_25 : decode b_Model_device 25 = .ok (.isub, 1) := by decide +kernel
theorem d_Model_device_26 : decode b_Model_device 26 = .ok (.ireturn, 1) := by decide +kernel
theorem d_Model_tell_0 : decode b_Model_tell 0 = .ok (.aload_n 0, 1) := by decide +kernel
theorem d_Model_tell_1 : decode b_Model_tell 1 = .ok (.iload_n 1, 1) := by decide +kernel
theorem d_Model_tell_2 : decode b_Model_tell 2 = .ok (.invokevirtual 73, 3) := by decide +kernel
theorem d_Model_tell_5 : decode b_Model_tell 5 = .ok (.ifCond .eq 70, 3) := by decide +kernel
theorem d_Model_tell_8 : decode b_Model_tell 8 = .ok (.lload_n 2, 1) := by decide +kernel
theorem d_Model_tell_9 : decode b_Model_tell 9 = .ok (.aload_n 0, 1) := by decide +kernel
theorem d_Model_tell_10 : decode b_Model_tell 10 = .ok (.getfield 13, 3) := by decide +kernel
theorem d_Model_tell_13 : decode b_Model_tell 13 = .ok (.iload_n 1, 1) := by decide +kernel
theorem d_Model_tell_14 : decode b_Model_tell 14 = .ok (.laload, 1) := by decide +kernel
theorem d_Model_tell_15 : decode b_Model_tell 15 = .ok (.ldc2_w 77, 3) := by decide +kernel
theorem d_Model_tell_18 : decode b_Model_tell 18 = .ok (.invokestatic 79, 3) := by decide +kernel
theorem d_Model_tell_21 : decode b_Model_tell 21 = .ok (.ifCond .eq 54, 3) := by decide +kernel
theorem d_Model_tell_24 : decode b_Model_tell 24 = .ok (.iload 4, 2) := by decide +kernel
theorem d_Model_tell_26 : decode b_Model_tell 26 = .ok (.i2l, 1) := by decide +kernel
theorem d_Model_tell_27 : decode b_Model_tell 27 = .ok (.lconst 0, 1) := by decide +kernel
theorem d_Model_tell_28 : decode b_Model_tell 28 = .ok (.ldc2_w 83, 3) := by decide +kernel
theorem d_Model_tell_31 : decode b_Model_tell 31 = .ok (.invokestatic 79, 3) := by decide +kernel
theorem d_Model_tell_34 : decode b_Model_tell 34 = .ok (.ifCond .eq 41, 3) := by decide +kernel
theorem d_Model_tell_37 : decode b_Model_tell 37 = .ok (.lload 5, 2) := by decide +kernel
theorem d_Model_tell_39 : decode b_Model_tell 39 = .ok (.lconst 0, 1) := by decide +kernel
theorem d_Model_tell_40 : decode b_Model_tell 40 = .ok (.ldc2_w 77, 3) := by decide +kernel
theorem d_Model_tell_43 : decode b_Model_tell 43 = .ok (.invokestatic 79, 3) := by decide +kernel
theorem d_Model_tell_46 : decode b_Model_tell 46 = .ok (.ifCond .eq 29, 3) := by decide +kernel
theorem d_Model_tell_49 : decode b_Model_tell 49 = .ok (.lload 7, 2) := by decide +kernel
theorem d_Model_tell_51 : decode b_Model_tell 51 = .ok (.ldc2_w 85, 3) := by decide +kernel
theorem d_Model_tell_54 : decode b_Model_tell 54 = .ok (.ldc2_w 87, 3) := by decide +kernel
theorem d_Model_tell_57 : decode b_Model_tell 57 = .ok (.invokestatic 79, 3) := by decide +kernel
theorem d_Model_tell_60 : decode b_Model_tell 60 = .ok (.ifCond .eq 15, 3) := by decide +kernel
theorem d_Model_tell_63 : decode b_Model_tell 63 = .ok (.lload 9, 2) := by decide +kernel
theorem d_Model_tell_65 : decode b_Model_tell 65 = .ok (.lconst 0, 1) := by decide +kernel
theorem d_Model_tell_66 : decode b_Model_tell 66 = .ok (.ldc2_w 77, 3) := by decide +kernel
theorem d_Model_tell_69 : decode b_Model_tell 69 = .ok (.invokestatic 79, 3) := by decide +kernel
theorem d_Model_tell_72 : decode b_Model_tell 72 = .ok (.ifCond .ne 5, 3) := by decide +kernel
theorem d_Model_tell_75 : decode b_Model_tell 75 = .ok (.iconst (-1), 1) := by decide +kernel
theorem d_Model_tell_76 : decode b_Model_tell 76 = .ok (.ireturn, 1) := by decide +kernel
theorem d_Model_tell_77 : decode b_Model_tell 77 = .ok (.iconst 0, 1) := by decide +kernel
theorem d_Model_tell_78 : decode b_Model_tell 78 = .ok (.istore 11, 2) := by decide +kernel
theorem d_Model_tell_80 : decode b_Model_tell 80 = .ok (.iload 11, 2) := by decide +kernel
theorem d_Model_tell_82 : decode b_Model_tell 82 = .ok (.aload_n 0, 1) := by decide +kernel
theorem d_Model_tell_83 : decode b_Model_tell 83 = .ok (.getfield 89, 3) := by decide +kernel
theorem d_Model_tell_86 : decode b_Model_tell 86 = .ok (.if_icmp .ge 90, 3) := by decide +kernel
theorem d_Model_tell_89 : decode b_Model_tell 89 = .ok (.aload_n 0, 1) := by decide +kernel
theorem d_Model_tell_90 : decode b_Model_tell 90 = .ok (.getfield 17, 3) := by decide +kernel
theorem d_Model_tell_93 : decode b_Model_tell 93 = .ok (.iload 11, 2) := by decide +kernel
theorem d_Model_tell_95 : decode b_Model_tell 95 = .ok (.iaload, 1) := by decide +kernel
theorem d_Model_tell_96 : decode b_Model_tell 96 = .ok (.iload_n 1, 1) := by decide +kernel
theorem d_Model_tell_97 : decode b_Model_tell 97 = .ok (.if_icmp .ne 73, 3) := by decide +kernel
theorem d_Model_tell_100 : decode b_Model_tell 100 = .ok (.aload_n 0, 1) := by decide +kernel
theorem d_Model_tell_101 : decode b_Model_tell 101 = .ok (.getfield 20, 3) := by decide +kernel
theorem d_Model_tell_104 : decode b_Model_tell 104 = .ok (.iload 11, 2) := by decide +kernel
theorem d_Model_tell_106 : decode b_Model_tell 106 = .ok (.iaload, 1) := by decide +kernel
theorem d_Model_tell_107 : decode b_Model_tell 107 = .ok (.aload_n 0, 1) := by decide +kernel
theorem d_Model_tell_108 : decode b_Model_tell 108 = .ok (.getfield 7, 3) := by decide +kernel
theorem d_Model_tell_111 : decode b_Model_tell 111 = .ok (.iload_n 1, 1) := by decide +kernel
theorem d_Model_tell_112 : decode b_Model_tell 112 = .ok (.iaload, 1) := by decide +kernel
theorem d_Model_tell_113 : decode b_Model_tell 113 = .ok (.if_icmp .ne 57, 3) := by decide +kernel
theorem d_Model_tell_116 : decode b_Model_tell 116 = .ok (.aload_n 0, 1) := by decide +kernel
theorem d_Model_tell_117 : decode b_Model_tell 117 = .ok (.getfield 23, 3) := by decide +kernel
theorem d_Model_tell_120 : decode b_Model_tell 120 = .ok (.iload 11, 2) := by decide +kernel
theorem d_Model_tell_122 : decode b_Model_tell 122 = .ok (.iaload, 1) := by decide +kernel
theorem d_Model_tell_123 : decode b_Model_tell 123 = .ok (.i2l, 1) := by decide +kernel
theorem d_Model_tell_124 : decode b_Model_tell 124 = .ok (.lload_n 2, 1) := by decide +kernel
theorem d_Model_tell_125 : decode b_Model_tell 125 = .ok (.lcmp, 1) := by decide +kernel
theorem d_Model_tell_126 : decode b_Model_tell 126 = .ok (.ifCond .ne 44, 3) := by decide +kernel
theorem d_Model_tell_129 : decode b_Model_tell 129 = .ok (.aload_n 0, 1) := by decide +kernel
theorem d_Model_tell_130 : decode b_Model_tell 130 = .ok (.getfield 26, 3) := by decide +kernel
theorem d_Model_tell_133 : decode b_Model_tell 133 = .ok (.iload 11, 2) := by decide +kernel
theorem d_Model_tell_135 : decode b_Model_tell 135 = .ok (.iaload, 1) := by decide +kernel
theorem d_Model_tell_136 : decode b_Model_tell 136 = .ok (.iload 4, 2) := by decide +kernel
theorem d_Model_tell_138 : decode b_Model_tell 138 = .ok (.if_icmp .ne 32, 3) := by decide +kernel
theorem d_Model_tell_141 : decode b_Model_tell 141 = .ok (.aload_n 0, 1) := by decide +kernel
theorem d_Model_tell_142 : decode b_Model_tell 142 = .ok (.getfield 29, 3) := by decide +kernel
theorem d_Model_tell_145 : decode b_Model_tell 145 = .ok (.iload 11, 2) := by decide +kernel
theorem d_Model_tell_147 : decode b_Model_tell 147 = .ok (.iaload, 1) := by decide +kernel
theorem d_Model_tell_148 : decode b_Model_tell 148 = .ok (.i2l, 1) := by decide +kernel
theorem d_Model_tell_149 : decode b_Model_tell 149 = .ok (.lload 5, 2) := by decide +kernel
theorem d_Model_tell_151 : decode b_Model_tell 151 = .ok (.lcmp, 1) := by decide +kernel
theorem d_Model_tell_152 : decode b_Model_tell 152 = .ok (.ifCond .ne 18, 3) := by decide +kernel
theorem d_Model_tell_155 : decode b_Model_tell 155 = .ok (.aload_n 0, 1) := by decide +kernel
theorem d_Model_tell_156 : decode b_Model_tell 156 = .ok (.getfield 32, 3) := by decide +kernel
theorem d_Model_tell_159 : decode b_Model_tell 159 = .ok (.iload 11, 2) := by decide +kernel
theorem d_Model_tell_161 : decode b_Model_tell 161 = .ok (.laload, 1) := by decide +kernel
theorem d_Model_tell_162 : decode b_Model_tell 162 = .ok (.lload 7, 2) := by decide +kernel
theorem d_Model_tell_164 : decode b_Model_tell 164 = .ok (.lcmp, 1) := by decide +kernel
theorem d_Model_tell_165 : decode b_Model_tell 165 = .ok (.ifCond .ne 5, 3) := by decide +kernel
theorem d_Model_tell_168 : decode b_Model_tell 168 = .ok (.iconst 0, 1) := by decide +kernel
theorem d_Model_tell_169 : decode b_Model_tell 169 = .ok (.ireturn, 1) := by decide +kernel
theorem d_Model_tell_170 : decode b_Model_tell 170 = .ok (.iinc 11 1, 3) := by decide +kernel
theorem d_Model_tell_173 : decode b_Model_tell 173 = .ok (.goto (-93), 3) := by decide +kernel
theorem d_Model_tell_176 : decode b_Model_tell 176 = .ok (.aload_n 0, 1) := by decide +kernel
theorem d_Model_tell_177 : decode b_Model_tell 177 = .ok (.getfield 89, 3) := by decide +kernel
theorem d_Model_tell_180 : decode b_Model_tell 180 = .ok (.bipush 60, 2) := by decide +kernel
theorem d_Model_tell_182 : decode b_Model_tell 182 = .ok (.if_icmp .ne 5, 3) := by decide +kernel
theorem d_Model_tell_185 : decode b_Model_tell 185 = .ok (.iconst (-1), 1) := by decide +kernel
theorem d_Model_tell_186 : decode b_Model_tell 186 = .ok (.ireturn, 1) := by decide +kernel
theorem d_Model_tell_187 : decode b_Model_tell 187 = .ok (.aload_n 0, 1) := by decide +kernel
theorem d_Model_tell_188 : decode b_Model_tell 188 = .ok (.getfield 17, 3) := by decide +kernel
theorem d_Model_tell_191 : decode b_Model_tell 191 = .ok (.aload_n 0, 1) := by decide +kernel
theorem d_Model_tell_192 : decode b_Model_tell 192 = .ok (.getfield 89, 3) := by decide +kernel
theorem d_Model_tell_195 : decode b_Model_tell 195 = .ok (.iload_n 1, 1) := by decide +kernel
theorem d_Model_tell_196 : decode b_Model_tell 196 = .ok (.iastore, 1) := by decide +kernel
theorem d_Model_tell_197 : decode b_Model_tell 197 = .ok (.aload_n 0, 1) := by decide +kernel
theorem d_Model_tell_198 : decode b_Model_tell 198 = .ok (.getfield 20, 3) := by decide +kernel
theorem d_Model_tell_201 : decode b_Model_tell 201 = .ok (.aload_n 0, 1) := by decide +kernel
theorem d_Model_tell_202 : decode b_Model_tell 202 = .ok (.getfield 89, 3) := by decide +kernel
theorem d_Model_tell_205 : decode b_Model_tell 205 = .ok (.aload_n 0, 1) := by decide +kernel
theorem d_Model_tell_206 : decode b_Model_tell 206 = .ok (.getfield 7, 3) := by decide +kernel
theorem d_Model_tell_209 : decode b_Model_tell 209 = .ok (.iload_n 1, 1) := by decide +kernel
theorem d_Model_tell_210 : decode b_Model_tell 210 = .ok (.iaload, 1) := by decide +kernel
theorem d_Model_tell_211 : decode b_Model_tell 211 = .ok (.iastore, 1) := by decide +kernel
theorem d_Model_tell_212 : decode b_Model_tell 212 = .ok (.aload_n 0, 1) := by decide +kernel
theorem d_Model_tell_213 : decode b_Model_tell 213 = .ok (.getfield 23, 3) := by decide +kernel
theorem d_Model_tell_216 : decode b_Model_tell 216 = .ok (.aload_n 0, 1) := by decide +kernel
theorem d_Model_tell_217 : decode b_Model_tell 217 = .ok (.getfield 89, 3) := by decide +kernel
theorem d_Model_tell_220 : decode b_Model_tell 220 = .ok (.lload_n 2, 1) := by decide +kernel
theorem d_Model_tell_221 : decode b_Model_tell 221 = .ok (.l2i, 1) := by decide +kernel
theorem d_Model_tell_222 : decode b_Model_tell 222 = .ok (.iastore, 1) := by decide +kernel
theorem d_Model_tell_223 : decode b_Model_tell 223 = .ok (.aload_n 0, 1) := by decide +kernel
theorem d_Model_tell_224 : decode b_Model_tell 224 = .ok (.getfield 26, 3) := by decide +kernel
theorem d_Model_tell_227 : decode b_Model_tell 227 = .ok (.aload_n 0, 1) := by decide +kernel
theorem d_Model_tell_228 : decode b_Model_tell 228 = .ok (.getfield 89, 3) := by decide +kernel
theorem d_Model_tell_231 : decode b_Model_tell 231 = .ok (.iload 4, 2) := by decide +kernel
theorem d_Model_tell_233 : decode b_Model_tell 233 = .ok (.iastore, 1) := by decide +kernel
theorem d_Model_tell_234 : decode b_Model_tell 234 = .ok (.aload_n 0, 1) := by decide +kernel
theorem d_Model_tell_235 : decode b_Model_tell 235 = .ok (.getfield 29, 3) := by decide +kernel
theorem d_Model_tell_238 : decode b_Model_tell 238 = .ok (.aload_n 0, 1) := by decide +kernel
theorem d_Model_tell_239 : decode b_Model_tell 239 = .ok (.getfield 89, 3) := by decide +kernel
theorem d_Model_tell_242 : decode b_Model_tell 242 = .ok (.lload 5, 2) := by decide +kernel
theorem d_Model_tell_244 : decode b_Model_tell 244 = .ok (.l2i, 1) := by decide +kernel
theorem d_Model_tell_245 : decode b_Model_tell 245 = .ok (.iastore, 1) := by decide +kernel
theorem d_Model_tell_246 : decode b_Model_tell 246 = .ok (.aload_n 0, 1) := by decide +kernel
theorem d_Model_tell_247 : decode b_Model_tell 247 = .ok (.getfield 32, 3) := by decide +kernel
theorem d_Model_tell_250 : decode b_Model_tell 250 = .ok (.aload_n 0, 1) := by decide +kernel
theorem d_Model_tell_251 : decode b_Model_tell 251 = .ok (.getfield 89, 3) := by decide +kernel
theorem d_Model_tell_254 : decode b_Model_tell 254 = .ok (.lload 7, 2) := by decide +kernel
theorem d_Model_tell_256 : decode b_Model_tell 256 = .ok (.lastore, 1) := by decide +kernel
theorem d_Model_tell_257 : decode b_Model_tell 257 = .ok (.aload_n 0, 1) := by decide +kernel
theorem d_Model_tell_258 : decode b_Model_tell 258 = .ok (.getfield 35, 3) := by decide +kernel
theorem d_Model_tell_261 : decode b_Model_tell 261 = .ok (.aload_n 0, 1) := by decide +kernel
theorem d_Model_tell_262 : decode b_Model_tell 262 = .ok (.getfield 89, 3) := by decide +kernel
theorem d_Model_tell_265 : decode b_Model_tell 265 = .ok (.lload 9, 2) := by decide +kernel
theorem d_Model_tell_267 : decode b_Model_tell 267 = .ok (.l2i, 1) := by decide +kernel
theorem d_Model_tell_268 : decode b_Model_tell 268 = .ok (.iastore, 1) := by decide +kernel
theorem d_Model_tell_269 : decode b_Model_tell 269 = .ok (.aload_n 0, 1) := by decide +kernel
theorem d_Model_tell_270 : decode b_Model_tell 270 = .ok (.dup, 1) := by decide +kernel
theorem d_Model_tell_271 : decode b_Model_tell 271 = .ok (.getfield 89, 3) := by decide +kernel
theorem d_Model_tell_274 : decode b_Model_tell 274 = .ok (.iconst 1, 1) := by decide +kernel
theorem d_Model_tell_275 : decode b_Model_tell 275 = .ok (.iadd, 1) := by decide +kernel
theorem d_Model_tell_276 : decode b_Model_tell 276 = .ok (.putfield 89, 3) := by decide +kernel
theorem d_Model_tell_279 : decode b_Model_tell 279 = .ok (.iconst 1, 1) := by decide +kernel
theorem d_Model_tell_280 : decode b_Model_tell 280 = .ok (.ireturn, 1) := by decide +kernel
theorem d_Model_reset_0 : decode b_Model_reset 0 = .ok (.aload_n 0, 1) := by decide +kernel
theorem d_Model_reset_1 : decode b_Model_reset 1 = .ok (.iload_n 1, 1) := by decide +kernel
theorem d_Model_reset_2 : decode b_Model_reset 2 = .ok (.invokevirtual 73, 3) := by decide +kernel
theorem d_Model_reset_5 : decode b_Model_reset 5 = .ok (.ifCond .eq 25, 3) := by decide +kernel
theorem d_Model_reset_8 : decode b_Model_reset 8 = .ok (.lload_n 2, 1) := by decide +kernel
theorem d_Model_reset_9 : decode b_Model_reset 9 = .ok (.lconst 0, 1) := by decide +kernel
theorem d_Model_reset_10 : decode b_Model_reset 10 = .ok (.ldc2_w 77, 3) := by decide +kernel
theorem d_Model_reset_13 : decode b_Model_reset 13 = .ok (.invokestatic 79, 3) := by decide +kernel
theorem d_Model_reset_16 : decode b_Model_reset 16 = .ok (.ifCond .eq 14, 3) := by decide +kernel
theorem d_Model_reset_19 : decode b_Model_reset 19 = .ok (.aload_n 0, 1) := by decide +kernel
theorem d_Model_reset_20 : decode b_Model_reset 20 = .ok (.getfield 7, 3) := by decide +kernel
theorem d_Model_reset_23 : decode b_Model_reset 23 = .ok (.iload_n 1, 1) := by decide +kernel
theorem d_Model_reset_24 : decode b_Model_reset 24 = .ok (.iaload, 1) := by decide +kernel
theorem d_Model_reset_25 : decode b_Model_reset 25 = .ok (.bipush 99, 2) := by decide +kernel
theorem d_Model_reset_27 : decode b_Model_reset 27 = .ok (.if_icmp .ne 5, 3) := by decide +kernel
theorem d_Model_reset_30 : decode b_Model_reset 30 = .ok (.iconst 0, 1) := by decide +kernel
theorem d_Model_reset_31 : decode b_Model_reset 31 = .ok (.ireturn, 1) := by decide +kernel
theorem d_Model_reset_32 : decode b_Model_reset 32 = .ok (.aload_n 0, 1) := by decide +kernel
theorem d_Model_reset_33 : decode b_Model_reset 33 = .ok (.getfield 7, 3) := by decide +kernel
theorem d_Model_reset_36 : decode b_Model_reset 36 = .ok (.iload_n 1, 1) := by decide +kernel
theorem d_Model_reset_37 : decode b_Model_reset 37 = .ok (.dup2, 1) := by decide +kernel
theorem d_Model_reset_38 : decode b_Model_reset 38 = .ok (.iaload, 1) := by decide +kernel
theorem d_Model_reset_39 : decode b_Model_reset 39 = .ok (.iconst 1, 1) := by decide +kernel
theorem d_Model_reset_40 : decode b_Model_reset 40 = .ok (.iadd, 1) := by decide +kernel
theorem d_Model_reset_41 : decode b_Model_reset 41 = .ok (.iastore, 1) := by decide +kernel
theorem d_Model_reset_42 : decode b_Model_reset 42 = .ok (.aload_n 0, 1) := by decide +kernel
theorem d_Model_reset_43 : decode b_Model_reset 43 = .ok (.getfield 13, 3) := by decide +kernel
theorem d_Model_reset_46 : decode b_Model_reset 46 = .ok (.iload_n 1, 1) := by decide +kernel
theorem d_Model_reset_47 : decode b_Model_reset 47 = .ok (.lload_n 2, 1) := by decide +kernel
theorem d_Model_reset_48 : decode b_Model_reset 48 = .ok (.lastore, 1) := by decide +kernel
theorem d_Model_reset_49 : decode b_Model_reset 49 = .ok (.iconst 1, 1) := by decide +kernel
theorem d_Model_reset_50 : decode b_Model_reset 50 = .ok (.ireturn, 1) := by decide +kernel
theorem d_Model_life_0 : decode b_Model_life 0 = .ok (.aload_n 0, 1) := by decide +kernel
theorem d_Model_life_1 : decode b_Model_life 1 = .ok (.iload_n 1, 1) := by decide +kernel
theorem d_Model_life_2 : decode b_Model_life 2 = .ok (.invokevirtual 73, 3) := by decide +kernel
theorem d_Model_life_5 : decode b_Model_life 5 = .ok (.ifCond .eq 12, 3) := by decide +kernel
theorem d_Model_life_8 : decode b_Model_life 8 = .ok (.aload_n 0, 1) := by decide +kernel
theorem d_Model_life_9 : decode b_Model_life 9 = .ok (.getfield 7, 3) := by decide +kernel
theorem d_Model_life_12 : decode b_Model_life 12 = .ok (.iload_n 1, 1) := by decide +kernel
theorem d_Model_life_13 : decode b_Model_life 13 = .ok (.iaload, 1) := by decide +kernel
theorem d_Model_life_14 : decode b_Model_life 14 = .ok (.goto 4, 3) := by decide +kernel
theorem d_Model_life_17 : decode b_Model_life 17 = .ok (.iconst (-1), 1) := by decide +kernel
theorem d_Model_life_18 : decode b_Model_life 18 = .ok (.ireturn, 1) := by decide +kernel
theorem d_Model_set_0 : decode b_Model_set 0 = .ok (.aload_n 0, 1) := by decide +kernel
theorem d_Model_set_1 : decode b_Model_set 1 = .ok (.iload_n 1, 1) := by decide +kernel
theorem d_Model_set_2 : decode b_Model_set 2 = .ok (.invokevirtual 73, 3) := by decide +kernel
theorem d_Model_set_5 : decode b_Model_set 5 = .ok (.ifCond .eq 12, 3) := by decide +kernel
theorem d_Model_set_8 : decode b_Model_set 8 = .ok (.aload_n 0, 1) := by decide +kernel
theorem d_Model_set_9 : decode b_Model_set 9 = .ok (.getfield 70, 3) := by decide +kernel
theorem d_Model_set_12 : decode b_Model_set 12 = .ok (.bipush 6, 2) := by decide +kernel
theorem d_Model_set_14 : decode b_Model_set 14 = .ok (.if_icmp .ne 5, 3) := by decide +kernel
theorem d_Model_set_17 : decode b_Model_set 17 = .ok (.iconst (-1), 1) := by decide +kernel
theorem d_Model_set_18 : decode b_Model_set 18 = .ok (.ireturn, 1) := by decide +kernel
theorem d_Model_set_19 : decode b_Model_set 19 = .ok (.iconst 0, 1) := by decide +kernel
theorem d_Model_set_20 : decode b_Model_set 20 = .ok (.istore_n 2, 1) := by decide +kernel
theorem d_Model_set_21 : decode b_Model_set 21 = .ok (.iload_n 2, 1) := by decide +kernel
theorem d_Model_set_22 : decode b_Model_set 22 = .ok (.aload_n 0, 1) := by decide +kernel
theorem d_Model_set_23 : decode b_Model_set 23 = .ok (.getfield 89, 3) := by decide +kernel
theorem d_Model_set_26 : decode b_Model_set 26 = .ok (.if_icmp .ge 38, 3) := by decide +kernel
theorem d_Model_set_29 : decode b_Model_set 29 = .ok (.aload_n 0, 1) := by decide +kernel
theorem d_Model_set_30 : decode b_Model_set 30 = .ok (.getfield 41, 3) := by decide +kernel
theorem d_Model_set_33 : decode b_Model_set 33 = .ok (.bipush 60, 2) := by decide +kernel
theorem d_Model_set_35 : decode b_Model_set 35 = .ok (.aload_n 0, 1) := by decide +kernel
theorem d_Model_set_36 : decode b_Model_set 36 = .ok (.getfield 70, 3) := by decide +kernel
theorem d_Model_set_39 : decode b_Model_set 39 = .ok (.imul, 1) := by decide +kernel
theorem d_Model_set_40 : decode b_Model_set 40 = .ok (.iload_n 2, 1) := by decide +kernel
theorem d_Model_set_41 : decode b_Model_set 41 = .ok (.iadd, 1) := by decide +kernel
theorem d_Model_set_42 : decode b_Model_set 42 = .ok (.aload_n 0, 1) := by decide +kernel
theorem d_Model_set_43 : decode b_Model_set 43 = .ok (.getfield 17, 3) := by decide +kernel
theorem d_Model_set_46 : decode b_Model_set 46 = .ok (.iload_n 2, 1) := by decide +kernel
theorem d_Model_set_47 : decode b_Model_set 47 = .ok (.iaload, 1) := by decide +kernel
theorem d_Model_set_48 : decode b_Model_set 48 = .ok (.iload_n 1, 1) := by decide +kernel
theorem d_Model_set_49 : decode b_Model_set 49 = .ok (.if_icmp .ne 7, 3) := by decide +kernel
theorem d_Model_set_52 : decode b_Model_set 52 = .ok (.iconst 1, 1) := by decide +kernel
theorem d_Model_set_53 : decode b_Model_set 53 = .ok (.goto 4, 3) := by decide +kernel
theorem d_Model_set_56 : decode b_Model_set 56 = .ok (.iconst 0, 1) := by decide +kernel
theorem d_Model_set_57 : decode b_Model_set 57 = .ok (.bastore, 1) := by decide +kernel
theorem d_Model_set_58 : decode b_Model_set 58 = .ok (.iinc 2 1, 3) := by decide +kernel
theorem d_Model_set_61 : decode b_Model_set 61 = .ok (.goto (-40), 3) := by decide +kernel
theorem d_Model_set_64 : decode b_Model_set 64 = .ok (.aload_n 0, 1) := by decide +kernel
theorem d_Model_set_65 : decode b_Model_set 65 = .ok (.dup, 1) := by decide +kernel
theorem d_Model_set_66 : decode b_Model_set 66 = .ok (.getfield 70, 3) := by decide +kernel
theorem d_Model_set_69 : decode b_Model_set 69 = .ok (.iconst 1, 1) := by decide +kernel
theorem d_Model_set_70 : decode b_Model_set 70 = .ok (.iadd, 1) := by decide +kernel
theorem d_Model_set_71 : decode b_Model_set 71 = .ok (.putfield 70, 3) := by decide +kernel
theorem d_Model_set_74 : decode b_Model_set 74 = .ok (.aload_n 0, 1) := by decide +kernel
theorem d_Model_set_75 : decode b_Model_set 75 = .ok (.getfield 70, 3) := by decide +kernel
theorem d_Model_set_78 : decode b_Model_set 78 = .ok (.iconst 1, 1) := by decide +kernel
theorem d_Model_set_79 : decode b_Model_set 79 = .ok (.isub, 1) := by decide +kernel
theorem d_Model_set_80 : decode b_Model_set 80 = .ok (.ireturn, 1) := by decide +kernel
theorem d_Model_bring_0 : decode b_Model_bring 0 = .ok (.aload_n 0, 1) := by decide +kernel
theorem d_Model_bring_1 : decode b_Model_bring 1 = .ok (.getfield 51, 3) := by decide +kernel
theorem d_Model_bring_4 : decode b_Model_bring 4 = .ok (.iload_n 2, 1) := by decide +kernel
theorem d_Model_bring_5 : decode b_Model_bring 5 = .ok (.laload, 1) := by decide +kernel
theorem d_Model_bring_6 : decode b_Model_bring 6 = .ok (.aload_n 0, 1) := by decide +kernel
theorem d_Model_bring_7 : decode b_Model_bring 7 = .ok (.getfield 51, 3) := by decide +kernel
theorem d_Model_bring_10 : decode b_Model_bring 10 = .ok (.iload_n 1, 1) := by decide +kernel
theorem d_Model_bring_11 : decode b_Model_bring 11 = .ok (.laload, 1) := by decide +kernel
theorem d_Model_bring_12 : decode b_Model_bring 12 = .ok (.lcmp, 1) := by decide +kernel
theorem d_Model_bring_13 : decode b_Model_bring 13 = .ok (.ifCond .le 7, 3) := by decide +kernel
theorem d_Model_bring_16 : decode b_Model_bring 16 = .ok (.iconst 1, 1) := by decide +kernel
theorem d_Model_bring_17 : decode b_Model_bring 17 = .ok (.goto 4, 3) := by decide +kernel
theorem d_Model_bring_20 : decode b_Model_bring 20 = .ok (.iconst 0, 1) := by decide +kernel
theorem d_Model_bring_21 : decode b_Model_bring 21 = .ok (.istore_n 3, 1) := by decide +kernel
theorem d_Model_bring_22 : decode b_Model_bring 22 = .ok (.aload_n 0, 1) := by decide +kernel
theorem d_Model_bring_23 : decode b_Model_bring 23 = .ok (.getfield 51, 3) := by decide +kernel
theorem d_Model_bring_26 : decode b_Model_bring 26 = .ok (.iload_n 1, 1) := by decide +kernel
theorem d_Model_bring_27 : decode b_Model_bring 27 = .ok (.iload_n 3, 1) := by decide +kernel
theorem d_Model_bring_28 : decode b_Model_bring 28 = .ok (.ifCond .eq 12, 3) := by decide +kernel
theorem d_Model_bring_31 : decode b_Model_bring 31 = .ok (.aload_n 0, 1) := by decide +kernel
theorem d_Model_bring_32 : decode b_Model_bring 32 = .ok (.getfield 51, 3) := by decide +kernel
theorem d_Model_bring_35 : decode b_Model_bring 35 = .ok (.iload_n 2, 1) := by decide +kernel
theorem d_Model_bring_36 : decode b_Model_bring 36 = .ok (.laload, 1) := by decide +kernel
theorem d_Model_bring_37 : decode b_Model_bring 37 = .ok (.goto 9, 3) := by decide +kernel
theorem d_Model_bring_40 : decode b_Model_bring 40 = .ok (.aload_n 0, 1) := by decide +kernel
theorem d_Model_bring_41 : decode b_Model_bring 41 = .ok (.getfield 51, 3) := by decide +kernel
theorem d_Model_bring_44 : decode b_Model_bring 44 = .ok (.iload_n 1, 1) := by decide +kernel
theorem d_Model_bring_45 : decode b_Model_bring 45 = .ok (.laload, 1) := by decide +kernel
theorem d_Model_bring_46 : decode b_Model_bring 46 = .ok (.lastore, 1) := by decide +kernel
theorem d_Model_bring_47 : decode b_Model_bring 47 = .ok (.iconst 0, 1) := by decide +kernel
theorem d_Model_bring_48 : decode b_Model_bring 48 = .ok (.istore 4, 2) := by decide +kernel
theorem d_Model_bring_50 : decode b_Model_bring 50 = .ok (.iload 4, 2) := by decide +kernel
theorem d_Model_bring_52 : decode b_Model_bring 52 = .ok (.bipush 60, 2) := by decide +kernel
theorem d_Model_bring_54 : decode b_Model_bring 54 = .ok (.if_icmp .ge 141, 3) := by decide +kernel
theorem d_Model_bring_57 : decode b_Model_bring 57 = .ok (.bipush 60, 2) := by decide +kernel
theorem d_Model_bring_59 : decode b_Model_bring 59 = .ok (.iload_n 1, 1) := by decide +kernel
theorem d_Model_bring_60 : decode b_Model_bring 60 = .ok (.imul, 1) := by decide +kernel
theorem d_Model_bring_61 : decode b_Model_bring 61 = .ok (.iload 4, 2) := by decide +kernel
theorem d_Model_bring_63 : decode b_Model_bring 63 = .ok (.iadd, 1) := by decide +kernel
theorem d_Model_bring_64 : decode b_Model_bring 64 = .ok (.istore 5, 2) := by decide +kernel
theorem d_Model_bring_66 : decode b_Model_bring 66 = .ok (.bipush 60, 2) := by decide +kernel
theorem d_Model_bring_68 : decode b_Model_bring 68 = .ok (.iload_n 2, 1) := by decide +kernel
theorem d_Model_bring_69 : decode b_Model_bring 69 = .ok (.imul, 1) := by decide +kernel
theorem d_Model_bring_70 : decode b_Model_bring 70 = .ok (.iload 4, 2) := by decide +kernel
theorem d_Model_bring_72 : decode b_Model_bring 72 = .ok (.iadd, 1) := by decide +kernel
theorem d_Model_bring_73 : decode b_Model_bring 73 = .ok (.istore 6, 2) := by decide +kernel
theorem d_Model_bring_75 : decode b_Model_bring 75 = .ok (.iload_n 3, 1) := by decide +kernel
theorem d_Model_bring_76 : decode b_Model_bring 76 = .ok (.ifCond .ne 43, 3) := by decide +kernel
theorem d_Model_bring_79 : decode b_Model_bring 79 = .ok (.aload_n 0, 1) := by decide +kernel
theorem d_Model_bring_80 : decode b_Model_bring 80 = .ok (.getfield 41, 3) := by decide +kernel
theorem d_Model_bring_83 : decode b_Model_bring 83 = .ok (.iload 6, 2) := by decide +kernel
theorem d_Model_bring_85 : decode b_Model_bring 85 = .ok (.baload, 1) := by decide +kernel
theorem d_Model_bring_86 : decode b_Model_bring 86 = .ok (.ifCond .eq 13, 3) := by decide +kernel
theorem d_Model_bring_89 : decode b_Model_bring 89 = .ok (.aload_n 0, 1) := by decide +kernel
theorem d_Model_bring_90 : decode b_Model_bring 90 = .ok (.getfield 41, 3) := by decide +kernel
theorem d_Model_bring_93 : decode b_Model_bring 93 = .ok (.iload 5, 2) := by decide +kernel
theorem d_Model_bring_95 : decode b_Model_bring 95 = .ok (.baload, 1) := by decide +kernel
theorem d_Model_bring_96 : decode b_Model_bring 96 = .ok (.ifCond .eq 23, 3) := by decide +kernel
theorem d_Model_bring_99 : decode b_Model_bring 99 = .ok (.aload_n 0, 1) := by decide +kernel
theorem d_Model_bring_100 : decode b_Model_bring 100 = .ok (.getfield 45, 3) := by decide +kernel
theorem d_Model_bring_103 : decode b_Model_bring 103 = .ok (.iload 6, 2) := by decide +kernel
theorem d_Model_bring_105 : decode b_Model_bring 105 = .ok (.baload, 1) := by decide +kernel
theorem d_Model_bring_106 : decode b_Model_bring 106 = .ok (.ifCond .eq 17, 3) := by decide +kernel
theorem d_Model_bring_109 : decode b_Model_bring 109 = .ok (.aload_n 0, 1) := by decide +kernel
theorem d_Model_bring_110 : decode b_Model_bring 110 = .ok (.getfield 45, 3) := by decide +kernel
theorem d_Model_bring_113 : decode b_Model_bring 113 = .ok (.iload 5, 2) := by decide +kernel
theorem d_Model_bring_115 : decode b_Model_bring 115 = .ok (.baload, 1) := by decide +kernel
theorem d_Model_bring_116 : decode b_Model_bring 116 = .ok (.ifCond .ne 7, 3) := by decide +kernel
theorem d_Model_bring_119 : decode b_Model_bring 119 = .ok (.iconst 1, 1) := by decide +kernel
theorem d_Model_bring_120 : decode b_Model_bring 120 = .ok (.goto 4, 3) := by decide +kernel
theorem d_Model_bring_123 : decode b_Model_bring 123 = .ok (.iconst 0, 1) := by decide +kernel
theorem d_Model_bring_124 : decode b_Model_bring 124 = .ok (.istore_n 3, 1) := by decide +kernel
theorem d_Model_bring_125 : decode b_Model_bring 125 = .ok (.aload_n 0, 1) := by decide +kernel
theorem d_Model_bring_126 : decode b_Model_bring 126 = .ok (.getfield 41, 3) := by decide +kernel
theorem d_Model_bring_129 : decode b_Model_bring 129 = .ok (.iload 5, 2) := by decide +kernel
theorem d_Model_bring_131 : decode b_Model_bring 131 = .ok (.aload_n 0, 1) := by decide +kernel
theorem d_Model_bring_132 : decode b_Model_bring 132 = .ok (.getfield 41, 3) := by decide +kernel
theorem d_Model_bring_135 : decode b_Model_bring 135 = .ok (.iload 5, 2) := by decide +kernel
theorem d_Model_bring_137 : decode b_Model_bring 137 = .ok (.baload, 1) := by decide +kernel
theorem d_Model_bring_138 : decode b_Model_bring 138 = .ok (.ifCond .ne 13, 3) := by decide +kernel
theorem d_Model_bring_141 : decode b_Model_bring 141 = .ok (.aload_n 0, 1) := by decide +kernel
theorem d_Model_bring_142 : decode b_Model_bring 142 = .ok (.getfield 41, 3) := by decide +kernel
theorem d_Model_bring_145 : decode b_Model_bring 145 = .ok (.iload 6, 2) := by decide +kernel
theorem d_Model_bring_147 : decode b_Model_bring 147 = .ok (.baload, 1) := by decide +kernel
theorem d_Model_bring_148 : decode b_Model_bring 148 = .ok (.ifCond .eq 7, 3) := by decide +kernel
theorem d_Model_bring_151 : decode b_Model_bring 151 = .ok (.iconst 1, 1) := by decide +kernel
theorem d_Model_bring_152 : decode b_Model_bring 152 = .ok (.goto 4, 3) := by decide +kernel
theorem d_Model_bring_155 : decode b_Model_bring 155 = .ok (.iconst 0, 1) := by decide +kernel
theorem d_Model_bring_156 : decode b_Model_bring 156 = .ok (.bastore, 1) := by decide +kernel
theorem d_Model_bring_157 : decode b_Model_bring 157 = .ok (.aload_n 0, 1) := by decide +kernel
theorem d_Model_bring_158 : decode b_Model_bring 158 = .ok (.getfield 45, 3) := by decide +kernel
theorem d_Model_bring_161 : decode b_Model_bring 161 = .ok (.iload 5, 2) := by decide +kernel
theorem d_Model_bring_163 : decode b_Model_bring 163 = .ok (.aload_n 0, 1) := by decide +kernel
theorem d_Model_bring_164 : decode b_Model_bring 164 = .ok (.getfield 45, 3) := by decide +kernel
theorem d_Model_bring_167 : decode b_Model_bring 167 = .ok (.iload 5, 2) := by decide +kernel
theorem d_Model_bring_169 : decode b_Model_bring 169 = .ok (.baload, 1) := by decide +kernel
theorem d_Model_bring_170 : decode b_Model_bring 170 = .ok (.ifCond .ne 13, 3) := by decide +kernel
theorem d_Model_bring_173 : decode b_Model_bring 173 = .ok (.aload_n 0, 1) := by decide +kernel
theorem d_Model_bring_174 : decode b_Model_bring 174 = .ok (.getfield 45, 3) := by decide +kernel
theorem d_Model_bring_177 : decode b_Model_bring 177 = .ok (.iload 6, 2) := by decide +kernel
theorem d_Model_bring_179 : decode b_Model_bring 179 = .ok (.baload, 1) := by decide +kernel
theorem d_Model_bring_180 : decode b_Model_bring 180 = .ok (.ifCond .eq 7, 3) := by decide +kernel
theorem d_Model_bring_183 : decode b_Model_bring 183 = .ok (.iconst 1, 1) := by decide +kernel
theorem d_Model_bring_184 : decode b_Model_bring 184 = .ok (.goto 4, 3) := by decide +kernel
theorem d_Model_bring_187 : decode b_Model_bring 187 = .ok (.iconst 0, 1) := by decide +kernel
theorem d_Model_bring_188 : decode b_Model_bring 188 = .ok (.bastore, 1) := by decide +kernel
theorem d_Model_bring_189 : decode b_Model_bring 189 = .ok (.iinc 4 1, 3) := by decide +kernel
theorem d_Model_bring_192 : decode b_Model_bring 192 = .ok (.goto (-142), 3) := by decide +kernel
theorem d_Model_bring_195 : decode b_Model_bring 195 = .ok (.iconst 0, 1) := by decide +kernel
theorem d_Model_bring_196 : decode b_Model_bring 196 = .ok (.istore 4, 2) := by decide +kernel
theorem d_Model_bring_198 : decode b_Model_bring 198 = .ok (.iload 4, 2) := by decide +kernel
theorem d_Model_bring_200 : decode b_Model_bring 200 = .ok (.bipush 20, 2) := by decide +kernel
theorem d_Model_bring_202 : decode b_Model_bring 202 = .ok (.if_icmp .ge 89, 3) := by decide +kernel
theorem d_Model_bring_205 : decode b_Model_bring 205 = .ok (.bipush 20, 2) := by decide +kernel
theorem d_Model_bring_207 : decode b_Model_bring 207 = .ok (.iload_n 1, 1) := by decide +kernel
theorem d_Model_bring_208 : decode b_Model_bring 208 = .ok (.imul, 1) := by decide +kernel
theorem d_Model_bring_209 : decode b_Model_bring 209 = .ok (.iload 4, 2) := by decide +kernel
theorem d_Model_bring_211 : decode b_Model_bring 211 = .ok (.iadd, 1) := by decide +kernel
theorem d_Model_bring_212 : decode b_Model_bring 212 = .ok (.istore 5, 2) := by decide +kernel
theorem d_Model_bring_214 : decode b_Model_bring 214 = .ok (.bipush 20, 2) := by decide +kernel
theorem d_Model_bring_216 : decode b_Model_bring 216 = .ok (.iload_n 2, 1) := by decide +kernel
theorem d_Model_bring_217 : decode b_Model_bring 217 = .ok (.imul, 1) := by decide +kernel
theorem d_Model_bring_218 : decode b_Model_bring 218 = .ok (.iload 4, 2) := by decide +kernel
theorem d_Model_bring_220 : decode b_Model_bring 220 = .ok (.iadd, 1) := by decide +kernel
theorem d_Model_bring_221 : decode b_Model_bring 221 = .ok (.istore 6, 2) := by decide +kernel
theorem d_Model_bring_223 : decode b_Model_bring 223 = .ok (.iload_n 3, 1) := by decide +kernel
theorem d_Model_bring_224 : decode b_Model_bring 224 = .ok (.ifCond .ne 23, 3) := by decide +kernel
theorem d_Model_bring_227 : decode b_Model_bring 227 = .ok (.aload_n 0, 1) := by decide +kernel
theorem d_Model_bring_228 : decode b_Model_bring 228 = .ok (.getfield 48, 3) := by decide +kernel
theorem d_Model_bring_231 : decode b_Model_bring 231 = .ok (.iload 6, 2) := by decide +kernel
theorem d_Model_bring_233 : decode b_Model_bring 233 = .ok (.baload, 1) := by decide +kernel
theorem d_Model_bring_234 : decode b_Model_bring 234 = .ok (.ifCond .eq 17, 3) := by decide +kernel
theorem d_Model_bring_237 : decode b_Model_bring 237 = .ok (.aload_n 0, 1) := by decide +kernel
theorem d_Model_bring_238 : decode b_Model_bring 238 = .ok (.getfield 48, 3) := by decide +kernel
theorem d_Model_bring_241 : decode b_Model_bring 241 = .ok (.iload 5, 2) := by decide +kernel
theorem d_Model_bring_243 : decode b_Model_bring 243 = .ok (.baload, 1) := by decide +kernel
theorem d_Model_bring_244 : decode b_Model_bring 244 = .ok (.ifCond .ne 7, 3) := by decide +kernel
theorem d_Model_bring_247 : decode b_Model_bring 247 = .ok (.iconst 1, 1) := by decide +kernel
theorem d_Model_bring_248 : decode b_Model_bring 248 = .ok (.goto 4, 3) := by decide +kernel
theorem d_Model_bring_251 : decode b_Model_bring 251 = .ok (.iconst 0, 1) := by decide +kernel
theorem d_Model_bring_252 : decode b_Model_bring 252 = .ok (.istore_n 3, 1) := by decide +kernel
theorem d_Model_bring_253 : decode b_Model_bring 253 = .ok (.aload_n 0, 1) := by decide +kernel
theorem d_Model_bring_254 : decode b_Model_bring 254 = .ok (.getfield 48, 3) := by decide +kernel
theorem d_Model_bring_257 : decode b_Model_bring 257 = .ok (.iload 5, 2) := by decide +kernel
theorem d_Model_bring_259 : decode b_Model_bring 259 = .ok (.aload_n 0, 1) := by decide +kernel
theorem d_Model_bring_260 : decode b_Model_bring 260 = .ok (.getfield 48, 3) := by decide +kernel
theorem d_Model_bring_263 : decode b_Model_bring 263 = .ok (.iload 5, 2) := by decide +kernel
theorem d_Model_bring_265 : decode b_Model_bring 265 = .ok (.baload, 1) := by decide +kernel
theorem d_Model_bring_266 : decode b_Model_bring 266 = .ok (.ifCond .ne 13, 3) := by decide +kernel
theorem d_Model_bring_269 : decode b_Model_bring 269 = .ok (.aload_n 0, 1) := by decide +kernel
theorem d_Model_bring_270 : decode b_Model_bring 270 = .ok (.getfield 48, 3) := by decide +kernel
theorem d_Model_bring_273 : decode b_Model_bring 273 = .ok (.iload 6, 2) := by decide +kernel
theorem d_Model_bring_275 : decode b_Model_bring 275 = .ok (.baload, 1) := by decide +kernel
theorem d_Model_bring_276 : decode b_Model_bring 276 = .ok (.ifCond .eq 7, 3) := by decide +kernel
theorem d_Model_bring_279 : decode b_Model_bring 279 = .ok (.iconst 1, 1) := by decide +kernel
theorem d_Model_bring_280 : decode b_Model_bring 280 = .ok (.goto 4, 3) := by decide +kernel
theorem d_Model_bring_283 : decode b_Model_bring 283 = .ok (.iconst 0, 1) := by decide +kernel
theorem d_Model_bring_284 : decode b_Model_bring 284 = .ok (.bastore, 1) := by decide +kernel
theorem d_Model_bring_285 : decode b_Model_bring 285 = .ok (.iinc 4 1, 3) := by decide +kernel
theorem d_Model_bring_288 : decode b_Model_bring 288 = .ok (.goto (-90), 3) := by decide +kernel
theorem d_Model_bring_291 : decode b_Model_bring 291 = .ok (.iload_n 3, 1) := by decide +kernel
theorem d_Model_bring_292 : decode b_Model_bring 292 = .ok (.ireturn, 1) := by decide +kernel
theorem d_Model_joinTo_0 : decode b_Model_joinTo 0 = .ok (.aload_n 0, 1) := by decide +kernel
theorem d_Model_joinTo_1 : decode b_Model_joinTo 1 = .ok (.aload_n 0, 1) := by decide +kernel
theorem d_Model_joinTo_2 : decode b_Model_joinTo 2 = .ok (.getfield 54, 3) := by decide +kernel
theorem d_Model_joinTo_5 : decode b_Model_joinTo 5 = .ok (.iload_n 1, 1) := by decide +kernel
theorem d_Model_joinTo_6 : decode b_Model_joinTo 6 = .ok (.iaload, 1) := by decide +kernel
theorem d_Model_joinTo_7 : decode b_Model_joinTo 7 = .ok (.ifCond .lt 10, 3) := by decide +kernel
theorem d_Model_joinTo_10 : decode b_Model_joinTo 10 = .ok (.bipush 6, 2) := by decide +kernel
theorem d_Model_joinTo_12 : decode b_Model_joinTo 12 = .ok (.iload_n 1, 1) := by decide +kernel
theorem d_Model_joinTo_13 : decode b_Model_joinTo 13 = .ok (.iadd, 1) := by decide +kernel
theorem d_Model_joinTo_14 : decode b_Model_joinTo 14 = .ok (.goto 4, 3) := by decide +kernel
theorem d_Model_joinTo_17 : decode b_Model_joinTo 17 = .ok (.iload_n 1, 1) := by decide +kernel
theorem d_Model_joinTo_18 : decode b_Model_joinTo 18 = .ok (.iload_n 2, 1) := by decide +kernel
theorem d_Model_joinTo_19 : decode b_Model_joinTo 19 = .ok (.invokevirtual 92, 3) := by decide +kernel
theorem d_Model_joinTo_22 : decode b_Model_joinTo 22 = .ok (.ireturn, 1) := by decide +kernel
theorem d_Model_join_0 : decode b_Model_join 0 = .ok (.aload_n 0, 1) := by decide +kernel
theorem d_Model_join_1 : decode b_Model_join 1 = .ok (.iload_n 1, 1) := by decide +kernel
theorem d_Model_join_2 : decode b_Model_join 2 = .ok (.invokevirtual 96, 3) := by decide +kernel
theorem d_Model_join_5 : decode b_Model_join 5 = .ok (.ifCond .eq 11, 3) := by decide +kernel
theorem d_Model_join_8 : decode b_Model_join 8 = .ok (.aload_n 0, 1) := by decide +kernel
theorem d_Model_join_9 : decode b_Model_join 9 = .ok (.iload_n 2, 1) := by decide +kernel
theorem d_Model_join_10 : decode b_Model_join 10 = .ok (.invokevirtual 96, 3) := by decide +kernel
theorem d_Model_join_13 : decode b_Model_join 13 = .ok (.ifCond .ne 5, 3) := by decide +kernel
theorem d_Model_join_16 : decode b_Model_join 16 = .ok (.iconst (-1), 1) := by decide +kernel
theorem d_Model_join_17 : decode b_Model_join 17 = .ok (.ireturn, 1) := by decide +kernel
theorem d_Model_join_18 : decode b_Model_join 18 = .ok (.aload_n 0, 1) := by decide +kernel
theorem d_Model_join_19 : decode b_Model_join 19 = .ok (.iload_n 1, 1) := by decide +kernel
theorem d_Model_join_20 : decode b_Model_join 20 = .ok (.iload_n 2, 1) := by decide +kernel
theorem d_Model_join_21 : decode b_Model_join 21 = .ok (.invokevirtual 99, 3) := by decide +kernel
theorem d_Model_join_24 : decode b_Model_join 24 = .ok (.istore_n 3, 1) := by decide +kernel
theorem d_Model_join_25 : decode b_Model_join 25 = .ok (.aload_n 0, 1) := by decide +kernel
theorem d_Model_join_26 : decode b_Model_join 26 = .ok (.iload_n 1, 1) := by decide +kernel
theorem d_Model_join_27 : decode b_Model_join 27 = .ok (.invokevirtual 102, 3) := by decide +kernel
theorem d_Model_join_30 : decode b_Model_join 30 = .ok (.ireturn, 1) := by decide +kernel
theorem d_Model_correct_0 : decode b_Model_correct 0 = .ok (.aload_n 0, 1) := by decide +kernel
theorem d_Model_correct_1 : decode b_Model_correct 1 = .ok (.iload_n 1, 1) := by decide +kernel
theorem d_Model_correct_2 : decode b_Model_correct 2 = .ok (.invokevirtual 96, 3) := by decide +kernel
theorem d_Model_correct_5 : decode b_Model_correct 5 = .ok (.ifCond .eq 61, 3) := by decide +kernel
theorem d_Model_correct_8 : decode b_Model_correct 8 = .ok (.aload_n 0, 1) := by decide +kernel
theorem d_Model_correct_9 : decode b_Model_correct 9 = .ok (.iload_n 2, 1) := by decide +kernel
theorem d_Model_correct_10 : decode b_Model_correct 10 = .ok (.invokevirtual 73, 3) := by decide +kernel
theorem d_Model_correct_13 : decode b_Model_correct 13 = .ok (.ifCond .eq 53, 3) := by decide +kernel
theorem d_Model_correct_16 : decode b_Model_correct 16 = .ok (.iload_n 3, 1) := by decide +kernel
theorem d_Model_correct_17 : decode b_Model_correct 17 = .ok (.i2l, 1) := by decide +kernel
theorem d_Model_correct_18 : decode b_Model_correct 18 = .ok (.lconst 0, 1) := by decide +kernel
theorem d_Model_correct_19 : decode b_Model_correct 19 = .ok (.ldc2_w 83, 3) := by decide +kernel
theorem d_Model_correct_22 : decode b_Model_correct 22 = .ok (.invokestatic 79, 3) := by decide +kernel
theorem d_Model_correct_25 : decode b_Model_correct 25 = .ok (.ifCond .eq 41, 3) := by decide +kernel
theorem d_Model_correct_28 : decode b_Model_correct 28 = .ok (.lload 4, 2) := by decide +kernel
theorem d_Model_correct_30 : decode b_Model_correct 30 = .ok (.lconst 0, 1) := by decide +kernel
theorem d_Model_correct_31 : decode b_Model_correct 31 = .ok (.ldc2_w 77, 3) := by decide +kernel
theorem d_Model_correct_34 : decode b_Model_correct 34 = .ok (.invokestatic 79, 3) := by decide +kernel
theorem d_Model_correct_37 : decode b_Model_correct 37 = .ok (.ifCond .eq 29, 3) := by decide +kernel
theorem d_Model_correct_40 : decode b_Model_correct 40 = .ok (.lload 6, 2) := by decide +kernel
theorem d_Model_correct_42 : decode b_Model_correct 42 = .ok (.ldc2_w 85, 3) := by decide +kernel
theorem d_Model_correct_45 : decode b_Model_correct 45 = .ok (.ldc2_w 87, 3) := by decide +kernel
theorem d_Model_correct_48 : decode b_Model_correct 48 = .ok (.invokestatic 79, 3) := by decide +kernel
theorem d_Model_correct_51 : decode b_Model_correct 51 = .ok (.ifCond .eq 15, 3) := by decide +kernel
theorem d_Model_correct_54 : decode b_Model_correct 54 = .ok (.lload 8, 2) := by decide +kernel
theorem d_Model_correct_56 : decode b_Model_correct 56 = .ok (.lconst 0, 1) := by decide +kernel
theorem d_Model_correct_57 : decode b_Model_correct 57 = .ok (.ldc2_w 77, 3) := by decide +kernel
theorem d_Model_correct_60 : decode b_Model_correct 60 = .ok (.invokestatic 79, 3) := by decide +kernel
theorem d_Model_correct_63 : decode b_Model_correct 63 = .ok (.ifCond .ne 5, 3) := by decide +kernel
theorem d_Model_correct_66 : decode b_Model_correct 66 = .ok (.iconst 0, 1) := by decide +kernel
theorem d_Model_correct_67 : decode b_Model_correct 67 = .ok (.ireturn, 1) := by decide +kernel
theorem d_Model_correct_68 : decode b_Model_correct 68 = .ok (.iconst 0, 1) := by decide +kernel
theorem d_Model_correct_69 : decode b_Model_correct 69 = .ok (.istore 10, 2) := by decide +kernel
theorem d_Model_correct_71 : decode b_Model_correct 71 = .ok (.iload 10, 2) := by decide +kernel
theorem d_Model_correct_73 : decode b_Model_correct 73 = .ok (.aload_n 0, 1) := by decide +kernel
theorem d_Model_correct_74 : decode b_Model_correct 74 = .ok (.getfield 106, 3) := by decide +kernel
theorem d_Model_correct_77 : decode b_Model_correct 77 = .ok (.if_icmp .ge 92, 3) := by decide +kernel
theorem d_Model_correct_80 : decode b_Model_correct 80 = .ok (.aload_n 0, 1) := by decide +kernel
theorem d_Model_correct_81 : decode b_Model_correct 81 = .ok (.getfield 38, 3) := by decide +kernel
theorem d_Model_correct_84 : decode b_Model_correct 84 = .ok (.iconst 5, 1) := by decide +kernel
theorem d_Model_correct_85 : decode b_Model_correct 85 = .ok (.iload 10, 2) := by decide +kernel
theorem d_Model_correct_87 : decode b_Model_correct 87 = .ok (.imul, 1) := by decide +kernel
theorem d_Model_correct_88 : decode b_Model_correct 88 = .ok (.laload, 1) := by decide +kernel
theorem d_Model_correct_89 : decode b_Model_correct 89 = .ok (.iload_n 2, 1) := by decide +kernel
theorem d_Model_correct_90 : decode b_Model_correct 90 = .ok (.i2l, 1) := by decide +kernel
theorem d_Model_correct_91 : decode b_Model_correct 91 = .ok (.lcmp, 1) := by decide +kernel
theorem d_Model_correct_92 : decode b_Model_correct 92 = .ok (.ifCond .ne 71, 3) := by decide +kernel
theorem d_Model_correct_95 : decode b_Model_correct 95 = .ok (.aload_n 0, 1) := by decide +kernel
theorem d_Model_correct_96 : decode b_Model_correct 96 = .ok (.getfield 38, 3) := by decide +kernel
theorem d_Model_correct_99 : decode b_Model_correct 99 = .ok (.iconst 5, 1) := by decide +kernel
theorem d_Model_correct_100 : decode b_Model_correct 100 = .ok (.iload 10, 2) := by decide +kernel
theorem d_Model_correct_102 : decode b_Model_correct 102 = .ok (.imul, 1) := by decide +kernel
theorem d_Model_correct_103 : decode b_Model_correct 103 = .ok (.iconst 1, 1) := by decide +kernel
theorem d_Model_correct_104 : decode b_Model_correct 104 = .ok (.iadd, 1) := by decide +kernel
theorem d_Model_correct_105 : decode b_Model_correct 105 = .ok (.laload, 1) := by decide +kernel
theorem d_Model_correct_106 : decode b_Model_correct 106 = .ok (.iload_n 3, 1) := by decide +kernel
theorem d_Model_correct_107 : decode b_Model_correct 107 = .ok (.i2l, 1) := by decide +kernel
theorem d_Model_correct_108 : decode b_Model_correct 108 = .ok (.lcmp, 1) := by decide +kernel
theorem d_Model_correct_109 : decode b_Model_correct 109 = .ok (.ifCond .ne 54, 3) := by decide +kernel
theorem d_Model_correct_112 : decode b_Model_correct 112 = .ok (.aload_n 0, 1) := by decide +kernel
theorem d_Model_correct_113 : decode b_Model_correct 113 = .ok (.getfield 38, 3) := by decide +kernel
theorem d_Model_correct_116 : decode b_Model_correct 116 = .ok (.iconst 5, 1) := by decide +kernel
theorem d_Model_correct_117 : decode b_Model_correct 117 = .ok (.iload 10, 2) := by decide +kernel
theorem d_Model_correct_119 : decode b_Model_correct 119 = .ok (.imul, 1) := by decide +kernel
theorem d_Model_correct_120 : decode b_Model_correct 120 = .ok (.iconst 2, 1) := by decide +kernel
theorem d_Model_correct_121 : decode b_Model_correct 121 = .ok (.iadd, 1) := by decide +kernel
theorem d_Model_correct_122 : decode b_Model_correct 122 = .ok (.laload, 1) := by decide +kernel
theorem d_Model_correct_123 : decode b_Model_correct 123 = .ok (.lload 4, 2) := by decide +kernel
theorem d_Model_correct_125 : decode b_Model_correct 125 = .ok (.lcmp, 1) := by decide +kernel
theorem d_Model_correct_126 : decode b_Model_correct 126 = .ok (.ifCond .ne 37, 3) := by decide +kernel
theorem d_Model_correct_129 : decode b_Model_correct 129 = .ok (.aload_n 0, 1) := by decide +kernel
theorem d_Model_correct_130 : decode b_Model_correct 130 = .ok (.getfield 38, 3) := by decide +kernel
theorem d_Model_correct_133 : decode b_Model_correct 133 = .ok (.iconst 5, 1) := by decide +kernel
theorem d_Model_correct_134 : decode b_Model_correct 134 = .ok (.iload 10, 2) := by decide +kernel
theorem d_Model_correct_136 : decode b_Model_correct 136 = .ok (.imul, 1) := by decide +kernel
theorem d_Model_correct_137 : decode b_Model_correct 137 = .ok (.iconst 3, 1) := by decide +kernel
theorem d_Model_correct_138 : decode b_Model_correct 138 = .ok (.iadd, 1) := by decide +kernel
theorem d_Model_correct_139 : decode b_Model_correct 139 = .ok (.laload, 1) := by decide +kernel
theorem d_Model_correct_140 : decode b_Model_correct 140 = .ok (.lload 6, 2) := by decide +kernel
theorem d_Model_correct_142 : decode b_Model_correct 142 = .ok (.lcmp, 1) := by decide +kernel
theorem d_Model_correct_143 : decode b_Model_correct 143 = .ok (.ifCond .ne 20, 3) := by decide +kernel
theorem d_Model_correct_146 : decode b_Model_correct 146 = .ok (.aload_n 0, 1) := by decide +kernel
theorem d_Model_correct_147 : decode b_Model_correct 147 = .ok (.getfield 38, 3) := by decide +kernel
theorem d_Model_correct_150 : decode b_Model_correct 150 = .ok (.iconst 5, 1) := by decide +kernel
theorem d_Model_correct_151 : decode b_Model_correct 151 = .ok (.iload 10, 2) := by decide +kernel
theorem d_Model_correct_153 : decode b_Model_correct 153 = .ok (.imul, 1) := by decide +kernel
theorem d_Model_correct_154 : decode b_Model_correct 154 = .ok (.iconst 4, 1) := by decide +kernel
theorem d_Model_correct_155 : decode b_Model_correct 155 = .ok (.iadd, 1) := by decide +kernel
theorem d_Model_correct_156 : decode b_Model_correct 156 = .ok (.laload, 1) := by decide +kernel
theorem d_Model_correct_157 : decode b_Model_correct 157 = .ok (.lload 8, 2) := by decide +kernel
theorem d_Model_correct_159 : decode b_Model_correct 159 = .ok (.lcmp, 1) := by decide +kernel
theorem d_Model_correct_160 : decode b_Model_correct 160 = .ok (.ifCond .eq 9, 3) := by decide +kernel
theorem d_Model_correct_163 : decode b_Model_correct 163 = .ok (.iinc 10 1, 3) := by decide +kernel
theorem d_Model_correct_166 : decode b_Model_correct 166 = .ok (.goto (-95), 3) := by decide +kernel
theorem d_Model_correct_169 : decode b_Model_correct 169 = .ok (.iload 10, 2) := by decide +kernel
theorem d_Model_correct_171 : decode b_Model_correct 171 = .ok (.bipush 20, 2) := by decide +kernel
theorem d_Model_correct_173 : decode b_Model_correct 173 = .ok (.if_icmp .ne 5, 3) := by decide +kernel
theorem d_Model_correct_176 : decode b_Model_correct 176 = .ok (.iconst 0, 1) := by decide +kernel
theorem d_Model_correct_177 : decode b_Model_correct 177 = .ok (.ireturn, 1) := by decide +kernel
theorem d_Model_correct_178 : decode b_Model_correct 178 = .ok (.aload_n 0, 1) := by decide +kernel
theorem d_Model_correct_179 : decode b_Model_correct 179 = .ok (.getfield 38, 3) := by decide +kernel
theorem d_Model_correct_182 : decode b_Model_correct 182 = .ok (.iconst 5, 1) := by decide +kernel
theorem d_Model_correct_183 : decode b_Model_correct 183 = .ok (.iload 10, 2) := by decide +kernel
theorem d_Model_correct_185 : decode b_Model_correct 185 = .ok (.imul, 1) := by decide +kernel
theorem d_Model_correct_186 : decode b_Model_correct 186 = .ok (.iload_n 2, 1) := by decide +kernel
theorem d_Model_correct_187 : decode b_Model_correct 187 = .ok (.i2l, 1) := by decide +kernel
theorem d_Model_correct_188 : decode b_Model_correct 188 = .ok (.lastore, 1) := by decide +kernel
theorem d_Model_correct_189 : decode b_Model_correct 189 = .ok (.aload_n 0, 1) := by decide +kernel
theorem d_Model_correct_190 : decode b_Model_correct 190 = .ok (.getfield 38, 3) := by decide +kernel
theorem d_Model_correct_193 : decode b_Model_correct 193 = .ok (.iconst 5, 1) := by decide +kernel
theorem d_Model_correct_194 : decode b_Model_correct 194 = .ok (.iload 10, 2) := by decide +kernel
theorem d_Model_correct_196 : decode b_Model_correct 196 = .ok (.imul, 1) := by decide +kernel
theorem d_Model_correct_197 : decode b_Model_correct 197 = .ok (.iconst 1, 1) := by decide +kernel
theorem d_Model_correct_198 : decode b_Model_correct 198 = .ok (.iadd, 1) := by decide +kernel
theorem d_Model_correct_199 : decode b_Model_correct 199 = .ok (.iload_n 3, 1) := by decide +kernel
theorem d_Model_correct_200 : decode b_Model_correct 200 = .ok (.i2l, 1) := by decide +kernel
theorem d_Model_correct_201 : decode b_Model_correct 201 = .ok (.lastore, 1) := by decide +kernel
theorem d_Model_correct_202 : decode b_Model_correct 202 = .ok (.aload_n 0, 1) := by decide +kernel
theorem d_Model_correct_203 : decode b_Model_correct 203 = .ok (.getfield 38, 3) := by decide +kernel
theorem d_Model_correct_206 : decode b_Model_correct 206 = .ok (.iconst 5, 1) := by decide +kernel
theorem d_Model_correct_207 : decode b_Model_correct 207 = .ok (.iload 10, 2) := by decide +kernel
theorem d_Model_correct_209 : decode b_Model_correct 209 = .ok (.imul, 1) := by decide +kernel
theorem d_Model_correct_210 : decode b_Model_correct 210 = .ok (.iconst 2, 1) := by decide +kernel
theorem d_Model_correct_211 : decode b_Model_correct 211 = .ok (.iadd, 1) := by decide +kernel
theorem d_Model_correct_212 : decode b_Model_correct 212 = .ok (.lload 4, 2) := by decide +kernel
theorem d_Model_correct_214 : decode b_Model_correct 214 = .ok (.lastore, 1) := by decide +kernel
theorem d_Model_correct_215 : decode b_Model_correct 215 = .ok (.aload_n 0, 1) := by decide +kernel
theorem d_Model_correct_216 : decode b_Model_correct 216 = .ok (.getfield 38, 3) := by decide +kernel
theorem d_Model_correct_219 : decode b_Model_correct 219 = .ok (.iconst 5, 1) := by decide +kernel
theorem d_Model_correct_220 : decode b_Model_correct 220 = .ok (.iload 10, 2) := by decide +kernel
theorem d_Model_correct_222 : decode b_Model_correct 222 = .ok (.imul, 1) := by decide +kernel
theorem d_Model_correct_223 : decode b_Model_correct 223 = .ok (.iconst 3, 1) := by decide +kernel
theorem d_Model_correct_224 : decode b_Model_correct 224 = .ok (.iadd, 1) := by decide +kernel
theorem d_Model_correct_225 : decode b_Model_correct 225 = .ok (.lload 6, 2) := by decide +kernel
theorem d_Model_correct_227 : decode b_Model_correct 227 = .ok (.lastore, 1) := by decide +kernel
theorem d_Model_correct_228 : decode b_Model_correct 228 = .ok (.aload_n 0, 1) := by decide +kernel
theorem d_Model_correct_229 : decode b_Model_correct 229 = .ok (.getfield 38, 3) := by decide +kernel
theorem d_Model_correct_232 : decode b_Model_correct 232 = .ok (.iconst 5, 1) := by decide +kernel
theorem d_Model_correct_233 : decode b_Model_correct 233 = .ok (.iload 10, 2) := by decide +kernel
theorem d_Model_correct_235 : decode b_Model_correct 235 = .ok (.imul, 1) := by decide +kernel
theorem d_Model_correct_236 : decode b_Model_correct 236 = .ok (.iconst 4, 1) := by decide +kernel
theorem d_Model_correct_237 : decode b_Model_correct 237 = .ok (.iadd, 1) := by decide +kernel
theorem d_Model_correct_238 : decode b_Model_correct 238 = .ok (.lload 8, 2) := by decide +kernel
theorem d_Model_correct_240 : decode b_Model_correct 240 = .ok (.lastore, 1) := by decide +kernel
theorem d_Model_correct_241 : decode b_Model_correct 241 = .ok (.aload_n 0, 1) := by decide +kernel
theorem d_Model_correct_242 : decode b_Model_correct 242 = .ok (.iload 10, 2) := by decide +kernel
theorem d_Model_correct_244 : decode b_Model_correct 244 = .ok (.aload_n 0, 1) := by decide +kernel
theorem d_Model_correct_245 : decode b_Model_correct 245 = .ok (.getfield 106, 3) := by decide +kernel
theorem d_Model_correct_248 : decode b_Model_correct 248 = .ok (.if_icmp .ne 12, 3) := by decide +kernel
theorem d_Model_correct_251 : decode b_Model_correct 251 = .ok (.aload_n 0, 1) := by decide +kernel
theorem d_Model_correct_252 : decode b_Model_correct 252 = .ok (.getfield 106, 3) := by decide +kernel
theorem d_Model_correct_255 : decode b_Model_correct 255 = .ok (.iconst 1, 1) := by decide +kernel
theorem d_Model_correct_256 : decode b_Model_correct 256 = .ok (.iadd, 1) := by decide +kernel
theorem d_Model_correct_257 : decode b_Model_correct 257 = .ok (.goto 7, 3) := by decide +kernel
theorem d_Model_correct_260 : decode b_Model_correct 260 = .ok (.aload_n 0, 1) := by decide +kernel
theorem d_Model_correct_261 : decode b_Model_correct 261 = .ok (.getfield 106, 3) := by decide +kernel
theorem d_Model_correct_264 : decode b_Model_correct 264 = .ok (.putfield 106, 3) := by decide +kernel
theorem d_Model_correct_267 : decode b_Model_correct 267 = .ok (.aload_n 0, 1) := by decide +kernel
theorem d_Model_correct_268 : decode b_Model_correct 268 = .ok (.getfield 48, 3) := by decide +kernel
theorem d_Model_correct_271 : decode b_Model_correct 271 = .ok (.bipush 20, 2) := by decide +kernel
theorem d_Model_correct_273 : decode b_Model_correct 273 = .ok (.iload_n 1, 1) := by decide +kernel
theorem d_Model_correct_274 : decode b_Model_correct 274 = .ok (.imul, 1) := by decide +kernel
theorem d_Model_correct_275 : decode b_Model_correct 275 = .ok (.iload 10, 2) := by decide +kernel
theorem d_Model_correct_277 : decode b_Model_correct 277 = .ok (.iadd, 1) := by decide +kernel
theorem d_Model_correct_278 : decode b_Model_correct 278 = .ok (.iconst 1, 1) := by decide +kernel
theorem d_Model_correct_279 : decode b_Model_correct 279 = .ok (.bastore, 1) := by decide +kernel
theorem d_Model_correct_280 : decode b_Model_correct 280 = .ok (.iconst 1, 1) := by decide +kernel
theorem d_Model_correct_281 : decode b_Model_correct 281 = .ok (.ireturn, 1) := by decide +kernel
theorem d_Model_isHere_0 : decode b_Model_isHere 0 = .ok (.aload_n 0, 1) := by decide +kernel
theorem d_Model_isHere_1 : decode b_Model_isHere 1 = .ok (.getfield 41, 3) := by decide +kernel
theorem d_Model_isHere_4 : decode b_Model_isHere 4 = .ok (.bipush 60, 2) := by decide +kernel
theorem d_Model_isHere_6 : decode b_Model_isHere 6 = .ok (.iload_n 1, 1) := by decide +kernel
theorem d_Model_isHere_7 : decode b_Model_isHere 7 = .ok (.imul, 1) := by decide +kernel
theorem d_Model_isHere_8 : decode b_Model_isHere 8 = .ok (.iload_n 2, 1) := by decide +kernel
theorem d_Model_isHere_9 : decode b_Model_isHere 9 = .ok (.iadd, 1) := by decide +kernel
theorem d_Model_isHere_10 : decode b_Model_isHere 10 = .ok (.baload, 1) := by decide +kernel
theorem d_Model_isHere_11 : decode b_Model_isHere 11 = .ok (.ifCond .eq 24, 3) := by decide +kernel
theorem d_Model_isHere_14 : decode b_Model_isHere 14 = .ok (.aload_n 0, 1) := by decide +kernel
theorem d_Model_isHere_15 : decode b_Model_isHere 15 = .ok (.getfield 29, 3) := by decide +kernel
theorem d_Model_isHere_18 : decode b_Model_isHere 18 = .ok (.iload_n 2, 1) := by decide +kernel
theorem d_Model_isHere_19 : decode b_Model_isHere 19 = .ok (.iaload, 1) := by decide +kernel
theorem d_Model_isHere_20 : decode b_Model_isHere 20 = .ok (.i2l, 1) := by decide +kernel
theorem d_Model_isHere_21 : decode b_Model_isHere 21 = .ok (.aload_n 0, 1) := by decide +kernel
theorem d_Model_isHere_22 : decode b_Model_isHere 22 = .ok (.getfield 51, 3) := by decide +kernel
theorem d_Model_isHere_25 : decode b_Model_isHere 25 = .ok (.iload_n 1, 1) := by decide +kernel
theorem d_Model_isHere_26 : decode b_Model_isHere 26 = .ok (.laload, 1) := by decide +kernel
theorem d_Model_isHere_27 : decode b_Model_isHere 27 = .ok (.lcmp, 1) := by decide +kernel
theorem d_Model_isHere_28 : decode b_Model_isHere 28 = .ok (.ifCond .lt 7, 3) := by decide +kernel
theorem d_Model_isHere_31 : decode b_Model_isHere 31 = .ok (.iconst 1, 1) := by decide +kernel
theorem d_Model_isHere_32 : decode b_Model_isHere 32 = .ok (.goto 4, 3) := by decide +kernel
theorem d_Model_isHere_35 : decode b_Model_isHere 35 = .ok (.iconst 0, 1) := by decide +kernel
theorem d_Model_isHere_36 : decode b_Model_isHere 36 = .ok (.ireturn, 1) := by decide +kernel
theorem d_Model_isChosen_0 : decode b_Model_isChosen 0 = .ok (.aload_n 0, 1) := by decide +kernel
theorem d_Model_isChosen_1 : decode b_Model_isChosen 1 = .ok (.iload_n 1, 1) := by decide +kernel
theorem d_Model_isChosen_2 : decode b_Model_isChosen 2 = .ok (.iload_n 2, 1) := by decide +kernel
theorem d_Model_isChosen_3 : decode b_Model_isChosen 3 = .ok (.invokevirtual 109, 3) := by decide +kernel
theorem d_Model_isChosen_6 : decode b_Model_isChosen 6 = .ok (.ifCond .eq 21, 3) := by decide +kernel
theorem d_Model_isChosen_9 : decode b_Model_isChosen 9 = .ok (.aload_n 0, 1) := by decide +kernel
theorem d_Model_isChosen_10 : decode b_Model_isChosen 10 = .ok (.getfield 45, 3) := by decide +kernel
theorem d_Model_isChosen_13 : decode b_Model_isChosen 13 = .ok (.bipush 60, 2) := by decide +kernel
theorem d_Model_isChosen_15 : decode b_Model_isChosen 15 = .ok (.iload_n 1, 1) := by decide +kernel
theorem d_Model_isChosen_16 : decode b_Model_isChosen 16 = .ok (.imul, 1) := by decide +kernel
theorem d_Model_isChosen_17 : decode b_Model_isChosen 17 = .ok (.iload_n 2, 1) := by decide +kernel
theorem d_Model_isChosen_18 : decode b_Model_isChosen 18 = .ok (.iadd, 1) := by decide +kernel
theorem d_Model_isChosen_19 : decode b_Model_isChosen 19 = .ok (.baload, 1) := by decide +kernel
theorem d_Model_isChosen_20 : decode b_Model_isChosen 20 = .ok (.ifCond .eq 7, 3) := by decide +kernel
theorem d_Model_isChosen_23 : decode b_Model_isChosen 23 = .ok (.iconst 1, 1) := by decide +kernel
theorem d_Model_isChosen_24 : decode b_Model_isChosen 24 = .ok (.goto 4, 3) := by decide +kernel
theorem d_Model_isChosen_27 : decode b_Model_isChosen 27 = .ok (.iconst 0, 1) := by decide +kernel
theorem d_Model_isChosen_28 : decode b_Model_isChosen 28 = .ok (.ireturn, 1) := by decide +kernel
theorem d_Model_isSameKey_0 : decode b_Model_isSameKey 0 = .ok (.aload_n 0, 1) := by decide +kernel
theorem d_Model_isSameKey_1 : decode b_Model_isSameKey 1 = .ok (.getfield 17, 3) := by decide +kernel
theorem d_Model_isSameKey_4 : decode b_Model_isSameKey 4 = .ok (.iload_n 1, 1) := by decide +kernel
theorem d_Model_isSameKey_5 : decode b_Model_isSameKey 5 = .ok (.iaload, 1) := by decide +kernel
theorem d_Model_isSameKey_6 : decode b_Model_isSameKey 6 = .ok (.aload_n 0, 1) := by decide +kernel
theorem d_Model_isSameKey_7 : decode b_Model_isSameKey 7 = .ok (.getfield 17, 3) := by decide +kernel
theorem d_Model_isSameKey_10 : decode b_Model_isSameKey 10 = .ok (.iload_n 2, 1) := by decide +kernel
theorem d_Model_isSameKey_11 : decode b_Model_isSameKey 11 = .ok (.iaload, 1) := by decide +kernel
theorem d_Model_isSameKey_12 : decode b_Model_isSameKey 12 = .ok (.if_icmp .ne 52, 3) := by decide +kernel
theorem d_Model_isSameKey_15 : decode b_Model_isSameKey 15 = .ok (.aload_n 0, 1) := by decide +kernel
theorem d_Model_isSameKey_16 : decode b_Model_isSameKey 16 = .ok (.getfield 20, 3) := by decide +kernel
theorem d_Model_isSameKey_19 : decode b_Model_isSameKey 19 = .ok (.iload_n 1, 1) := by decide +kernel
theorem d_Model_isSameKey_20 : decode b_Model_isSameKey 20 = .ok (.iaload, 1) := by decide +kernel
theorem d_Model_isSameKey_21 : decode b_Model_isSameKey 21 = .ok (.aload_n 0, 1) := by decide +kernel
theorem d_Model_isSameKey_22 : decode b_Model_isSameKey 22 = .ok (.getfield 20, 3) := by decide +kernel
theorem d_Model_isSameKey_25 : decode b_Model_isSameKey 25 = .ok (.iload_n 2, 1) := by decide +kernel
theorem d_Model_isSameKey_26 : decode b_Model_isSameKey 26 = .ok (.iaload, 1) := by decide +kernel
theorem d_Model_isSameKey_27 : decode b_Model_isSameKey 27 = .ok (.if_icmp .ne 37, 3) := by decide +kernel
theorem d_Model_isSameKey_30 : decode b_Model_isSameKey 30 = .ok (.aload_n 0, 1) := by decide +kernel
theorem d_Model_isSameKey_31 : decode b_Model_isSameKey 31 = .ok (.getfield 23, 3) := by decide +kernel
theorem d_Model_isSameKey_34 : decode b_Model_isSameKey 34 = .ok (.iload_n 1, 1) := by decide +kernel
theorem d_Model_isSameKey_35 : decode b_Model_isSameKey 35 = .ok (.iaload, 1) := by decide +kernel
theorem d_Model_isSameKey_36 : decode b_Model_isSameKey 36 = .ok (.aload_n 0, 1) := by decide +kernel
theorem d_Model_isSameKey_37 : decode b_Model_isSameKey 37 = .ok (.getfield 23, 3) := by decide +kernel
theorem d_Model_isSameKey_40 : decode b_Model_isSameKey 40 = .ok (.iload_n 2, 1) := by decide +kernel
theorem d_Model_isSameKey_41 : decode b_Model_isSameKey 41 = .ok (.iaload, 1) := by decide +kernel
theorem d_Model_isSameKey_42 : decode b_Model_isSameKey 42 = .ok (.if_icmp .ne 22, 3) := by decide +kernel
theorem d_Model_isSameKey_45 : decode b_Model_isSameKey 45 = .ok (.aload_n 0, 1) := by decide +kernel
theorem d_Model_isSameKey_46 : decode b_Model_isSameKey 46 = .ok (.getfield 26, 3) := by decide +kernel
theorem d_Model_isSameKey_49 : decode b_Model_isSameKey 49 = .ok (.iload_n 1, 1) := by decide +kernel
theorem d_Model_isSameKey_50 : decode b_Model_isSameKey 50 = .ok (.iaload, 1) := by decide +kernel
theorem d_Model_isSameKey_51 : decode b_Model_isSameKey 51 = .ok (.aload_n 0, 1) := by decide +kernel
theorem d_Model_isSameKey_52 : decode b_Model_isSameKey 52 = .ok (.getfield 26, 3) := by decide +kernel
theorem d_Model_isSameKey_55 : decode b_Model_isSameKey 55 = .ok (.iload_n 2, 1) := by decide +kernel
theorem d_Model_isSameKey_56 : decode b_Model_isSameKey 56 = .ok (.iaload, 1) := by decide +kernel
theorem d_Model_isSameKey_57 : decode b_Model_isSameKey 57 = .ok (.if_icmp .ne 7, 3) := by decide +kernel
theorem d_Model_isSameKey_60 : decode b_Model_isSameKey 60 = .ok (.iconst 1, 1) := by decide +kernel
theorem d_Model_isSameKey_61 : decode b_Model_isSameKey 61 = .ok (.goto 4, 3) := by decide +kernel
theorem d_Model_isSameKey_64 : decode b_Model_isSameKey 64 = .ok (.iconst 0, 1) := by decide +kernel
theorem d_Model_isSameKey_65 : decode b_Model_isSameKey 65 = .ok (.ireturn, 1) := by decide +kernel
theorem d_Model_isBefore_0 : decode b_Model_isBefore 0 = .ok (.aload_n 0, 1) := by decide +kernel
theorem d_Model_isBefore_1 : decode b_Model_isBefore 1 = .ok (.getfield 29, 3) := by decide +kernel
theorem d_Model_isBefore_4 : decode b_Model_isBefore 4 = .ok (.iload_n 1, 1) := by decide +kernel
theorem d_Model_isBefore_5 : decode b_Model_isBefore 5 = .ok (.iaload, 1) := by decide +kernel
theorem d_Model_isBefore_6 : decode b_Model_isBefore 6 = .ok (.aload_n 0, 1) := by decide +kernel
theorem d_Model_isBefore_7 : decode b_Model_isBefore 7 = .ok (.getfield 29, 3) := by decide +kernel
theorem d_Model_isBefore_10 : decode b_Model_isBefore 10 = .ok (.iload_n 2, 1) := by decide +kernel
theorem d_Model_isBefore_11 : decode b_Model_isBefore 11 = .ok (.iaload, 1) := by decide +kernel
theorem d_Model_isBefore_12 : decode b_Model_isBefore 12 = .ok (.if_icmp .eq 26, 3) := by decide +kernel
theorem d_Model_isBefore_15 : decode b_Model_isBefore 15 = .ok (.aload_n 0, 1) := by decide +kernel
theorem d_Model_isBefore_16 : decode b_Model_isBefore 16 = .ok (.getfield 29, 3) := by decide +kernel
theorem d_Model_isBefore_19 : decode b_Model_isBefore 19 = .ok (.iload_n 1, 1) := by decide +kernel
theorem d_Model_isBefore_20 : decode b_Model_isBefore 20 = .ok (.iaload, 1) := by decide +kernel
theorem d_Model_isBefore_21 : decode b_Model_isBefore 21 = .ok (.aload_n 0, 1) := by decide +kernel
theorem d_Model_isBefore_22 : decode b_Model_isBefore 22 = .ok (.getfield 29, 3) := by decide +kernel
theorem d_Model_isBefore_25 : decode b_Model_isBefore 25 = .ok (.iload_n 2, 1) := by decide +kernel
theorem d_Model_isBefore_26 : decode b_Model_isBefore 26 = .ok (.iaload, 1) := by decide +kernel
theorem d_Model_isBefore_27 : decode b_Model_isBefore 27 = .ok (.if_icmp .ge 7, 3) := by decide +kernel
theorem d_Model_isBefore_30 : decode b_Model_isBefore 30 = .ok (.iconst 1, 1) := by decide +kernel
theorem d_Model_isBefore_31 : decode b_Model_isBefore 31 = .ok (.goto 28, 3) := by decide +kernel
theorem d_Model_isBefore_34 : decode b_Model_isBefore 34 = .ok (.iconst 0, 1) := by decide +kernel
theorem d_Model_isBefore_35 : decode b_Model_isBefore 35 = .ok (.goto 24, 3) := by decide +kernel
theorem d_Model_isBefore_38 : decode b_Model_isBefore 38 = .ok (.aload_n 0, 1) := by decide +kernel
theorem d_Model_isBefore_39 : decode b_Model_isBefore 39 = .ok (.getfield 32, 3) := by decide +kernel
theorem d_Model_isBefore_42 : decode b_Model_isBefore 42 = .ok (.iload_n 1, 1) := by decide +kernel
theorem d_Model_isBefore_43 : decode b_Model_isBefore 43 = .ok (.laload, 1) := by decide +kernel
theorem d_Model_isBefore_44 : decode b_Model_isBefore 44 = .ok (.aload_n 0, 1) := by decide +kernel
theorem d_Model_isBefore_45 : decode b_Model_isBefore 45 = .ok (.getfield 32, 3) := by decide +kernel
theorem d_Model_isBefore_48 : decode b_Model_isBefore 48 = .ok (.iload_n 2, 1) := by decide +kernel
theorem d_Model_isBefore_49 : decode b_Model_isBefore 49 = .ok (.laload, 1) := by decide +kernel
theorem d_Model_isBefore_50 : decode b_Model_isBefore 50 = .ok (.lcmp, 1) := by decide +kernel
theorem d_Model_isBefore_51 : decode b_Model_isBefore 51 = .ok (.ifCond .ge 7, 3) := by decide +kernel
theorem d_Model_isBefore_54 : decode b_Model_isBefore 54 = .ok (.iconst 1, 1) := by decide +kernel
theorem d_Model_isBefore_55 : decode b_Model_isBefore 55 = .ok (.goto 4, 3) := by decide +kernel
theorem d_Model_isBefore_58 : decode b_Model_isBefore 58 = .ok (.iconst 0, 1) := by decide +kernel
theorem d_Model_isBefore_59 : decode b_Model_isBefore 59 = .ok (.ireturn, 1) := by decide +kernel
theorem d_Model_isSeen_0 : decode b_Model_isSeen 0 = .ok (.aload_n 0, 1) := by decide +kernel
theorem d_Model_isSeen_1 : decode b_Model_isSeen 1 = .ok (.iload_n 1, 1) := by decide +kernel
theorem d_Model_isSeen_2 : decode b_Model_isSeen 2 = .ok (.iload_n 2, 1) := by decide +kernel
theorem d_Model_isSeen_3 : decode b_Model_isSeen 3 = .ok (.invokevirtual 109, 3) := by decide +kernel
theorem d_Model_isSeen_6 : decode b_Model_isSeen 6 = .ok (.ifCond .ne 5, 3) := by decide +kernel
theorem d_Model_isSeen_9 : decode b_Model_isSeen 9 = .ok (.iconst 0, 1) := by decide +kernel
theorem d_Model_isSeen_10 : decode b_Model_isSeen 10 = .ok (.ireturn, 1) := by decide +kernel
theorem d_Model_isSeen_11 : decode b_Model_isSeen 11 = .ok (.iconst 1, 1) := by decide +kernel
theorem d_Model_isSeen_12 : decode b_Model_isSeen 12 = .ok (.istore_n 3, 1) := by decide +kernel
theorem d_Model_isSeen_13 : decode b_Model_isSeen 13 = .ok (.aload_n 0, 1) := by decide +kernel
theorem d_Model_isSeen_14 : decode b_Model_isSeen 14 = .ok (.iload_n 1, 1) := by decide +kernel
theorem d_Model_isSeen_15 : decode b_Model_isSeen 15 = .ok (.iload_n 2, 1) := by decide +kernel
theorem d_Model_isSeen_16 : decode b_Model_isSeen 16 = .ok (.invokevirtual 112, 3) := by decide +kernel
theorem d_Model_isSeen_19 : decode b_Model_isSeen 19 = .ok (.istore 4, 2) := by decide +kernel
theorem d_Model_isSeen_21 : decode b_Model_isSeen 21 = .ok (.iconst 0, 1) := by decide +kernel
theorem d_Model_isSeen_22 : decode b_Model_isSeen 22 = .ok (.istore 5, 2) := by decide +kernel
theorem d_Model_isSeen_24 : decode b_Model_isSeen 24 = .ok (.iload 5, 2) := by decide +kernel
theorem d_Model_isSeen_26 : decode b_Model_isSeen 26 = .ok (.aload_n 0, 1) := by decide +kernel
theorem d_Model_isSeen_27 : decode b_Model_isSeen 27 = .ok (.getfield 89, 3) := by decide +kernel
theorem d_Model_isSeen_30 : decode b_Model_isSeen 30 = .ok (.if_icmp .ge 69, 3) := by decide +kernel
theorem d_Model_isSeen_33 : decode b_Model_isSeen 33 = .ok (.iload 5, 2) := by decide +kernel
theorem d_Model_isSeen_35 : decode b_Model_isSeen 35 = .ok (.iload_n 2, 1) := by decide +kernel
theorem d_Model_isSeen_36 : decode b_Model_isSeen 36 = .ok (.if_icmp .eq 57, 3) := by decide +kernel
theorem d_Model_isSeen_39 : decode b_Model_isSeen 39 = .ok (.aload_n 0, 1) := by decide +kernel
theorem d_Model_isSeen_40 : decode b_Model_isSeen 40 = .ok (.iload_n 2, 1) := by decide +kernel
theorem d_Model_isSeen_41 : decode b_Model_isSeen 41 = .ok (.iload 5, 2) := by decide +kernel
theorem d_Model_isSeen_43 : decode b_Model_isSeen 43 = .ok (.invokevirtual 115, 3) := by decide +kernel
theorem d_Model_isSeen_46 : decode b_Model_isSeen 46 = .ok (.ifCond .eq 47, 3) := by decide +kernel
theorem d_Model_isSeen_49 : decode b_Model_isSeen 49 = .ok (.aload_n 0, 1) := by decide +kernel
theorem d_Model_isSeen_50 : decode b_Model_isSeen 50 = .ok (.iload_n 1, 1) := by decide +kernel
theorem d_Model_isSeen_51 : decode b_Model_isSeen 51 = .ok (.iload 5, 2) := by decide +kernel
theorem d_Model_isSeen_53 : decode b_Model_isSeen 53 = .ok (.invokevirtual 109, 3) := by decide +kernel
theorem d_Model_isSeen_56 : decode b_Model_isSeen 56 = .ok (.ifCond .eq 37, 3) := by decide +kernel
theorem d_Model_isSeen_59 : decode b_Model_isSeen 59 = .ok (.iconst 0, 1) := by decide +kernel
theorem d_Model_isSeen_60 : decode b_Model_isSeen 60 = .ok (.istore_n 3, 1) := by decide +kernel
theorem d_Model_isSeen_61 : decode b_Model_isSeen 61 = .ok (.iload 4, 2) := by decide +kernel
theorem d_Model_isSeen_63 : decode b_Model_isSeen 63 = .ok (.ifCond .eq 27, 3) := by decide +kernel
theorem d_Model_isSeen_66 : decode b_Model_isSeen 66 = .ok (.aload_n 0, 1) := by decide +kernel
theorem d_Model_isSeen_67 : decode b_Model_isSeen 67 = .ok (.iload_n 1, 1) := by decide +kernel
theorem d_Model_isSeen_68 : decode b_Model_isSeen 68 = .ok (.iload 5, 2) := by decide +kernel
theorem d_Model_isSeen_70 : decode b_Model_isSeen 70 = .ok (.invokevirtual 112, 3) := by decide +kernel
theorem d_Model_isSeen_73 : decode b_Model_isSeen 73 = .ok (.ifCond .eq 13, 3) := by decide +kernel
theorem d_Model_isSeen_76 : decode b_Model_isSeen 76 = .ok (.aload_n 0, 1) := by decide +kernel
theorem d_Model_isSeen_77 : decode b_Model_isSeen 77 = .ok (.iload 5, 2) := by decide +kernel
theorem d_Model_isSeen_79 : decode b_Model_isSeen 79 = .ok (.iload_n 2, 1) := by decide +kernel
theorem d_Model_isSeen_80 : decode b_Model_isSeen 80 = .ok (.invokevirtual 118, 3) := by decide +kernel
theorem d_Model_isSeen_83 : decode b_Model_isSeen 83 = .ok (.ifCond .ne 7, 3) := by decide +kernel
theorem d_Model_isSeen_86 : decode b_Model_isSeen 86 = .ok (.iconst 1, 1) := by decide +kernel
theorem d_Model_isSeen_87 : decode b_Model_isSeen 87 = .ok (.goto 4, 3) := by decide +kernel
theorem d_Model_isSeen_90 : decode b_Model_isSeen 90 = .ok (.iconst 0, 1) := by decide +kernel
theorem d_Model_isSeen_91 : decode b_Model_isSeen 91 = .ok (.istore 4, 2) := by decide +kernel
theorem d_Model_isSeen_93 : decode b_Model_isSeen 93 = .ok (.iinc 5 1, 3) := by decide +kernel
theorem d_Model_isSeen_96 : decode b_Model_isSeen 96 = .ok (.goto (-72), 3) := by decide +kernel
theorem d_Model_isSeen_99 : decode b_Model_isSeen 99 = .ok (.iload_n 3, 1) := by decide +kernel
theorem d_Model_isSeen_100 : decode b_Model_isSeen 100 = .ok (.ifCond .ne 8, 3) := by decide +kernel
theorem d_Model_isSeen_103 : decode b_Model_isSeen 103 = .ok (.iload 4, 2) := by decide +kernel
theorem d_Model_isSeen_105 : decode b_Model_isSeen 105 = .ok (.ifCond .eq 7, 3) := by decide +kernel
theorem d_Model_isSeen_108 : decode b_Model_isSeen 108 = .ok (.iconst 1, 1) := by decide +kernel
theorem d_Model_isSeen_109 : decode b_Model_isSeen 109 = .ok (.goto 4, 3) := by decide +kernel
theorem d_Model_isSeen_112 : decode b_Model_isSeen 112 = .ok (.iconst 0, 1) := by decide +kernel
theorem d_Model_isSeen_113 : decode b_Model_isSeen 113 = .ok (.ireturn, 1) := by decide +kernel
theorem d_Model_last_0 : decode b_Model_last 0 = .ok (.iconst (-1), 1) := by decide +kernel
theorem d_Model_last_1 : decode b_Model_last 1 = .ok (.istore 4, 2) := by decide +kernel
theorem d_Model_last_3 : decode b_Model_last 3 = .ok (.iconst 0, 1) := by decide +kernel
theorem d_Model_last_4 : decode b_Model_last 4 = .ok (.istore 5, 2) := by decide +kernel
theorem d_Model_last_6 : decode b_Model_last 6 = .ok (.iload 5, 2) := by decide +kernel
theorem d_Model_last_8 : decode b_Model_last 8 = .ok (.aload_n 0, 1) := by decide +kernel
theorem d_Model_last_9 : decode b_Model_last 9 = .ok (.getfield 89, 3) := by decide +kernel
theorem d_Model_last_12 : decode b_Model_last 12 = .ok (.if_icmp .ge 126, 3) := by decide +kernel
theorem d_Model_last_15 : decode b_Model_last 15 = .ok (.aload_n 0, 1) := by decide +kernel
theorem d_Model_last_16 : decode b_Model_last 16 = .ok (.iload_n 1, 1) := by decide +kernel
theorem d_Model_last_17 : decode b_Model_last 17 = .ok (.invokevirtual 96, 3) := by decide +kernel
theorem d_Model_last_20 : decode b_Model_last 20 = .ok (.ifCond .eq 112, 3) := by decide +kernel
theorem d_Model_last_23 : decode b_Model_last 23 = .ok (.aload_n 0, 1) := by decide +kernel
theorem d_Model_last_24 : decode b_Model_last 24 = .ok (.getfield 17, 3) := by decide +kernel
theorem d_Model_last_27 : decode b_Model_last 27 = .ok (.iload 5, 2) := by decide +kernel
theorem d_Model_last_29 : decode b_Model_last 29 = .ok (.iaload, 1) := by decide +kernel
theorem d_Model_last_30 : decode b_Model_last 30 = .ok (.iload_n 2, 1) := by decide +kernel
theorem d_Model_last_31 : decode b_Model_last 31 = .ok (.if_icmp .ne 101, 3) := by decide +kernel
theorem d_Model_last_34 : decode b_Model_last 34 = .ok (.aload_n 0, 1) := by decide +kernel
theorem d_Model_last_35 : decode b_Model_last 35 = .ok (.getfield 26, 3) := by decide +kernel
theorem d_Model_last_38 : decode b_Model_last 38 = .ok (.iload 5, 2) := by decide +kernel
theorem d_Model_last_40 : decode b_Model_last 40 = .ok (.iaload, 1) := by decide +kernel
theorem d_Model_last_41 : decode b_Model_last 41 = .ok (.iload_n 3, 1) := by decide +kernel
theorem d_Model_last_42 : decode b_Model_last 42 = .ok (.if_icmp .ne 90, 3) := by decide +kernel
theorem d_Model_last_45 : decode b_Model_last 45 = .ok (.aload_n 0, 1) := by decide +kernel
theorem d_Model_last_46 : decode b_Model_last 46 = .ok (.iload_n 1, 1) := by decide +kernel
theorem d_Model_last_47 : decode b_Model_last 47 = .ok (.iload 5, 2) := by decide +kernel
theorem d_Model_last_49 : decode b_Model_last 49 = .ok (.invokevirtual 121, 3) := by decide +kernel
theorem d_Model_last_52 : decode b_Model_last 52 = .ok (.ifCond .eq 80, 3) := by decide +kernel
theorem d_Model_last_55 : decode b_Model_last 55 = .ok (.iload 4, 2) := by decide +kernel
theorem d_Model_last_57 : decode b_Model_last 57 = .ok (.ifCond .lt 54, 3) := by decide +kernel
theorem d_Model_last_60 : decode b_Model_last 60 = .ok (.aload_n 0, 1) := by decide +kernel
theorem d_Model_last_61 : decode b_Model_last 61 = .ok (.getfield 20, 3) := by decide +kernel
theorem d_Model_last_64 : decode b_Model_last 64 = .ok (.iload 5, 2) := by decide +kernel
theorem d_Model_last_66 : decode b_Model_last 66 = .ok (.iaload, 1) := by decide +kernel
theorem d_Model_last_67 : decode b_Model_last 67 = .ok (.aload_n 0, 1) := by decide +kernel
theorem d_Model_last_68 : decode b_Model_last 68 = .ok (.getfield 20, 3) := by decide +kernel
theorem d_Model_last_71 : decode b_Model_last 71 = .ok (.iload 4, 2) := by decide +kernel
theorem d_Model_last_73 : decode b_Model_last 73 = .ok (.iaload, 1) := by decide +kernel
theorem d_Model_last_74 : decode b_Model_last 74 = .ok (.if_icmp .gt 37, 3) := by decide +kernel
theorem d_Model_last_77 : decode b_Model_last 77 = .ok (.aload_n 0, 1) := by decide +kernel
theorem d_Model_last_78 : decode b_Model_last 78 = .ok (.getfield 20, 3) := by decide +kernel
theorem d_Model_last_81 : decode b_Model_last 81 = .ok (.iload 5, 2) := by decide +kernel
theorem d_Model_last_83 : decode b_Model_last 83 = .ok (.iaload, 1) := by decide +kernel
theorem d_Model_last_84 : decode b_Model_last 84 = .ok (.aload_n 0, 1) := by decide +kernel
theorem d_Model_last_85 : decode b_Model_last 85 = .ok (.getfield 20, 3) := by decide +kernel
theorem d_Model_last_88 : decode b_Model_last 88 = .ok (.iload 4, 2) := by decide +kernel
theorem d_Model_last_90 : decode b_Model_last 90 = .ok (.iaload, 1) := by decide +kernel
theorem d_Model_last_91 : decode b_Model_last 91 = .ok (.if_icmp .ne 24, 3) := by decide +kernel
theorem d_Model_last_94 : decode b_Model_last 94 = .ok (.aload_n 0, 1) := by decide +kernel
theorem d_Model_last_95 : decode b_Model_last 95 = .ok (.getfield 23, 3) := by decide +kernel
theorem d_Model_last_98 : decode b_Model_last 98 = .ok (.iload 5, 2) := by decide +kernel
theorem d_Model_last_100 : decode b_Model_last 100 = .ok (.iaload, 1) := by decide +kernel
theorem d_Model_last_101 : decode b_Model_last 101 = .ok (.aload_n 0, 1) := by decide +kernel
theorem d_Model_last_102 : decode b_Model_last 102 = .ok (.getfield 23, 3) := by decide +kernel
theorem d_Model_last_105 : decode b_Model_last 105 = .ok (.iload 4, 2) := by decide +kernel
theorem d_Model_last_107 : decode b_Model_last 107 = .ok (.iaload, 1) := by decide +kernel
theorem d_Model_last_108 : decode b_Model_last 108 = .ok (.if_icmp .le 7, 3) := by decide +kernel
theorem d_Model_last_111 : decode b_Model_last 111 = .ok (.iconst 1, 1) := by decide +kernel
theorem d_Model_last_112 : decode b_Model_last 112 = .ok (.goto 4, 3) := by decide +kernel
theorem d_Model_last_115 : decode b_Model_last 115 = .ok (.iconst 0, 1) := by decide +kernel
theorem d_Model_last_116 : decode b_Model_last 116 = .ok (.istore 6, 2) := by decide +kernel
theorem d_Model_last_118 : decode b_Model_last 118 = .ok (.iload 6, 2) := by decide +kernel
theorem d_Model_last_120 : decode b_Model_last 120 = .ok (.ifCond .eq 8, 3) := by decide +kernel
theorem d_Model_last_123 : decode b_Model_last 123 = .ok (.iload 5, 2) := by decide +kernel
theorem d_Model_last_125 : decode b_Model_last 125 = .ok (.goto 5, 3) := by decide +kernel
theorem d_Model_last_128 : decode b_Model_last 128 = .ok (.iload 4, 2) := by decide +kernel
theorem d_Model_last_130 : decode b_Model_last 130 = .ok (.istore 4, 2) := by decide +kernel
theorem d_Model_last_132 : decode b_Model_last 132 = .ok (.iinc 5 1, 3) := by decide +kernel
theorem d_Model_last_135 : decode b_Model_last 135 = .ok (.goto (-129), 3) := by decide +kernel
theorem d_Model_last_138 : decode b_Model_last 138 = .ok (.iload 4, 2) := by decide +kernel
theorem d_Model_last_140 : decode b_Model_last 140 = .ok (.ifCond .ge 9, 3) := by decide +kernel
theorem d_Model_last_143 : decode b_Model_last 143 = .ok (.ldc2_w 124, 3) := by decide +kernel
theorem d_Model_last_146 : decode b_Model_last 146 = .ok (.goto 10, 3) := by decide +kernel
theorem d_Model_last_149 : decode b_Model_last 149 = .ok (.aload_n 0, 1) := by decide +kernel
theorem d_Model_last_150 : decode b_Model_last 150 = .ok (.getfield 32, 3) := by decide +kernel
theorem d_Model_last_153 : decode b_Model_last 153 = .ok (.iload 4, 2) := by decide +kernel
theorem d_Model_last_155 : decode b_Model_last 155 = .ok (.laload, 1) := by decide +kernel
theorem d_Model_last_156 : decode b_Model_last 156 = .ok (.lreturn, 1) := by decide +kernel
theorem d_Model_isLater_0 : decode b_Model_isLater 0 = .ok (.aload_n 0, 1) := by decide +kernel
theorem d_Model_isLater_1 : decode b_Model_isLater 1 = .ok (.getfield 29, 3) := by decide +kernel
theorem d_Model_isLater_4 : decode b_Model_isLater 4 = .ok (.iload_n 1, 1) := by decide +kernel
theorem d_Model_isLater_5 : decode b_Model_isLater 5 = .ok (.iaload, 1) := by decide +kernel
theorem d_Model_isLater_6 : decode b_Model_isLater 6 = .ok (.aload_n 0, 1) := by decide +kernel
theorem d_Model_isLater_7 : decode b_Model_isLater 7 = .ok (.getfield 29, 3) := by decide +kernel
theorem d_Model_isLater_10 : decode b_Model_isLater 10 = .ok (.iload_n 2, 1) := by decide +kernel
theorem d_Model_isLater_11 : decode b_Model_isLater 11 = .ok (.iaload, 1) := by decide +kernel
theorem d_Model_isLater_12 : decode b_Model_isLater 12 = .ok (.if_icmp .eq 24, 3) := by decide +kernel
theorem d_Model_isLater_15 : decode b_Model_isLater 15 = .ok (.aload_n 0, 1) := by decide +kernel
theorem d_Model_isLater_16 : decode b_Model_isLater 16 = .ok (.getfield 29, 3) := by decide +kernel
theorem d_Model_isLater_19 : decode b_Model_isLater 19 = .ok (.iload_n 1, 1) := by decide +kernel
theorem d_Model_isLater_20 : decode b_Model_isLater 20 = .ok (.iaload, 1) := by decide +kernel
theorem d_Model_isLater_21 : decode b_Model_isLater 21 = .ok (.aload_n 0, 1) := by decide +kernel
theorem d_Model_isLater_22 : decode b_Model_isLater 22 = .ok (.getfield 29, 3) := by decide +kernel
theorem d_Model_isLater_25 : decode b_Model_isLater 25 = .ok (.iload_n 2, 1) := by decide +kernel
theorem d_Model_isLater_26 : decode b_Model_isLater 26 = .ok (.iaload, 1) := by decide +kernel
theorem d_Model_isLater_27 : decode b_Model_isLater 27 = .ok (.if_icmp .le 7, 3) := by decide +kernel
theorem d_Model_isLater_30 : decode b_Model_isLater 30 = .ok (.iconst 1, 1) := by decide +kernel
theorem d_Model_isLater_31 : decode b_Model_isLater 31 = .ok (.goto 4, 3) := by decide +kernel
theorem d_Model_isLater_34 : decode b_Model_isLater 34 = .ok (.iconst 0, 1) := by decide +kernel
theorem d_Model_isLater_35 : decode b_Model_isLater 35 = .ok (.ireturn, 1) := by decide +kernel
theorem d_Model_isLater_36 : decode b_Model_isLater 36 = .ok (.aload_n 0, 1) := by decide +kernel
theorem d_Model_isLater_37 : decode b_Model_isLater 37 = .ok (.getfield 20, 3) := by decide +kernel
theorem d_Model_isLater_40 : decode b_Model_isLater 40 = .ok (.iload_n 1, 1) := by decide +kernel
theorem d_Model_isLater_41 : decode b_Model_isLater 41 = .ok (.iaload, 1) := by decide +kernel
theorem d_Model_isLater_42 : decode b_Model_isLater 42 = .ok (.aload_n 0, 1) := by decide +kernel
theorem d_Model_isLater_43 : decode b_Model_isLater 43 = .ok (.getfield 20, 3) := by decide +kernel
theorem d_Model_isLater_46 : decode b_Model_isLater 46 = .ok (.iload_n 2, 1) := by decide +kernel
theorem d_Model_isLater_47 : decode b_Model_isLater 47 = .ok (.iaload, 1) := by decide +kernel
theorem d_Model_isLater_48 : decode b_Model_isLater 48 = .ok (.if_icmp .eq 26, 3) := by decide +kernel
theorem d_Model_isLater_51 : decode b_Model_isLater 51 = .ok (.aload_n 0, 1) := by decide +kernel
theorem d_Model_isLater_52 : decode b_Model_isLater 52 = .ok (.getfield 20, 3) := by decide +kernel
theorem d_Model_isLater_55 : decode b_Model_isLater 55 = .ok (.iload_n 1, 1) := by decide +kernel
theorem d_Model_isLater_56 : decode b_Model_isLater 56 = .ok (.iaload, 1) := by decide +kernel
theorem d_Model_isLater_57 : decode b_Model_isLater 57 = .ok (.aload_n 0, 1) := by decide +kernel
theorem d_Model_isLater_58 : decode b_Model_isLater 58 = .ok (.getfield 20, 3) := by decide +kernel
theorem d_Model_isLater_61 : decode b_Model_isLater 61 = .ok (.iload_n 2, 1) := by decide +kernel
theorem d_Model_isLater_62 : decode b_Model_isLater 62 = .ok (.iaload, 1) := by decide +kernel
theorem d_Model_isLater_63 : decode b_Model_isLater 63 = .ok (.if_icmp .le 7, 3) := by decide +kernel
theorem d_Model_isLater_66 : decode b_Model_isLater 66 = .ok (.iconst 1, 1) := by decide +kernel
theorem d_Model_isLater_67 : decode b_Model_isLater 67 = .ok (.goto 27, 3) := by decide +kernel
theorem d_Model_isLater_70 : decode b_Model_isLater 70 = .ok (.iconst 0, 1) := by decide +kernel
theorem d_Model_isLater_71 : decode b_Model_isLater 71 = .ok (.goto 23, 3) := by decide +kernel
theorem d_Model_isLater_74 : decode b_Model_isLater 74 = .ok (.aload_n 0, 1) := by decide +kernel
theorem d_Model_isLater_75 : decode b_Model_isLater 75 = .ok (.getfield 23, 3) := by decide +kernel
theorem d_Model_isLater_78 : decode b_Model_isLater 78 = .ok (.iload_n 1, 1) := by decide +kernel
theorem d_Model_isLater_79 : decode b_Model_isLater 79 = .ok (.iaload, 1) := by decide +kernel
theorem d_Model_isLater_80 : decode b_Model_isLater 80 = .ok (.aload_n 0, 1) := by decide +kernel
theorem d_Model_isLater_81 : decode b_Model_isLater 81 = .ok (.getfield 23, 3) := by decide +kernel
theorem d_Model_isLater_84 : decode b_Model_isLater 84 = .ok (.iload_n 2, 1) := by decide +kernel
theorem d_Model_isLater_85 : decode b_Model_isLater 85 = .ok (.iaload, 1) := by decide +kernel
theorem d_Model_isLater_86 : decode b_Model_isLater 86 = .ok (.if_icmp .le 7, 3) := by decide +kernel
theorem d_Model_isLater_89 : decode b_Model_isLater 89 = .ok (.iconst 1, 1) := by decide +kernel
theorem d_Model_isLater_90 : decode b_Model_isLater 90 = .ok (.goto 4, 3) := by decide +kernel
theorem d_Model_isLater_93 : decode b_Model_isLater 93 = .ok (.iconst 0, 1) := by decide +kernel
theorem d_Model_isLater_94 : decode b_Model_isLater 94 = .ok (.ireturn, 1) := by decide +kernel
theorem d_Model_known_0 : decode b_Model_known 0 = .ok (.iconst (-1), 1) := by decide +kernel
theorem d_Model_known_1 : decode b_Model_known 1 = .ok (.istore 8, 2) := by decide +kernel
theorem d_Model_known_3 : decode b_Model_known 3 = .ok (.iconst 0, 1) := by decide +kernel
theorem d_Model_known_4 : decode b_Model_known 4 = .ok (.istore 9, 2) := by decide +kernel
theorem d_Model_known_6 : decode b_Model_known 6 = .ok (.iload 9, 2) := by decide +kernel
theorem d_Model_known_8 : decode b_Model_known 8 = .ok (.aload_n 0, 1) := by decide +kernel
theorem d_Model_known_9 : decode b_Model_known 9 = .ok (.getfield 89, 3) := by decide +kernel
theorem d_Model_known_12 : decode b_Model_known 12 = .ok (.if_icmp .ge 114, 3) := by decide +kernel
theorem d_Model_known_15 : decode b_Model_known 15 = .ok (.aload_n 0, 1) := by decide +kernel
theorem d_Model_known_16 : decode b_Model_known 16 = .ok (.iload_n 1, 1) := by decide +kernel
theorem d_Model_known_17 : decode b_Model_known 17 = .ok (.invokevirtual 96, 3) := by decide +kernel
theorem d_Model_known_20 : decode b_Model_known 20 = .ok (.ifCond .eq 67, 3) := by decide +kernel
theorem d_Model_known_23 : decode b_Model_known 23 = .ok (.aload_n 0, 1) := by decide +kernel
theorem d_Model_known_24 : decode b_Model_known 24 = .ok (.getfield 17, 3) := by decide +kernel
theorem d_Model_known_27 : decode b_Model_known 27 = .ok (.iload 9, 2) := by decide +kernel
theorem d_Model_known_29 : decode b_Model_known 29 = .ok (.iaload, 1) := by decide +kernel
theorem d_Model_known_30 : decode b_Model_known 30 = .ok (.iload_n 2, 1) := by decide +kernel
theorem d_Model_known_31 : decode b_Model_known 31 = .ok (.if_icmp .ne 56, 3) := by decide +kernel
theorem d_Model_known_34 : decode b_Model_known 34 = .ok (.aload_n 0, 1) := by decide +kernel
theorem d_Model_known_35 : decode b_Model_known 35 = .ok (.getfield 26, 3) := by decide +kernel
theorem d_Model_known_38 : decode b_Model_known 38 = .ok (.iload 9, 2) := by decide +kernel
theorem d_Model_known_40 : decode b_Model_known 40 = .ok (.iaload, 1) := by decide +kernel
theorem d_Model_known_41 : decode b_Model_known 41 = .ok (.iload_n 3, 1) := by decide +kernel
theorem d_Model_known_42 : decode b_Model_known 42 = .ok (.if_icmp .ne 45, 3) := by decide +kernel
theorem d_Model_known_45 : decode b_Model_known 45 = .ok (.aload_n 0, 1) := by decide +kernel
theorem d_Model_known_46 : decode b_Model_known 46 = .ok (.getfield 29, 3) := by decide +kernel
theorem d_Model_known_49 : decode b_Model_known 49 = .ok (.iload 9, 2) := by decide +kernel
theorem d_Model_known_51 : decode b_Model_known 51 = .ok (.iaload, 1) := by decide +kernel
theorem d_Model_known_52 : decode b_Model_known 52 = .ok (.i2l, 1) := by decide +kernel
theorem d_Model_known_53 : decode b_Model_known 53 = .ok (.lload 4, 2) := by decide +kernel
theorem d_Model_known_55 : decode b_Model_known 55 = .ok (.lcmp, 1) := by decide +kernel
theorem d_Model_known_56 : decode b_Model_known 56 = .ok (.ifCond .gt 31, 3) := by decide +kernel
theorem d_Model_known_59 : decode b_Model_known 59 = .ok (.aload_n 0, 1) := by decide +kernel
theorem d_Model_known_60 : decode b_Model_known 60 = .ok (.getfield 35, 3) := by decide +kernel
theorem d_Model_known_63 : decode b_Model_known 63 = .ok (.iload 9, 2) := by decide +kernel
theorem d_Model_known_65 : decode b_Model_known 65 = .ok (.iaload, 1) := by decide +kernel
theorem d_Model_known_66 : decode b_Model_known 66 = .ok (.i2l, 1) := by decide +kernel
theorem d_Model_known_67 : decode b_Model_known 67 = .ok (.lload 6, 2) := by decide +kernel
theorem d_Model_known_69 : decode b_Model_known 69 = .ok (.lcmp, 1) := by decide +kernel
theorem d_Model_known_70 : decode b_Model_known 70 = .ok (.ifCond .gt 17, 3) := by decide +kernel
theorem d_Model_known_73 : decode b_Model_known 73 = .ok (.aload_n 0, 1) := by decide +kernel
theorem d_Model_known_74 : decode b_Model_known 74 = .ok (.iload_n 1, 1) := by decide +kernel
theorem d_Model_known_75 : decode b_Model_known 75 = .ok (.iload 9, 2) := by decide +kernel
theorem d_Model_known_77 : decode b_Model_known 77 = .ok (.invokevirtual 121, 3) := by decide +kernel
theorem d_Model_known_80 : decode b_Model_known 80 = .ok (.ifCond .eq 7, 3) := by decide +kernel
theorem d_Model_known_83 : decode b_Model_known 83 = .ok (.iconst 1, 1) := by decide +kernel
theorem d_Model_known_84 : decode b_Model_known 84 = .ok (.goto 4, 3) := by decide +kernel
theorem d_Model_known_87 : decode b_Model_known 87 = .ok (.iconst 0, 1) := by decide +kernel
theorem d_Model_known_88 : decode b_Model_known 88 = .ok (.istore 10, 2) := by decide +kernel
theorem d_Model_known_90 : decode b_Model_known 90 = .ok (.iload 10, 2) := by decide +kernel
theorem d_Model_known_92 : decode b_Model_known 92 = .ok (.ifCond .eq 24, 3) := by decide +kernel
theorem d_Model_known_95 : decode b_Model_known 95 = .ok (.iload 8, 2) := by decide +kernel
theorem d_Model_known_97 : decode b_Model_known 97 = .ok (.ifCond .lt 14, 3) := by decide +kernel
theorem d_Model_known_100 : decode b_Model_known 100 = .ok (.aload_n 0, 1) := by decide +kernel
theorem d_Model_known_101 : decode b_Model_known 101 = .ok (.iload 9, 2) := by decide +kernel
theorem d_Model_known_103 : decode b_Model_known 103 = .ok (.iload 8, 2) := by decide +kernel
theorem d_Model_known_105 : decode b_Model_known 105 = .ok (.invokevirtual 126, 3) := by decide +kernel
theorem d_Model_known_108 : decode b_Model_known 108 = .ok (.ifCond .eq 8, 3) := by decide +kernel
theorem d_Model_known_111 : decode b_Model_known 111 = .ok (.iload 9, 2) := by decide +kernel
theorem d_Model_known_113 : decode b_Model_known 113 = .ok (.goto 5, 3) := by decide +kernel
theorem d_Model_known_116 : decode b_Model_known 116 = .ok (.iload 8, 2) := by decide +kernel
theorem d_Model_known_118 : decode b_Model_known 118 = .ok (.istore 8, 2) := by decide +kernel
theorem d_Model_known_120 : decode b_Model_known 120 = .ok (.iinc 9 1, 3) := by decide +kernel
theorem d_Model_known_123 : decode b_Model_known 123 = .ok (.goto (-117), 3) := by decide +kernel
theorem d_Model_known_126 : decode b_Model_known 126 = .ok (.iload 8, 2) := by decide +kernel
theorem d_Model_known_128 : decode b_Model_known 128 = .ok (.ifCond .ge 7, 3) := by decide +kernel
theorem d_Model_known_131 : decode b_Model_known 131 = .ok (.ldc2_w 124, 3) := by decide +kernel
theorem d_Model_known_134 : decode b_Model_known 134 = .ok (.lreturn, 1) := by decide +kernel
theorem d_Model_known_135 : decode b_Model_known 135 = .ok (.iconst (-1), 1) := by decide +kernel
theorem d_Model_known_136 : decode b_Model_known 136 = .ok (.istore 9, 2) := by decide +kernel
theorem d_Model_known_138 : decode b_Model_known 138 = .ok (.iconst 0, 1) := by decide +kernel
theorem d_Model_known_139 : decode b_Model_known 139 = .ok (.istore 10, 2) := by decide +kernel
theorem d_Model_known_141 : decode b_Model_known 141 = .ok (.iload 10, 2) := by decide +kernel
theorem d_Model_known_143 : decode b_Model_known 143 = .ok (.aload_n 0, 1) := by decide +kernel
theorem d_Model_known_144 : decode b_Model_known 144 = .ok (.getfield 106, 3) := by decide +kernel
theorem d_Model_known_147 : decode b_Model_known 147 = .ok (.if_icmp .ge 212, 3) := by decide +kernel
theorem d_Model_known_150 : decode b_Model_known 150 = .ok (.aload_n 0, 1) := by decide +kernel
theorem d_Model_known_151 : decode b_Model_known 151 = .ok (.getfield 48, 3) := by decide +kernel
theorem d_Model_known_154 : decode b_Model_known 154 = .ok (.bipush 20, 2) := by decide +kernel
theorem d_Model_known_156 : decode b_Model_known 156 = .ok (.iload_n 1, 1) := by decide +kernel
theorem d_Model_known_157 : decode b_Model_known 157 = .ok (.imul, 1) := by decide +kernel
theorem d_Model_known_158 : decode b_Model_known 158 = .ok (.iload 10, 2) := by decide +kernel
theorem d_Model_known_160 : decode b_Model_known 160 = .ok (.iadd, 1) := by decide +kernel
theorem d_Model_known_161 : decode b_Model_known 161 = .ok (.baload, 1) := by decide +kernel
theorem d_Model_known_162 : decode b_Model_known 162 = .ok (.ifCond .eq 79, 3) := by decide +kernel
theorem d_Model_known_165 : decode b_Model_known 165 = .ok (.aload_n 0, 1) := by decide +kernel
theorem d_Model_known_166 : decode b_Model_known 166 = .ok (.getfield 38, 3) := by decide +kernel
theorem d_Model_known_169 : decode b_Model_known 169 = .ok (.iconst 5, 1) := by decide +kernel
theorem d_Model_known_170 : decode b_Model_known 170 = .ok (.iload 10, 2) := by decide +kernel
theorem d_Model_known_172 : decode b_Model_known 172 = .ok (.imul, 1) := by decide +kernel
theorem d_Model_known_173 : decode b_Model_known 173 = .ok (.laload, 1) := by decide +kernel
theorem d_Model_known_174 : decode b_Model_known 174 = .ok (.iload_n 2, 1) := by decide +kernel
theorem d_Model_known_175 : decode b_Model_known 175 = .ok (.i2l, 1) := by decide +kernel
theorem d_Model_known_176 : decode b_Model_known 176 = .ok (.lcmp, 1) := by decide +kernel
theorem d_Model_known_177 : decode b_Model_known 177 = .ok (.ifCond .ne 64, 3) := by decide +kernel
theorem d_Model_known_180 : decode b_Model_known 180 = .ok (.aload_n 0, 1) := by decide +kernel
theorem d_Model_known_181 : decode b_Model_known 181 = .ok (.getfield 38, 3) := by decide +kernel
theorem d_Model_known_184 : decode b_Model_known 184 = .ok (.iconst 5, 1) := by decide +kernel
theorem d_Model_known_185 : decode b_Model_known 185 = .ok (.iload 10, 2) := by decide +kernel
theorem d_Model_known_187 : decode b_Model_known 187 = .ok (.imul, 1) := by decide +kernel
theorem d_Model_known_188 : decode b_Model_known 188 = .ok (.iconst 1, 1) := by decide +kernel
theorem d_Model_known_189 : decode b_Model_known 189 = .ok (.iadd, 1) := by decide +kernel
theorem d_Model_known_190 : decode b_Model_known 190 = .ok (.laload, 1) := by decide +kernel
theorem d_Model_known_191 : decode b_Model_known 191 = .ok (.iload_n 3, 1) := by decide +kernel
theorem d_Model_known_192 : decode b_Model_known 192 = .ok (.i2l, 1) := by decide +kernel
theorem d_Model_known_193 : decode b_Model_known 193 = .ok (.lcmp, 1) := by decide +kernel
theorem d_Model_known_194 : decode b_Model_known 194 = .ok (.ifCond .ne 47, 3) := by decide +kernel
theorem d_Model_known_197 : decode b_Model_known 197 = .ok (.aload_n 0, 1) := by decide +kernel
theorem d_Model_known_198 : decode b_Model_known 198 = .ok (.getfield 38, 3) := by decide +kernel
theorem d_Model_known_201 : decode b_Model_known 201 = .ok (.iconst 5, 1) := by decide +kernel
theorem d_Model_known_202 : decode b_Model_known 202 = .ok (.iload 10, 2) := by decide +kernel
theorem d_Model_known_204 : decode b_Model_known 204 = .ok (.imul, 1) := by decide +kernel
theorem d_Model_known_205 : decode b_Model_known 205 = .ok (.iconst 2, 1) := by decide +kernel
theorem d_Model_known_206 : decode b_Model_known 206 = .ok (.iadd, 1) := by decide +kernel
theorem d_Model_known_207 : decode b_Model_known 207 = .ok (.laload, 1) := by decide +kernel
theorem d_Model_known_208 : decode b_Model_known 208 = .ok (.aload_n 0, 1) := by decide +kernel
theorem d_Model_known_209 : decode b_Model_known 209 = .ok (.getfield 29, 3) := by decide +kernel
theorem d_Model_known_212 : decode b_Model_known 212 = .ok (.iload 8, 2) := by decide +kernel
theorem d_Model_known_214 : decode b_Model_known 214 = .ok (.iaload, 1) := by decide +kernel
theorem d_Model_known_215 : decode b_Model_known 215 = .ok (.i2l, 1) := by decide +kernel
theorem d_Model_known_216 : decode b_Model_known 216 = .ok (.lcmp, 1) := by decide +kernel
theorem d_Model_known_217 : decode b_Model_known 217 = .ok (.ifCond .ne 24, 3) := by decide +kernel
theorem d_Model_known_220 : decode b_Model_known 220 = .ok (.aload_n 0, 1) := by decide +kernel
theorem d_Model_known_221 : decode b_Model_known 221 = .ok (.getfield 38, 3) := by decide +kernel
theorem d_Model_known_224 : decode b_Model_known 224 = .ok (.iconst 5, 1) := by decide +kernel
theorem d_Model_known_225 : decode b_Model_known 225 = .ok (.iload 10, 2) := by decide +kernel
theorem d_Model_known_227 : decode b_Model_known 227 = .ok (.imul, 1) := by decide +kernel
theorem d_Model_known_228 : decode b_Model_known 228 = .ok (.iconst 4, 1) := by decide +kernel
theorem d_Model_known_229 : decode b_Model_known 229 = .ok (.iadd, 1) := by decide +kernel
theorem d_Model_known_230 : decode b_Model_known 230 = .ok (.laload, 1) := by decide +kernel
theorem d_Model_known_231 : decode b_Model_known 231 = .ok (.lload 6, 2) := by decide +kernel
theorem d_Model_known_233 : decode b_Model_known 233 = .ok (.lcmp, 1) := by decide +kernel
theorem d_Model_known_234 : decode b_Model_known 234 = .ok (.ifCond .gt 7, 3) := by decide +kernel
theorem d_Model_known_237 : decode b_Model_known 237 = .ok (.iconst 1, 1) := by decide +kernel
theorem d_Model_known_238 : decode b_Model_known 238 = .ok (.goto 4, 3) := by decide +kernel
theorem d_Model_known_241 : decode b_Model_known 241 = .ok (.iconst 0, 1) := by decide +kernel
theorem d_Model_known_242 : decode b_Model_known 242 = .ok (.istore 11, 2) := by decide +kernel
theorem d_Model_known_244 : decode b_Model_known 244 = .ok (.iload 9, 2) := by decide +kernel
theorem d_Model_known_246 : decode b_Model_known 246 = .ok (.ifCond .lt 81, 3) := by decide +kernel
theorem d_Model_known_249 : decode b_Model_known 249 = .ok (.aload_n 0, 1) := by decide +kernel
theorem d_Model_known_250 : decode b_Model_known 250 = .ok (.getfield 38, 3) := by decide +kernel
theorem d_Model_known_253 : decode b_Model_known 253 = .ok (.iconst 5, 1) := by decide +kernel
theorem d_Model_known_254 : decode b_Model_known 254 = .ok (.iload 10, 2) := by decide +kernel
theorem d_Model_known_256 : decode b_Model_known 256 = .ok (.imul, 1) := by decide +kernel
theorem d_Model_known_257 : decode b_Model_known 257 = .ok (.iconst 4, 1) := by decide +kernel
theorem d_Model_known_258 : decode b_Model_known 258 = .ok (.iadd, 1) := by decide +kernel
theorem d_Model_known_259 : decode b_Model_known 259 = .ok (.laload, 1) := by decide +kernel
theorem d_Model_known_260 : decode b_Model_known 260 = .ok (.aload_n 0, 1) := by decide +kernel
theorem d_Model_known_261 : decode b_Model_known 261 = .ok (.getfield 38, 3) := by decide +kernel
theorem d_Model_known_264 : decode b_Model_known 264 = .ok (.iconst 5, 1) := by decide +kernel
theorem d_Model_known_265 : decode b_Model_known 265 = .ok (.iload 9, 2) := by decide +kernel
theorem d_Model_known_267 : decode b_Model_known 267 = .ok (.imul, 1) := by decide +kernel
theorem d_Model_known_268 : decode b_Model_known 268 = .ok (.iconst 4, 1) := by decide +kernel
theorem d_Model_known_269 : decode b_Model_known 269 = .ok (.iadd, 1) := by decide +kernel
theorem d_Model_known_270 : decode b_Model_known 270 = .ok (.laload, 1) := by decide +kernel
theorem d_Model_known_271 : decode b_Model_known 271 = .ok (.lcmp, 1) := by decide +kernel
theorem d_Model_known_272 : decode b_Model_known 272 = .ok (.ifCond .gt 55, 3) := by decide +kernel
theorem d_Model_known_275 : decode b_Model_known 275 = .ok (.aload_n 0, 1) := by decide +kernel
theorem d_Model_known_276 : decode b_Model_known 276 = .ok (.getfield 38, 3) := by decide +kernel
theorem d_Model_known_279 : decode b_Model_known 279 = .ok (.iconst 5, 1) := by decide +kernel
theorem d_Model_known_280 : decode b_Model_known 280 = .ok (.iload 10, 2) := by decide +kernel
theorem d_Model_known_282 : decode b_Model_known 282 = .ok (.imul, 1) := by decide +kernel
theorem d_Model_known_283 : decode b_Model_known 283 = .ok (.iconst 4, 1) := by decide +kernel
theorem d_Model_known_284 : decode b_Model_known 284 = .ok (.iadd, 1) := by decide +kernel
theorem d_Model_known_285 : decode b_Model_known 285 = .ok (.laload, 1) := by decide +kernel
theorem d_Model_known_286 : decode b_Model_known 286 = .ok (.aload_n 0, 1) := by decide +kernel
theorem d_Model_known_287 : decode b_Model_known 287 = .ok (.getfield 38, 3) := by decide +kernel
theorem d_Model_known_290 : decode b_Model_known 290 = .ok (.iconst 5, 1) := by decide +kernel
theorem d_Model_known_291 : decode b_Model_known 291 = .ok (.iload 9, 2) := by decide +kernel
theorem d_Model_known_293 : decode b_Model_known 293 = .ok (.imul, 1) := by decide +kernel
theorem d_Model_known_294 : decode b_Model_known 294 = .ok (.iconst 4, 1) := by decide +kernel
theorem d_Model_known_295 : decode b_Model_known 295 = .ok (.iadd, 1) := by decide +kernel
theorem d_Model_known_296 : decode b_Model_known 296 = .ok (.laload, 1) := by decide +kernel
theorem d_Model_known_297 : decode b_Model_known 297 = .ok (.lcmp, 1) := by decide +kernel
theorem d_Model_known_298 : decode b_Model_known 298 = .ok (.ifCond .ne 33, 3) := by decide +kernel
theorem d_Model_known_301 : decode b_Model_known 301 = .ok (.aload_n 0, 1) := by decide +kernel
theorem d_Model_known_302 : decode b_Model_known 302 = .ok (.getfield 38, 3) := by decide +kernel
theorem d_Model_known_305 : decode b_Model_known 305 = .ok (.iconst 5, 1) := by decide +kernel
theorem d_Model_known_306 : decode b_Model_known 306 = .ok (.iload 10, 2) := by decide +kernel
theorem d_Model_known_308 : decode b_Model_known 308 = .ok (.imul, 1) := by decide +kernel
theorem d_Model_known_309 : decode b_Model_known 309 = .ok (.iconst 3, 1) := by decide +kernel
theorem d_Model_known_310 : decode b_Model_known 310 = .ok (.iadd, 1) := by decide +kernel
theorem d_Model_known_311 : decode b_Model_known 311 = .ok (.laload, 1) := by decide +kernel
theorem d_Model_known_312 : decode b_Model_known 312 = .ok (.aload_n 0, 1) := by decide +kernel
theorem d_Model_known_313 : decode b_Model_known 313 = .ok (.getfield 38, 3) := by decide +kernel
theorem d_Model_known_316 : decode b_Model_known 316 = .ok (.iconst 5, 1) := by decide +kernel
theorem d_Model_known_317 : decode b_Model_known 317 = .ok (.iload 9, 2) := by decide +kernel
theorem d_Model_known_319 : decode b_Model_known 319 = .ok (.imul, 1) := by decide +kernel
theorem d_Model_known_320 : decode b_Model_known 320 = .ok (.iconst 3, 1) := by decide +kernel
theorem d_Model_known_321 : decode b_Model_known 321 = .ok (.iadd, 1) := by decide +kernel
theorem d_Model_known_322 : decode b_Model_known 322 = .ok (.laload, 1) := by decide +kernel
theorem d_Model_known_323 : decode b_Model_known 323 = .ok (.lcmp, 1) := by decide +kernel
theorem d_Model_known_324 : decode b_Model_known 324 = .ok (.ifCond .le 7, 3) := by decide +kernel
theorem d_Model_known_327 : decode b_Model_known 327 = .ok (.iconst 1, 1) := by decide +kernel
theorem d_Model_known_328 : decode b_Model_known 328 = .ok (.goto 4, 3) := by decide +kernel
theorem d_Model_known_331 : decode b_Model_known 331 = .ok (.iconst 0, 1) := by decide +kernel
theorem d_Model_known_332 : decode b_Model_known 332 = .ok (.istore 12, 2) := by decide +kernel
theorem d_Model_known_334 : decode b_Model_known 334 = .ok (.iload 11, 2) := by decide +kernel
theorem d_Model_known_336 : decode b_Model_known 336 = .ok (.ifCond .eq 13, 3) := by decide +kernel
theorem d_Model_known_339 : decode b_Model_known 339 = .ok (.iload 12, 2) := by decide +kernel
theorem d_Model_known_341 : decode b_Model_known 341 = .ok (.ifCond .eq 8, 3) := by decide +kernel
theorem d_Model_known_344 : decode b_Model_known 344 = .ok (.iload 10, 2) := by decide +kernel
theorem d_Model_known_346 : decode b_Model_known 346 = .ok (.goto 5, 3) := by decide +kernel
theorem d_Model_known_349 : decode b_Model_known 349 = .ok (.iload 9, 2) := by decide +kernel
theorem d_Model_known_351 : decode b_Model_known 351 = .ok (.istore 9, 2) := by decide +kernel
theorem d_Model_known_353 : decode b_Model_known 353 = .ok (.iinc 10 1, 3) := by decide +kernel
theorem d_Model_known_356 : decode b_Model_known 356 = .ok (.goto (-215), 3) := by decide +kernel
theorem d_Model_known_359 : decode b_Model_known 359 = .ok (.iload 9, 2) := by decide +kernel
theorem d_Model_known_361 : decode b_Model_known 361 = .ok (.ifCond .ge 13, 3) := by decide +kernel
theorem d_Model_known_364 : decode b_Model_known 364 = .ok (.aload_n 0, 1) := by decide +kernel
theorem d_Model_known_365 : decode b_Model_known 365 = .ok (.getfield 32, 3) := by decide +kernel
theorem d_Model_known_368 : decode b_Model_known 368 = .ok (.iload 8, 2) := by decide +kernel
theorem d_Model_known_370 : decode b_Model_known 370 = .ok (.laload, 1) := by decide +kernel
theorem d_Model_known_371 : decode b_Model_known 371 = .ok (.goto 14, 3) := by decide +kernel
theorem d_Model_known_374 : decode b_Model_known 374 = .ok (.aload_n 0, 1) := by decide +kernel
theorem d_Model_known_375 : decode b_Model_known 375 = .ok (.getfield 38, 3) := by decide +kernel
theorem d_Model_known_378 : decode b_Model_known 378 = .ok (.iconst 5, 1) := by decide +kernel
theorem d_Model_known_379 : decode b_Model_known 379 = .ok (.iload 9, 2) := by decide +kernel
theorem d_Model_known_381 : decode b_Model_known 381 = .ok (.imul, 1) := by decide +kernel
theorem d_Model_known_382 : decode b_Model_known 382 = .ok (.iconst 3, 1) := by decide +kernel
theorem d_Model_known_383 : decode b_Model_known 383 = .ok (.iadd, 1) := by decide +kernel
theorem d_Model_known_384 : decode b_Model_known 384 = .ok (.laload, 1) := by decide +kernel
theorem d_Model_known_385 : decode b_Model_known 385 = .ok (.lreturn, 1) := by decide +kernel
theorem d_Model_gap_0 : decode b_Model_gap 0 = .ok (.aload_n 0, 1) := by decide +kernel
theorem d_Model_gap_1 : decode b_Model_gap 1 = .ok (.iload_n 1, 1) := by decide +kernel
theorem d_Model_gap_2 : decode b_Model_gap 2 = .ok (.invokevirtual 96, 3) := by decide +kernel
theorem d_Model_gap_5 : decode b_Model_gap 5 = .ok (.ifCond .eq 7, 3) := by decide +kernel
theorem d_Model_gap_8 : decode b_Model_gap 8 = .ok (.iload_n 3, 1) := by decide +kernel
theorem d_Model_gap_9 : decode b_Model_gap 9 = .ok (.ifCond .ge 5, 3) := by decide +kernel
theorem d_Model_gap_12 : decode b_Model_gap 12 = .ok (.iconst (-1), 1) := by decide +kernel
theorem d_Model_gap_13 : decode b_Model_gap 13 = .ok (.ireturn, 1) := by decide +kernel
theorem d_Model_gap_14 : decode b_Model_gap 14 = .ok (.iconst (-1), 1) := by decide +kernel
theorem d_Model_gap_15 : decode b_Model_gap 15 = .ok (.istore 4, 2) := by decide +kernel
theorem d_Model_gap_17 : decode b_Model_gap 17 = .ok (.iconst 0, 1) := by decide +kernel
theorem d_Model_gap_18 : decode b_Model_gap 18 = .ok (.istore 5, 2) := by decide +kernel
theorem d_Model_gap_20 : decode b_Model_gap 20 = .ok (.iload 5, 2) := by decide +kernel
theorem d_Model_gap_22 : decode b_Model_gap 22 = .ok (.aload_n 0, 1) := by decide +kernel
theorem d_Model_gap_23 : decode b_Model_gap 23 = .ok (.getfield 89, 3) := by decide +kernel
theorem d_Model_gap_26 : decode b_Model_gap 26 = .ok (.if_icmp .ge 73, 3) := by decide +kernel
theorem d_Model_gap_29 : decode b_Model_gap 29 = .ok (.aload_n 0, 1) := by decide +kernel
theorem d_Model_gap_30 : decode b_Model_gap 30 = .ok (.getfield 41, 3) := by decide +kernel
theorem d_Model_gap_33 : decode b_Model_gap 33 = .ok (.bipush 60, 2) := by decide +kernel
theorem d_Model_gap_35 : decode b_Model_gap 35 = .ok (.iload_n 1, 1) := by decide +kernel
theorem d_Model_gap_36 : decode b_Model_gap 36 = .ok (.imul, 1) := by decide +kernel
theorem d_Model_gap_37 : decode b_Model_gap 37 = .ok (.iload 5, 2) := by decide +kernel
theorem d_Model_gap_39 : decode b_Model_gap 39 = .ok (.iadd, 1) := by decide +kernel
theorem d_Model_gap_40 : decode b_Model_gap 40 = .ok (.baload, 1) := by decide +kernel
theorem d_Model_gap_41 : decode b_Model_gap 41 = .ok (.ifCond .eq 18, 3) := by decide +kernel
theorem d_Model_gap_44 : decode b_Model_gap 44 = .ok (.aload_n 0, 1) := by decide +kernel
theorem d_Model_gap_45 : decode b_Model_gap 45 = .ok (.getfield 17, 3) := by decide +kernel
theorem d_Model_gap_48 : decode b_Model_gap 48 = .ok (.iload 5, 2) := by decide +kernel
theorem d_Model_gap_50 : decode b_Model_gap 50 = .ok (.iaload, 1) := by decide +kernel
theorem d_Model_gap_51 : decode b_Model_gap 51 = .ok (.iload_n 2, 1) := by decide +kernel
theorem d_Model_gap_52 : decode b_Model_gap 52 = .ok (.if_icmp .ne 7, 3) := by decide +kernel
theorem d_Model_gap_55 : decode b_Model_gap 55 = .ok (.iconst 1, 1) := by decide +kernel
theorem d_Model_gap_56 : decode b_Model_gap 56 = .ok (.goto 4, 3) := by decide +kernel
theorem d_Model_gap_59 : decode b_Model_gap 59 = .ok (.iconst 0, 1) := by decide +kernel
theorem d_Model_gap_60 : decode b_Model_gap 60 = .ok (.istore 6, 2) := by decide +kernel
theorem d_Model_gap_62 : decode b_Model_gap 62 = .ok (.iload 6, 2) := by decide +kernel
theorem d_Model_gap_64 : decode b_Model_gap 64 = .ok (.ifCond .eq 25, 3) := by decide +kernel
theorem d_Model_gap_67 : decode b_Model_gap 67 = .ok (.aload_n 0, 1) := by decide +kernel
theorem d_Model_gap_68 : decode b_Model_gap 68 = .ok (.getfield 20, 3) := by decide +kernel
theorem d_Model_gap_71 : decode b_Model_gap 71 = .ok (.iload 5, 2) := by decide +kernel
theorem d_Model_gap_73 : decode b_Model_gap 73 = .ok (.iaload, 1) := by decide +kernel
theorem d_Model_gap_74 : decode b_Model_gap 74 = .ok (.iload 4, 2) := by decide +kernel
theorem d_Model_gap_76 : decode b_Model_gap 76 = .ok (.if_icmp .le 13, 3) := by decide +kernel
theorem d_Model_gap_79 : decode b_Model_gap 79 = .ok (.aload_n 0, 1) := by decide +kernel
theorem d_Model_gap_80 : decode b_Model_gap 80 = .ok (.getfield 20, 3) := by decide +kernel
theorem d_Model_gap_83 : decode b_Model_gap 83 = .ok (.iload 5, 2) := by decide +kernel
theorem d_Model_gap_85 : decode b_Model_gap 85 = .ok (.iaload, 1) := by decide +kernel
theorem d_Model_gap_86 : decode b_Model_gap 86 = .ok (.goto 5, 3) := by decide +kernel
theorem d_Model_gap_89 : decode b_Model_gap 89 = .ok (.iload 4, 2) := by decide +kernel
theorem d_Model_gap_91 : decode b_Model_gap 91 = .ok (.istore 4, 2) := by decide +kernel
theorem d_Model_gap_93 : decode b_Model_gap 93 = .ok (.iinc 5 1, 3) := by decide +kernel
theorem d_Model_gap_96 : decode b_Model_gap 96 = .ok (.goto (-76), 3) := by decide +kernel
theorem d_Model_gap_99 : decode b_Model_gap 99 = .ok (.iload_n 3, 1) := by decide +kernel
theorem d_Model_gap_100 : decode b_Model_gap 100 = .ok (.istore 5, 2) := by decide +kernel
theorem d_Model_gap_102 : decode b_Model_gap 102 = .ok (.iconst (-1), 1) := by decide +kernel
theorem d_Model_gap_103 : decode b_Model_gap 103 = .ok (.istore 6, 2) := by decide +kernel
theorem d_Model_gap_105 : decode b_Model_gap 105 = .ok (.aload_n 0, 1) := by decide +kernel
theorem d_Model_gap_106 : decode b_Model_gap 106 = .ok (.iload_n 1, 1) := by decide +kernel
theorem d_Model_gap_107 : decode b_Model_gap 107 = .ok (.iload_n 2, 1) := by decide +kernel
theorem d_Model_gap_108 : decode b_Model_gap 108 = .ok (.iload 4, 2) := by decide +kernel
theorem d_Model_gap_110 : decode b_Model_gap 110 = .ok (.iconst (-1), 1) := by decide +kernel
theorem d_Model_gap_111 : decode b_Model_gap 111 = .ok (.invokevirtual 129, 3) := by decide +kernel
theorem d_Model_gap_114 : decode b_Model_gap 114 = .ok (.istore 7, 2) := by decide +kernel
theorem d_Model_gap_116 : decode b_Model_gap 116 = .ok (.iload 7, 2) := by decide +kernel
theorem d_Model_gap_118 : decode b_Model_gap 118 = .ok (.ifCond .lt 62, 3) := by decide +kernel
theorem d_Model_gap_121 : decode b_Model_gap 121 = .ok (.iload 6, 2) := by decide +kernel
theorem d_Model_gap_123 : decode b_Model_gap 123 = .ok (.ifCond .ge 7, 3) := by decide +kernel
theorem d_Model_gap_126 : decode b_Model_gap 126 = .ok (.iconst 0, 1) := by decide +kernel
theorem d_Model_gap_127 : decode b_Model_gap 127 = .ok (.goto 10, 3) := by decide +kernel
theorem d_Model_gap_130 : decode b_Model_gap 130 = .ok (.iload 7, 2) := by decide +kernel
theorem d_Model_gap_132 : decode b_Model_gap 132 = .ok (.iload 6, 2) := by decide +kernel
theorem d_Model_gap_134 : decode b_Model_gap 134 = .ok (.isub, 1) := by decide +kernel
theorem d_Model_gap_135 : decode b_Model_gap 135 = .ok (.iconst 1, 1) := by decide +kernel
theorem d_Model_gap_136 : decode b_Model_gap 136 = .ok (.isub, 1) := by decide +kernel
theorem d_Model_gap_137 : decode b_Model_gap 137 = .ok (.istore 8, 2) := by decide +kernel
theorem d_Model_gap_139 : decode b_Model_gap 139 = .ok (.iload 5, 2) := by decide +kernel
theorem d_Model_gap_141 : decode b_Model_gap 141 = .ok (.iload 8, 2) := by decide +kernel
theorem d_Model_gap_143 : decode b_Model_gap 143 = .ok (.if_icmp .ge 11, 3) := by decide +kernel
theorem d_Model_gap_146 : decode b_Model_gap 146 = .ok (.iload 6, 2) := by decide +kernel
theorem d_Model_gap_148 : decode b_Model_gap 148 = .ok (.iconst 1, 1) := by decide +kernel
theorem d_Model_gap_149 : decode b_Model_gap 149 = .ok (.iadd, 1) := by decide +kernel
theorem d_Model_gap_150 : decode b_Model_gap 150 = .ok (.iload 5, 2) := by decide +kernel
theorem d_Model_gap_152 : decode b_Model_gap 152 = .ok (.iadd, 1) := by decide +kernel
theorem d_Model_gap_153 : decode b_Model_gap 153 = .ok (.ireturn, 1) := by decide +kernel
theorem d_Model_gap_154 : decode b_Model_gap 154 = .ok (.iload 5, 2) := by decide +kernel
theorem d_Model_gap_156 : decode b_Model_gap 156 = .ok (.iload 8, 2) := by decide +kernel
theorem d_Model_gap_158 : decode b_Model_gap 158 = .ok (.isub, 1) := by decide +kernel
theorem d_Model_gap_159 : decode b_Model_gap 159 = .ok (.istore 5, 2) := by decide +kernel
theorem d_Model_gap_161 : decode b_Model_gap 161 = .ok (.iload 7, 2) := by decide +kernel
theorem d_Model_gap_163 : decode b_Model_gap 163 = .ok (.istore 6, 2) := by decide +kernel
theorem d_Model_gap_165 : decode b_Model_gap 165 = .ok (.aload_n 0, 1) := by decide +kernel
theorem d_Model_gap_166 : decode b_Model_gap 166 = .ok (.iload_n 1, 1) := by decide +kernel
theorem d_Model_gap_167 : decode b_Model_gap 167 = .ok (.iload_n 2, 1) := by decide +kernel
theorem d_Model_gap_168 : decode b_Model_gap 168 = .ok (.iload 4, 2) := by decide +kernel
theorem d_Model_gap_170 : decode b_Model_gap 170 = .ok (.iload 6, 2) := by decide +kernel
theorem d_Model_gap_172 : decode b_Model_gap 172 = .ok (.invokevirtual 129, 3) := by decide +kernel
theorem d_Model_gap_175 : decode b_Model_gap 175 = .ok (.istore 7, 2) := by decide +kernel
theorem d_Model_gap_177 : decode b_Model_gap 177 = .ok (.goto (-61), 3) := by decide +kernel
theorem d_Model_gap_180 : decode b_Model_gap 180 = .ok (.iconst (-1), 1) := by decide +kernel
theorem d_Model_gap_181 : decode b_Model_gap 181 = .ok (.ireturn, 1) := by decide +kernel
theorem d_Model_nextNumber_0 : decode b_Model_nextNumber 0 = .ok (.iconst (-1), 1) := by decide +kernel
theorem d_Model_nextNumber_1 : decode b_Model_nextNumber 1 = .ok (.istore 5, 2) := by decide +kernel
theorem d_Model_nextNumber_3 : decode b_Model_nextNumber 3 = .ok (.iconst 0, 1) := by decide +kernel
theorem d_Model_nextNumber_4 : decode b_Model_nextNumber 4 = .ok (.istore 6, 2) := by decide +kernel
theorem d_Model_nextNumber_6 : decode b_Model_nextNumber 6 = .ok (.iload 6, 2) := by decide +kernel
theorem d_Model_nextNumber_8 : decode b_Model_nextNumber 8 = .ok (.aload_n 0, 1) := by decide +kernel
theorem d_Model_nextNumber_9 : decode b_Model_nextNumber 9 = .ok (.getfield 89, 3) := by decide +kernel
theorem d_Model_nextNumber_12 : decode b_Model_nextNumber 12 = .ok (.if_icmp .ge 101, 3) := by decide +kernel
theorem d_Model_nextNumber_15 : decode b_Model_nextNumber 15 = .ok (.aload_n 0, 1) := by decide +kernel
theorem d_Model_nextNumber_16 : decode b_Model_nextNumber 16 = .ok (.getfield 41, 3) := by decide +kernel
theorem d_Model_nextNumber_19 : decode b_Model_nextNumber 19 = .ok (.bipush 60, 2) := by decide +kernel
theorem d_Model_nextNumber_21 : decode b_Model_nextNumber 21 = .ok (.iload_n 1, 1) := by decide +kernel
theorem d_Model_nextNumber_22 : decode b_Model_nextNumber 22 = .ok (.imul, 1) := by decide +kernel
theorem d_Model_nextNumber_23 : decode b_Model_nextNumber 23 = .ok (.iload 6, 2) := by decide +kernel
theorem d_Model_nextNumber_25 : decode b_Model_nextNumber 25 = .ok (.iadd, 1) := by decide +kernel
theorem d_Model_nextNumber_26 : decode b_Model_nextNumber 26 = .ok (.baload, 1) := by decide +kernel
theorem d_Model_nextNumber_27 : decode b_Model_nextNumber 27 = .ok (.ifCond .eq 41, 3) := by decide +kernel
theorem d_Model_nextNumber_30 : decode b_Model_nextNumber 30 = .ok (.aload_n 0, 1) := by decide +kernel
theorem d_Model_nextNumber_31 : decode b_Model_nextNumber 31 = .ok (.getfield 17, 3) := by decide +kernel
theorem d_Model_nextNumber_34 : decode b_Model_nextNumber 34 = .ok (.iload 6, 2) := by decide +kernel
theorem d_Model_nextNumber_36 : decode b_Model_nextNumber 36 = .ok (.iaload, 1) := by decide +kernel
theorem d_Model_nextNumber_37 : decode b_Model_nextNumber 37 = .ok (.iload_n 2, 1) := by decide +kernel
theorem d_Model_nextNumber_38 : decode b_Model_nextNumber 38 = .ok (.if_icmp .ne 30, 3) := by decide +kernel
theorem d_Model_nextNumber_41 : decode b_Model_nextNumber 41 = .ok (.aload_n 0, 1) := by decide +kernel
theorem d_Model_nextNumber_42 : decode b_Model_nextNumber 42 = .ok (.getfield 20, 3) := by decide +kernel
theorem d_Model_nextNumber_45 : decode b_Model_nextNumber 45 = .ok (.iload 6, 2) := by decide +kernel
theorem d_Model_nextNumber_47 : decode b_Model_nextNumber 47 = .ok (.iaload, 1) := by decide +kernel
theorem d_Model_nextNumber_48 : decode b_Model_nextNumber 48 = .ok (.iload_n 3, 1) := by decide +kernel
theorem d_Model_nextNumber_49 : decode b_Model_nextNumber 49 = .ok (.if_icmp .ne 19, 3) := by decide +kernel
theorem d_Model_nextNumber_52 : decode b_Model_nextNumber 52 = .ok (.aload_n 0, 1) := by decide +kernel
theorem d_Model_nextNumber_53 : decode b_Model_nextNumber 53 = .ok (.getfield 23, 3) := by decide +kernel
theorem d_Model_nextNumber_56 : decode b_Model_nextNumber 56 = .ok (.iload 6, 2) := by decide +kernel
theorem d_Model_nextNumber_58 : decode b_Model_nextNumber 58 = .ok (.iaload, 1) := by decide +kernel
theorem d_Model_nextNumber_59 : decode b_Model_nextNumber 59 = .ok (.iload 4, 2) := by decide +kernel
theorem d_Model_nextNumber_61 : decode b_Model_nextNumber 61 = .ok (.if_icmp .le 7, 3) := by decide +kernel
theorem d_Model_nextNumber_64 : decode b_Model_nextNumber 64 = .ok (.iconst 1, 1) := by decide +kernel
theorem d_Model_nextNumber_65 : decode b_Model_nextNumber 65 = .ok (.goto 4, 3) := by decide +kernel
theorem d_Model_nextNumber_68 : decode b_Model_nextNumber 68 = .ok (.iconst 0, 1) := by decide +kernel
theorem d_Model_nextNumber_69 : decode b_Model_nextNumber 69 = .ok (.istore 7, 2) := by decide +kernel
theorem d_Model_nextNumber_71 : decode b_Model_nextNumber 71 = .ok (.iload 7, 2) := by decide +kernel
theorem d_Model_nextNumber_73 : decode b_Model_nextNumber 73 = .ok (.ifCond .eq 30, 3) := by decide +kernel
theorem d_Model_nextNumber_76 : decode b_Model_nextNumber 76 = .ok (.iload 5, 2) := by decide +kernel
theorem d_Model_nextNumber_78 : decode b_Model_nextNumber 78 = .ok (.ifCond .lt 15, 3) := by decide +kernel
theorem d_Model_nextNumber_81 : decode b_Model_nextNumber 81 = .ok (.aload_n 0, 1) := by decide +kernel
theorem d_Model_nextNumber_82 : decode b_Model_nextNumber 82 = .ok (.getfield 23, 3) := by decide +kernel
theorem d_Model_nextNumber_85 : decode b_Model_nextNumber 85 = .ok (.iload 6, 2) := by decide +kernel
theorem d_Model_nextNumber_87 : decode b_Model_nextNumber 87 = .ok (.iaload, 1) := by decide +kernel
theorem d_Model_nextNumber_88 : decode b_Model_nextNumber 88 = .ok (.iload 5, 2) := by decide +kernel
theorem d_Model_nextNumber_90 : decode b_Model_nextNumber 90 = .ok (.if_icmp .ge 13, 3) := by decide +kernel
theorem d_Model_nextNumber_93 : decode b_Model_nextNumber 93 = .ok (.aload_n 0, 1) := by decide +kernel
theorem d_Model_nextNumber_94 : decode b_Model_nextNumber 94 = .ok (.getfield 23, 3) := by decide +kernel
theorem d_Model_nextNumber_97 : decode b_Model_nextNumber 97 = .ok (.iload 6, 2) := by decide +kernel
theorem d_Model_nextNumber_99 : decode b_Model_nextNumber 99 = .ok (.iaload, 1) := by decide +kernel
theorem d_Model_nextNumber_100 : decode b_Model_nextNumber 100 = .ok (.goto 5, 3) := by decide +kernel
theorem d_Model_nextNumber_103 : decode b_Model_nextNumber 103 = .ok (.iload 5, 2) := by decide +kernel
theorem d_Model_nextNumber_105 : decode b_Model_nextNumber 105 = .ok (.istore 5, 2) := by decide +kernel
theorem d_Model_nextNumber_107 : decode b_Model_nextNumber 107 = .ok (.iinc 6 1, 3) := by decide +kernel
theorem d_Model_nextNumber_110 : decode b_Model_nextNumber 110 = .ok (.goto (-104), 3) := by decide +kernel
theorem d_Model_nextNumber_113 : decode b_Model_nextNumber 113 = .ok (.iload 5, 2) := by decide +kernel
theorem d_Model_nextNumber_115 : decode b_Model_nextNumber 115 = .ok (.ireturn, 1) := by decide +kernel
theorem d_Model_isConflict_0 : decode b_Model_isConflict 0 = .ok (.aload_n 0, 1) := by decide +kernel
theorem d_Model_isConflict_1 : decode b_Model_isConflict 1 = .ok (.iload_n 1, 1) := by decide +kernel
theorem d_Model_isConflict_2 : decode b_Model_isConflict 2 = .ok (.iload_n 2, 1) := by decide +kernel
theorem d_Model_isConflict_3 : decode b_Model_isConflict 3 = .ok (.invokevirtual 109, 3) := by decide +kernel
theorem d_Model_isConflict_6 : decode b_Model_isConflict 6 = .ok (.ifCond .ne 5, 3) := by decide +kernel
theorem d_Model_isConflict_9 : decode b_Model_isConflict 9 = .ok (.iconst 0, 1) := by decide +kernel
theorem d_Model_isConflict_10 : decode b_Model_isConflict 10 = .ok (.ireturn, 1) := by decide +kernel
theorem d_Model_isConflict_11 : decode b_Model_isConflict 11 = .ok (.iconst 0, 1) := by decide +kernel
theorem d_Model_isConflict_12 : decode b_Model_isConflict 12 = .ok (.istore_n 3, 1) := by decide +kernel
theorem d_Model_isConflict_13 : decode b_Model_isConflict 13 = .ok (.aload_n 0, 1) := by decide +kernel
theorem d_Model_isConflict_14 : decode b_Model_isConflict 14 = .ok (.iload_n 1, 1) := by decide +kernel
theorem d_Model_isConflict_15 : decode b_Model_isConflict 15 = .ok (.iload_n 2, 1) := by decide +kernel
theorem d_Model_isConflict_16 : decode b_Model_isConflict 16 = .ok (.invokevirtual 112, 3) := by decide +kernel
theorem d_Model_isConflict_19 : decode b_Model_isConflict 19 = .ok (.istore 4, 2) := by decide +kernel
theorem d_Model_isConflict_21 : decode b_Model_isConflict 21 = .ok (.iconst 0, 1) := by decide +kernel
theorem d_Model_isConflict_22 : decode b_Model_isConflict 22 = .ok (.istore 5, 2) := by decide +kernel
theorem d_Model_isConflict_24 : decode b_Model_isConflict 24 = .ok (.iload 5, 2) := by decide +kernel
theorem d_Model_isConflict_26 : decode b_Model_isConflict 26 = .ok (.aload_n 0, 1) := by decide +kernel
theorem d_Model_isConflict_27 : decode b_Model_isConflict 27 = .ok (.getfield 89, 3) := by decide +kernel
theorem d_Model_isConflict_30 : decode b_Model_isConflict 30 = .ok (.if_icmp .ge 67, 3) := by decide +kernel
theorem d_Model_isConflict_33 : decode b_Model_isConflict 33 = .ok (.iload 5, 2) := by decide +kernel
theorem d_Model_isConflict_35 : decode b_Model_isConflict 35 = .ok (.iload_n 2, 1) := by decide +kernel
theorem d_Model_isConflict_36 : decode b_Model_isConflict 36 = .ok (.if_icmp .eq 55, 3) := by decide +kernel
theorem d_Model_isConflict_39 : decode b_Model_isConflict 39 = .ok (.aload_n 0, 1) := by decide +kernel
theorem d_Model_isConflict_40 : decode b_Model_isConflict 40 = .ok (.iload_n 2, 1) := by decide +kernel
theorem d_Model_isConflict_41 : decode b_Model_isConflict 41 = .ok (.iload 5, 2) := by decide +kernel
theorem d_Model_isConflict_43 : decode b_Model_isConflict 43 = .ok (.invokevirtual 115, 3) := by decide +kernel
theorem d_Model_isConflict_46 : decode b_Model_isConflict 46 = .ok (.ifCond .eq 45, 3) := by decide +kernel
theorem d_Model_isConflict_49 : decode b_Model_isConflict 49 = .ok (.aload_n 0, 1) := by decide +kernel
theorem d_Model_isConflict_50 : decode b_Model_isConflict 50 = .ok (.iload_n 1, 1) := by decide +kernel
theorem d_Model_isConflict_51 : decode b_Model_isConflict 51 = .ok (.iload 5, 2) := by decide +kernel
theorem d_Model_isConflict_53 : decode b_Model_isConflict 53 = .ok (.invokevirtual 109, 3) := by decide +kernel
theorem d_Model_isConflict_56 : decode b_Model_isConflict 56 = .ok (.ifCond .eq 35, 3) := by decide +kernel
theorem d_Model_isConflict_59 : decode b_Model_isConflict 59 = .ok (.iload 5, 2) := by decide +kernel
theorem d_Model_isConflict_61 : decode b_Model_isConflict 61 = .ok (.iload_n 2, 1) := by decide +kernel
theorem d_Model_isConflict_62 : decode b_Model_isConflict 62 = .ok (.if_icmp .ge 5, 3) := by decide +kernel
theorem d_Model_isConflict_65 : decode b_Model_isConflict 65 = .ok (.iconst 0, 1) := by decide +kernel
theorem d_Model_isConflict_66 : decode b_Model_isConflict 66 = .ok (.ireturn, 1) := by decide +kernel
theorem d_Model_isConflict_67 : decode b_Model_isConflict 67 = .ok (.iconst 1, 1) := by decide +kernel
theorem d_Model_isConflict_68 : decode b_Model_isConflict 68 = .ok (.istore_n 3, 1) := by decide +kernel
theorem d_Model_isConflict_69 : decode b_Model_isConflict 69 = .ok (.iload 4, 2) := by decide +kernel
theorem d_Model_isConflict_71 : decode b_Model_isConflict 71 = .ok (.ifCond .ne 13, 3) := by decide +kernel
theorem d_Model_isConflict_74 : decode b_Model_isConflict 74 = .ok (.aload_n 0, 1) := by decide +kernel
theorem d_Model_isConflict_75 : decode b_Model_isConflict 75 = .ok (.iload_n 1, 1) := by decide +kernel
theorem d_Model_isConflict_76 : decode b_Model_isConflict 76 = .ok (.iload 5, 2) := by decide +kernel
theorem d_Model_isConflict_78 : decode b_Model_isConflict 78 = .ok (.invokevirtual 112, 3) := by decide +kernel
theorem d_Model_isConflict_81 : decode b_Model_isConflict 81 = .ok (.ifCond .eq 7, 3) := by decide +kernel
theorem d_Model_isConflict_84 : decode b_Model_isConflict 84 = .ok (.iconst 1, 1) := by decide +kernel
theorem d_Model_isConflict_85 : decode b_Model_isConflict 85 = .ok (.goto 4, 3) := by decide +kernel
theorem d_Model_isConflict_88 : decode b_Model_isConflict 88 = .ok (.iconst 0, 1) := by decide +kernel
theorem d_Model_isConflict_89 : decode b_Model_isConflict 89 = .ok (.istore 4, 2) := by decide +kernel
theorem d_Model_isConflict_91 : decode b_Model_isConflict 91 = .ok (.iinc 5 1, 3) := by decide +kernel
theorem d_Model_isConflict_94 : decode b_Model_isConflict 94 = .ok (.goto (-70), 3) := by decide +kernel
theorem d_Model_isConflict_97 : decode b_Model_isConflict 97 = .ok (.iload_n 3, 1) := by decide +kernel
theorem d_Model_isConflict_98 : decode b_Model_isConflict 98 = .ok (.ifCond .eq 12, 3) := by decide +kernel
theorem d_Model_isConflict_101 : decode b_Model_isConflict 101 = .ok (.iload 4, 2) := by decide +kernel
theorem d_Model_isConflict_103 : decode b_Model_isConflict 103 = .ok (.ifCond .ne 7, 3) := by decide +kernel
theorem d_Model_isConflict_106 : decode b_Model_isConflict 106 = .ok (.iconst 1, 1) := by decide +kernel
theorem d_Model_isConflict_107 : decode b_Model_isConflict 107 = .ok (.goto 4, 3) := by decide +kernel
theorem d_Model_isConflict_110 : decode b_Model_isConflict 110 = .ok (.iconst 0, 1) := by decide +kernel
theorem d_Model_isConflict_111 : decode b_Model_isConflict 111 = .ok (.ireturn, 1) := by decide +kernel
theorem d_Model_conflicts_0 : decode b_Model_conflicts 0 = .ok (.iconst 0, 1) := by decide +kernel
theorem d_Model_conflicts_1 : decode b_Model_conflicts 1 = .ok (.istore_n 2, 1) := by decide +kernel
theorem d_Model_conflicts_2 : decode b_Model_conflicts 2 = .ok (.iconst 0, 1) := by decide +kernel
theorem d_Model_conflicts_3 : decode b_Model_conflicts 3 = .ok (.istore_n 3, 1) := by decide +kernel
theorem d_Model_conflicts_4 : decode b_Model_conflicts 4 = .ok (.iload_n 3, 1) := by decide +kernel
theorem d_Model_conflicts_5 : decode b_Model_conflicts 5 = .ok (.aload_n 0, 1) := by decide +kernel
theorem d_Model_conflicts_6 : decode b_Model_conflicts 6 = .ok (.getfield 89, 3) := by decide +kernel
theorem d_Model_conflicts_9 : decode b_Model_conflicts 9 = .ok (.if_icmp .ge 26, 3) := by decide +kernel
theorem d_Model_conflicts_12 : decode b_Model_conflicts 12 = .ok (.aload_n 0, 1) := by decide +kernel
theorem d_Model_conflicts_13 : decode b_Model_conflicts 13 = .ok (.iload_n 1, 1) := by decide +kernel
theorem d_Model_conflicts_14 : decode b_Model_conflicts 14 = .ok (.iload_n 3, 1) := by decide +kernel
theorem d_Model_conflicts_15 : decode b_Model_conflicts 15 = .ok (.invokevirtual 133, 3) := by decide +kernel
theorem d_Model_conflicts_18 : decode b_Model_conflicts 18 = .ok (.ifCond .eq 9, 3) := by decide +kernel
theorem d_Model_conflicts_21 : decode b_Model_conflicts 21 = .ok (.iload_n 2, 1) := by decide +kernel
theorem d_Model_conflicts_22 : decode b_Model_conflicts 22 = .ok (.iconst 1, 1) := by decide +kernel
theorem d_Model_conflicts_23 : decode b_Model_conflicts 23 = .ok (.iadd, 1) := by decide +kernel
theorem d_Model_conflicts_24 : decode b_Model_conflicts 24 = .ok (.goto 4, 3) := by decide +kernel
theorem d_Model_conflicts_27 : decode b_Model_conflicts 27 = .ok (.iload_n 2, 1) := by decide +kernel
theorem d_Model_conflicts_28 : decode b_Model_conflicts 28 = .ok (.istore_n 2, 1) := by decide +kernel
theorem d_Model_conflicts_29 : decode b_Model_conflicts 29 = .ok (.iinc 3 1, 3) := by decide +kernel
theorem d_Model_conflicts_32 : decode b_Model_conflicts 32 = .ok (.goto (-28), 3) := by decide +kernel
theorem d_Model_conflicts_35 : decode b_Model_conflicts 35 = .ok (.iload_n 2, 1) := by decide +kernel
theorem d_Model_conflicts_36 : decode b_Model_conflicts 36 = .ok (.ireturn, 1) := by decide +kernel
theorem d_Model_isKeyBefore_0 : decode b_Model_isKeyBefore 0 = .ok (.aload_n 0, 1) := by decide +kernel
theorem d_Model_isKeyBefore_1 : decode b_Model_isKeyBefore 1 = .ok (.getfield 17, 3) := by decide +kernel
theorem d_Model_isKeyBefore_4 : decode b_Model_isKeyBefore 4 = .ok (.iload_n 1, 1) := by decide +kernel
theorem d_Model_isKeyBefore_5 : decode b_Model_isKeyBefore 5 = .ok (.iaload, 1) := by decide +kernel
theorem d_Model_isKeyBefore_6 : decode b_Model_isKeyBefore 6 = .ok (.aload_n 0, 1) := by decide +kernel
theorem d_Model_isKeyBefore_7 : decode b_Model_isKeyBefore 7 = .ok (.getfield 17, 3) := by decide +kernel
theorem d_Model_isKeyBefore_10 : decode b_Model_isKeyBefore 10 = .ok (.iload_n 2, 1) := by decide +kernel
theorem d_Model_isKeyBefore_11 : decode b_Model_isKeyBefore 11 = .ok (.iaload, 1) := by decide +kernel
theorem d_Model_isKeyBefore_12 : decode b_Model_isKeyBefore 12 = .ok (.if_icmp .eq 24, 3) := by decide +kernel
theorem d_Model_isKeyBefore_15 : decode b_Model_isKeyBefore 15 = .ok (.aload_n 0, 1) := by decide +kernel
theorem d_Model_isKeyBefore_16 : decode b_Model_isKeyBefore 16 = .ok (.getfield 17, 3) := by decide +kernel
theorem d_Model_isKeyBefore_19 : decode b_Model_isKeyBefore 19 = .ok (.iload_n 1, 1) := by decide +kernel
theorem d_Model_isKeyBefore_20 : decode b_Model_isKeyBefore 20 = .ok (.iaload, 1) := by decide +kernel
theorem d_Model_isKeyBefore_21 : decode b_Model_isKeyBefore 21 = .ok (.aload_n 0, 1) := by decide +kernel
theorem d_Model_isKeyBefore_22 : decode b_Model_isKeyBefore 22 = .ok (.getfield 17, 3) := by decide +kernel
theorem d_Model_isKeyBefore_25 : decode b_Model_isKeyBefore 25 = .ok (.iload_n 2, 1) := by decide +kernel
theorem d_Model_isKeyBefore_26 : decode b_Model_isKeyBefore 26 = .ok (.iaload, 1) := by decide +kernel
theorem d_Model_isKeyBefore_27 : decode b_Model_isKeyBefore 27 = .ok (.if_icmp .ge 7, 3) := by decide +kernel
theorem d_Model_isKeyBefore_30 : decode b_Model_isKeyBefore 30 = .ok (.iconst 1, 1) := by decide +kernel
theorem d_Model_isKeyBefore_31 : decode b_Model_isKeyBefore 31 = .ok (.goto 4, 3) := by decide +kernel
theorem d_Model_isKeyBefore_34 : decode b_Model_isKeyBefore 34 = .ok (.iconst 0, 1) := by decide +kernel
theorem d_Model_isKeyBefore_35 : decode b_Model_isKeyBefore 35 = .ok (.ireturn, 1) := by decide +kernel
theorem d_Model_isKeyBefore_36 : decode b_Model_isKeyBefore 36 = .ok (.aload_n 0, 1) := by decide +kernel
theorem d_Model_isKeyBefore_37 : decode b_Model_isKeyBefore 37 = .ok (.getfield 20, 3) := by decide +kernel
theorem d_Model_isKeyBefore_40 : decode b_Model_isKeyBefore 40 = .ok (.iload_n 1, 1) := by decide +kernel
theorem d_Model_isKeyBefore_41 : decode b_Model_isKeyBefore 41 = .ok (.iaload, 1) := by decide +kernel
theorem d_Model_isKeyBefore_42 : decode b_Model_isKeyBefore 42 = .ok (.aload_n 0, 1) := by decide +kernel
theorem d_Model_isKeyBefore_43 : decode b_Model_isKeyBefore 43 = .ok (.getfield 20, 3) := by decide +kernel
theorem d_Model_isKeyBefore_46 : decode b_Model_isKeyBefore 46 = .ok (.iload_n 2, 1) := by decide +kernel
theorem d_Model_isKeyBefore_47 : decode b_Model_isKeyBefore 47 = .ok (.iaload, 1) := by decide +kernel
theorem d_Model_isKeyBefore_48 : decode b_Model_isKeyBefore 48 = .ok (.if_icmp .eq 24, 3) := by decide +kernel
theorem d_Model_isKeyBefore_51 : decode b_Model_isKeyBefore 51 = .ok (.aload_n 0, 1) := by decide +kernel
theorem d_Model_isKeyBefore_52 : decode b_Model_isKeyBefore 52 = .ok (.getfield 20, 3) := by decide +kernel
theorem d_Model_isKeyBefore_55 : decode b_Model_isKeyBefore 55 = .ok (.iload_n 1, 1) := by decide +kernel
theorem d_Model_isKeyBefore_56 : decode b_Model_isKeyBefore 56 = .ok (.iaload, 1) := by decide +kernel
theorem d_Model_isKeyBefore_57 : decode b_Model_isKeyBefore 57 = .ok (.aload_n 0, 1) := by decide +kernel
theorem d_Model_isKeyBefore_58 : decode b_Model_isKeyBefore 58 = .ok (.getfield 20, 3) := by decide +kernel
theorem d_Model_isKeyBefore_61 : decode b_Model_isKeyBefore 61 = .ok (.iload_n 2, 1) := by decide +kernel
theorem d_Model_isKeyBefore_62 : decode b_Model_isKeyBefore 62 = .ok (.iaload, 1) := by decide +kernel
theorem d_Model_isKeyBefore_63 : decode b_Model_isKeyBefore 63 = .ok (.if_icmp .ge 7, 3) := by decide +kernel
theorem d_Model_isKeyBefore_66 : decode b_Model_isKeyBefore 66 = .ok (.iconst 1, 1) := by decide +kernel
theorem d_Model_isKeyBefore_67 : decode b_Model_isKeyBefore 67 = .ok (.goto 4, 3) := by decide +kernel
theorem d_Model_isKeyBefore_70 : decode b_Model_isKeyBefore 70 = .ok (.iconst 0, 1) := by decide +kernel
theorem d_Model_isKeyBefore_71 : decode b_Model_isKeyBefore 71 = .ok (.ireturn, 1) := by decide +kernel
theorem d_Model_isKeyBefore_72 : decode b_Model_isKeyBefore 72 = .ok (.aload_n 0, 1) := by decide +kernel
theorem d_Model_isKeyBefore_73 : decode b_Model_isKeyBefore 73 = .ok (.getfield 23, 3) := by decide +kernel
theorem d_Model_isKeyBefore_76 : decode b_Model_isKeyBefore 76 = .ok (.iload_n 1, 1) := by decide +kernel
theorem d_Model_isKeyBefore_77 : decode b_Model_isKeyBefore 77 = .ok (.iaload, 1) := by decide +kernel
theorem d_Model_isKeyBefore_78 : decode b_Model_isKeyBefore 78 = .ok (.aload_n 0, 1) := by decide +kernel
theorem d_Model_isKeyBefore_79 : decode b_Model_isKeyBefore 79 = .ok (.getfield 23, 3) := by decide +kernel
theorem d_Model_isKeyBefore_82 : decode b_Model_isKeyBefore 82 = .ok (.iload_n 2, 1) := by decide +kernel
theorem d_Model_isKeyBefore_83 : decode b_Model_isKeyBefore 83 = .ok (.iaload, 1) := by decide +kernel
theorem d_Model_isKeyBefore_84 : decode b_Model_isKeyBefore 84 = .ok (.if_icmp .eq 26, 3) := by decide +kernel
theorem d_Model_isKeyBefore_87 : decode b_Model_isKeyBefore 87 = .ok (.aload_n 0, 1) := by decide +kernel
theorem d_Model_isKeyBefore_88 : decode b_Model_isKeyBefore 88 = .ok (.getfield 23, 3) := by decide +kernel
theorem d_Model_isKeyBefore_91 : decode b_Model_isKeyBefore 91 = .ok (.iload_n 1, 1) := by decide +kernel
theorem d_Model_isKeyBefore_92 : decode b_Model_isKeyBefore 92 = .ok (.iaload, 1) := by decide +kernel
theorem d_Model_isKeyBefore_93 : decode b_Model_isKeyBefore 93 = .ok (.aload_n 0, 1) := by decide +kernel
theorem d_Model_isKeyBefore_94 : decode b_Model_isKeyBefore 94 = .ok (.getfield 23, 3) := by decide +kernel
theorem d_Model_isKeyBefore_97 : decode b_Model_isKeyBefore 97 = .ok (.iload_n 2, 1) := by decide +kernel
theorem d_Model_isKeyBefore_98 : decode b_Model_isKeyBefore 98 = .ok (.iaload, 1) := by decide +kernel
theorem d_Model_isKeyBefore_99 : decode b_Model_isKeyBefore 99 = .ok (.if_icmp .ge 7, 3) := by decide +kernel
theorem d_Model_isKeyBefore_102 : decode b_Model_isKeyBefore 102 = .ok (.iconst 1, 1) := by decide +kernel
theorem d_Model_isKeyBefore_103 : decode b_Model_isKeyBefore 103 = .ok (.goto 27, 3) := by decide +kernel
theorem d_Model_isKeyBefore_106 : decode b_Model_isKeyBefore 106 = .ok (.iconst 0, 1) := by decide +kernel
theorem d_Model_isKeyBefore_107 : decode b_Model_isKeyBefore 107 = .ok (.goto 23, 3) := by decide +kernel
theorem d_Model_isKeyBefore_110 : decode b_Model_isKeyBefore 110 = .ok (.aload_n 0, 1) := by decide +kernel
theorem d_Model_isKeyBefore_111 : decode b_Model_isKeyBefore 111 = .ok (.getfield 26, 3) := by decide +kernel
theorem d_Model_isKeyBefore_114 : decode b_Model_isKeyBefore 114 = .ok (.iload_n 1, 1) := by decide +kernel
theorem d_Model_isKeyBefore_115 : decode b_Model_isKeyBefore 115 = .ok (.iaload, 1) := by decide +kernel
theorem d_Model_isKeyBefore_116 : decode b_Model_isKeyBefore 116 = .ok (.aload_n 0, 1) := by decide +kernel
theorem d_Model_isKeyBefore_117 : decode b_Model_isKeyBefore 117 = .ok (.getfield 26, 3) := by decide +kernel
theorem d_Model_isKeyBefore_120 : decode b_Model_isKeyBefore 120 = .ok (.iload_n 2, 1) := by decide +kernel
theorem d_Model_isKeyBefore_121 : decode b_Model_isKeyBefore 121 = .ok (.iaload, 1) := by decide +kernel
theorem d_Model_isKeyBefore_122 : decode b_Model_isKeyBefore 122 = .ok (.if_icmp .ge 7, 3) := by decide +kernel
theorem d_Model_isKeyBefore_125 : decode b_Model_isKeyBefore 125 = .ok (.iconst 1, 1) := by decide +kernel
theorem d_Model_isKeyBefore_126 : decode b_Model_isKeyBefore 126 = .ok (.goto 4, 3) := by decide +kernel
theorem d_Model_isKeyBefore_129 : decode b_Model_isKeyBefore 129 = .ok (.iconst 0, 1) := by decide +kernel
theorem d_Model_isKeyBefore_130 : decode b_Model_isKeyBefore 130 = .ok (.ireturn, 1) := by decide +kernel
theorem d_Model_conflict_0 : decode b_Model_conflict 0 = .ok (.iconst 0, 1) := by decide +kernel
theorem d_Model_conflict_1 : decode b_Model_conflict 1 = .ok (.istore 4, 2) := by decide +kernel
theorem d_Model_conflict_3 : decode b_Model_conflict 3 = .ok (.iload 4, 2) := by decide +kernel
theorem d_Model_conflict_5 : decode b_Model_conflict 5 = .ok (.aload_n 0, 1) := by decide +kernel
theorem d_Model_conflict_6 : decode b_Model_conflict 6 = .ok (.getfield 89, 3) := by decide +kernel
theorem d_Model_conflict_9 : decode b_Model_conflict 9 = .ok (.if_icmp .ge 146, 3) := by decide +kernel
theorem d_Model_conflict_12 : decode b_Model_conflict 12 = .ok (.aload_n 0, 1) := by decide +kernel
theorem d_Model_conflict_13 : decode b_Model_conflict 13 = .ok (.iload_n 1, 1) := by decide +kernel
theorem d_Model_conflict_14 : decode b_Model_conflict 14 = .ok (.invokevirtual 96, 3) := by decide +kernel
theorem d_Model_conflict_17 : decode b_Model_conflict 17 = .ok (.ifCond .eq 138, 3) := by decide +kernel
theorem d_Model_conflict_20 : decode b_Model_conflict 20 = .ok (.aload_n 0, 1) := by decide +kernel
theorem d_Model_conflict_21 : decode b_Model_conflict 21 = .ok (.iload_n 1, 1) := by decide +kernel
theorem d_Model_conflict_22 : decode b_Model_conflict 22 = .ok (.iload 4, 2) := by decide +kernel
theorem d_Model_conflict_24 : decode b_Model_conflict 24 = .ok (.invokevirtual 133, 3) := by decide +kernel
theorem d_Model_conflict_27 : decode b_Model_conflict 27 = .ok (.ifCond .eq 122, 3) := by decide +kernel
theorem d_Model_conflict_30 : decode b_Model_conflict 30 = .ok (.iconst 0, 1) := by decide +kernel
theorem d_Model_conflict_31 : decode b_Model_conflict 31 = .ok (.istore 5, 2) := by decide +kernel
theorem d_Model_conflict_33 : decode b_Model_conflict 33 = .ok (.iconst 0, 1) := by decide +kernel
theorem d_Model_conflict_34 : decode b_Model_conflict 34 = .ok (.istore 6, 2) := by decide +kernel
theorem d_Model_conflict_36 : decode b_Model_conflict 36 = .ok (.iload 6, 2) := by decide +kernel
theorem d_Model_conflict_38 : decode b_Model_conflict 38 = .ok (.aload_n 0, 1) := by decide +kernel
theorem d_Model_conflict_39 : decode b_Model_conflict 39 = .ok (.getfield 89, 3) := by decide +kernel
theorem d_Model_conflict_42 : decode b_Model_conflict 42 = .ok (.if_icmp .ge 40, 3) := by decide +kernel
theorem d_Model_conflict_45 : decode b_Model_conflict 45 = .ok (.iload 5, 2) := by decide +kernel
theorem d_Model_conflict_47 : decode b_Model_conflict 47 = .ok (.aload_n 0, 1) := by decide +kernel
theorem d_Model_conflict_48 : decode b_Model_conflict 48 = .ok (.iload_n 1, 1) := by decide +kernel
theorem d_Model_conflict_49 : decode b_Model_conflict 49 = .ok (.iload 6, 2) := by decide +kernel
theorem d_Model_conflict_51 : decode b_Model_conflict 51 = .ok (.invokevirtual 133, 3) := by decide +kernel
theorem d_Model_conflict_54 : decode b_Model_conflict 54 = .ok (.ifCond .eq 18, 3) := by decide +kernel
theorem d_Model_conflict_57 : decode b_Model_conflict 57 = .ok (.aload_n 0, 1) := by decide +kernel
theorem d_Model_conflict_58 : decode b_Model_conflict 58 = .ok (.iload 6, 2) := by decide +kernel
theorem d_Model_conflict_60 : decode b_Model_conflict 60 = .ok (.iload 4, 2) := by decide +kernel
theorem d_Model_conflict_62 : decode b_Model_conflict 62 = .ok (.invokevirtual 136, 3) := by decide +kernel
theorem d_Model_conflict_65 : decode b_Model_conflict 65 = .ok (.ifCond .eq 7, 3) := by decide +kernel
theorem d_Model_conflict_68 : decode b_Model_conflict 68 = .ok (.iconst 1, 1) := by decide +kernel
theorem d_Model_conflict_69 : decode b_Model_conflict 69 = .ok (.goto 4, 3) := by decide +kernel
theorem d_Model_conflict_72 : decode b_Model_conflict 72 = .ok (.iconst 0, 1) := by decide +kernel
theorem d_Model_conflict_73 : decode b_Model_conflict 73 = .ok (.iadd, 1) := by decide +kernel
theorem d_Model_conflict_74 : decode b_Model_conflict 74 = .ok (.istore 5, 2) := by decide +kernel
theorem d_Model_conflict_76 : decode b_Model_conflict 76 = .ok (.iinc 6 1, 3) := by decide +kernel
theorem d_Model_conflict_79 : decode b_Model_conflict 79 = .ok (.goto (-43), 3) := by decide +kernel
theorem d_Model_conflict_82 : decode b_Model_conflict 82 = .ok (.iload 5, 2) := by decide +kernel
theorem d_Model_conflict_84 : decode b_Model_conflict 84 = .ok (.iload_n 2, 1) := by decide +kernel
theorem d_Model_conflict_85 : decode b_Model_conflict 85 = .ok (.if_icmp .ne 64, 3) := by decide +kernel
theorem d_Model_conflict_88 : decode b_Model_conflict 88 = .ok (.iload_n 3, 1) := by decide +kernel
theorem d_Model_conflict_89 : decode b_Model_conflict 89 = .ok (.ifCond .ne 13, 3) := by decide +kernel
theorem d_Model_conflict_92 : decode b_Model_conflict 92 = .ok (.aload_n 0, 1) := by decide +kernel
theorem d_Model_conflict_93 : decode b_Model_conflict 93 = .ok (.getfield 17, 3) := by decide +kernel
theorem d_Model_conflict_96 : decode b_Model_conflict 96 = .ok (.iload 4, 2) := by decide +kernel
theorem d_Model_conflict_98 : decode b_Model_conflict 98 = .ok (.iaload, 1) := by decide +kernel
theorem d_Model_conflict_99 : decode b_Model_conflict 99 = .ok (.goto 49, 3) := by decide +kernel
theorem d_Model_conflict_102 : decode b_Model_conflict 102 = .ok (.iload_n 3, 1) := by decide +kernel
theorem d_Model_conflict_103 : decode b_Model_conflict 103 = .ok (.iconst 1, 1) := by decide +kernel
theorem d_Model_conflict_104 : decode b_Model_conflict 104 = .ok (.if_icmp .ne 13, 3) := by decide +kernel
theorem d_Model_conflict_107 : decode b_Model_conflict 107 = .ok (.aload_n 0, 1) := by decide +kernel
theorem d_Model_conflict_108 : decode b_Model_conflict 108 = .ok (.getfield 20, 3) := by decide +kernel
theorem d_Model_conflict_111 : decode b_Model_conflict 111 = .ok (.iload 4, 2) := by decide +kernel
theorem d_Model_conflict_113 : decode b_Model_conflict 113 = .ok (.iaload, 1) := by decide +kernel
theorem d_Model_conflict_114 : decode b_Model_conflict 114 = .ok (.goto 34, 3) := by decide +kernel
theorem d_Model_conflict_117 : decode b_Model_conflict 117 = .ok (.iload_n 3, 1) := by decide +kernel
theorem d_Model_conflict_118 : decode b_Model_conflict 118 = .ok (.iconst 2, 1) := by decide +kernel
theorem d_Model_conflict_119 : decode b_Model_conflict 119 = .ok (.if_icmp .ne 13, 3) := by decide +kernel
theorem d_Model_conflict_122 : decode b_Model_conflict 122 = .ok (.aload_n 0, 1) := by decide +kernel
theorem d_Model_conflict_123 : decode b_Model_conflict 123 = .ok (.getfield 23, 3) := by decide +kernel
theorem d_Model_conflict_126 : decode b_Model_conflict 126 = .ok (.iload 4, 2) := by decide +kernel
theorem d_Model_conflict_128 : decode b_Model_conflict 128 = .ok (.iaload, 1) := by decide +kernel
theorem d_Model_conflict_129 : decode b_Model_conflict 129 = .ok (.goto 19, 3) := by decide +kernel
theorem d_Model_conflict_132 : decode b_Model_conflict 132 = .ok (.iload_n 3, 1) := by decide +kernel
theorem d_Model_conflict_133 : decode b_Model_conflict 133 = .ok (.iconst 3, 1) := by decide +kernel
theorem d_Model_conflict_134 : decode b_Model_conflict 134 = .ok (.if_icmp .ne 13, 3) := by decide +kernel
theorem d_Model_conflict_137 : decode b_Model_conflict 137 = .ok (.aload_n 0, 1) := by decide +kernel
theorem d_Model_conflict_138 : decode b_Model_conflict 138 = .ok (.getfield 26, 3) := by decide +kernel
theorem d_Model_conflict_141 : decode b_Model_conflict 141 = .ok (.iload 4, 2) := by decide +kernel
theorem d_Model_conflict_143 : decode b_Model_conflict 143 = .ok (.iaload, 1) := by decide +kernel
theorem d_Model_conflict_144 : decode b_Model_conflict 144 = .ok (.goto 4, 3) := by decide +kernel
theorem d_Model_conflict_147 : decode b_Model_conflict 147 = .ok (.iconst (-1), 1) := by decide +kernel
theorem d_Model_conflict_148 : decode b_Model_conflict 148 = .ok (.ireturn, 1) := by decide +kernel
theorem d_Model_conflict_149 : decode b_Model_conflict 149 = .ok (.iinc 4 1, 3) := by decide +kernel
theorem d_Model_conflict_152 : decode b_Model_conflict 152 = .ok (.goto (-149), 3) := by decide +kernel
theorem d_Model_conflict_155 : decode b_Model_conflict 155 = .ok (.iconst (-1), 1) := by decide +kernel
theorem d_Model_conflict_156 : decode b_Model_conflict 156 = .ok (.ireturn, 1) := by decide +kernel
theorem d_Model_settle_0 : decode b_Model_settle 0 = .ok (.iconst (-1), 1) := by decide +kernel
theorem d_Model_settle_1 : decode b_Model_settle 1 = .ok (.istore 5, 2) := by decide +kernel
theorem d_Model_settle_3 : decode b_Model_settle 3 = .ok (.iconst 0, 1) := by decide +kernel
theorem d_Model_settle_4 : decode b_Model_settle 4 = .ok (.istore 6, 2) := by decide +kernel
theorem d_Model_settle_6 : decode b_Model_settle 6 = .ok (.iload 6, 2) := by decide +kernel
theorem d_Model_settle_8 : decode b_Model_settle 8 = .ok (.aload_n 0, 1) := by decide +kernel
theorem d_Model_settle_9 : decode b_Model_settle 9 = .ok (.getfield 89, 3) := by decide +kernel
theorem d_Model_settle_12 : decode b_Model_settle 12 = .ok (.if_icmp .ge 86, 3) := by decide +kernel
theorem d_Model_settle_15 : decode b_Model_settle 15 = .ok (.aload_n 0, 1) := by decide +kernel
theorem d_Model_settle_16 : decode b_Model_settle 16 = .ok (.iload_n 1, 1) := by decide +kernel
theorem d_Model_settle_17 : decode b_Model_settle 17 = .ok (.invokevirtual 96, 3) := by decide +kernel
theorem d_Model_settle_20 : decode b_Model_settle 20 = .ok (.ifCond .eq 39, 3) := by decide +kernel
theorem d_Model_settle_23 : decode b_Model_settle 23 = .ok (.aload_n 0, 1) := by decide +kernel
theorem d_Model_settle_24 : decode b_Model_settle 24 = .ok (.getfield 17, 3) := by decide +kernel
theorem d_Model_settle_27 : decode b_Model_settle 27 = .ok (.iload 6, 2) := by decide +kernel
theorem d_Model_settle_29 : decode b_Model_settle 29 = .ok (.iaload, 1) := by decide +kernel
theorem d_Model_settle_30 : decode b_Model_settle 30 = .ok (.iload_n 2, 1) := by decide +kernel
theorem d_Model_settle_31 : decode b_Model_settle 31 = .ok (.if_icmp .ne 28, 3) := by decide +kernel
theorem d_Model_settle_34 : decode b_Model_settle 34 = .ok (.aload_n 0, 1) := by decide +kernel
theorem d_Model_settle_35 : decode b_Model_settle 35 = .ok (.getfield 26, 3) := by decide +kernel
theorem d_Model_settle_38 : decode b_Model_settle 38 = .ok (.iload 6, 2) := by decide +kernel
theorem d_Model_settle_40 : decode b_Model_settle 40 = .ok (.iaload, 1) := by decide +kernel
theorem d_Model_settle_41 : decode b_Model_settle 41 = .ok (.iload_n 3, 1) := by decide +kernel
theorem d_Model_settle_42 : decode b_Model_settle 42 = .ok (.if_icmp .ne 17, 3) := by decide +kernel
theorem d_Model_settle_45 : decode b_Model_settle 45 = .ok (.aload_n 0, 1) := by decide +kernel
theorem d_Model_settle_46 : decode b_Model_settle 46 = .ok (.iload_n 1, 1) := by decide +kernel
theorem d_Model_settle_47 : decode b_Model_settle 47 = .ok (.iload 6, 2) := by decide +kernel
theorem d_Model_settle_49 : decode b_Model_settle 49 = .ok (.invokevirtual 133, 3) := by decide +kernel
theorem d_Model_settle_52 : decode b_Model_settle 52 = .ok (.ifCond .eq 7, 3) := by decide +kernel
theorem d_Model_settle_55 : decode b_Model_settle 55 = .ok (.iconst 1, 1) := by decide +kernel
theorem d_Model_settle_56 : decode b_Model_settle 56 = .ok (.goto 4, 3) := by decide +kernel
theorem d_Model_settle_59 : decode b_Model_settle 59 = .ok (.iconst 0, 1) := by decide +kernel
theorem d_Model_settle_60 : decode b_Model_settle 60 = .ok (.istore 7, 2) := by decide +kernel
theorem d_Model_settle_62 : decode b_Model_settle 62 = .ok (.iload 7, 2) := by decide +kernel
theorem d_Model_settle_64 : decode b_Model_settle 64 = .ok (.ifCond .eq 24, 3) := by decide +kernel
theorem d_Model_settle_67 : decode b_Model_settle 67 = .ok (.iload 5, 2) := by decide +kernel
theorem d_Model_settle_69 : decode b_Model_settle 69 = .ok (.ifCond .lt 14, 3) := by decide +kernel
theorem d_Model_settle_72 : decode b_Model_settle 72 = .ok (.aload_n 0, 1) := by decide +kernel
theorem d_Model_settle_73 : decode b_Model_settle 73 = .ok (.iload 6, 2) := by decide +kernel
theorem d_Model_settle_75 : decode b_Model_settle 75 = .ok (.iload 5, 2) := by decide +kernel
theorem d_Model_settle_77 : decode b_Model_settle 77 = .ok (.invokevirtual 136, 3) := by decide +kernel
theorem d_Model_settle_80 : decode b_Model_settle 80 = .ok (.ifCond .eq 8, 3) := by decide +kernel
theorem d_Model_settle_83 : decode b_Model_settle 83 = .ok (.iload 6, 2) := by decide +kernel
theorem d_Model_settle_85 : decode b_Model_settle 85 = .ok (.goto 5, 3) := by decide +kernel
theorem d_Model_settle_88 : decode b_Model_settle 88 = .ok (.iload 5, 2) := by decide +kernel
theorem d_Model_settle_90 : decode b_Model_settle 90 = .ok (.istore 5, 2) := by decide +kernel
theorem d_Model_settle_92 : decode b_Model_settle 92 = .ok (.iinc 6 1, 3) := by decide +kernel
theorem d_Model_settle_95 : decode b_Model_settle 95 = .ok (.goto (-89), 3) := by decide +kernel
theorem d_Model_settle_98 : decode b_Model_settle 98 = .ok (.iconst 0, 1) := by decide +kernel
theorem d_Model_settle_99 : decode b_Model_settle 99 = .ok (.istore 6, 2) := by decide +kernel
theorem d_Model_settle_101 : decode b_Model_settle 101 = .ok (.iload 6, 2) := by decide +kernel
theorem d_Model_settle_103 : decode b_Model_settle 103 = .ok (.aload_n 0, 1) := by decide +kernel
theorem d_Model_settle_104 : decode b_Model_settle 104 = .ok (.getfield 89, 3) := by decide +kernel
theorem d_Model_settle_107 : decode b_Model_settle 107 = .ok (.if_icmp .ge 131, 3) := by decide +kernel
theorem d_Model_settle_110 : decode b_Model_settle 110 = .ok (.iload 5, 2) := by decide +kernel
theorem d_Model_settle_112 : decode b_Model_settle 112 = .ok (.ifCond .lt 126, 3) := by decide +kernel
theorem d_Model_settle_115 : decode b_Model_settle 115 = .ok (.aload_n 0, 1) := by decide +kernel
theorem d_Model_settle_116 : decode b_Model_settle 116 = .ok (.iload 6, 2) := by decide +kernel
theorem d_Model_settle_118 : decode b_Model_settle 118 = .ok (.iload 5, 2) := by decide +kernel
theorem d_Model_settle_120 : decode b_Model_settle 120 = .ok (.invokevirtual 115, 3) := by decide +kernel
theorem d_Model_settle_123 : decode b_Model_settle 123 = .ok (.ifCond .eq 109, 3) := by decide +kernel
theorem d_Model_settle_126 : decode b_Model_settle 126 = .ok (.aload_n 0, 1) := by decide +kernel
theorem d_Model_settle_127 : decode b_Model_settle 127 = .ok (.iload_n 1, 1) := by decide +kernel
theorem d_Model_settle_128 : decode b_Model_settle 128 = .ok (.iload 6, 2) := by decide +kernel
theorem d_Model_settle_130 : decode b_Model_settle 130 = .ok (.invokevirtual 109, 3) := by decide +kernel
theorem d_Model_settle_133 : decode b_Model_settle 133 = .ok (.ifCond .eq 99, 3) := by decide +kernel
theorem d_Model_settle_136 : decode b_Model_settle 136 = .ok (.iconst 0, 1) := by decide +kernel
theorem d_Model_settle_137 : decode b_Model_settle 137 = .ok (.istore 7, 2) := by decide +kernel
theorem d_Model_settle_139 : decode b_Model_settle 139 = .ok (.iconst 0, 1) := by decide +kernel
theorem d_Model_settle_140 : decode b_Model_settle 140 = .ok (.istore 8, 2) := by decide +kernel
theorem d_Model_settle_142 : decode b_Model_settle 142 = .ok (.iload 8, 2) := by decide +kernel
theorem d_Model_settle_144 : decode b_Model_settle 144 = .ok (.aload_n 0, 1) := by decide +kernel
theorem d_Model_settle_145 : decode b_Model_settle 145 = .ok (.getfield 89, 3) := by decide +kernel
theorem d_Model_settle_148 : decode b_Model_settle 148 = .ok (.if_icmp .ge 58, 3) := by decide +kernel
theorem d_Model_settle_151 : decode b_Model_settle 151 = .ok (.iload 7, 2) := by decide +kernel
theorem d_Model_settle_153 : decode b_Model_settle 153 = .ok (.iload 8, 2) := by decide +kernel
theorem d_Model_settle_155 : decode b_Model_settle 155 = .ok (.iload 6, 2) := by decide +kernel
theorem d_Model_settle_157 : decode b_Model_settle 157 = .ok (.if_icmp .eq 39, 3) := by decide +kernel
theorem d_Model_settle_160 : decode b_Model_settle 160 = .ok (.aload_n 0, 1) := by decide +kernel
theorem d_Model_settle_161 : decode b_Model_settle 161 = .ok (.iload 8, 2) := by decide +kernel
theorem d_Model_settle_163 : decode b_Model_settle 163 = .ok (.iload 5, 2) := by decide +kernel
theorem d_Model_settle_165 : decode b_Model_settle 165 = .ok (.invokevirtual 115, 3) := by decide +kernel
theorem d_Model_settle_168 : decode b_Model_settle 168 = .ok (.ifCond .eq 28, 3) := by decide +kernel
theorem d_Model_settle_171 : decode b_Model_settle 171 = .ok (.aload_n 0, 1) := by decide +kernel
theorem d_Model_settle_172 : decode b_Model_settle 172 = .ok (.iload_n 1, 1) := by decide +kernel
theorem d_Model_settle_173 : decode b_Model_settle 173 = .ok (.iload 8, 2) := by decide +kernel
theorem d_Model_settle_175 : decode b_Model_settle 175 = .ok (.invokevirtual 109, 3) := by decide +kernel
theorem d_Model_settle_178 : decode b_Model_settle 178 = .ok (.ifCond .eq 18, 3) := by decide +kernel
theorem d_Model_settle_181 : decode b_Model_settle 181 = .ok (.aload_n 0, 1) := by decide +kernel
theorem d_Model_settle_182 : decode b_Model_settle 182 = .ok (.iload 8, 2) := by decide +kernel
theorem d_Model_settle_184 : decode b_Model_settle 184 = .ok (.iload 6, 2) := by decide +kernel
theorem d_Model_settle_186 : decode b_Model_settle 186 = .ok (.invokevirtual 118, 3) := by decide +kernel
theorem d_Model_settle_189 : decode b_Model_settle 189 = .ok (.ifCond .eq 7, 3) := by decide +kernel
theorem d_Model_settle_192 : decode b_Model_settle 192 = .ok (.iconst 1, 1) := by decide +kernel
theorem d_Model_settle_193 : decode b_Model_settle 193 = .ok (.goto 4, 3) := by decide +kernel
theorem d_Model_settle_196 : decode b_Model_settle 196 = .ok (.iconst 0, 1) := by decide +kernel
theorem d_Model_settle_197 : decode b_Model_settle 197 = .ok (.iadd, 1) := by decide +kernel
theorem d_Model_settle_198 : decode b_Model_settle 198 = .ok (.istore 7, 2) := by decide +kernel
theorem d_Model_settle_200 : decode b_Model_settle 200 = .ok (.iinc 8 1, 3) := by decide +kernel
theorem d_Model_settle_203 : decode b_Model_settle 203 = .ok (.goto (-61), 3) := by decide +kernel
theorem d_Model_settle_206 : decode b_Model_settle 206 = .ok (.iload 7, 2) := by decide +kernel
theorem d_Model_settle_208 : decode b_Model_settle 208 = .ok (.iload 4, 2) := by decide +kernel
theorem d_Model_settle_210 : decode b_Model_settle 210 = .ok (.if_icmp .ne 22, 3) := by decide +kernel
theorem d_Model_settle_213 : decode b_Model_settle 213 = .ok (.aload_n 0, 1) := by decide +kernel
theorem d_Model_settle_214 : decode b_Model_settle 214 = .ok (.getfield 45, 3) := by decide +kernel
theorem d_Model_settle_217 : decode b_Model_settle 217 = .ok (.bipush 60, 2) := by decide +kernel
theorem d_Model_settle_219 : decode b_Model_settle 219 = .ok (.iload_n 1, 1) := by decide +kernel
theorem d_Model_settle_220 : decode b_Model_settle 220 = .ok (.imul, 1) := by decide +kernel
theorem d_Model_settle_221 : decode b_Model_settle 221 = .ok (.iload 6, 2) := by decide +kernel
theorem d_Model_settle_223 : decode b_Model_settle 223 = .ok (.iadd, 1) := by decide +kernel
theorem d_Model_settle_224 : decode b_Model_settle 224 = .ok (.iconst 1, 1) := by decide +kernel
theorem d_Model_settle_225 : decode b_Model_settle 225 = .ok (.bastore, 1) := by decide +kernel
theorem d_Model_settle_226 : decode b_Model_settle 226 = .ok (.aload_n 0, 1) := by decide +kernel
theorem d_Model_settle_227 : decode b_Model_settle 227 = .ok (.iload_n 1, 1) := by decide +kernel
theorem d_Model_settle_228 : decode b_Model_settle 228 = .ok (.invokevirtual 102, 3) := by decide +kernel
theorem d_Model_settle_231 : decode b_Model_settle 231 = .ok (.ireturn, 1) := by decide +kernel
theorem d_Model_settle_232 : decode b_Model_settle 232 = .ok (.iinc 6 1, 3) := by decide +kernel
theorem d_Model_settle_235 : decode b_Model_settle 235 = .ok (.goto (-134), 3) := by decide +kernel
theorem d_Model_settle_238 : decode b_Model_settle 238 = .ok (.iconst (-1), 1) := by decide +kernel
theorem d_Model_settle_239 : decode b_Model_settle 239 = .ok (.ireturn, 1) := by decide +kernel
theorem d_Model_equal_0 : decode b_Model_equal 0 = .ok (.aload_n 0, 1) := by decide +kernel
theorem d_Model_equal_1 : decode b_Model_equal 1 = .ok (.iload_n 1, 1) := by decide +kernel
theorem d_Model_equal_2 : decode b_Model_equal 2 = .ok (.invokevirtual 96, 3) := by decide +kernel
theorem d_Model_equal_5 : decode b_Model_equal 5 = .ok (.ifCond .eq 11, 3) := by decide +kernel
theorem d_Model_equal_8 : decode b_Model_equal 8 = .ok (.aload_n 0, 1) := by decide +kernel
theorem d_Model_equal_9 : decode b_Model_equal 9 = .ok (.iload_n 2, 1) := by decide +kernel
theorem d_Model_equal_10 : decode b_Model_equal 10 = .ok (.invokevirtual 96, 3) := by decide +kernel
theorem d_Model_equal_13 : decode b_Model_equal 13 = .ok (.ifCond .ne 5, 3) := by decide +kernel
theorem d_Model_equal_16 : decode b_Model_equal 16 = .ok (.iconst 0, 1) := by decide +kernel
theorem d_Model_equal_17 : decode b_Model_equal 17 = .ok (.ireturn, 1) := by decide +kernel
theorem d_Model_equal_18 : decode b_Model_equal 18 = .ok (.aload_n 0, 1) := by decide +kernel
theorem d_Model_equal_19 : decode b_Model_equal 19 = .ok (.getfield 51, 3) := by decide +kernel
theorem d_Model_equal_22 : decode b_Model_equal 22 = .ok (.iload_n 1, 1) := by decide +kernel
theorem d_Model_equal_23 : decode b_Model_equal 23 = .ok (.laload, 1) := by decide +kernel
theorem d_Model_equal_24 : decode b_Model_equal 24 = .ok (.aload_n 0, 1) := by decide +kernel
theorem d_Model_equal_25 : decode b_Model_equal 25 = .ok (.getfield 51, 3) := by decide +kernel
theorem d_Model_equal_28 : decode b_Model_equal 28 = .ok (.iload_n 2, 1) := by decide +kernel
theorem d_Model_equal_29 : decode b_Model_equal 29 = .ok (.laload, 1) := by decide +kernel
theorem d_Model_equal_30 : decode b_Model_equal 30 = .ok (.lcmp, 1) := by decide +kernel
theorem d_Model_equal_31 : decode b_Model_equal 31 = .ok (.ifCond .ne 7, 3) := by decide +kernel
theorem d_Model_equal_34 : decode b_Model_equal 34 = .ok (.iconst 1, 1) := by decide +kernel
theorem d_Model_equal_35 : decode b_Model_equal 35 = .ok (.goto 4, 3) := by decide +kernel
theorem d_Model_equal_38 : decode b_Model_equal 38 = .ok (.iconst 0, 1) := by decide +kernel
theorem d_Model_equal_39 : decode b_Model_equal 39 = .ok (.istore_n 3, 1) := by decide +kernel
theorem d_Model_equal_40 : decode b_Model_equal 40 = .ok (.iconst 0, 1) := by decide +kernel
theorem d_Model_equal_41 : decode b_Model_equal 41 = .ok (.istore 4, 2) := by decide +kernel
theorem d_Model_equal_43 : decode b_Model_equal 43 = .ok (.iload 4, 2) := by decide +kernel
theorem d_Model_equal_45 : decode b_Model_equal 45 = .ok (.bipush 60, 2) := by decide +kernel
theorem d_Model_equal_47 : decode b_Model_equal 47 = .ok (.if_icmp .ge 71, 3) := by decide +kernel
theorem d_Model_equal_50 : decode b_Model_equal 50 = .ok (.bipush 60, 2) := by decide +kernel
theorem d_Model_equal_52 : decode b_Model_equal 52 = .ok (.iload_n 1, 1) := by decide +kernel
theorem d_Model_equal_53 : decode b_Model_equal 53 = .ok (.imul, 1) := by decide +kernel
theorem d_Model_equal_54 : decode b_Model_equal 54 = .ok (.iload 4, 2) := by decide +kernel
theorem d_Model_equal_56 : decode b_Model_equal 56 = .ok (.iadd, 1) := by decide +kernel
theorem d_Model_equal_57 : decode b_Model_equal 57 = .ok (.istore 5, 2) := by decide +kernel
theorem d_Model_equal_59 : decode b_Model_equal 59 = .ok (.bipush 60, 2) := by decide +kernel
theorem d_Model_equal_61 : decode b_Model_equal 61 = .ok (.iload_n 2, 1) := by decide +kernel
theorem d_Model_equal_62 : decode b_Model_equal 62 = .ok (.imul, 1) := by decide +kernel
theorem d_Model_equal_63 : decode b_Model_equal 63 = .ok (.iload 4, 2) := by decide +kernel
theorem d_Model_equal_65 : decode b_Model_equal 65 = .ok (.iadd, 1) := by decide +kernel
theorem d_Model_equal_66 : decode b_Model_equal 66 = .ok (.istore 6, 2) := by decide +kernel
theorem d_Model_equal_68 : decode b_Model_equal 68 = .ok (.iload_n 3, 1) := by decide +kernel
theorem d_Model_equal_69 : decode b_Model_equal 69 = .ok (.ifCond .eq 41, 3) := by decide +kernel
theorem d_Model_equal_72 : decode b_Model_equal 72 = .ok (.aload_n 0, 1) := by decide +kernel
theorem d_Model_equal_73 : decode b_Model_equal 73 = .ok (.getfield 41, 3) := by decide +kernel
theorem d_Model_equal_76 : decode b_Model_equal 76 = .ok (.iload 5, 2) := by decide +kernel
theorem d_Model_equal_78 : decode b_Model_equal 78 = .ok (.baload, 1) := by decide +kernel
theorem d_Model_equal_79 : decode b_Model_equal 79 = .ok (.aload_n 0, 1) := by decide +kernel
theorem d_Model_equal_80 : decode b_Model_equal 80 = .ok (.getfield 41, 3) := by decide +kernel
theorem d_Model_equal_83 : decode b_Model_equal 83 = .ok (.iload 6, 2) := by decide +kernel
theorem d_Model_equal_85 : decode b_Model_equal 85 = .ok (.baload, 1) := by decide +kernel
theorem d_Model_equal_86 : decode b_Model_equal 86 = .ok (.if_icmp .ne 24, 3) := by decide +kernel
theorem d_Model_equal_89 : decode b_Model_equal 89 = .ok (.aload_n 0, 1) := by decide +kernel
theorem d_Model_equal_90 : decode b_Model_equal 90 = .ok (.getfield 45, 3) := by decide +kernel
theorem d_Model_equal_93 : decode b_Model_equal 93 = .ok (.iload 5, 2) := by decide +kernel
theorem d_Model_equal_95 : decode b_Model_equal 95 = .ok (.baload, 1) := by decide +kernel
theorem d_Model_equal_96 : decode b_Model_equal 96 = .ok (.aload_n 0, 1) := by decide +kernel
theorem d_Model_equal_97 : decode b_Model_equal 97 = .ok (.getfield 45, 3) := by decide +kernel
theorem d_Model_equal_100 : decode b_Model_equal 100 = .ok (.iload 6, 2) := by decide +kernel
theorem d_Model_equal_102 : decode b_Model_equal 102 = .ok (.baload, 1) := by decide +kernel
theorem d_Model_equal_103 : decode b_Model_equal 103 = .ok (.if_icmp .ne 7, 3) := by decide +kernel
theorem d_Model_equal_106 : decode b_Model_equal 106 = .ok (.iconst 1, 1) := by decide +kernel
theorem d_Model_equal_107 : decode b_Model_equal 107 = .ok (.goto 4, 3) := by decide +kernel
theorem d_Model_equal_110 : decode b_Model_equal 110 = .ok (.iconst 0, 1) := by decide +kernel
theorem d_Model_equal_111 : decode b_Model_equal 111 = .ok (.istore_n 3, 1) := by decide +kernel
theorem d_Model_equal_112 : decode b_Model_equal 112 = .ok (.iinc 4 1, 3) := by decide +kernel
theorem d_Model_equal_115 : decode b_Model_equal 115 = .ok (.goto (-72), 3) := by decide +kernel
theorem d_Model_equal_118 : decode b_Model_equal 118 = .ok (.iconst 0, 1) := by decide +kernel
theorem d_Model_equal_119 : decode b_Model_equal 119 = .ok (.istore 4, 2) := by decide +kernel
theorem d_Model_equal_121 : decode b_Model_equal 121 = .ok (.iload 4, 2) := by decide +kernel
theorem d_Model_equal_123 : decode b_Model_equal 123 = .ok (.bipush 20, 2) := by decide +kernel
theorem d_Model_equal_125 : decode b_Model_equal 125 = .ok (.if_icmp .ge 46, 3) := by decide +kernel
theorem d_Model_equal_128 : decode b_Model_equal 128 = .ok (.iload_n 3, 1) := by decide +kernel
theorem d_Model_equal_129 : decode b_Model_equal 129 = .ok (.ifCond .eq 34, 3) := by decide +kernel
theorem d_Model_equal_132 : decode b_Model_equal 132 = .ok (.aload_n 0, 1) := by decide +kernel
theorem d_Model_equal_133 : decode b_Model_equal 133 = .ok (.getfield 48, 3) := by decide +kernel
theorem d_Model_equal_136 : decode b_Model_equal 136 = .ok (.bipush 20, 2) := by decide +kernel
theorem d_Model_equal_138 : decode b_Model_equal 138 = .ok (.iload_n 1, 1) := by decide +kernel
theorem d_Model_equal_139 : decode b_Model_equal 139 = .ok (.imul, 1) := by decide +kernel
theorem d_Model_equal_140 : decode b_Model_equal 140 = .ok (.iload 4, 2) := by decide +kernel
theorem d_Model_equal_142 : decode b_Model_equal 142 = .ok (.iadd, 1) := by decide +kernel
theorem d_Model_equal_143 : decode b_Model_equal 143 = .ok (.baload, 1) := by decide +kernel
theorem d_Model_equal_144 : decode b_Model_equal 144 = .ok (.aload_n 0, 1) := by decide +kernel
theorem d_Model_equal_145 : decode b_Model_equal 145 = .ok (.getfield 48, 3) := by decide +kernel
theorem d_Model_equal_148 : decode b_Model_equal 148 = .ok (.bipush 20, 2) := by decide +kernel
theorem d_Model_equal_150 : decode b_Model_equal 150 = .ok (.iload_n 2, 1) := by decide +kernel
theorem d_Model_equal_151 : decode b_Model_equal 151 = .ok (.imul, 1) := by decide +kernel
theorem d_Model_equal_152 : decode b_Model_equal 152 = .ok (.iload 4, 2) := by decide +kernel
theorem d_Model_equal_154 : decode b_Model_equal 154 = .ok (.iadd, 1) := by decide +kernel
theorem d_Model_equal_155 : decode b_Model_equal 155 = .ok (.baload, 1) := by decide +kernel
theorem d_Model_equal_156 : decode b_Model_equal 156 = .ok (.if_icmp .ne 7, 3) := by decide +kernel
theorem d_Model_equal_159 : decode b_Model_equal 159 = .ok (.iconst 1, 1) := by decide +kernel
theorem d_Model_equal_160 : decode b_Model_equal 160 = .ok (.goto 4, 3) := by decide +kernel
theorem d_Model_equal_163 : decode b_Model_equal 163 = .ok (.iconst 0, 1) := by decide +kernel
theorem d_Model_equal_164 : decode b_Model_equal 164 = .ok (.istore_n 3, 1) := by decide +kernel
theorem d_Model_equal_165 : decode b_Model_equal 165 = .ok (.iinc 4 1, 3) := by decide +kernel
theorem d_Model_equal_168 : decode b_Model_equal 168 = .ok (.goto (-47), 3) := by decide +kernel
theorem d_Model_equal_171 : decode b_Model_equal 171 = .ok (.iload_n 3, 1) := by decide +kernel
theorem d_Model_equal_172 : decode b_Model_equal 172 = .ok (.ireturn, 1) := by decide +kernel
theorem d_Model_batch_0 : decode b_Model_batch 0 = .ok (.aload_n 0, 1) := by decide +kernel
theorem d_Model_batch_1 : decode b_Model_batch 1 = .ok (.iload_n 1, 1) := by decide +kernel
theorem d_Model_batch_2 : decode b_Model_batch 2 = .ok (.invokevirtual 96, 3) := by decide +kernel
theorem d_Model_batch_5 : decode b_Model_batch 5 = .ok (.ifCond .eq 12, 3) := by decide +kernel
theorem d_Model_batch_8 : decode b_Model_batch 8 = .ok (.aload_n 0, 1) := by decide +kernel
theorem d_Model_batch_9 : decode b_Model_batch 9 = .ok (.getfield 54, 3) := by decide +kernel
theorem d_Model_batch_12 : decode b_Model_batch 12 = .ok (.iload_n 1, 1) := by decide +kernel
theorem d_Model_batch_13 : decode b_Model_batch 13 = .ok (.iaload, 1) := by decide +kernel
theorem d_Model_batch_14 : decode b_Model_batch 14 = .ok (.ifCond .lt 5, 3) := by decide +kernel
theorem d_Model_batch_17 : decode b_Model_batch 17 = .ok (.iconst (-1), 1) := by decide +kernel
theorem d_Model_batch_18 : decode b_Model_batch 18 = .ok (.ireturn, 1) := by decide +kernel
theorem d_Model_batch_19 : decode b_Model_batch 19 = .ok (.bipush 6, 2) := by decide +kernel
theorem d_Model_batch_21 : decode b_Model_batch 21 = .ok (.iload_n 1, 1) := by decide +kernel
theorem d_Model_batch_22 : decode b_Model_batch 22 = .ok (.iadd, 1) := by decide +kernel
theorem d_Model_batch_23 : decode b_Model_batch 23 = .ok (.istore_n 2, 1) := by decide +kernel
theorem d_Model_batch_24 : decode b_Model_batch 24 = .ok (.aload_n 0, 1) := by decide +kernel
theorem d_Model_batch_25 : decode b_Model_batch 25 = .ok (.getfield 51, 3) := by decide +kernel
theorem d_Model_batch_28 : decode b_Model_batch 28 = .ok (.iload_n 2, 1) := by decide +kernel
theorem d_Model_batch_29 : decode b_Model_batch 29 = .ok (.lconst 0, 1) := by decide +kernel
theorem d_Model_batch_30 : decode b_Model_batch 30 = .ok (.lastore, 1) := by decide +kernel
theorem d_Model_batch_31 : decode b_Model_batch 31 = .ok (.iconst 0, 1) := by decide +kernel
theorem d_Model_batch_32 : decode b_Model_batch 32 = .ok (.istore_n 3, 1) := by decide +kernel
theorem d_Model_batch_33 : decode b_Model_batch 33 = .ok (.iload_n 3, 1) := by decide +kernel
theorem d_Model_batch_34 : decode b_Model_batch 34 = .ok (.bipush 60, 2) := by decide +kernel
theorem d_Model_batch_36 : decode b_Model_batch 36 = .ok (.if_icmp .ge 33, 3) := by decide +kernel
theorem d_Model_batch_39 : decode b_Model_batch 39 = .ok (.aload_n 0, 1) := by decide +kernel
theorem d_Model_batch_40 : decode b_Model_batch 40 = .ok (.getfield 41, 3) := by decide +kernel
theorem d_Model_batch_43 : decode b_Model_batch 43 = .ok (.bipush 60, 2) := by decide +kernel
theorem d_Model_batch_45 : decode b_Model_batch 45 = .ok (.iload_n 2, 1) := by decide +kernel
theorem d_Model_batch_46 : decode b_Model_batch 46 = .ok (.imul, 1) := by decide +kernel
theorem d_Model_batch_47 : decode b_Model_batch 47 = .ok (.iload_n 3, 1) := by decide +kernel
theorem d_Model_batch_48 : decode b_Model_batch 48 = .ok (.iadd, 1) := by decide +kernel
theorem d_Model_batch_49 : decode b_Model_batch 49 = .ok (.iconst 0, 1) := by decide +kernel
theorem d_Model_batch_50 : decode b_Model_batch 50 = .ok (.bastore, 1) := by decide +kernel
theorem d_Model_batch_51 : decode b_Model_batch 51 = .ok (.aload_n 0, 1) := by decide +kernel
theorem d_Model_batch_52 : decode b_Model_batch 52 = .ok (.getfield 45, 3) := by decide +kernel
theorem d_Model_batch_55 : decode b_Model_batch 55 = .ok (.bipush 60, 2) := by decide +kernel
theorem d_Model_batch_57 : decode b_Model_batch 57 = .ok (.iload_n 2, 1) := by decide +kernel
theorem d_Model_batch_58 : decode b_Model_batch 58 = .ok (.imul, 1) := by decide +kernel
theorem d_Model_batch_59 : decode b_Model_batch 59 = .ok (.iload_n 3, 1) := by decide +kernel
theorem d_Model_batch_60 : decode b_Model_batch 60 = .ok (.iadd, 1) := by decide +kernel
theorem d_Model_batch_61 : decode b_Model_batch 61 = .ok (.iconst 0, 1) := by decide +kernel
theorem d_Model_batch_62 : decode b_Model_batch 62 = .ok (.bastore, 1) := by decide +kernel
theorem d_Model_batch_63 : decode b_Model_batch 63 = .ok (.iinc 3 1, 3) := by decide +kernel
theorem d_Model_batch_66 : decode b_Model_batch 66 = .ok (.goto (-33), 3) := by decide +kernel
theorem d_Model_batch_69 : decode b_Model_batch 69 = .ok (.iconst 0, 1) := by decide +kernel
theorem d_Model_batch_70 : decode b_Model_batch 70 = .ok (.istore_n 3, 1) := by decide +kernel
theorem d_Model_batch_71 : decode b_Model_batch 71 = .ok (.iload_n 3, 1) := by decide +kernel
theorem d_Model_batch_72 : decode b_Model_batch 72 = .ok (.bipush 20, 2) := by decide +kernel
theorem d_Model_batch_74 : decode b_Model_batch 74 = .ok (.if_icmp .ge 21, 3) := by decide +kernel
theorem d_Model_batch_77 : decode b_Model_batch 77 = .ok (.aload_n 0, 1) := by decide +kernel
theorem d_Model_batch_78 : decode b_Model_batch 78 = .ok (.getfield 48, 3) := by decide +kernel
theorem d_Model_batch_81 : decode b_Model_batch 81 = .ok (.bipush 20, 2) := by decide +kernel
theorem d_Model_batch_83 : decode b_Model_batch 83 = .ok (.iload_n 2, 1) := by decide +kernel
theorem d_Model_batch_84 : decode b_Model_batch 84 = .ok (.imul, 1) := by decide +kernel
theorem d_Model_batch_85 : decode b_Model_batch 85 = .ok (.iload_n 3, 1) := by decide +kernel
theorem d_Model_batch_86 : decode b_Model_batch 86 = .ok (.iadd, 1) := by decide +kernel
theorem d_Model_batch_87 : decode b_Model_batch 87 = .ok (.iconst 0, 1) := by decide +kernel
theorem d_Model_batch_88 : decode b_Model_batch 88 = .ok (.bastore, 1) := by decide +kernel
theorem d_Model_batch_89 : decode b_Model_batch 89 = .ok (.iinc 3 1, 3) := by decide +kernel
theorem d_Model_batch_92 : decode b_Model_batch 92 = .ok (.goto (-21), 3) := by decide +kernel
theorem d_Model_batch_95 : decode b_Model_batch 95 = .ok (.aload_n 0, 1) := by decide +kernel
theorem d_Model_batch_96 : decode b_Model_batch 96 = .ok (.getfield 54, 3) := by decide +kernel
theorem d_Model_batch_99 : decode b_Model_batch 99 = .ok (.iload_n 1, 1) := by decide +kernel
theorem d_Model_batch_100 : decode b_Model_batch 100 = .ok (.aload_n 0, 1) := by decide +kernel
theorem d_Model_batch_101 : decode b_Model_batch 101 = .ok (.getfield 139, 3) := by decide +kernel
theorem d_Model_batch_104 : decode b_Model_batch 104 = .ok (.iastore, 1) := by decide +kernel
theorem d_Model_batch_105 : decode b_Model_batch 105 = .ok (.aload_n 0, 1) := by decide +kernel
theorem d_Model_batch_106 : decode b_Model_batch 106 = .ok (.dup, 1) := by decide +kernel
theorem d_Model_batch_107 : decode b_Model_batch 107 = .ok (.getfield 139, 3) := by decide +kernel
theorem d_Model_batch_110 : decode b_Model_batch 110 = .ok (.iconst 1, 1) := by decide +kernel
theorem d_Model_batch_111 : decode b_Model_batch 111 = .ok (.iadd, 1) := by decide +kernel
theorem d_Model_batch_112 : decode b_Model_batch 112 = .ok (.putfield 139, 3) := by decide +kernel
theorem d_Model_batch_115 : decode b_Model_batch 115 = .ok (.aload_n 0, 1) := by decide +kernel
theorem d_Model_batch_116 : decode b_Model_batch 116 = .ok (.getfield 54, 3) := by decide +kernel
theorem d_Model_batch_119 : decode b_Model_batch 119 = .ok (.iload_n 1, 1) := by decide +kernel
theorem d_Model_batch_120 : decode b_Model_batch 120 = .ok (.iaload, 1) := by decide +kernel
theorem d_Model_batch_121 : decode b_Model_batch 121 = .ok (.ireturn, 1) := by decide +kernel
theorem d_Model_endBatch_0 : decode b_Model_endBatch 0 = .ok (.iconst 0, 1) := by decide +kernel
theorem d_Model_endBatch_1 : decode b_Model_endBatch 1 = .ok (.istore_n 2, 1) := by decide +kernel
theorem d_Model_endBatch_2 : decode b_Model_endBatch 2 = .ok (.iload_n 2, 1) := by decide +kernel
theorem d_Model_endBatch_3 : decode b_Model_endBatch 3 = .ok (.aload_n 0, 1) := by decide +kernel
theorem d_Model_endBatch_4 : decode b_Model_endBatch 4 = .ok (.getfield 70, 3) := by decide +kernel
theorem d_Model_endBatch_7 : decode b_Model_endBatch 7 = .ok (.if_icmp .ge 42, 3) := by decide +kernel
theorem d_Model_endBatch_10 : decode b_Model_endBatch 10 = .ok (.iload_n 1, 1) := by decide +kernel
theorem d_Model_endBatch_11 : decode b_Model_endBatch 11 = .ok (.ifCond .lt 32, 3) := by decide +kernel
theorem d_Model_endBatch_14 : decode b_Model_endBatch 14 = .ok (.aload_n 0, 1) := by decide +kernel
theorem d_Model_endBatch_15 : decode b_Model_endBatch 15 = .ok (.getfield 54, 3) := by decide +kernel
theorem d_Model_endBatch_18 : decode b_Model_endBatch 18 = .ok (.iload_n 2, 1) := by decide +kernel
theorem d_Model_endBatch_19 : decode b_Model_endBatch 19 = .ok (.iaload, 1) := by decide +kernel
theorem d_Model_endBatch_20 : decode b_Model_endBatch 20 = .ok (.iload_n 1, 1) := by decide +kernel
theorem d_Model_endBatch_21 : decode b_Model_endBatch 21 = .ok (.if_icmp .ne 22, 3) := by decide +kernel
theorem d_Model_endBatch_24 : decode b_Model_endBatch 24 = .ok (.aload_n 0, 1) := by decide +kernel
theorem d_Model_endBatch_25 : decode b_Model_endBatch 25 = .ok (.iload_n 2, 1) := by decide +kernel
theorem d_Model_endBatch_26 : decode b_Model_endBatch 26 = .ok (.bipush 6, 2) := by decide +kernel
theorem d_Model_endBatch_28 : decode b_Model_endBatch 28 = .ok (.iload_n 2, 1) := by decide +kernel
theorem d_Model_endBatch_29 : decode b_Model_endBatch 29 = .ok (.iadd, 1) := by decide +kernel
theorem d_Model_endBatch_30 : decode b_Model_endBatch 30 = .ok (.invokevirtual 92, 3) := by decide +kernel
theorem d_Model_endBatch_33 : decode b_Model_endBatch 33 = .ok (.istore_n 3, 1) := by decide +kernel
theorem d_Model_endBatch_34 : decode b_Model_endBatch 34 = .ok (.aload_n 0, 1) := by decide +kernel
theorem d_Model_endBatch_35 : decode b_Model_endBatch 35 = .ok (.getfield 54, 3) := by decide +kernel
theorem d_Model_endBatch_38 : decode b_Model_endBatch 38 = .ok (.iload_n 2, 1) := by decide +kernel
theorem d_Model_endBatch_39 : decode b_Model_endBatch 39 = .ok (.iconst (-1), 1) := by decide +kernel
theorem d_Model_endBatch_40 : decode b_Model_endBatch 40 = .ok (.iastore, 1) := by decide +kernel
theorem d_Model_endBatch_41 : decode b_Model_endBatch 41 = .ok (.iconst 1, 1) := by decide +kernel
theorem d_Model_endBatch_42 : decode b_Model_endBatch 42 = .ok (.ireturn, 1) := by decide +kernel
theorem d_Model_endBatch_43 : decode b_Model_endBatch 43 = .ok (.iinc 2 1, 3) := by decide +kernel
theorem d_Model_endBatch_46 : decode b_Model_endBatch 46 = .ok (.goto (-44), 3) := by decide +kernel
theorem d_Model_endBatch_49 : decode b_Model_endBatch 49 = .ok (.iconst 0, 1) := by decide +kernel
theorem d_Model_endBatch_50 : decode b_Model_endBatch 50 = .ok (.ireturn, 1) := by decide +kernel
theorem d_Model_retain_0 : decode b_Model_retain 0 = .ok (.aload_n 0, 1) := by decide +kernel
theorem d_Model_retain_1 : decode b_Model_retain 1 = .ok (.iload_n 1, 1) := by decide +kernel
theorem d_Model_retain_2 : decode b_Model_retain 2 = .ok (.invokevirtual 96, 3) := by decide +kernel
theorem d_Model_retain_5 : decode b_Model_retain 5 = .ok (.ifCond .eq 14, 3) := by decide +kernel
theorem d_Model_retain_8 : decode b_Model_retain 8 = .ok (.lload_n 2, 1) := by decide +kernel
theorem d_Model_retain_9 : decode b_Model_retain 9 = .ok (.lconst 0, 1) := by decide +kernel
theorem d_Model_retain_10 : decode b_Model_retain 10 = .ok (.ldc2_w 142, 3) := by decide +kernel
theorem d_Model_retain_13 : decode b_Model_retain 13 = .ok (.invokestatic 79, 3) := by decide +kernel
theorem d_Model_retain_16 : decode b_Model_retain 16 = .ok (.ifCond .ne 5, 3) := by decide +kernel
theorem d_Model_retain_19 : decode b_Model_retain 19 = .ok (.iconst (-1), 1) := by decide +kernel
theorem d_Model_retain_20 : decode b_Model_retain 20 = .ok (.ireturn, 1) := by decide +kernel
theorem d_Model_retain_21 : decode b_Model_retain 21 = .ok (.iconst 0, 1) := by decide +kernel
theorem d_Model_retain_22 : decode b_Model_retain 22 = .ok (.istore 4, 2) := by decide +kernel
theorem d_Model_retain_24 : decode b_Model_retain 24 = .ok (.iconst 0, 1) := by decide +kernel
theorem d_Model_retain_25 : decode b_Model_retain 25 = .ok (.istore 5, 2) := by decide +kernel
theorem d_Model_retain_27 : decode b_Model_retain 27 = .ok (.iload 5, 2) := by decide +kernel
theorem d_Model_retain_29 : decode b_Model_retain 29 = .ok (.aload_n 0, 1) := by decide +kernel
theorem d_Model_retain_30 : decode b_Model_retain 30 = .ok (.getfield 89, 3) := by decide +kernel
theorem d_Model_retain_33 : decode b_Model_retain 33 = .ok (.if_icmp .ge 42, 3) := by decide +kernel
theorem d_Model_retain_36 : decode b_Model_retain 36 = .ok (.iload 4, 2) := by decide +kernel
theorem d_Model_retain_38 : decode b_Model_retain 38 = .ok (.aload_n 0, 1) := by decide +kernel
theorem d_Model_retain_39 : decode b_Model_retain 39 = .ok (.iload_n 1, 1) := by decide +kernel
theorem d_Model_retain_40 : decode b_Model_retain 40 = .ok (.iload 5, 2) := by decide +kernel
theorem d_Model_retain_42 : decode b_Model_retain 42 = .ok (.invokevirtual 109, 3) := by decide +kernel
theorem d_Model_retain_45 : decode b_Model_retain 45 = .ok (.ifCond .eq 20, 3) := by decide +kernel
theorem d_Model_retain_48 : decode b_Model_retain 48 = .ok (.aload_n 0, 1) := by decide +kernel
theorem d_Model_retain_49 : decode b_Model_retain 49 = .ok (.getfield 29, 3) := by decide +kernel
theorem d_Model_retain_52 : decode b_Model_retain 52 = .ok (.iload 5, 2) := by decide +kernel
theorem d_Model_retain_54 : decode b_Model_retain 54 = .ok (.iaload, 1) := by decide +kernel
theorem d_Model_retain_55 : decode b_Model_retain 55 = .ok (.i2l, 1) := by decide +kernel
theorem d_Model_retain_56 : decode b_Model_retain 56 = .ok (.lload_n 2, 1) := by decide +kernel
theorem d_Model_retain_57 : decode b_Model_retain 57 = .ok (.lcmp, 1) := by decide +kernel
theorem d_Model_retain_58 : decode b_Model_retain 58 = .ok (.ifCond .ge 7, 3) := by decide +kernel
theorem d_Model_retain_61 : decode b_Model_retain 61 = .ok (.iconst 1, 1) := by decide +kernel
theorem d_Model_retain_62 : decode b_Model_retain 62 = .ok (.goto 4, 3) := by decide +kernel
theorem d_Model_retain_65 : decode b_Model_retain 65 = .ok (.iconst 0, 1) := by decide +kernel
theorem d_Model_retain_66 : decode b_Model_retain 66 = .ok (.iadd, 1) := by decide +kernel
theorem d_Model_retain_67 : decode b_Model_retain 67 = .ok (.istore 4, 2) := by decide +kernel
theorem d_Model_retain_69 : decode b_Model_retain 69 = .ok (.iinc 5 1, 3) := by decide +kernel
theorem d_Model_retain_72 : decode b_Model_retain 72 = .ok (.goto (-45), 3) := by decide +kernel
theorem d_Model_retain_75 : decode b_Model_retain 75 = .ok (.aload_n 0, 1) := by decide +kernel
theorem d_Model_retain_76 : decode b_Model_retain 76 = .ok (.getfield 51, 3) := by decide +kernel
theorem d_Model_retain_79 : decode b_Model_retain 79 = .ok (.iload_n 1, 1) := by decide +kernel
theorem d_Model_retain_80 : decode b_Model_retain 80 = .ok (.lload_n 2, 1) := by decide +kernel
theorem d_Model_retain_81 : decode b_Model_retain 81 = .ok (.aload_n 0, 1) := by decide +kernel
theorem d_Model_retain_82 : decode b_Model_retain 82 = .ok (.getfield 51, 3) := by decide +kernel
theorem d_Model_retain_85 : decode b_Model_retain 85 = .ok (.iload_n 1, 1) := by decide +kernel
theorem d_Model_retain_86 : decode b_Model_retain 86 = .ok (.laload, 1) := by decide +kernel
theorem d_Model_retain_87 : decode b_Model_retain 87 = .ok (.lcmp, 1) := by decide +kernel
theorem d_Model_retain_88 : decode b_Model_retain 88 = .ok (.ifCond .le 7, 3) := by decide +kernel
theorem d_Model_retain_91 : decode b_Model_retain 91 = .ok (.lload_n 2, 1) := by decide +kernel
theorem d_Model_retain_92 : decode b_Model_retain 92 = .ok (.goto 9, 3) := by decide +kernel
theorem d_Model_retain_95 : decode b_Model_retain 95 = .ok (.aload_n 0, 1) := by decide +kernel
theorem d_Model_retain_96 : decode b_Model_retain 96 = .ok (.getfield 51, 3) := by decide +kernel
theorem d_Model_retain_99 : decode b_Model_retain 99 = .ok (.iload_n 1, 1) := by decide +kernel
theorem d_Model_retain_100 : decode b_Model_retain 100 = .ok (.laload, 1) := by decide +kernel
theorem d_Model_retain_101 : decode b_Model_retain 101 = .ok (.lastore, 1) := by decide +kernel
theorem d_Model_retain_102 : decode b_Model_retain 102 = .ok (.iload 4, 2) := by decide +kernel
theorem d_Model_retain_104 : decode b_Model_retain 104 = .ok (.ireturn, 1) := by decide +kernel
theorem d_Model_kept_0 : decode b_Model_kept 0 = .ok (.lconst 0, 1) := by decide +kernel
theorem d_Model_kept_1 : decode b_Model_kept 1 = .ok (.lstore_n 3, 1) := by decide +kernel
theorem d_Model_kept_2 : decode b_Model_kept 2 = .ok (.iconst 0, 1) := by decide +kernel
theorem d_Model_kept_3 : decode b_Model_kept 3 = .ok (.istore 5, 2) := by decide +kernel
theorem d_Model_kept_5 : decode b_Model_kept 5 = .ok (.iload 5, 2) := by decide +kernel
theorem d_Model_kept_7 : decode b_Model_kept 7 = .ok (.aload_n 0, 1) := by decide +kernel
theorem d_Model_kept_8 : decode b_Model_kept 8 = .ok (.getfield 89, 3) := by decide +kernel
theorem d_Model_kept_11 : decode b_Model_kept 11 = .ok (.if_icmp .ge 67, 3) := by decide +kernel
theorem d_Model_kept_14 : decode b_Model_kept 14 = .ok (.lload_n 3, 1) := by decide +kernel
theorem d_Model_kept_15 : decode b_Model_kept 15 = .ok (.aload_n 0, 1) := by decide +kernel
theorem d_Model_kept_16 : decode b_Model_kept 16 = .ok (.iload_n 1, 1) := by decide +kernel
theorem d_Model_kept_17 : decode b_Model_kept 17 = .ok (.invokevirtual 96, 3) := by decide +kernel
theorem d_Model_kept_20 : decode b_Model_kept 20 = .ok (.ifCond .eq 49, 3) := by decide +kernel
theorem d_Model_kept_23 : decode b_Model_kept 23 = .ok (.aload_n 0, 1) := by decide +kernel
theorem d_Model_kept_24 : decode b_Model_kept 24 = .ok (.getfield 26, 3) := by decide +kernel
theorem d_Model_kept_27 : decode b_Model_kept 27 = .ok (.iload 5, 2) := by decide +kernel
theorem d_Model_kept_29 : decode b_Model_kept 29 = .ok (.iaload, 1) := by decide +kernel
theorem d_Model_kept_30 : decode b_Model_kept 30 = .ok (.iload_n 2, 1) := by decide +kernel
theorem d_Model_kept_31 : decode b_Model_kept 31 = .ok (.if_icmp .ne 38, 3) := by decide +kernel
theorem d_Model_kept_34 : decode b_Model_kept 34 = .ok (.aload_n 0, 1) := by decide +kernel
theorem d_Model_kept_35 : decode b_Model_kept 35 = .ok (.getfield 41, 3) := by decide +kernel
theorem d_Model_kept_38 : decode b_Model_kept 38 = .ok (.bipush 60, 2) := by decide +kernel
theorem d_Model_kept_40 : decode b_Model_kept 40 = .ok (.iload_n 1, 1) := by decide +kernel
theorem d_Model_kept_41 : decode b_Model_kept 41 = .ok (.imul, 1) := by decide +kernel
theorem d_Model_kept_42 : decode b_Model_kept 42 = .ok (.iload 5, 2) := by decide +kernel
theorem d_Model_kept_44 : decode b_Model_kept 44 = .ok (.iadd, 1) := by decide +kernel
theorem d_Model_kept_45 : decode b_Model_kept 45 = .ok (.baload, 1) := by decide +kernel
theorem d_Model_kept_46 : decode b_Model_kept 46 = .ok (.ifCond .eq 23, 3) := by decide +kernel
theorem d_Model_kept_49 : decode b_Model_kept 49 = .ok (.aload_n 0, 1) := by decide +kernel
theorem d_Model_kept_50 : decode b_Model_kept 50 = .ok (.iload_n 1, 1) := by decide +kernel
theorem d_Model_kept_51 : decode b_Model_kept 51 = .ok (.iload 5, 2) := by decide +kernel
theorem d_Model_kept_53 : decode b_Model_kept 53 = .ok (.invokevirtual 109, 3) := by decide +kernel
theorem d_Model_kept_56 : decode b_Model_kept 56 = .ok (.ifCond .ne 13, 3) := by decide +kernel
theorem d_Model_kept_59 : decode b_Model_kept 59 = .ok (.aload_n 0, 1) := by decide +kernel
theorem d_Model_kept_60 : decode b_Model_kept 60 = .ok (.getfield 32, 3) := by decide +kernel
theorem d_Model_kept_63 : decode b_Model_kept 63 = .ok (.iload 5, 2) := by decide +kernel
theorem d_Model_kept_65 : decode b_Model_kept 65 = .ok (.laload, 1) := by decide +kernel
theorem d_Model_kept_66 : decode b_Model_kept 66 = .ok (.goto 4, 3) := by decide +kernel
theorem d_Model_kept_69 : decode b_Model_kept 69 = .ok (.lconst 0, 1) := by decide +kernel
theorem d_Model_kept_70 : decode b_Model_kept 70 = .ok (.ladd, 1) := by decide +kernel
theorem d_Model_kept_71 : decode b_Model_kept 71 = .ok (.lstore_n 3, 1) := by decide +kernel
theorem d_Model_kept_72 : decode b_Model_kept 72 = .ok (.iinc 5 1, 3) := by decide +kernel
theorem d_Model_kept_75 : decode b_Model_kept 75 = .ok (.goto (-70), 3) := by decide +kernel
theorem d_Model_kept_78 : decode b_Model_kept 78 = .ok (.lload_n 3, 1) := by decide +kernel
theorem d_Model_kept_79 : decode b_Model_kept 79 = .ok (.lreturn, 1) := by decide +kernel
theorem d_Model_mark_0 : decode b_Model_mark 0 = .ok (.aload_n 0, 1) := by decide +kernel
theorem d_Model_mark_1 : decode b_Model_mark 1 = .ok (.iload_n 1, 1) := by decide +kernel
theorem d_Model_mark_2 : decode b_Model_mark 2 = .ok (.invokevirtual 73, 3) := by decide +kernel
theorem d_Model_mark_5 : decode b_Model_mark 5 = .ok (.ifCond .eq 37, 3) := by decide +kernel
theorem d_Model_mark_8 : decode b_Model_mark 8 = .ok (.lload_n 2, 1) := by decide +kernel
theorem d_Model_mark_9 : decode b_Model_mark 9 = .ok (.lconst 0, 1) := by decide +kernel
theorem d_Model_mark_10 : decode b_Model_mark 10 = .ok (.ldc2_w 77, 3) := by decide +kernel
theorem d_Model_mark_13 : decode b_Model_mark 13 = .ok (.invokestatic 79, 3) := by decide +kernel
theorem d_Model_mark_16 : decode b_Model_mark 16 = .ok (.ifCond .eq 26, 3) := by decide +kernel
theorem d_Model_mark_19 : decode b_Model_mark 19 = .ok (.lload 4, 2) := by decide +kernel
theorem d_Model_mark_21 : decode b_Model_mark 21 = .ok (.lconst 0, 1) := by decide +kernel
theorem d_Model_mark_22 : decode b_Model_mark 22 = .ok (.ldc2_w 77, 3) := by decide +kernel
theorem d_Model_mark_25 : decode b_Model_mark 25 = .ok (.invokestatic 79, 3) := by decide +kernel
theorem d_Model_mark_28 : decode b_Model_mark 28 = .ok (.ifCond .eq 14, 3) := by decide +kernel
theorem d_Model_mark_31 : decode b_Model_mark 31 = .ok (.aload_n 0, 1) := by decide +kernel
theorem d_Model_mark_32 : decode b_Model_mark 32 = .ok (.getfield 57, 3) := by decide +kernel
theorem d_Model_mark_35 : decode b_Model_mark 35 = .ok (.iload_n 1, 1) := by decide +kernel
theorem d_Model_mark_36 : decode b_Model_mark 36 = .ok (.iaload, 1) := by decide +kernel
theorem d_Model_mark_37 : decode b_Model_mark 37 = .ok (.bipush 10, 2) := by decide +kernel
theorem d_Model_mark_39 : decode b_Model_mark 39 = .ok (.if_icmp .ne 5, 3) := by decide +kernel
theorem d_Model_mark_42 : decode b_Model_mark 42 = .ok (.iconst 0, 1) := by decide +kernel
theorem d_Model_mark_43 : decode b_Model_mark 43 = .ok (.ireturn, 1) := by decide +kernel
theorem d_Model_mark_44 : decode b_Model_mark 44 = .ok (.bipush 10, 2) := by decide +kernel
theorem d_Model_mark_46 : decode b_Model_mark 46 = .ok (.iload_n 1, 1) := by decide +kernel
theorem d_Model_mark_47 : decode b_Model_mark 47 = .ok (.imul, 1) := by decide +kernel
theorem d_Model_mark_48 : decode b_Model_mark 48 = .ok (.aload_n 0, 1) := by decide +kernel
theorem d_Model_mark_49 : decode b_Model_mark 49 = .ok (.getfield 57, 3) := by decide +kernel
theorem d_Model_mark_52 : decode b_Model_mark 52 = .ok (.iload_n 1, 1) := by decide +kernel
theorem d_Model_mark_53 : decode b_Model_mark 53 = .ok (.iaload, 1) := by decide +kernel
theorem d_Model_mark_54 : decode b_Model_mark 54 = .ok (.iadd, 1) := by decide +kernel
theorem d_Model_mark_55 : decode b_Model_mark 55 = .ok (.istore 6, 2) := by decide +kernel
theorem d_Model_mark_57 : decode b_Model_mark 57 = .ok (.aload_n 0, 1) := by decide +kernel
theorem d_Model_mark_58 : decode b_Model_mark 58 = .ok (.getfield 57, 3) := by decide +kernel
theorem d_Model_mark_61 : decode b_Model_mark 61 = .ok (.iload_n 1, 1) := by decide +kernel
theorem d_Model_mark_62 : decode b_Model_mark 62 = .ok (.iaload, 1) := by decide +kernel
theorem d_Model_mark_63 : decode b_Model_mark 63 = .ok (.ifCond .le 36, 3) := by decide +kernel
theorem d_Model_mark_66 : decode b_Model_mark 66 = .ok (.lload_n 2, 1) := by decide +kernel
theorem d_Model_mark_67 : decode b_Model_mark 67 = .ok (.aload_n 0, 1) := by decide +kernel
theorem d_Model_mark_68 : decode b_Model_mark 68 = .ok (.getfield 60, 3) := by decide +kernel
theorem d_Model_mark_71 : decode b_Model_mark 71 = .ok (.iload 6, 2) := by decide +kernel
theorem d_Model_mark_73 : decode b_Model_mark 73 = .ok (.iconst 1, 1) := by decide +kernel
theorem d_Model_mark_74 : decode b_Model_mark 74 = .ok (.isub, 1) := by decide +kernel
theorem d_Model_mark_75 : decode b_Model_mark 75 = .ok (.iaload, 1) := by decide +kernel
theorem d_Model_mark_76 : decode b_Model_mark 76 = .ok (.i2l, 1) := by decide +kernel
theorem d_Model_mark_77 : decode b_Model_mark 77 = .ok (.lcmp, 1) := by decide +kernel
theorem d_Model_mark_78 : decode b_Model_mark 78 = .ok (.ifCond .le 19, 3) := by decide +kernel
theorem d_Model_mark_81 : decode b_Model_mark 81 = .ok (.lload 4, 2) := by decide +kernel
theorem d_Model_mark_83 : decode b_Model_mark 83 = .ok (.aload_n 0, 1) := by decide +kernel
theorem d_Model_mark_84 : decode b_Model_mark 84 = .ok (.getfield 63, 3) := by decide +kernel
theorem d_Model_mark_87 : decode b_Model_mark 87 = .ok (.iload 6, 2) := by decide +kernel
theorem d_Model_mark_89 : decode b_Model_mark 89 = .ok (.iconst 1, 1) := by decide +kernel
theorem d_Model_mark_90 : decode b_Model_mark 90 = .ok (.isub, 1) := by decide +kernel
theorem d_Model_mark_91 : decode b_Model_mark 91 = .ok (.iaload, 1) := by decide +kernel
theorem d_Model_mark_92 : decode b_Model_mark 92 = .ok (.i2l, 1) := by decide +kernel
theorem d_Model_mark_93 : decode b_Model_mark 93 = .ok (.lcmp, 1) := by decide +kernel
theorem d_Model_mark_94 : decode b_Model_mark 94 = .ok (.ifCond .ge 5, 3) := by decide +kernel
theorem d_Model_mark_97 : decode b_Model_mark 97 = .ok (.iconst 0, 1) := by decide +kernel
theorem d_Model_mark_98 : decode b_Model_mark 98 = .ok (.ireturn, 1) := by decide +kernel
theorem d_Model_mark_99 : decode b_Model_mark 99 = .ok (.aload_n 0, 1) := by decide +kernel
theorem d_Model_mark_100 : decode b_Model_mark 100 = .ok (.getfield 60, 3) := by decide +kernel
theorem d_Model_mark_103 : decode b_Model_mark 103 = .ok (.iload 6, 2) := by decide +kernel
theorem d_Model_mark_105 : decode b_Model_mark 105 = .ok (.lload_n 2, 1) := by decide +kernel
theorem d_Model_mark_106 : decode b_Model_mark 106 = .ok (.l2i, 1) := by decide +kernel
theorem d_Model_mark_107 : decode b_Model_mark 107 = .ok (.iastore, 1) := by decide +kernel
theorem d_Model_mark_108 : decode b_Model_mark 108 = .ok (.aload_n 0, 1) := by decide +kernel
theorem d_Model_mark_109 : decode b_Model_mark 109 = .ok (.getfield 63, 3) := by decide +kernel
theorem d_Model_mark_112 : decode b_Model_mark 112 = .ok (.iload 6, 2) := by decide +kernel
theorem d_Model_mark_114 : decode b_Model_mark 114 = .ok (.lload 4, 2) := by decide +kernel
theorem d_Model_mark_116 : decode b_Model_mark 116 = .ok (.l2i, 1) := by decide +kernel
theorem d_Model_mark_117 : decode b_Model_mark 117 = .ok (.iastore, 1) := by decide +kernel
theorem d_Model_mark_118 : decode b_Model_mark 118 = .ok (.aload_n 0, 1) := by decide +kernel
theorem d_Model_mark_119 : decode b_Model_mark 119 = .ok (.getfield 57, 3) := by decide +kernel
theorem d_Model_mark_122 : decode b_Model_mark 122 = .ok (.iload_n 1, 1) := by decide +kernel
theorem d_Model_mark_123 : decode b_Model_mark 123 = .ok (.dup2, 1) := by decide +kernel
theorem d_Model_mark_124 : decode b_Model_mark 124 = .ok (.iaload, 1) := by decide +kernel
theorem d_Model_mark_125 : decode b_Model_mark 125 = .ok (.iconst 1, 1) := by decide +kernel
theorem d_Model_mark_126 : decode b_Model_mark 126 = .ok (.iadd, 1) := by decide +kernel
theorem d_Model_mark_127 : decode b_Model_mark 127 = .ok (.iastore, 1) := by decide +kernel
theorem d_Model_mark_128 : decode b_Model_mark 128 = .ok (.iconst 1, 1) := by decide +kernel
theorem d_Model_mark_129 : decode b_Model_mark 129 = .ok (.ireturn, 1) := by decide +kernel
theorem d_Model_corrected_0 : decode b_Model_corrected 0 = .ok (.aload_n 0, 1) := by decide +kernel
theorem d_Model_corrected_1 : decode b_Model_corrected 1 = .ok (.iload_n 1, 1) := by decide +kernel
theorem d_Model_corrected_2 : decode b_Model_corrected 2 = .ok (.invokevirtual 73, 3) := by decide +kernel
theorem d_Model_corrected_5 : decode b_Model_corrected 5 = .ok (.ifCond .eq 25, 3) := by decide +kernel
theorem d_Model_corrected_8 : decode b_Model_corrected 8 = .ok (.lload_n 2, 1) := by decide +kernel
theorem d_Model_corrected_9 : decode b_Model_corrected 9 = .ok (.lconst 0, 1) := by decide +kernel
theorem d_Model_corrected_10 : decode b_Model_corrected 10 = .ok (.ldc2_w 77, 3) := by decide +kernel
theorem d_Model_corrected_13 : decode b_Model_corrected 13 = .ok (.invokestatic 79, 3) := by decide +kernel
theorem d_Model_corrected_16 : decode b_Model_corrected 16 = .ok (.ifCond .eq 14, 3) := by decide +kernel
theorem d_Model_corrected_19 : decode b_Model_corrected 19 = .ok (.iload 4, 2) := by decide +kernel
theorem d_Model_corrected_21 : decode b_Model_corrected 21 = .ok (.ifCond .lt 9, 3) := by decide +kernel
theorem d_Model_corrected_24 : decode b_Model_corrected 24 = .ok (.iload 4, 2) := by decide +kernel
theorem d_Model_corrected_26 : decode b_Model_corrected 26 = .ok (.iconst 1, 1) := by decide +kernel
theorem d_Model_corrected_27 : decode b_Model_corrected 27 = .ok (.if_icmp .le 7, 3) := by decide +kernel
theorem d_Model_corrected_30 : decode b_Model_corrected 30 = .ok (.ldc2_w 124, 3) := by decide +kernel
theorem d_Model_corrected_33 : decode b_Model_corrected 33 = .ok (.lreturn, 1) := by decide +kernel
theorem d_Model_corrected_34 : decode b_Model_corrected 34 = .ok (.iconst (-1), 1) := by decide +kernel
theorem d_Model_corrected_35 : decode b_Model_corrected 35 = .ok (.istore 5, 2) := by decide +kernel
theorem d_Model_corrected_37 : decode b_Model_corrected 37 = .ok (.iconst (-1), 1) := by decide +kernel
theorem d_Model_corrected_38 : decode b_Model_corrected 38 = .ok (.istore 6, 2) := by decide +kernel
theorem d_Model_corrected_40 : decode b_Model_corrected 40 = .ok (.iconst 0, 1) := by decide +kernel
theorem d_Model_corrected_41 : decode b_Model_corrected 41 = .ok (.istore 7, 2) := by decide +kernel
theorem d_Model_corrected_43 : decode b_Model_corrected 43 = .ok (.iload 7, 2) := by decide +kernel
theorem d_Model_corrected_45 : decode b_Model_corrected 45 = .ok (.aload_n 0, 1) := by decide +kernel
theorem d_Model_corrected_46 : decode b_Model_corrected 46 = .ok (.getfield 57, 3) := by decide +kernel
theorem d_Model_corrected_49 : decode b_Model_corrected 49 = .ok (.iload_n 1, 1) := by decide +kernel
theorem d_Model_corrected_50 : decode b_Model_corrected 50 = .ok (.iaload, 1) := by decide +kernel
theorem d_Model_corrected_51 : decode b_Model_corrected 51 = .ok (.if_icmp .ge 67, 3) := by decide +kernel
theorem d_Model_corrected_54 : decode b_Model_corrected 54 = .ok (.bipush 10, 2) := by decide +kernel
theorem d_Model_corrected_56 : decode b_Model_corrected 56 = .ok (.iload_n 1, 1) := by decide +kernel
theorem d_Model_corrected_57 : decode b_Model_corrected 57 = .ok (.imul, 1) := by decide +kernel
theorem d_Model_corrected_58 : decode b_Model_corrected 58 = .ok (.iload 7, 2) := by decide +kernel
theorem d_Model_corrected_60 : decode b_Model_corrected 60 = .ok (.iadd, 1) := by decide +kernel
theorem d_Model_corrected_61 : decode b_Model_corrected 61 = .ok (.istore 8, 2) := by decide +kernel
theorem d_Model_corrected_63 : decode b_Model_corrected 63 = .ok (.aload_n 0, 1) := by decide +kernel
theorem d_Model_corrected_64 : decode b_Model_corrected 64 = .ok (.getfield 60, 3) := by decide +kernel
theorem d_Model_corrected_67 : decode b_Model_corrected 67 = .ok (.iload 8, 2) := by decide +kernel
theorem d_Model_corrected_69 : decode b_Model_corrected 69 = .ok (.iaload, 1) := by decide +kernel
theorem d_Model_corrected_70 : decode b_Model_corrected 70 = .ok (.i2l, 1) := by decide +kernel
theorem d_Model_corrected_71 : decode b_Model_corrected 71 = .ok (.lload_n 2, 1) := by decide +kernel
theorem d_Model_corrected_72 : decode b_Model_corrected 72 = .ok (.lcmp, 1) := by decide +kernel
theorem d_Model_corrected_73 : decode b_Model_corrected 73 = .ok (.ifCond .gt 8, 3) := by decide +kernel
theorem d_Model_corrected_76 : decode b_Model_corrected 76 = .ok (.iload 8, 2) := by decide +kernel
theorem d_Model_corrected_78 : decode b_Model_corrected 78 = .ok (.goto 5, 3) := by decide +kernel
theorem d_Model_corrected_81 : decode b_Model_corrected 81 = .ok (.iload 5, 2) := by decide +kernel
theorem d_Model_corrected_83 : decode b_Model_corrected 83 = .ok (.istore 5, 2) := by decide +kernel
theorem d_Model_corrected_85 : decode b_Model_corrected 85 = .ok (.iload 6, 2) := by decide +kernel
theorem d_Model_corrected_87 : decode b_Model_corrected 87 = .ok (.ifCond .ge 21, 3) := by decide +kernel
theorem d_Model_corrected_90 : decode b_Model_corrected 90 = .ok (.aload_n 0, 1) := by decide +kernel
theorem d_Model_corrected_91 : decode b_Model_corrected 91 = .ok (.getfield 60, 3) := by decide +kernel
theorem d_Model_corrected_94 : decode b_Model_corrected 94 = .ok (.iload 8, 2) := by decide +kernel
theorem d_Model_corrected_96 : decode b_Model_corrected 96 = .ok (.iaload, 1) := by decide +kernel
theorem d_Model_corrected_97 : decode b_Model_corrected 97 = .ok (.i2l, 1) := by decide +kernel
theorem d_Model_corrected_98 : decode b_Model_corrected 98 = .ok (.lload_n 2, 1) := by decide +kernel
theorem d_Model_corrected_99 : decode b_Model_corrected 99 = .ok (.lcmp, 1) := by decide +kernel
theorem d_Model_corrected_100 : decode b_Model_corrected 100 = .ok (.ifCond .le 8, 3) := by decide +kernel
theorem d_Model_corrected_103 : decode b_Model_corrected 103 = .ok (.iload 8, 2) := by decide +kernel
theorem d_Model_corrected_105 : decode b_Model_corrected 105 = .ok (.goto 5, 3) := by decide +kernel
theorem d_Model_corrected_108 : decode b_Model_corrected 108 = .ok (.iload 6, 2) := by decide +kernel
theorem d_Model_corrected_110 : decode b_Model_corrected 110 = .ok (.istore 6, 2) := by decide +kernel
theorem d_Model_corrected_112 : decode b_Model_corrected 112 = .ok (.iinc 7 1, 3) := by decide +kernel
theorem d_Model_corrected_115 : decode b_Model_corrected 115 = .ok (.goto (-72), 3) := by decide +kernel
theorem d_Model_corrected_118 : decode b_Model_corrected 118 = .ok (.iload 5, 2) := by decide +kernel
theorem d_Model_corrected_120 : decode b_Model_corrected 120 = .ok (.ifCond .lt 8, 3) := by decide +kernel
theorem d_Model_corrected_123 : decode b_Model_corrected 123 = .ok (.iload 6, 2) := by decide +kernel
theorem d_Model_corrected_125 : decode b_Model_corrected 125 = .ok (.ifCond .ge 58, 3) := by decide +kernel
theorem d_Model_corrected_128 : decode b_Model_corrected 128 = .ok (.iload 5, 2) := by decide +kernel
theorem d_Model_corrected_130 : decode b_Model_corrected 130 = .ok (.ifCond .ge 8, 3) := by decide +kernel
theorem d_Model_corrected_133 : decode b_Model_corrected 133 = .ok (.iload 6, 2) := by decide +kernel
theorem d_Model_corrected_135 : decode b_Model_corrected 135 = .ok (.goto 5, 3) := by decide +kernel
theorem d_Model_corrected_138 : decode b_Model_corrected 138 = .ok (.iload 5, 2) := by decide +kernel
theorem d_Model_corrected_140 : decode b_Model_corrected 140 = .ok (.istore 7, 2) := by decide +kernel
theorem d_Model_corrected_142 : decode b_Model_corrected 142 = .ok (.iload 7, 2) := by decide +kernel
theorem d_Model_corrected_144 : decode b_Model_corrected 144 = .ok (.ifCond .ge 7, 3) := by decide +kernel
theorem d_Model_corrected_147 : decode b_Model_corrected 147 = .ok (.lconst 0, 1) := by decide +kernel
theorem d_Model_corrected_148 : decode b_Model_corrected 148 = .ok (.goto 19, 3) := by decide +kernel
theorem d_Model_corrected_151 : decode b_Model_corrected 151 = .ok (.aload_n 0, 1) := by decide +kernel
theorem d_Model_corrected_152 : decode b_Model_corrected 152 = .ok (.getfield 63, 3) := by decide +kernel
theorem d_Model_corrected_155 : decode b_Model_corrected 155 = .ok (.iload 7, 2) := by decide +kernel
theorem d_Model_corrected_157 : decode b_Model_corrected 157 = .ok (.iaload, 1) := by decide +kernel
theorem d_Model_corrected_158 : decode b_Model_corrected 158 = .ok (.aload_n 0, 1) := by decide +kernel
theorem d_Model_corrected_159 : decode b_Model_corrected 159 = .ok (.getfield 60, 3) := by decide +kernel
theorem d_Model_corrected_162 : decode b_Model_corrected 162 = .ok (.iload 7, 2) := by decide +kernel
theorem d_Model_corrected_164 : decode b_Model_corrected 164 = .ok (.iaload, 1) := by decide +kernel
theorem d_Model_corrected_165 : decode b_Model_corrected 165 = .ok (.isub, 1) := by decide +kernel
theorem d_Model_corrected_166 : decode b_Model_corrected 166 = .ok (.i2l, 1) := by decide +kernel
theorem d_Model_corrected_167 : decode b_Model_corrected 167 = .ok (.lstore 8, 2) := by decide +kernel
theorem d_Model_corrected_169 : decode b_Model_corrected 169 = .ok (.iload 4, 2) := by decide +kernel
theorem d_Model_corrected_171 : decode b_Model_corrected 171 = .ok (.ifCond .ne 10, 3) := by decide +kernel
theorem d_Model_corrected_174 : decode b_Model_corrected 174 = .ok (.lload_n 2, 1) := by decide +kernel
theorem d_Model_corrected_175 : decode b_Model_corrected 175 = .ok (.lload 8, 2) := by decide +kernel
theorem d_Model_corrected_177 : decode b_Model_corrected 177 = .ok (.ladd, 1) := by decide +kernel
theorem d_Model_corrected_178 : decode b_Model_corrected 178 = .ok (.goto 4, 3) := by decide +kernel
theorem d_Model_corrected_181 : decode b_Model_corrected 181 = .ok (.lconst 1, 1) := by decide +kernel
theorem d_Model_corrected_182 : decode b_Model_corrected 182 = .ok (.lreturn, 1) := by decide +kernel
theorem d_Model_corrected_183 : decode b_Model_corrected 183 = .ok (.aload_n 0, 1) := by decide +kernel
theorem d_Model_corrected_184 : decode b_Model_corrected 184 = .ok (.getfield 60, 3) := by decide +kernel
theorem d_Model_corrected_187 : decode b_Model_corrected 187 = .ok (.iload 6, 2) := by decide +kernel
theorem d_Model_corrected_189 : decode b_Model_corrected 189 = .ok (.iaload, 1) := by decide +kernel
theorem d_Model_corrected_190 : decode b_Model_corrected 190 = .ok (.aload_n 0, 1) := by decide +kernel
theorem d_Model_corrected_191 : decode b_Model_corrected 191 = .ok (.getfield 60, 3) := by decide +kernel
theorem d_Model_corrected_194 : decode b_Model_corrected 194 = .ok (.iload 5, 2) := by decide +kernel
theorem d_Model_corrected_196 : decode b_Model_corrected 196 = .ok (.iaload, 1) := by decide +kernel
theorem d_Model_corrected_197 : decode b_Model_corrected 197 = .ok (.isub, 1) := by decide +kernel
theorem d_Model_corrected_198 : decode b_Model_corrected 198 = .ok (.i2l, 1) := by decide +kernel
theorem d_Model_corrected_199 : decode b_Model_corrected 199 = .ok (.lstore 7, 2) := by decide +kernel
theorem d_Model_corrected_201 : decode b_Model_corrected 201 = .ok (.aload_n 0, 1) := by decide +kernel
theorem d_Model_corrected_202 : decode b_Model_corrected 202 = .ok (.getfield 63, 3) := by decide +kernel
theorem d_Model_corrected_205 : decode b_Model_corrected 205 = .ok (.iload 5, 2) := by decide +kernel
theorem d_Model_corrected_207 : decode b_Model_corrected 207 = .ok (.iaload, 1) := by decide +kernel
theorem d_Model_corrected_208 : decode b_Model_corrected 208 = .ok (.i2l, 1) := by decide +kernel
theorem d_Model_corrected_209 : decode b_Model_corrected 209 = .ok (.lload 7, 2) := by decide +kernel
theorem d_Model_corrected_211 : decode b_Model_corrected 211 = .ok (.lmul, 1) := by decide +kernel
theorem d_Model_corrected_212 : decode b_Model_corrected 212 = .ok (.lload_n 2, 1) := by decide +kernel
theorem d_Model_corrected_213 : decode b_Model_corrected 213 = .ok (.aload_n 0, 1) := by decide +kernel
theorem d_Model_corrected_214 : decode b_Model_corrected 214 = .ok (.getfield 60, 3) := by decide +kernel
theorem d_Model_corrected_217 : decode b_Model_corrected 217 = .ok (.iload 5, 2) := by decide +kernel
theorem d_Model_corrected_219 : decode b_Model_corrected 219 = .ok (.iaload, 1) := by decide +kernel
theorem d_Model_corrected_220 : decode b_Model_corrected 220 = .ok (.i2l, 1) := by decide +kernel
theorem d_Model_corrected_221 : decode b_Model_corrected 221 = .ok (.lsub, 1) := by decide +kernel
theorem d_Model_corrected_222 : decode b_Model_corrected 222 = .ok (.aload_n 0, 1) := by decide +kernel
theorem d_Model_corrected_223 : decode b_Model_corrected 223 = .ok (.getfield 63, 3) := by decide +kernel
theorem d_Model_corrected_226 : decode b_Model_corrected 226 = .ok (.iload 6, 2) := by decide +kernel
theorem d_Model_corrected_228 : decode b_Model_corrected 228 = .ok (.iaload, 1) := by decide +kernel
theorem d_Model_corrected_229 : decode b_Model_corrected 229 = .ok (.aload_n 0, 1) := by decide +kernel
theorem d_Model_corrected_230 : decode b_Model_corrected 230 = .ok (.getfield 63, 3) := by decide +kernel
theorem d_Model_corrected_233 : decode b_Model_corrected 233 = .ok (.iload 5, 2) := by decide +kernel
theorem d_Model_corrected_235 : decode b_Model_corrected 235 = .ok (.iaload, 1) := by decide +kernel
theorem d_Model_corrected_236 : decode b_Model_corrected 236 = .ok (.isub, 1) := by decide +kernel
theorem d_Model_corrected_237 : decode b_Model_corrected 237 = .ok (.i2l, 1) := by decide +kernel
theorem d_Model_corrected_238 : decode b_Model_corrected 238 = .ok (.lmul, 1) := by decide +kernel
theorem d_Model_corrected_239 : decode b_Model_corrected 239 = .ok (.ladd, 1) := by decide +kernel
theorem d_Model_corrected_240 : decode b_Model_corrected 240 = .ok (.lstore 9, 2) := by decide +kernel
theorem d_Model_corrected_242 : decode b_Model_corrected 242 = .ok (.lload 9, 2) := by decide +kernel
theorem d_Model_corrected_244 : decode b_Model_corrected 244 = .ok (.lload 7, 2) := by decide +kernel
theorem d_Model_corrected_246 : decode b_Model_corrected 246 = .ok (.invokestatic 144, 3) := by decide +kernel
theorem d_Model_corrected_249 : decode b_Model_corrected 249 = .ok (.lstore 11, 2) := by decide +kernel
theorem d_Model_corrected_251 : decode b_Model_corrected 251 = .ok (.iload 4, 2) := by decide +kernel
theorem d_Model_corrected_253 : decode b_Model_corrected 253 = .ok (.ifCond .ne 11, 3) := by decide +kernel
theorem d_Model_corrected_256 : decode b_Model_corrected 256 = .ok (.lload 9, 2) := by decide +kernel
theorem d_Model_corrected_258 : decode b_Model_corrected 258 = .ok (.lload 11, 2) := by decide +kernel
theorem d_Model_corrected_260 : decode b_Model_corrected 260 = .ok (.ldiv, 1) := by decide +kernel
theorem d_Model_corrected_261 : decode b_Model_corrected 261 = .ok (.goto 8, 3) := by decide +kernel
theorem d_Model_corrected_264 : decode b_Model_corrected 264 = .ok (.lload 7, 2) := by decide +kernel
theorem d_Model_corrected_266 : decode b_Model_corrected 266 = .ok (.lload 11, 2) := by decide +kernel
theorem d_Model_corrected_268 : decode b_Model_corrected 268 = .ok (.ldiv, 1) := by decide +kernel
theorem d_Model_corrected_269 : decode b_Model_corrected 269 = .ok (.lreturn, 1) := by decide +kernel
theorem d_Model_common_0 : decode b_Model_common 0 = .ok (.lload_n 0, 1) := by decide +kernel
theorem d_Model_common_1 : decode b_Model_common 1 = .ok (.lstore 4, 2) := by decide +kernel
theorem d_Model_common_3 : decode b_Model_common 3 = .ok (.lload_n 2, 1) := by decide +kernel
theorem d_Model_common_4 : decode b_Model_common 4 = .ok (.lstore 6, 2) := by decide +kernel
theorem d_Model_common_6 : decode b_Model_common 6 = .ok (.lload 4, 2) := by decide +kernel
theorem d_Model_common_8 : decode b_Model_common 8 = .ok (.lconst 0, 1) := by decide +kernel
theorem d_Model_common_9 : decode b_Model_common 9 = .ok (.lcmp, 1) := by decide +kernel
theorem d_Model_common_10 : decode b_Model_common 10 = .ok (.ifCond .eq 21, 3) := by decide +kernel
theorem d_Model_common_13 : decode b_Model_common 13 = .ok (.lload 6, 2) := by decide +kernel
theorem d_Model_common_15 : decode b_Model_common 15 = .ok (.lload 4, 2) := by decide +kernel
theorem d_Model_common_17 : decode b_Model_common 17 = .ok (.lrem, 1) := by decide +kernel
theorem d_Model_common_18 : decode b_Model_common 18 = .ok (.lstore 8, 2) := by decide +kernel
theorem d_Model_common_20 : decode b_Model_common 20 = .ok (.lload 4, 2) := by decide +kernel
theorem d_Model_common_22 : decode b_Model_common 22 = .ok (.lstore 6, 2) := by decide +kernel
theorem d_Model_common_24 : decode b_Model_common 24 = .ok (.lload 8, 2) := by decide +kernel
theorem d_Model_common_26 : decode b_Model_common 26 = .ok (.lstore 4, 2) := by decide +kernel
theorem d_Model_common_28 : decode b_Model_common 28 = .ok (.goto (-22), 3) := by decide +kernel
theorem d_Model_common_31 : decode b_Model_common 31 = .ok (.lload 6, 2) := by decide +kernel
theorem d_Model_common_33 : decode b_Model_common 33 = .ok (.lreturn, 1) := by decide +kernel
theorem d_Model_play_0 : decode b_Model_play 0 = .ok (.aload_n 0, 1) := by decide +kernel
theorem d_Model_play_1 : decode b_Model_play 1 = .ok (.getfield 70, 3) := by decide +kernel
theorem d_Model_play_4 : decode b_Model_play 4 = .ok (.ifCond .eq 14, 3) := by decide +kernel
theorem d_Model_play_7 : decode b_Model_play 7 = .ok (.iload_n 3, 1) := by decide +kernel
theorem d_Model_play_8 : decode b_Model_play 8 = .ok (.ifCond .lt 10, 3) := by decide +kernel
theorem d_Model_play_11 : decode b_Model_play 11 = .ok (.iload_n 3, 1) := by decide +kernel
theorem d_Model_play_12 : decode b_Model_play 12 = .ok (.sipush 1000, 3) := by decide +kernel
theorem d_Model_play_15 : decode b_Model_play 15 = .ok (.if_icmp .le 5, 3) := by decide +kernel
theorem d_Model_play_18 : decode b_Model_play 18 = .ok (.iconst (-1), 1) := by decide +kernel
theorem d_Model_play_19 : decode b_Model_play 19 = .ok (.ireturn, 1) := by decide +kernel
theorem d_Model_play_20 : decode b_Model_play 20 = .ok (.lload_n 1, 1) := by decide +kernel
theorem d_Model_play_21 : decode b_Model_play 21 = .ok (.lstore 4, 2) := by decide +kernel
theorem d_Model_play_23 : decode b_Model_play 23 = .ok (.iconst 0, 1) := by decide +kernel
theorem d_Model_play_24 : decode b_Model_play 24 = .ok (.istore 6, 2) := by decide +kernel
theorem d_Model_play_26 : decode b_Model_play 26 = .ok (.iconst 0, 1) := by decide +kernel
theorem d_Model_play_27 : decode b_Model_play 27 = .ok (.istore 7, 2) := by decide +kernel
theorem d_Model_play_29 : decode b_Model_play 29 = .ok (.iload 7, 2) := by decide +kernel
theorem d_Model_play_31 : decode b_Model_play 31 = .ok (.iload_n 3, 1) := by decide +kernel
theorem d_Model_play_32 : decode b_Model_play 32 = .ok (.if_icmp .ge 89, 3) := by decide +kernel
theorem d_Model_play_35 : decode b_Model_play 35 = .ok (.lload 4, 2) := by decide +kernel
theorem d_Model_play_37 : decode b_Model_play 37 = .ok (.ldc2_w 148, 3) := by decide +kernel
theorem d_Model_play_40 : decode b_Model_play 40 = .ok (.lmul, 1) := by decide +kernel
theorem d_Model_play_41 : decode b_Model_play 41 = .ok (.ldc2_w 150, 3) := by decide +kernel
theorem d_Model_play_44 : decode b_Model_play 44 = .ok (.ladd, 1) := by decide +kernel
theorem d_Model_play_45 : decode b_Model_play 45 = .ok (.lstore 4, 2) := by decide +kernel
theorem d_Model_play_47 : decode b_Model_play 47 = .ok (.lload 4, 2) := by decide +kernel
theorem d_Model_play_49 : decode b_Model_play 49 = .ok (.bipush 33, 2) := by decide +kernel
theorem d_Model_play_51 : decode b_Model_play 51 = .ok (.lushr, 1) := by decide +kernel
theorem d_Model_play_52 : decode b_Model_play 52 = .ok (.aload_n 0, 1) := by decide +kernel
theorem d_Model_play_53 : decode b_Model_play 53 = .ok (.getfield 70, 3) := by decide +kernel
theorem d_Model_play_56 : decode b_Model_play 56 = .ok (.i2l, 1) := by decide +kernel
theorem d_Model_play_57 : decode b_Model_play 57 = .ok (.lrem, 1) := by decide +kernel
theorem d_Model_play_58 : decode b_Model_play 58 = .ok (.l2i, 1) := by decide +kernel
theorem d_Model_play_59 : decode b_Model_play 59 = .ok (.istore 8, 2) := by decide +kernel
theorem d_Model_play_61 : decode b_Model_play 61 = .ok (.lload 4, 2) := by decide +kernel
theorem d_Model_play_63 : decode b_Model_play 63 = .ok (.ldc2_w 148, 3) := by decide +kernel
theorem d_Model_play_66 : decode b_Model_play 66 = .ok (.lmul, 1) := by decide +kernel
theorem d_Model_play_67 : decode b_Model_play 67 = .ok (.ldc2_w 150, 3) := by decide +kernel
theorem d_Model_play_70 : decode b_Model_play 70 = .ok (.ladd, 1) := by decide +kernel
theorem d_Model_play_71 : decode b_Model_play 71 = .ok (.lstore 4, 2) := by decide +kernel
theorem d_Model_play_73 : decode b_Model_play 73 = .ok (.lload 4, 2) := by decide +kernel
theorem d_Model_play_75 : decode b_Model_play 75 = .ok (.bipush 33, 2) := by decide +kernel
theorem d_Model_play_77 : decode b_Model_play 77 = .ok (.lushr, 1) := by decide +kernel
theorem d_Model_play_78 : decode b_Model_play 78 = .ok (.aload_n 0, 1) := by decide +kernel
theorem d_Model_play_79 : decode b_Model_play 79 = .ok (.getfield 70, 3) := by decide +kernel
theorem d_Model_play_82 : decode b_Model_play 82 = .ok (.i2l, 1) := by decide +kernel
theorem d_Model_play_83 : decode b_Model_play 83 = .ok (.lrem, 1) := by decide +kernel
theorem d_Model_play_84 : decode b_Model_play 84 = .ok (.l2i, 1) := by decide +kernel
theorem d_Model_play_85 : decode b_Model_play 85 = .ok (.istore 9, 2) := by decide +kernel
theorem d_Model_play_87 : decode b_Model_play 87 = .ok (.iload 8, 2) := by decide +kernel
theorem d_Model_play_89 : decode b_Model_play 89 = .ok (.iload 9, 2) := by decide +kernel
theorem d_Model_play_91 : decode b_Model_play 91 = .ok (.if_icmp .eq 24, 3) := by decide +kernel
theorem d_Model_play_94 : decode b_Model_play 94 = .ok (.iload 6, 2) := by decide +kernel
theorem d_Model_play_96 : decode b_Model_play 96 = .ok (.aload_n 0, 1) := by decide +kernel
theorem d_Model_play_97 : decode b_Model_play 97 = .ok (.iload 8, 2) := by decide +kernel
theorem d_Model_play_99 : decode b_Model_play 99 = .ok (.iload 9, 2) := by decide +kernel
theorem d_Model_play_101 : decode b_Model_play 101 = .ok (.invokevirtual 99, 3) := by decide +kernel
theorem d_Model_play_104 : decode b_Model_play 104 = .ok (.ifCond .eq 7, 3) := by decide +kernel
theorem d_Model_play_107 : decode b_Model_play 107 = .ok (.iconst 1, 1) := by decide +kernel
theorem d_Model_play_108 : decode b_Model_play 108 = .ok (.goto 4, 3) := by decide +kernel
theorem d_Model_play_111 : decode b_Model_play 111 = .ok (.iconst 0, 1) := by decide +kernel
theorem d_Model_play_112 : decode b_Model_play 112 = .ok (.iadd, 1) := by decide +kernel
theorem d_Model_play_113 : decode b_Model_play 113 = .ok (.istore 6, 2) := by decide +kernel
theorem d_Model_play_115 : decode b_Model_play 115 = .ok (.iinc 7 1, 3) := by decide +kernel
theorem d_Model_play_118 : decode b_Model_play 118 = .ok (.goto (-89), 3) := by decide +kernel
theorem d_Model_play_121 : decode b_Model_play 121 = .ok (.iload 6, 2) := by decide +kernel
theorem d_Model_play_123 : decode b_Model_play 123 = .ok (.ireturn, 1) := by decide +kernel
