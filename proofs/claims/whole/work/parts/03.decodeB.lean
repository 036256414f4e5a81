theorem dX6_init_0 : decode cX6_init 0 = .ok (.aload_n 0, 1) := by decide +kernel
theorem dX6_init_1 : decode cX6_init 1 = .ok (.invokespecial 1, 3) := by decide +kernel
theorem dX6_init_4 : decode cX6_init 4 = .ok (.aload_n 0, 1) := by decide +kernel
theorem dX6_init_5 : decode cX6_init 5 = .ok (.bipush 6, 2) := by decide +kernel
theorem dX6_init_7 : decode cX6_init 7 = .ok (.newarray .int, 2) := by decide +kernel
theorem dX6_init_9 : decode cX6_init 9 = .ok (.dup, 1) := by decide +kernel
theorem dX6_init_10 : decode cX6_init 10 = .ok (.iconst 0, 1) := by decide +kernel
theorem dX6_init_11 : decode cX6_init 11 = .ok (.iconst 0, 1) := by decide +kernel
theorem dX6_init_12 : decode cX6_init 12 = .ok (.iastore, 1) := by decide +kernel
theorem dX6_init_13 : decode cX6_init 13 = .ok (.dup, 1) := by decide +kernel
theorem dX6_init_14 : decode cX6_init 14 = .ok (.iconst 1, 1) := by decide +kernel
theorem dX6_init_15 : decode cX6_init 15 = .ok (.bipush 63, 2) := by decide +kernel
theorem dX6_init_17 : decode cX6_init 17 = .ok (.iastore, 1) := by decide +kernel
theorem dX6_init_18 : decode cX6_init 18 = .ok (.dup, 1) := by decide +kernel
theorem dX6_init_19 : decode cX6_init 19 = .ok (.iconst 2, 1) := by decide +kernel
theorem dX6_init_20 : decode cX6_init 20 = .ok (.iconst 1, 1) := by decide +kernel
theorem dX6_init_21 : decode cX6_init 21 = .ok (.iastore, 1) := by decide +kernel
theorem dX6_init_22 : decode cX6_init 22 = .ok (.dup, 1) := by decide +kernel
theorem dX6_init_23 : decode cX6_init 23 = .ok (.iconst 3, 1) := by decide +kernel
theorem dX6_init_24 : decode cX6_init 24 = .ok (.bipush 100, 2) := by decide +kernel
theorem dX6_init_26 : decode cX6_init 26 = .ok (.iastore, 1) := by decide +kernel
theorem dX6_init_27 : decode cX6_init 27 = .ok (.dup, 1) := by decide +kernel
theorem dX6_init_28 : decode cX6_init 28 = .ok (.iconst 4, 1) := by decide +kernel
theorem dX6_init_29 : decode cX6_init 29 = .ok (.iconst 0, 1) := by decide +kernel
theorem dX6_init_30 : decode cX6_init 30 = .ok (.iastore, 1) := by decide +kernel
theorem dX6_init_31 : decode cX6_init 31 = .ok (.dup, 1) := by decide +kernel
theorem dX6_init_32 : decode cX6_init 32 = .ok (.iconst 5, 1) := by decide +kernel
theorem dX6_init_33 : decode cX6_init 33 = .ok (.iconst 0, 1) := by decide +kernel
theorem dX6_init_34 : decode cX6_init 34 = .ok (.iastore, 1) := by decide +kernel
theorem dX6_init_35 : decode cX6_init 35 = .ok (.putfield 7, 3) := by decide +kernel
theorem dX6_init_38 : decode cX6_init 38 = .ok (.aload_n 0, 1) := by decide +kernel
theorem dX6_init_39 : decode cX6_init 39 = .ok (.bipush 32, 2) := by decide +kernel
theorem dX6_init_41 : decode cX6_init 41 = .ok (.newarray .int, 2) := by decide +kernel
theorem dX6_init_43 : decode cX6_init 43 = .ok (.putfield 13, 3) := by decide +kernel
theorem dX6_init_46 : decode cX6_init 46 = .ok (.aload_n 0, 1) := by decide +kernel
theorem dX6_init_47 : decode cX6_init 47 = .ok (.bipush 38, 2) := by decide +kernel
theorem dX6_init_49 : decode cX6_init 49 = .ok (.newarray .int, 2) := by decide +kernel
theorem dX6_init_51 : decode cX6_init 51 = .ok (.putfield 16, 3) := by decide +kernel
theorem dX6_init_54 : decode cX6_init 54 = .ok (.aload_n 0, 1) := by decide +kernel
theorem dX6_init_55 : decode cX6_init 55 = .ok (.bipush 8, 2) := by decide +kernel
theorem dX6_init_57 : decode cX6_init 57 = .ok (.newarray .int, 2) := by decide +kernel
theorem dX6_init_59 : decode cX6_init 59 = .ok (.putfield 19, 3) := by decide +kernel
theorem dX6_init_62 : decode cX6_init 62 = .ok (.aload_n 0, 1) := by decide +kernel
theorem dX6_init_63 : decode cX6_init 63 = .ok (.bipush 8, 2) := by decide +kernel
theorem dX6_init_65 : decode cX6_init 65 = .ok (.newarray .int, 2) := by decide +kernel
theorem dX6_init_67 : decode cX6_init 67 = .ok (.putfield 22, 3) := by decide +kernel
theorem dX6_init_70 : decode cX6_init 70 = .ok (.aload_n 0, 1) := by decide +kernel
theorem dX6_init_71 : decode cX6_init 71 = .ok (.bipush 8, 2) := by decide +kernel
theorem dX6_init_73 : decode cX6_init 73 = .ok (.newarray .int, 2) := by decide +kernel
theorem dX6_init_75 : decode cX6_init 75 = .ok (.putfield 25, 3) := by decide +kernel
theorem dX6_init_78 : decode cX6_init 78 = .ok (.aload_n 0, 1) := by decide +kernel
theorem dX6_init_79 : decode cX6_init 79 = .ok (.bipush 8, 2) := by decide +kernel
theorem dX6_init_81 : decode cX6_init 81 = .ok (.newarray .int, 2) := by decide +kernel
theorem dX6_init_83 : decode cX6_init 83 = .ok (.putfield 28, 3) := by decide +kernel
theorem dX6_init_86 : decode cX6_init 86 = .ok (.aload_n 0, 1) := by decide +kernel
theorem dX6_init_87 : decode cX6_init 87 = .ok (.sipush 480, 3) := by decide +kernel
theorem dX6_init_90 : decode cX6_init 90 = .ok (.newarray .int, 2) := by decide +kernel
theorem dX6_init_92 : decode cX6_init 92 = .ok (.putfield 31, 3) := by decide +kernel
theorem dX6_init_95 : decode cX6_init 95 = .ok (.aload_n 0, 1) := by decide +kernel
theorem dX6_init_96 : decode cX6_init 96 = .ok (.iconst 3, 1) := by decide +kernel
theorem dX6_init_97 : decode cX6_init 97 = .ok (.newarray .int, 2) := by decide +kernel
theorem dX6_init_99 : decode cX6_init 99 = .ok (.putfield 34, 3) := by decide +kernel
theorem dX6_init_102 : decode cX6_init 102 = .ok (.aload_n 0, 1) := by decide +kernel
theorem dX6_init_103 : decode cX6_init 103 = .ok (.sipush 160, 3) := by decide +kernel
theorem dX6_init_106 : decode cX6_init 106 = .ok (.newarray .int, 2) := by decide +kernel
theorem dX6_init_108 : decode cX6_init 108 = .ok (.putfield 37, 3) := by decide +kernel
theorem dX6_init_111 : decode cX6_init 111 = .ok (.aload_n 0, 1) := by decide +kernel
theorem dX6_init_112 : decode cX6_init 112 = .ok (.bipush 8, 2) := by decide +kernel
theorem dX6_init_114 : decode cX6_init 114 = .ok (.newarray .int, 2) := by decide +kernel
theorem dX6_init_116 : decode cX6_init 116 = .ok (.putfield 40, 3) := by decide +kernel
theorem dX6_init_119 : decode cX6_init 119 = .ok (.aload_n 0, 1) := by decide +kernel
theorem dX6_init_120 : decode cX6_init 120 = .ok (.bipush 24, 2) := by decide +kernel
theorem dX6_init_122 : decode cX6_init 122 = .ok (.newarray .int, 2) := by decide +kernel
theorem dX6_init_124 : decode cX6_init 124 = .ok (.putfield 43, 3) := by decide +kernel
theorem dX6_init_127 : decode cX6_init 127 = .ok (.aload_n 0, 1) := by decide +kernel
theorem dX6_init_128 : decode cX6_init 128 = .ok (.bipush 8, 2) := by decide +kernel
theorem dX6_init_130 : decode cX6_init 130 = .ok (.newarray .int, 2) := by decide +kernel
theorem dX6_init_132 : decode cX6_init 132 = .ok (.putfield 46, 3) := by decide +kernel
theorem dX6_init_135 : decode cX6_init 135 = .ok (.aload_n 0, 1) := by decide +kernel
theorem dX6_init_136 : decode cX6_init 136 = .ok (.iconst 4, 1) := by decide +kernel
theorem dX6_init_137 : decode cX6_init 137 = .ok (.newarray .int, 2) := by decide +kernel
theorem dX6_init_139 : decode cX6_init 139 = .ok (.dup, 1) := by decide +kernel
theorem dX6_init_140 : decode cX6_init 140 = .ok (.iconst 0, 1) := by decide +kernel
theorem dX6_init_141 : decode cX6_init 141 = .ok (.iconst 3, 1) := by decide +kernel
theorem dX6_init_142 : decode cX6_init 142 = .ok (.iastore, 1) := by decide +kernel
theorem dX6_init_143 : decode cX6_init 143 = .ok (.dup, 1) := by decide +kernel
theorem dX6_init_144 : decode cX6_init 144 = .ok (.iconst 1, 1) := by decide +kernel
theorem dX6_init_145 : decode cX6_init 145 = .ok (.iconst 0, 1) := by decide +kernel
theorem dX6_init_146 : decode cX6_init 146 = .ok (.iastore, 1) := by decide +kernel
theorem dX6_init_147 : decode cX6_init 147 = .ok (.dup, 1) := by decide +kernel
theorem dX6_init_148 : decode cX6_init 148 = .ok (.iconst 2, 1) := by decide +kernel
theorem dX6_init_149 : decode cX6_init 149 = .ok (.iconst 1, 1) := by decide +kernel
theorem dX6_init_150 : decode cX6_init 150 = .ok (.iastore, 1) := by decide +kernel
theorem dX6_init_151 : decode cX6_init 151 = .ok (.dup, 1) := by decide +kernel
theorem dX6_init_152 : decode cX6_init 152 = .ok (.iconst 3, 1) := by decide +kernel
theorem dX6_init_153 : decode cX6_init 153 = .ok (.sipush 1000, 3) := by decide +kernel
theorem dX6_init_156 : decode cX6_init 156 = .ok (.iastore, 1) := by decide +kernel
theorem dX6_init_157 : decode cX6_init 157 = .ok (.putfield 49, 3) := by decide +kernel
theorem dX6_init_160 : decode cX6_init 160 = .ok (.return_, 1) := by decide +kernel
theorem dX6_in_0 : decode cX6_in 0 = .ok (.iload_n 0, 1) := by decide +kernel
theorem dX6_in_1 : decode cX6_in 1 = .ok (.iload_n 1, 1) := by decide +kernel
theorem dX6_in_2 : decode cX6_in 2 = .ok (.if_icmp .lt 12, 3) := by decide +kernel
theorem dX6_in_5 : decode cX6_in 5 = .ok (.iload_n 0, 1) := by decide +kernel
theorem dX6_in_6 : decode cX6_in 6 = .ok (.iload_n 2, 1) := by decide +kernel
theorem dX6_in_7 : decode cX6_in 7 = .ok (.if_icmp .gt 7, 3) := by decide +kernel
theorem dX6_in_10 : decode cX6_in 10 = .ok (.iconst 1, 1) := by decide +kernel
theorem dX6_in_11 : decode cX6_in 11 = .ok (.goto 4, 3) := by decide +kernel
theorem dX6_in_14 : decode cX6_in 14 = .ok (.iconst 0, 1) := by decide +kernel
theorem dX6_in_15 : decode cX6_in 15 = .ok (.ireturn, 1) := by decide +kernel
theorem dX6_isBeat_0 : decode cX6_isBeat 0 = .ok (.iload_n 1, 1) := by decide +kernel
theorem dX6_isBeat_1 : decode cX6_isBeat 1 = .ok (.iconst 0, 1) := by decide +kernel
theorem dX6_isBeat_2 : decode cX6_isBeat 2 = .ok (.aload_n 0, 1) := by decide +kernel
theorem dX6_isBeat_3 : decode cX6_isBeat 3 = .ok (.getfield 7, 3) := by decide +kernel
theorem dX6_isBeat_6 : decode cX6_isBeat 6 = .ok (.iconst 5, 1) := by decide +kernel
theorem dX6_isBeat_7 : decode cX6_isBeat 7 = .ok (.iaload, 1) := by decide +kernel
theorem dX6_isBeat_8 : decode cX6_isBeat 8 = .ok (.iconst 1, 1) := by decide +kernel
theorem dX6_isBeat_9 : decode cX6_isBeat 9 = .ok (.isub, 1) := by decide +kernel
theorem dX6_isBeat_10 : decode cX6_isBeat 10 = .ok (.invokestatic 52, 3) := by decide +kernel
theorem dX6_isBeat_13 : decode cX6_isBeat 13 = .ok (.ireturn, 1) := by decide +kernel
theorem dX6_isSystem_0 : decode cX6_isSystem 0 = .ok (.iload_n 0, 1) := by decide +kernel
theorem dX6_isSystem_1 : decode cX6_isSystem 1 = .ok (.iconst 0, 1) := by decide +kernel
theorem dX6_isSystem_2 : decode cX6_isSystem 2 = .ok (.bipush 11, 2) := by decide +kernel
theorem dX6_isSystem_4 : decode cX6_isSystem 4 = .ok (.invokestatic 52, 3) := by decide +kernel
theorem dX6_isSystem_7 : decode cX6_isSystem 7 = .ok (.ifCond .eq 17, 3) := by decide +kernel
theorem dX6_isSystem_10 : decode cX6_isSystem 10 = .ok (.iload_n 1, 1) := by decide +kernel
theorem dX6_isSystem_11 : decode cX6_isSystem 11 = .ok (.iconst 0, 1) := by decide +kernel
theorem dX6_isSystem_12 : decode cX6_isSystem 12 = .ok (.bipush 63, 2) := by decide +kernel
theorem dX6_isSystem_14 : decode cX6_isSystem 14 = .ok (.invokestatic 52, 3) := by decide +kernel
theorem dX6_isSystem_17 : decode cX6_isSystem 17 = .ok (.ifCond .eq 7, 3) := by decide +kernel
theorem dX6_isSystem_20 : decode cX6_isSystem 20 = .ok (.iconst 1, 1) := by decide +kernel
theorem dX6_isSystem_21 : decode cX6_isSystem 21 = .ok (.goto 4, 3) := by decide +kernel
theorem dX6_isSystem_24 : decode cX6_isSystem 24 = .ok (.iconst 0, 1) := by decide +kernel
theorem dX6_isSystem_25 : decode cX6_isSystem 25 = .ok (.ireturn, 1) := by decide +kernel
theorem dX6_system_0 : decode cX6_system 0 = .ok (.iload_n 1, 1) := by decide +kernel
theorem dX6_system_1 : decode cX6_system 1 = .ok (.iload_n 2, 1) := by decide +kernel
theorem dX6_system_2 : decode cX6_system 2 = .ok (.invokestatic 56, 3) := by decide +kernel
theorem dX6_system_5 : decode cX6_system 5 = .ok (.ifCond .ne 5, 3) := by decide +kernel
theorem dX6_system_8 : decode cX6_system 8 = .ok (.iconst (-1), 1) := by decide +kernel
theorem dX6_system_9 : decode cX6_system 9 = .ok (.ireturn, 1) := by decide +kernel
theorem dX6_system_10 : decode cX6_system 10 = .ok (.aload_n 0, 1) := by decide +kernel
theorem dX6_system_11 : decode cX6_system 11 = .ok (.getfield 7, 3) := by decide +kernel
theorem dX6_system_14 : decode cX6_system 14 = .ok (.iconst 0, 1) := by decide +kernel
theorem dX6_system_15 : decode cX6_system 15 = .ok (.iload_n 1, 1) := by decide +kernel
theorem dX6_system_16 : decode cX6_system 16 = .ok (.iastore, 1) := by decide +kernel
theorem dX6_system_17 : decode cX6_system 17 = .ok (.aload_n 0, 1) := by decide +kernel
theorem dX6_system_18 : decode cX6_system 18 = .ok (.getfield 7, 3) := by decide +kernel
theorem dX6_system_21 : decode cX6_system 21 = .ok (.iconst 1, 1) := by decide +kernel
theorem dX6_system_22 : decode cX6_system 22 = .ok (.iload_n 2, 1) := by decide +kernel
theorem dX6_system_23 : decode cX6_system 23 = .ok (.iastore, 1) := by decide +kernel
theorem dX6_system_24 : decode cX6_system 24 = .ok (.iconst 1, 1) := by decide +kernel
theorem dX6_system_25 : decode cX6_system 25 = .ok (.ireturn, 1) := by decide +kernel
theorem dX6_rootOf_0 : decode cX6_rootOf 0 = .ok (.aload_n 0, 1) := by decide +kernel
theorem dX6_rootOf_1 : decode cX6_rootOf 1 = .ok (.getfield 7, 3) := by decide +kernel
theorem dX6_rootOf_4 : decode cX6_rootOf 4 = .ok (.iconst 0, 1) := by decide +kernel
theorem dX6_rootOf_5 : decode cX6_rootOf 5 = .ok (.iaload, 1) := by decide +kernel
theorem dX6_rootOf_6 : decode cX6_rootOf 6 = .ok (.bipush 7, 2) := by decide +kernel
theorem dX6_rootOf_8 : decode cX6_rootOf 8 = .ok (.iload_n 1, 1) := by decide +kernel
theorem dX6_rootOf_9 : decode cX6_rootOf 9 = .ok (.imul, 1) := by decide +kernel
theorem dX6_rootOf_10 : decode cX6_rootOf 10 = .ok (.iadd, 1) := by decide +kernel
theorem dX6_rootOf_11 : decode cX6_rootOf 11 = .ok (.bipush 12, 2) := by decide +kernel
theorem dX6_rootOf_13 : decode cX6_rootOf 13 = .ok (.irem, 1) := by decide +kernel
theorem dX6_rootOf_14 : decode cX6_rootOf 14 = .ok (.ireturn, 1) := by decide +kernel
theorem dX6_isThere_0 : decode cX6_isThere 0 = .ok (.aload_n 0, 1) := by decide +kernel
theorem dX6_isThere_1 : decode cX6_isThere 1 = .ok (.getfield 7, 3) := by decide +kernel
theorem dX6_isThere_4 : decode cX6_isThere 4 = .ok (.iconst 1, 1) := by decide +kernel
theorem dX6_isThere_5 : decode cX6_isThere 5 = .ok (.iaload, 1) := by decide +kernel
theorem dX6_isThere_6 : decode cX6_isThere 6 = .ok (.iload_n 1, 1) := by decide +kernel
theorem dX6_isThere_7 : decode cX6_isThere 7 = .ok (.bipush 6, 2) := by decide +kernel
theorem dX6_isThere_9 : decode cX6_isThere 9 = .ok (.irem, 1) := by decide +kernel
theorem dX6_isThere_10 : decode cX6_isThere 10 = .ok (.ishr, 1) := by decide +kernel
theorem dX6_isThere_11 : decode cX6_isThere 11 = .ok (.iconst 1, 1) := by decide +kernel
theorem dX6_isThere_12 : decode cX6_isThere 12 = .ok (.iand, 1) := by decide +kernel
theorem dX6_isThere_13 : decode cX6_isThere 13 = .ok (.iconst 1, 1) := by decide +kernel
theorem dX6_isThere_14 : decode cX6_isThere 14 = .ok (.if_icmp .ne 7, 3) := by decide +kernel
theorem dX6_isThere_17 : decode cX6_isThere 17 = .ok (.iconst 1, 1) := by decide +kernel
theorem dX6_isThere_18 : decode cX6_isThere 18 = .ok (.goto 4, 3) := by decide +kernel
theorem dX6_isThere_21 : decode cX6_isThere 21 = .ok (.iconst 0, 1) := by decide +kernel
theorem dX6_isThere_22 : decode cX6_isThere 22 = .ok (.ireturn, 1) := by decide +kernel
theorem dX6_soundOf_0 : decode cX6_soundOf 0 = .ok (.aload_n 0, 1) := by decide +kernel
theorem dX6_soundOf_1 : decode cX6_soundOf 1 = .ok (.iload_n 1, 1) := by decide +kernel
theorem dX6_soundOf_2 : decode cX6_soundOf 2 = .ok (.bipush 6, 2) := by decide +kernel
theorem dX6_soundOf_4 : decode cX6_soundOf 4 = .ok (.idiv, 1) := by decide +kernel
theorem dX6_soundOf_5 : decode cX6_soundOf 5 = .ok (.invokevirtual 60, 3) := by decide +kernel
theorem dX6_soundOf_8 : decode cX6_soundOf 8 = .ok (.istore_n 2, 1) := by decide +kernel
theorem dX6_soundOf_9 : decode cX6_soundOf 9 = .ok (.iload_n 1, 1) := by decide +kernel
theorem dX6_soundOf_10 : decode cX6_soundOf 10 = .ok (.bipush 6, 2) := by decide +kernel
theorem dX6_soundOf_12 : decode cX6_soundOf 12 = .ok (.irem, 1) := by decide +kernel
theorem dX6_soundOf_13 : decode cX6_soundOf 13 = .ok (.tableswitch 117 0 4 #[35, 44, 48, 71, 94], 35) := by decide +kernel
theorem dX6_soundOf_48 : decode cX6_soundOf 48 = .ok (.iconst 1, 1) := by decide +kernel
theorem dX6_soundOf_49 : decode cX6_soundOf 49 = .ok (.iload_n 2, 1) := by decide +kernel
theorem dX6_soundOf_50 : decode cX6_soundOf 50 = .ok (.iconst 4, 1) := by decide +kernel
theorem dX6_soundOf_51 : decode cX6_soundOf 51 = .ok (.iadd, 1) := by decide +kernel
theorem dX6_soundOf_52 : decode cX6_soundOf 52 = .ok (.bipush 12, 2) := by decide +kernel
theorem dX6_soundOf_54 : decode cX6_soundOf 54 = .ok (.irem, 1) := by decide +kernel
theorem dX6_soundOf_55 : decode cX6_soundOf 55 = .ok (.ishl, 1) := by decide +kernel
theorem dX6_soundOf_56 : decode cX6_soundOf 56 = .ok (.ireturn, 1) := by decide +kernel
theorem dX6_soundOf_57 : decode cX6_soundOf 57 = .ok (.iconst 1, 1) := by decide +kernel
theorem dX6_soundOf_58 : decode cX6_soundOf 58 = .ok (.iload_n 2, 1) := by decide +kernel
theorem dX6_soundOf_59 : decode cX6_soundOf 59 = .ok (.ishl, 1) := by decide +kernel
theorem dX6_soundOf_60 : decode cX6_soundOf 60 = .ok (.ireturn, 1) := by decide +kernel
theorem dX6_soundOf_61 : decode cX6_soundOf 61 = .ok (.iconst 1, 1) := by decide +kernel
theorem dX6_soundOf_62 : decode cX6_soundOf 62 = .ok (.iload_n 2, 1) := by decide +kernel
theorem dX6_soundOf_63 : decode cX6_soundOf 63 = .ok (.ishl, 1) := by decide +kernel
theorem dX6_soundOf_64 : decode cX6_soundOf 64 = .ok (.iconst 1, 1) := by decide +kernel
theorem dX6_soundOf_65 : decode cX6_soundOf 65 = .ok (.iload_n 2, 1) := by decide +kernel
theorem dX6_soundOf_66 : decode cX6_soundOf 66 = .ok (.iconst 4, 1) := by decide +kernel
theorem dX6_soundOf_67 : decode cX6_soundOf 67 = .ok (.iadd, 1) := by decide +kernel
theorem dX6_soundOf_68 : decode cX6_soundOf 68 = .ok (.bipush 12, 2) := by decide +kernel
theorem dX6_soundOf_70 : decode cX6_soundOf 70 = .ok (.irem, 1) := by decide +kernel
theorem dX6_soundOf_71 : decode cX6_soundOf 71 = .ok (.ishl, 1) := by decide +kernel
theorem dX6_soundOf_72 : decode cX6_soundOf 72 = .ok (.ior, 1) := by decide +kernel
theorem dX6_soundOf_73 : decode cX6_soundOf 73 = .ok (.iconst 1, 1) := by decide +kernel
theorem dX6_soundOf_74 : decode cX6_soundOf 74 = .ok (.iload_n 2, 1) := by decide +kernel
theorem dX6_soundOf_75 : decode cX6_soundOf 75 = .ok (.bipush 7, 2) := by decide +kernel
theorem dX6_soundOf_77 : decode cX6_soundOf 77 = .ok (.iadd, 1) := by decide +kernel
theorem dX6_soundOf_78 : decode cX6_soundOf 78 = .ok (.bipush 12, 2) := by decide +kernel
theorem dX6_soundOf_80 : decode cX6_soundOf 80 = .ok (.irem, 1) := by decide +kernel
theorem dX6_soundOf_81 : decode cX6_soundOf 81 = .ok (.ishl, 1) := by decide +kernel
theorem dX6_soundOf_82 : decode cX6_soundOf 82 = .ok (.ior, 1) := by decide +kernel
theorem dX6_soundOf_83 : decode cX6_soundOf 83 = .ok (.ireturn, 1) := by decide +kernel
theorem dX6_soundOf_84 : decode cX6_soundOf 84 = .ok (.iconst 1, 1) := by decide +kernel
theorem dX6_soundOf_85 : decode cX6_soundOf 85 = .ok (.iload_n 2, 1) := by decide +kernel
theorem dX6_soundOf_86 : decode cX6_soundOf 86 = .ok (.ishl, 1) := by decide +kernel
theorem dX6_soundOf_87 : decode cX6_soundOf 87 = .ok (.iconst 1, 1) := by decide +kernel
theorem dX6_soundOf_88 : decode cX6_soundOf 88 = .ok (.iload_n 2, 1) := by decide +kernel
theorem dX6_soundOf_89 : decode cX6_soundOf 89 = .ok (.iconst 3, 1) := by decide +kernel
theorem dX6_soundOf_90 : decode cX6_soundOf 90 = .ok (.iadd, 1) := by decide +kernel
theorem dX6_soundOf_91 : decode cX6_soundOf 91 = .ok (.bipush 12, 2) := by decide +kernel
theorem dX6_soundOf_93 : decode cX6_soundOf 93 = .ok (.irem, 1) := by decide +kernel
theorem dX6_soundOf_94 : decode cX6_soundOf 94 = .ok (.ishl, 1) := by decide +kernel
theorem dX6_soundOf_95 : decode cX6_soundOf 95 = .ok (.ior, 1) := by decide +kernel
theorem dX6_soundOf_96 : decode cX6_soundOf 96 = .ok (.iconst 1, 1) := by decide +kernel
theorem dX6_soundOf_97 : decode cX6_soundOf 97 = .ok (.iload_n 2, 1) := by decide +kernel
theorem dX6_soundOf_98 : decode cX6_soundOf 98 = .ok (.bipush 7, 2) := by decide +kernel
theorem dX6_soundOf_100 : decode cX6_soundOf 100 = .ok (.iadd, 1) := by decide +kernel
theorem dX6_soundOf_101 : decode cX6_soundOf 101 = .ok (.bipush 12, 2) := by decide +kernel
theorem dX6_soundOf_103 : decode cX6_soundOf 103 = .ok (.irem, 1) := by decide +kernel
theorem dX6_soundOf_104 : decode cX6_soundOf 104 = .ok (.ishl, 1) := by decide +kernel
theorem dX6_soundOf_105 : decode cX6_soundOf 105 = .ok (.ior, 1) := by decide +kernel
theorem dX6_soundOf_106 : decode cX6_soundOf 106 = .ok (.ireturn, 1) := by decide +kernel
theorem dX6_soundOf_107 : decode cX6_soundOf 107 = .ok (.iconst 1, 1) := by decide +kernel
theorem dX6_soundOf_108 : decode cX6_soundOf 108 = .ok (.iload_n 2, 1) := by decide +kernel
theorem dX6_soundOf_109 : decode cX6_soundOf 109 = .ok (.ishl, 1) := by decide +kernel
theorem dX6_soundOf_110 : decode cX6_soundOf 110 = .ok (.iconst 1, 1) := by decide +kernel
theorem dX6_soundOf_111 : decode cX6_soundOf 111 = .ok (.iload_n 2, 1) := by decide +kernel
theorem dX6_soundOf_112 : decode cX6_soundOf 112 = .ok (.iconst 4, 1) := by decide +kernel
theorem dX6_soundOf_113 : decode cX6_soundOf 113 = .ok (.iadd, 1) := by decide +kernel
theorem dX6_soundOf_114 : decode cX6_soundOf 114 = .ok (.bipush 12, 2) := by decide +kernel
theorem dX6_soundOf_116 : decode cX6_soundOf 116 = .ok (.irem, 1) := by decide +kernel
theorem dX6_soundOf_117 : decode cX6_soundOf 117 = .ok (.ishl, 1) := by decide +kernel
theorem dX6_soundOf_118 : decode cX6_soundOf 118 = .ok (.ior, 1) := by decide +kernel
theorem dX6_soundOf_119 : decode cX6_soundOf 119 = .ok (.iconst 1, 1) := by decide +kernel
theorem dX6_soundOf_120 : decode cX6_soundOf 120 = .ok (.iload_n 2, 1) := by decide +kernel
theorem dX6_soundOf_121 : decode cX6_soundOf 121 = .ok (.bipush 10, 2) := by decide +kernel
theorem dX6_soundOf_123 : decode cX6_soundOf 123 = .ok (.iadd, 1) := by decide +kernel
theorem dX6_soundOf_124 : decode cX6_soundOf 124 = .ok (.bipush 12, 2) := by decide +kernel
theorem dX6_soundOf_126 : decode cX6_soundOf 126 = .ok (.irem, 1) := by decide +kernel
theorem dX6_soundOf_127 : decode cX6_soundOf 127 = .ok (.ishl, 1) := by decide +kernel
theorem dX6_soundOf_128 : decode cX6_soundOf 128 = .ok (.ior, 1) := by decide +kernel
theorem dX6_soundOf_129 : decode cX6_soundOf 129 = .ok (.ireturn, 1) := by decide +kernel
theorem dX6_soundOf_130 : decode cX6_soundOf 130 = .ok (.iconst 1, 1) := by decide +kernel
theorem dX6_soundOf_131 : decode cX6_soundOf 131 = .ok (.iload_n 2, 1) := by decide +kernel
theorem dX6_soundOf_132 : decode cX6_soundOf 132 = .ok (.ishl, 1) := by decide +kernel
theorem dX6_soundOf_133 : decode cX6_soundOf 133 = .ok (.iconst 1, 1) := by decide +kernel
theorem dX6_soundOf_134 : decode cX6_soundOf 134 = .ok (.iload_n 2, 1) := by decide +kernel
theorem dX6_soundOf_135 : decode cX6_soundOf 135 = .ok (.iconst 3, 1) := by decide +kernel
theorem dX6_soundOf_136 : decode cX6_soundOf 136 = .ok (.iadd, 1) := by decide +kernel
theorem dX6_soundOf_137 : decode cX6_soundOf 137 = .ok (.bipush 12, 2) := by decide +kernel
theorem dX6_soundOf_139 : decode cX6_soundOf 139 = .ok (.irem, 1) := by decide +kernel
theorem dX6_soundOf_140 : decode cX6_soundOf 140 = .ok (.ishl, 1) := by decide +kernel
theorem dX6_soundOf_141 : decode cX6_soundOf 141 = .ok (.ior, 1) := by decide +kernel
theorem dX6_soundOf_142 : decode cX6_soundOf 142 = .ok (.iconst 1, 1) := by decide +kernel
theorem dX6_soundOf_143 : decode cX6_soundOf 143 = .ok (.iload_n 2, 1) := by decide +kernel
theorem dX6_soundOf_144 : decode cX6_soundOf 144 = .ok (.bipush 9, 2) := by decide +kernel
theorem dX6_soundOf_146 : decode cX6_soundOf 146 = .ok (.iadd, 1) := by decide +kernel
theorem dX6_soundOf_147 : decode cX6_soundOf 147 = .ok (.bipush 12, 2) := by decide +kernel
theorem dX6_soundOf_149 : decode cX6_soundOf 149 = .ok (.irem, 1) := by decide +kernel
theorem dX6_soundOf_150 : decode cX6_soundOf 150 = .ok (.ishl, 1) := by decide +kernel
theorem dX6_soundOf_151 : decode cX6_soundOf 151 = .ok (.ior, 1) := by decide +kernel
theorem dX6_soundOf_152 : decode cX6_soundOf 152 = .ok (.ireturn, 1) := by decide +kernel
theorem dX6_sound_0 : decode cX6_sound 0 = .ok (.iload_n 1, 1) := by decide +kernel
theorem dX6_sound_1 : decode cX6_sound 1 = .ok (.iconst 0, 1) := by decide +kernel
theorem dX6_sound_2 : decode cX6_sound 2 = .ok (.bipush 71, 2) := by decide +kernel
theorem dX6_sound_4 : decode cX6_sound 4 = .ok (.invokestatic 52, 3) := by decide +kernel
theorem dX6_sound_7 : decode cX6_sound 7 = .ok (.ifCond .ne 5, 3) := by decide +kernel
theorem dX6_sound_10 : decode cX6_sound 10 = .ok (.iconst (-1), 1) := by decide +kernel
theorem dX6_sound_11 : decode cX6_sound 11 = .ok (.ireturn, 1) := by decide +kernel
theorem dX6_sound_12 : decode cX6_sound 12 = .ok (.aload_n 0, 1) := by decide +kernel
theorem dX6_sound_13 : decode cX6_sound 13 = .ok (.iload_n 1, 1) := by decide +kernel
theorem dX6_sound_14 : decode cX6_sound 14 = .ok (.invokevirtual 64, 3) := by decide +kernel
theorem dX6_sound_17 : decode cX6_sound 17 = .ok (.ifCond .eq 11, 3) := by decide +kernel
theorem dX6_sound_20 : decode cX6_sound 20 = .ok (.aload_n 0, 1) := by decide +kernel
theorem dX6_sound_21 : decode cX6_sound 21 = .ok (.iload_n 1, 1) := by decide +kernel
theorem dX6_sound_22 : decode cX6_sound 22 = .ok (.invokevirtual 68, 3) := by decide +kernel
theorem dX6_sound_25 : decode cX6_sound 25 = .ok (.goto 5, 3) := by decide +kernel
theorem dX6_sound_28 : decode cX6_sound 28 = .ok (.bipush (-3), 2) := by decide +kernel
theorem dX6_sound_30 : decode cX6_sound 30 = .ok (.ireturn, 1) := by decide +kernel
theorem dX6_root_0 : decode cX6_root 0 = .ok (.iload_n 1, 1) := by decide +kernel
theorem dX6_root_1 : decode cX6_root 1 = .ok (.iconst 0, 1) := by decide +kernel
theorem dX6_root_2 : decode cX6_root 2 = .ok (.bipush 11, 2) := by decide +kernel
theorem dX6_root_4 : decode cX6_root 4 = .ok (.invokestatic 52, 3) := by decide +kernel
theorem dX6_root_7 : decode cX6_root 7 = .ok (.ifCond .eq 11, 3) := by decide +kernel
theorem dX6_root_10 : decode cX6_root 10 = .ok (.aload_n 0, 1) := by decide +kernel
theorem dX6_root_11 : decode cX6_root 11 = .ok (.iload_n 1, 1) := by decide +kernel
theorem dX6_root_12 : decode cX6_root 12 = .ok (.invokevirtual 60, 3) := by decide +kernel
theorem dX6_root_15 : decode cX6_root 15 = .ok (.goto 4, 3) := by decide +kernel
theorem dX6_root_18 : decode cX6_root 18 = .ok (.iconst (-1), 1) := by decide +kernel
theorem dX6_root_19 : decode cX6_root 19 = .ok (.ireturn, 1) := by decide +kernel
theorem dX6_rule_0 : decode cX6_rule 0 = .ok (.iload_n 1, 1) := by decide +kernel
theorem dX6_rule_1 : decode cX6_rule 1 = .ok (.ifCond .ne 12, 3) := by decide +kernel
theorem dX6_rule_4 : decode cX6_rule 4 = .ok (.iload_n 2, 1) := by decide +kernel
theorem dX6_rule_5 : decode cX6_rule 5 = .ok (.iconst 1, 1) := by decide +kernel
theorem dX6_rule_6 : decode cX6_rule 6 = .ok (.iconst 3, 1) := by decide +kernel
theorem dX6_rule_7 : decode cX6_rule 7 = .ok (.invokestatic 52, 3) := by decide +kernel
theorem dX6_rule_10 : decode cX6_rule 10 = .ok (.goto 61, 3) := by decide +kernel
theorem dX6_rule_13 : decode cX6_rule 13 = .ok (.iload_n 1, 1) := by decide +kernel
theorem dX6_rule_14 : decode cX6_rule 14 = .ok (.iconst 1, 1) := by decide +kernel
theorem dX6_rule_15 : decode cX6_rule 15 = .ok (.if_icmp .ne 32, 3) := by decide +kernel
theorem dX6_rule_18 : decode cX6_rule 18 = .ok (.iload_n 2, 1) := by decide +kernel
theorem dX6_rule_19 : decode cX6_rule 19 = .ok (.iconst 1, 1) := by decide +kernel
theorem dX6_rule_20 : decode cX6_rule 20 = .ok (.if_icmp .lt 23, 3) := by decide +kernel
theorem dX6_rule_23 : decode cX6_rule 23 = .ok (.iload_n 2, 1) := by decide +kernel
theorem dX6_rule_24 : decode cX6_rule 24 = .ok (.aload_n 0, 1) := by decide +kernel
theorem dX6_rule_25 : decode cX6_rule 25 = .ok (.getfield 7, 3) := by decide +kernel
theorem dX6_rule_28 : decode cX6_rule 28 = .ok (.iconst 4, 1) := by decide +kernel
theorem dX6_rule_29 : decode cX6_rule 29 = .ok (.iaload, 1) := by decide +kernel
theorem dX6_rule_30 : decode cX6_rule 30 = .ok (.sipush 400, 3) := by decide +kernel
theorem dX6_rule_33 : decode cX6_rule 33 = .ok (.invokestatic 52, 3) := by decide +kernel
theorem dX6_rule_36 : decode cX6_rule 36 = .ok (.ifCond .eq 7, 3) := by decide +kernel
theorem dX6_rule_39 : decode cX6_rule 39 = .ok (.iconst 1, 1) := by decide +kernel
theorem dX6_rule_40 : decode cX6_rule 40 = .ok (.goto 31, 3) := by decide +kernel
theorem dX6_rule_43 : decode cX6_rule 43 = .ok (.iconst 0, 1) := by decide +kernel
theorem dX6_rule_44 : decode cX6_rule 44 = .ok (.goto 27, 3) := by decide +kernel
theorem dX6_rule_47 : decode cX6_rule 47 = .ok (.iload_n 1, 1) := by decide +kernel
theorem dX6_rule_48 : decode cX6_rule 48 = .ok (.iconst 2, 1) := by decide +kernel
theorem dX6_rule_49 : decode cX6_rule 49 = .ok (.if_icmp .ne 21, 3) := by decide +kernel
theorem dX6_rule_52 : decode cX6_rule 52 = .ok (.iload_n 2, 1) := by decide +kernel
theorem dX6_rule_53 : decode cX6_rule 53 = .ok (.iconst 0, 1) := by decide +kernel
theorem dX6_rule_54 : decode cX6_rule 54 = .ok (.aload_n 0, 1) := by decide +kernel
theorem dX6_rule_55 : decode cX6_rule 55 = .ok (.getfield 7, 3) := by decide +kernel
theorem dX6_rule_58 : decode cX6_rule 58 = .ok (.iconst 3, 1) := by decide +kernel
theorem dX6_rule_59 : decode cX6_rule 59 = .ok (.iaload, 1) := by decide +kernel
theorem dX6_rule_60 : decode cX6_rule 60 = .ok (.invokestatic 52, 3) := by decide +kernel
theorem dX6_rule_63 : decode cX6_rule 63 = .ok (.ifCond .eq 7, 3) := by decide +kernel
theorem dX6_rule_66 : decode cX6_rule 66 = .ok (.iconst 1, 1) := by decide +kernel
theorem dX6_rule_67 : decode cX6_rule 67 = .ok (.goto 4, 3) := by decide +kernel
theorem dX6_rule_70 : decode cX6_rule 70 = .ok (.iconst 0, 1) := by decide +kernel
theorem dX6_rule_71 : decode cX6_rule 71 = .ok (.istore_n 3, 1) := by decide +kernel
theorem dX6_rule_72 : decode cX6_rule 72 = .ok (.iload_n 3, 1) := by decide +kernel
theorem dX6_rule_73 : decode cX6_rule 73 = .ok (.ifCond .ne 5, 3) := by decide +kernel
theorem dX6_rule_76 : decode cX6_rule 76 = .ok (.iconst (-1), 1) := by decide +kernel
theorem dX6_rule_77 : decode cX6_rule 77 = .ok (.ireturn, 1) := by decide +kernel
theorem dX6_rule_78 : decode cX6_rule 78 = .ok (.aload_n 0, 1) := by decide +kernel
theorem dX6_rule_79 : decode cX6_rule 79 = .ok (.getfield 7, 3) := by decide +kernel
theorem dX6_rule_82 : decode cX6_rule 82 = .ok (.iconst 2, 1) := by decide +kernel
theorem dX6_rule_83 : decode cX6_rule 83 = .ok (.iload_n 1, 1) := by decide +kernel
theorem dX6_rule_84 : decode cX6_rule 84 = .ok (.iadd, 1) := by decide +kernel
theorem dX6_rule_85 : decode cX6_rule 85 = .ok (.iaload, 1) := by decide +kernel
theorem dX6_rule_86 : decode cX6_rule 86 = .ok (.istore 4, 2) := by decide +kernel
theorem dX6_rule_88 : decode cX6_rule 88 = .ok (.aload_n 0, 1) := by decide +kernel
theorem dX6_rule_89 : decode cX6_rule 89 = .ok (.getfield 7, 3) := by decide +kernel
theorem dX6_rule_92 : decode cX6_rule 92 = .ok (.iconst 2, 1) := by decide +kernel
theorem dX6_rule_93 : decode cX6_rule 93 = .ok (.iload_n 1, 1) := by decide +kernel
theorem dX6_rule_94 : decode cX6_rule 94 = .ok (.iadd, 1) := by decide +kernel
theorem dX6_rule_95 : decode cX6_rule 95 = .ok (.iload_n 2, 1) := by decide +kernel
theorem dX6_rule_96 : decode cX6_rule 96 = .ok (.iastore, 1) := by decide +kernel
theorem dX6_rule_97 : decode cX6_rule 97 = .ok (.iload 4, 2) := by decide +kernel
theorem dX6_rule_99 : decode cX6_rule 99 = .ok (.ireturn, 1) := by decide +kernel
theorem dX6_isTold_0 : decode cX6_isTold 0 = .ok (.iload_n 0, 1) := by decide +kernel
theorem dX6_isTold_1 : decode cX6_isTold 1 = .ok (.iconst 0, 1) := by decide +kernel
theorem dX6_isTold_2 : decode cX6_isTold 2 = .ok (.sipush 4095, 3) := by decide +kernel
theorem dX6_isTold_5 : decode cX6_isTold 5 = .ok (.invokestatic 52, 3) := by decide +kernel
theorem dX6_isTold_8 : decode cX6_isTold 8 = .ok (.ifCond .eq 36, 3) := by decide +kernel
theorem dX6_isTold_11 : decode cX6_isTold 11 = .ok (.iload_n 1, 1) := by decide +kernel
theorem dX6_isTold_12 : decode cX6_isTold 12 = .ok (.iconst (-1), 1) := by decide +kernel
theorem dX6_isTold_13 : decode cX6_isTold 13 = .ok (.bipush 11, 2) := by decide +kernel
theorem dX6_isTold_15 : decode cX6_isTold 15 = .ok (.invokestatic 52, 3) := by decide +kernel
theorem dX6_isTold_18 : decode cX6_isTold 18 = .ok (.ifCond .eq 26, 3) := by decide +kernel
theorem dX6_isTold_21 : decode cX6_isTold 21 = .ok (.iload_n 2, 1) := by decide +kernel
theorem dX6_isTold_22 : decode cX6_isTold 22 = .ok (.iconst 1, 1) := by decide +kernel
theorem dX6_isTold_23 : decode cX6_isTold 23 = .ok (.bipush 8, 2) := by decide +kernel
theorem dX6_isTold_25 : decode cX6_isTold 25 = .ok (.invokestatic 52, 3) := by decide +kernel
theorem dX6_isTold_28 : decode cX6_isTold 28 = .ok (.ifCond .eq 16, 3) := by decide +kernel
theorem dX6_isTold_31 : decode cX6_isTold 31 = .ok (.iload_n 3, 1) := by decide +kernel
theorem dX6_isTold_32 : decode cX6_isTold 32 = .ok (.iconst 0, 1) := by decide +kernel
theorem dX6_isTold_33 : decode cX6_isTold 33 = .ok (.iconst 3, 1) := by decide +kernel
theorem dX6_isTold_34 : decode cX6_isTold 34 = .ok (.invokestatic 52, 3) := by decide +kernel
theorem dX6_isTold_37 : decode cX6_isTold 37 = .ok (.ifCond .eq 7, 3) := by decide +kernel
theorem dX6_isTold_40 : decode cX6_isTold 40 = .ok (.iconst 1, 1) := by decide +kernel
theorem dX6_isTold_41 : decode cX6_isTold 41 = .ok (.goto 4, 3) := by decide +kernel
theorem dX6_isTold_44 : decode cX6_isTold 44 = .ok (.iconst 0, 1) := by decide +kernel
theorem dX6_isTold_45 : decode cX6_isTold 45 = .ok (.ireturn, 1) := by decide +kernel
theorem dX6_put_0 : decode cX6_put 0 = .ok (.aload_n 0, 1) := by decide +kernel
theorem dX6_put_1 : decode cX6_put 1 = .ok (.getfield 13, 3) := by decide +kernel
theorem dX6_put_4 : decode cX6_put 4 = .ok (.iconst 4, 1) := by decide +kernel
theorem dX6_put_5 : decode cX6_put 5 = .ok (.iload_n 1, 1) := by decide +kernel
theorem dX6_put_6 : decode cX6_put 6 = .ok (.imul, 1) := by decide +kernel
theorem dX6_put_7 : decode cX6_put 7 = .ok (.iload_n 2, 1) := by decide +kernel
theorem dX6_put_8 : decode cX6_put 8 = .ok (.iastore, 1) := by decide +kernel
theorem dX6_put_9 : decode cX6_put 9 = .ok (.aload_n 0, 1) := by decide +kernel
theorem dX6_put_10 : decode cX6_put 10 = .ok (.getfield 13, 3) := by decide +kernel
theorem dX6_put_13 : decode cX6_put 13 = .ok (.iconst 4, 1) := by decide +kernel
theorem dX6_put_14 : decode cX6_put 14 = .ok (.iload_n 1, 1) := by decide +kernel
theorem dX6_put_15 : decode cX6_put 15 = .ok (.imul, 1) := by decide +kernel
theorem dX6_put_16 : decode cX6_put 16 = .ok (.iconst 1, 1) := by decide +kernel
theorem dX6_put_17 : decode cX6_put 17 = .ok (.iadd, 1) := by decide +kernel
theorem dX6_put_18 : decode cX6_put 18 = .ok (.iload_n 3, 1) := by decide +kernel
theorem dX6_put_19 : decode cX6_put 19 = .ok (.iastore, 1) := by decide +kernel
theorem dX6_put_20 : decode cX6_put 20 = .ok (.aload_n 0, 1) := by decide +kernel
theorem dX6_put_21 : decode cX6_put 21 = .ok (.getfield 13, 3) := by decide +kernel
theorem dX6_put_24 : decode cX6_put 24 = .ok (.iconst 4, 1) := by decide +kernel
theorem dX6_put_25 : decode cX6_put 25 = .ok (.iload_n 1, 1) := by decide +kernel
theorem dX6_put_26 : decode cX6_put 26 = .ok (.imul, 1) := by decide +kernel
theorem dX6_put_27 : decode cX6_put 27 = .ok (.iconst 2, 1) := by decide +kernel
theorem dX6_put_28 : decode cX6_put 28 = .ok (.iadd, 1) := by decide +kernel
theorem dX6_put_29 : decode cX6_put 29 = .ok (.iload 4, 2) := by decide +kernel
theorem dX6_put_31 : decode cX6_put 31 = .ok (.iastore, 1) := by decide +kernel
theorem dX6_put_32 : decode cX6_put 32 = .ok (.aload_n 0, 1) := by decide +kernel
theorem dX6_put_33 : decode cX6_put 33 = .ok (.getfield 13, 3) := by decide +kernel
theorem dX6_put_36 : decode cX6_put 36 = .ok (.iconst 4, 1) := by decide +kernel
theorem dX6_put_37 : decode cX6_put 37 = .ok (.iload_n 1, 1) := by decide +kernel
theorem dX6_put_38 : decode cX6_put 38 = .ok (.imul, 1) := by decide +kernel
theorem dX6_put_39 : decode cX6_put 39 = .ok (.iconst 3, 1) := by decide +kernel
theorem dX6_put_40 : decode cX6_put 40 = .ok (.iadd, 1) := by decide +kernel
theorem dX6_put_41 : decode cX6_put 41 = .ok (.iload 5, 2) := by decide +kernel
theorem dX6_put_43 : decode cX6_put 43 = .ok (.iastore, 1) := by decide +kernel
theorem dX6_put_44 : decode cX6_put 44 = .ok (.return_, 1) := by decide +kernel
theorem dX6_beat_0 : decode cX6_beat 0 = .ok (.iload_n 1, 1) := by decide +kernel
theorem dX6_beat_1 : decode cX6_beat 1 = .ok (.iload_n 2, 1) := by decide +kernel
theorem dX6_beat_2 : decode cX6_beat 2 = .ok (.iload_n 3, 1) := by decide +kernel
theorem dX6_beat_3 : decode cX6_beat 3 = .ok (.iload 4, 2) := by decide +kernel
theorem dX6_beat_5 : decode cX6_beat 5 = .ok (.invokestatic 71, 3) := by decide +kernel
theorem dX6_beat_8 : decode cX6_beat 8 = .ok (.ifCond .ne 5, 3) := by decide +kernel
theorem dX6_beat_11 : decode cX6_beat 11 = .ok (.iconst (-1), 1) := by decide +kernel
theorem dX6_beat_12 : decode cX6_beat 12 = .ok (.ireturn, 1) := by decide +kernel
theorem dX6_beat_13 : decode cX6_beat 13 = .ok (.aload_n 0, 1) := by decide +kernel
theorem dX6_beat_14 : decode cX6_beat 14 = .ok (.getfield 7, 3) := by decide +kernel
theorem dX6_beat_17 : decode cX6_beat 17 = .ok (.iconst 5, 1) := by decide +kernel
theorem dX6_beat_18 : decode cX6_beat 18 = .ok (.iaload, 1) := by decide +kernel
theorem dX6_beat_19 : decode cX6_beat 19 = .ok (.bipush 8, 2) := by decide +kernel
theorem dX6_beat_21 : decode cX6_beat 21 = .ok (.if_icmp .ne 6, 3) := by decide +kernel
theorem dX6_beat_24 : decode cX6_beat 24 = .ok (.bipush (-2), 2) := by decide +kernel
theorem dX6_beat_26 : decode cX6_beat 26 = .ok (.ireturn, 1) := by decide +kernel
theorem dX6_beat_27 : decode cX6_beat 27 = .ok (.aload_n 0, 1) := by decide +kernel
theorem dX6_beat_28 : decode cX6_beat 28 = .ok (.aload_n 0, 1) := by decide +kernel
theorem dX6_beat_29 : decode cX6_beat 29 = .ok (.getfield 7, 3) := by decide +kernel
theorem dX6_beat_32 : decode cX6_beat 32 = .ok (.iconst 5, 1) := by decide +kernel
theorem dX6_beat_33 : decode cX6_beat 33 = .ok (.iaload, 1) := by decide +kernel
theorem dX6_beat_34 : decode cX6_beat 34 = .ok (.iload_n 1, 1) := by decide +kernel
theorem dX6_beat_35 : decode cX6_beat 35 = .ok (.iload_n 2, 1) := by decide +kernel
theorem dX6_beat_36 : decode cX6_beat 36 = .ok (.iload_n 3, 1) := by decide +kernel
theorem dX6_beat_37 : decode cX6_beat 37 = .ok (.iload 4, 2) := by decide +kernel
theorem dX6_beat_39 : decode cX6_beat 39 = .ok (.invokevirtual 75, 3) := by decide +kernel
theorem dX6_beat_42 : decode cX6_beat 42 = .ok (.aload_n 0, 1) := by decide +kernel
theorem dX6_beat_43 : decode cX6_beat 43 = .ok (.getfield 7, 3) := by decide +kernel
theorem dX6_beat_46 : decode cX6_beat 46 = .ok (.iconst 5, 1) := by decide +kernel
theorem dX6_beat_47 : decode cX6_beat 47 = .ok (.dup2, 1) := by decide +kernel
theorem dX6_beat_48 : decode cX6_beat 48 = .ok (.iaload, 1) := by decide +kernel
theorem dX6_beat_49 : decode cX6_beat 49 = .ok (.iconst 1, 1) := by decide +kernel
theorem dX6_beat_50 : decode cX6_beat 50 = .ok (.iadd, 1) := by decide +kernel
theorem dX6_beat_51 : decode cX6_beat 51 = .ok (.iastore, 1) := by decide +kernel
theorem dX6_beat_52 : decode cX6_beat 52 = .ok (.aload_n 0, 1) := by decide +kernel
theorem dX6_beat_53 : decode cX6_beat 53 = .ok (.getfield 7, 3) := by decide +kernel
theorem dX6_beat_56 : decode cX6_beat 56 = .ok (.iconst 5, 1) := by decide +kernel
theorem dX6_beat_57 : decode cX6_beat 57 = .ok (.iaload, 1) := by decide +kernel
theorem dX6_beat_58 : decode cX6_beat 58 = .ok (.iconst 1, 1) := by decide +kernel
theorem dX6_beat_59 : decode cX6_beat 59 = .ok (.isub, 1) := by decide +kernel
theorem dX6_beat_60 : decode cX6_beat 60 = .ok (.ireturn, 1) := by decide +kernel
theorem dX6_alter_0 : decode cX6_alter 0 = .ok (.aload_n 0, 1) := by decide +kernel
theorem dX6_alter_1 : decode cX6_alter 1 = .ok (.iload_n 1, 1) := by decide +kernel
theorem dX6_alter_2 : decode cX6_alter 2 = .ok (.invokevirtual 79, 3) := by decide +kernel
theorem dX6_alter_5 : decode cX6_alter 5 = .ok (.ifCond .eq 15, 3) := by decide +kernel
theorem dX6_alter_8 : decode cX6_alter 8 = .ok (.iload_n 2, 1) := by decide +kernel
theorem dX6_alter_9 : decode cX6_alter 9 = .ok (.iload_n 3, 1) := by decide +kernel
theorem dX6_alter_10 : decode cX6_alter 10 = .ok (.iload 4, 2) := by decide +kernel
theorem dX6_alter_12 : decode cX6_alter 12 = .ok (.iload 5, 2) := by decide +kernel
theorem dX6_alter_14 : decode cX6_alter 14 = .ok (.invokestatic 71, 3) := by decide +kernel
theorem dX6_alter_17 : decode cX6_alter 17 = .ok (.ifCond .ne 5, 3) := by decide +kernel
theorem dX6_alter_20 : decode cX6_alter 20 = .ok (.iconst (-1), 1) := by decide +kernel
theorem dX6_alter_21 : decode cX6_alter 21 = .ok (.ireturn, 1) := by decide +kernel
theorem dX6_alter_22 : decode cX6_alter 22 = .ok (.aload_n 0, 1) := by decide +kernel
theorem dX6_alter_23 : decode cX6_alter 23 = .ok (.iload_n 1, 1) := by decide +kernel
theorem dX6_alter_24 : decode cX6_alter 24 = .ok (.iload_n 2, 1) := by decide +kernel
theorem dX6_alter_25 : decode cX6_alter 25 = .ok (.iload_n 3, 1) := by decide +kernel
theorem dX6_alter_26 : decode cX6_alter 26 = .ok (.iload 4, 2) := by decide +kernel
theorem dX6_alter_28 : decode cX6_alter 28 = .ok (.iload 5, 2) := by decide +kernel
theorem dX6_alter_30 : decode cX6_alter 30 = .ok (.invokevirtual 75, 3) := by decide +kernel
theorem dX6_alter_33 : decode cX6_alter 33 = .ok (.iconst 1, 1) := by decide +kernel
theorem dX6_alter_34 : decode cX6_alter 34 = .ok (.ireturn, 1) := by decide +kernel
theorem dX6_drop_0 : decode cX6_drop 0 = .ok (.aload_n 0, 1) := by decide +kernel
theorem dX6_drop_1 : decode cX6_drop 1 = .ok (.getfield 7, 3) := by decide +kernel
theorem dX6_drop_4 : decode cX6_drop 4 = .ok (.iconst 5, 1) := by decide +kernel
theorem dX6_drop_5 : decode cX6_drop 5 = .ok (.iaload, 1) := by decide +kernel
theorem dX6_drop_6 : decode cX6_drop 6 = .ok (.ifCond .ne 6, 3) := by decide +kernel
theorem dX6_drop_9 : decode cX6_drop 9 = .ok (.bipush (-3), 2) := by decide +kernel
theorem dX6_drop_11 : decode cX6_drop 11 = .ok (.ireturn, 1) := by decide +kernel
theorem dX6_drop_12 : decode cX6_drop 12 = .ok (.aload_n 0, 1) := by decide +kernel
theorem dX6_drop_13 : decode cX6_drop 13 = .ok (.getfield 7, 3) := by decide +kernel
theorem dX6_drop_16 : decode cX6_drop 16 = .ok (.iconst 5, 1) := by decide +kernel
theorem dX6_drop_17 : decode cX6_drop 17 = .ok (.dup2, 1) := by decide +kernel
theorem dX6_drop_18 : decode cX6_drop 18 = .ok (.iaload, 1) := by decide +kernel
theorem dX6_drop_19 : decode cX6_drop 19 = .ok (.iconst 1, 1) := by decide +kernel
theorem dX6_drop_20 : decode cX6_drop 20 = .ok (.isub, 1) := by decide +kernel
theorem dX6_drop_21 : decode cX6_drop 21 = .ok (.iastore, 1) := by decide +kernel
theorem dX6_drop_22 : decode cX6_drop 22 = .ok (.aload_n 0, 1) := by decide +kernel
theorem dX6_drop_23 : decode cX6_drop 23 = .ok (.getfield 7, 3) := by decide +kernel
theorem dX6_drop_26 : decode cX6_drop 26 = .ok (.iconst 5, 1) := by decide +kernel
theorem dX6_drop_27 : decode cX6_drop 27 = .ok (.iaload, 1) := by decide +kernel
theorem dX6_drop_28 : decode cX6_drop 28 = .ok (.ireturn, 1) := by decide +kernel
theorem dX6_of_0 : decode cX6_of 0 = .ok (.aload_n 0, 1) := by decide +kernel
theorem dX6_of_1 : decode cX6_of 1 = .ok (.iload_n 1, 1) := by decide +kernel
theorem dX6_of_2 : decode cX6_of 2 = .ok (.invokevirtual 79, 3) := by decide +kernel
theorem dX6_of_5 : decode cX6_of 5 = .ok (.ifCond .eq 25, 3) := by decide +kernel
theorem dX6_of_8 : decode cX6_of 8 = .ok (.iload_n 2, 1) := by decide +kernel
theorem dX6_of_9 : decode cX6_of 9 = .ok (.iconst 0, 1) := by decide +kernel
theorem dX6_of_10 : decode cX6_of 10 = .ok (.iconst 3, 1) := by decide +kernel
theorem dX6_of_11 : decode cX6_of 11 = .ok (.invokestatic 52, 3) := by decide +kernel
theorem dX6_of_14 : decode cX6_of 14 = .ok (.ifCond .eq 16, 3) := by decide +kernel
theorem dX6_of_17 : decode cX6_of 17 = .ok (.aload_n 0, 1) := by decide +kernel
theorem dX6_of_18 : decode cX6_of 18 = .ok (.getfield 13, 3) := by decide +kernel
theorem dX6_of_21 : decode cX6_of 21 = .ok (.iconst 4, 1) := by decide +kernel
theorem dX6_of_22 : decode cX6_of 22 = .ok (.iload_n 1, 1) := by decide +kernel
theorem dX6_of_23 : decode cX6_of 23 = .ok (.imul, 1) := by decide +kernel
theorem dX6_of_24 : decode cX6_of 24 = .ok (.iload_n 2, 1) := by decide +kernel
theorem dX6_of_25 : decode cX6_of 25 = .ok (.iadd, 1) := by decide +kernel
theorem dX6_of_26 : decode cX6_of 26 = .ok (.iaload, 1) := by decide +kernel
theorem dX6_of_27 : decode cX6_of 27 = .ok (.goto 5, 3) := by decide +kernel
theorem dX6_of_30 : decode cX6_of 30 = .ok (.bipush (-9), 2) := by decide +kernel
theorem dX6_of_32 : decode cX6_of 32 = .ok (.ireturn, 1) := by decide +kernel
theorem dX6_ones_0 : decode cX6_ones 0 = .ok (.iconst 0, 1) := by decide +kernel
theorem dX6_ones_1 : decode cX6_ones 1 = .ok (.istore_n 1, 1) := by decide +kernel
theorem dX6_ones_2 : decode cX6_ones 2 = .ok (.iconst 0, 1) := by decide +kernel
theorem dX6_ones_3 : decode cX6_ones 3 = .ok (.istore_n 2, 1) := by decide +kernel
theorem dX6_ones_4 : decode cX6_ones 4 = .ok (.iload_n 2, 1) := by decide +kernel
theorem dX6_ones_5 : decode cX6_ones 5 = .ok (.bipush 12, 2) := by decide +kernel
theorem dX6_ones_7 : decode cX6_ones 7 = .ok (.if_icmp .ge 17, 3) := by decide +kernel
theorem dX6_ones_10 : decode cX6_ones 10 = .ok (.iload_n 1, 1) := by decide +kernel
theorem dX6_ones_11 : decode cX6_ones 11 = .ok (.iload_n 0, 1) := by decide +kernel
theorem dX6_ones_12 : decode cX6_ones 12 = .ok (.iload_n 2, 1) := by decide +kernel
theorem dX6_ones_13 : decode cX6_ones 13 = .ok (.ishr, 1) := by decide +kernel
theorem dX6_ones_14 : decode cX6_ones 14 = .ok (.iconst 1, 1) := by decide +kernel
theorem dX6_ones_15 : decode cX6_ones 15 = .ok (.iand, 1) := by decide +kernel
theorem dX6_ones_16 : decode cX6_ones 16 = .ok (.iadd, 1) := by decide +kernel
theorem dX6_ones_17 : decode cX6_ones 17 = .ok (.istore_n 1, 1) := by decide +kernel
theorem dX6_ones_18 : decode cX6_ones 18 = .ok (.iinc 2 1, 3) := by decide +kernel
theorem dX6_ones_21 : decode cX6_ones 21 = .ok (.goto (-17), 3) := by decide +kernel
theorem dX6_ones_24 : decode cX6_ones 24 = .ok (.iload_n 1, 1) := by decide +kernel
theorem dX6_ones_25 : decode cX6_ones 25 = .ok (.ireturn, 1) := by decide +kernel
theorem dX6_press_0 : decode cX6_press 0 = .ok (.aload_n 0, 1) := by decide +kernel
theorem dX6_press_1 : decode cX6_press 1 = .ok (.getfield 82, 3) := by decide +kernel
theorem dX6_press_4 : decode cX6_press 4 = .ok (.istore_n 2, 1) := by decide +kernel
theorem dX6_press_5 : decode cX6_press 5 = .ok (.iload_n 2, 1) := by decide +kernel
theorem dX6_press_6 : decode cX6_press 6 = .ok (.ifCond .le 35, 3) := by decide +kernel
theorem dX6_press_9 : decode cX6_press 9 = .ok (.aload_n 0, 1) := by decide +kernel
theorem dX6_press_10 : decode cX6_press 10 = .ok (.getfield 34, 3) := by decide +kernel
theorem dX6_press_13 : decode cX6_press 13 = .ok (.iload_n 2, 1) := by decide +kernel
theorem dX6_press_14 : decode cX6_press 14 = .ok (.iconst 1, 1) := by decide +kernel
theorem dX6_press_15 : decode cX6_press 15 = .ok (.isub, 1) := by decide +kernel
theorem dX6_press_16 : decode cX6_press 16 = .ok (.iaload, 1) := by decide +kernel
theorem dX6_press_17 : decode cX6_press 17 = .ok (.iload_n 1, 1) := by decide +kernel
theorem dX6_press_18 : decode cX6_press 18 = .ok (.if_icmp .le 23, 3) := by decide +kernel
theorem dX6_press_21 : decode cX6_press 21 = .ok (.aload_n 0, 1) := by decide +kernel
theorem dX6_press_22 : decode cX6_press 22 = .ok (.getfield 34, 3) := by decide +kernel
theorem dX6_press_25 : decode cX6_press 25 = .ok (.iload_n 2, 1) := by decide +kernel
theorem dX6_press_26 : decode cX6_press 26 = .ok (.aload_n 0, 1) := by decide +kernel
theorem dX6_press_27 : decode cX6_press 27 = .ok (.getfield 34, 3) := by decide +kernel
theorem dX6_press_30 : decode cX6_press 30 = .ok (.iload_n 2, 1) := by decide +kernel
theorem dX6_press_31 : decode cX6_press 31 = .ok (.iconst 1, 1) := by decide +kernel
theorem dX6_press_32 : decode cX6_press 32 = .ok (.isub, 1) := by decide +kernel
theorem dX6_press_33 : decode cX6_press 33 = .ok (.iaload, 1) := by decide +kernel
theorem dX6_press_34 : decode cX6_press 34 = .ok (.iastore, 1) := by decide +kernel
theorem dX6_press_35 : decode cX6_press 35 = .ok (.iinc 2 (-1), 3) := by decide +kernel
theorem dX6_press_38 : decode cX6_press 38 = .ok (.goto (-33), 3) := by decide +kernel
theorem dX6_press_41 : decode cX6_press 41 = .ok (.aload_n 0, 1) := by decide +kernel
theorem dX6_press_42 : decode cX6_press 42 = .ok (.getfield 34, 3) := by decide +kernel
theorem dX6_press_45 : decode cX6_press 45 = .ok (.iload_n 2, 1) := by decide +kernel
theorem dX6_press_46 : decode cX6_press 46 = .ok (.iload_n 1, 1) := by decide +kernel
theorem dX6_press_47 : decode cX6_press 47 = .ok (.iastore, 1) := by decide +kernel
theorem dX6_press_48 : decode cX6_press 48 = .ok (.aload_n 0, 1) := by decide +kernel
theorem dX6_press_49 : decode cX6_press 49 = .ok (.dup, 1) := by decide +kernel
theorem dX6_press_50 : decode cX6_press 50 = .ok (.getfield 82, 3) := by decide +kernel
theorem dX6_press_53 : decode cX6_press 53 = .ok (.iconst 1, 1) := by decide +kernel
theorem dX6_press_54 : decode cX6_press 54 = .ok (.iadd, 1) := by decide +kernel
theorem dX6_press_55 : decode cX6_press 55 = .ok (.putfield 82, 3) := by decide +kernel
theorem dX6_press_58 : decode cX6_press 58 = .ok (.return_, 1) := by decide +kernel
theorem dX6_isAhead_0 : decode cX6_isAhead 0 = .ok (.iconst 0, 1) := by decide +kernel
theorem dX6_isAhead_1 : decode cX6_isAhead 1 = .ok (.istore_n 2, 1) := by decide +kernel
theorem dX6_isAhead_2 : decode cX6_isAhead 2 = .ok (.iload_n 2, 1) := by decide +kernel
theorem dX6_isAhead_3 : decode cX6_isAhead 3 = .ok (.aload_n 0, 1) := by decide +kernel
theorem dX6_isAhead_4 : decode cX6_isAhead 4 = .ok (.getfield 82, 3) := by decide +kernel
theorem dX6_isAhead_7 : decode cX6_isAhead 7 = .ok (.if_icmp .ge 49, 3) := by decide +kernel
theorem dX6_isAhead_10 : decode cX6_isAhead 10 = .ok (.aload_n 0, 1) := by decide +kernel
theorem dX6_isAhead_11 : decode cX6_isAhead 11 = .ok (.getfield 34, 3) := by decide +kernel
theorem dX6_isAhead_14 : decode cX6_isAhead 14 = .ok (.iload_n 2, 1) := by decide +kernel
theorem dX6_isAhead_15 : decode cX6_isAhead 15 = .ok (.iaload, 1) := by decide +kernel
theorem dX6_isAhead_16 : decode cX6_isAhead 16 = .ok (.aload_n 0, 1) := by decide +kernel
theorem dX6_isAhead_17 : decode cX6_isAhead 17 = .ok (.getfield 31, 3) := by decide +kernel
theorem dX6_isAhead_20 : decode cX6_isAhead 20 = .ok (.iload_n 1, 1) := by decide +kernel
theorem dX6_isAhead_21 : decode cX6_isAhead 21 = .ok (.iload_n 2, 1) := by decide +kernel
theorem dX6_isAhead_22 : decode cX6_isAhead 22 = .ok (.iadd, 1) := by decide +kernel
theorem dX6_isAhead_23 : decode cX6_isAhead 23 = .ok (.iaload, 1) := by decide +kernel
theorem dX6_isAhead_24 : decode cX6_isAhead 24 = .ok (.if_icmp .eq 26, 3) := by decide +kernel
theorem dX6_isAhead_27 : decode cX6_isAhead 27 = .ok (.aload_n 0, 1) := by decide +kernel
theorem dX6_isAhead_28 : decode cX6_isAhead 28 = .ok (.getfield 34, 3) := by decide +kernel
theorem dX6_isAhead_31 : decode cX6_isAhead 31 = .ok (.iload_n 2, 1) := by decide +kernel
theorem dX6_isAhead_32 : decode cX6_isAhead 32 = .ok (.iaload, 1) := by decide +kernel
theorem dX6_isAhead_33 : decode cX6_isAhead 33 = .ok (.aload_n 0, 1) := by decide +kernel
theorem dX6_isAhead_34 : decode cX6_isAhead 34 = .ok (.getfield 31, 3) := by decide +kernel
theorem dX6_isAhead_37 : decode cX6_isAhead 37 = .ok (.iload_n 1, 1) := by decide +kernel
theorem dX6_isAhead_38 : decode cX6_isAhead 38 = .ok (.iload_n 2, 1) := by decide +kernel
theorem dX6_isAhead_39 : decode cX6_isAhead 39 = .ok (.iadd, 1) := by decide +kernel
theorem dX6_isAhead_40 : decode cX6_isAhead 40 = .ok (.iaload, 1) := by decide +kernel
theorem dX6_isAhead_41 : decode cX6_isAhead 41 = .ok (.if_icmp .ge 7, 3) := by decide +kernel
theorem dX6_isAhead_44 : decode cX6_isAhead 44 = .ok (.iconst 1, 1) := by decide +kernel
theorem dX6_isAhead_45 : decode cX6_isAhead 45 = .ok (.goto 4, 3) := by decide +kernel
theorem dX6_isAhead_48 : decode cX6_isAhead 48 = .ok (.iconst 0, 1) := by decide +kernel
theorem dX6_isAhead_49 : decode cX6_isAhead 49 = .ok (.ireturn, 1) := by decide +kernel
theorem dX6_isAhead_50 : decode cX6_isAhead 50 = .ok (.iinc 2 1, 3) := by decide +kernel
theorem dX6_isAhead_53 : decode cX6_isAhead 53 = .ok (.goto (-51), 3) := by decide +kernel
theorem dX6_isAhead_56 : decode cX6_isAhead 56 = .ok (.iconst 0, 1) := by decide +kernel
theorem dX6_isAhead_57 : decode cX6_isAhead 57 = .ok (.ireturn, 1) := by decide +kernel
theorem dX6_judge_0 : decode cX6_judge 0 = .ok (.aload_n 0, 1) := by decide +kernel
theorem dX6_judge_1 : decode cX6_judge 1 = .ok (.iconst 0, 1) := by decide +kernel
theorem dX6_judge_2 : decode cX6_judge 2 = .ok (.putfield 82, 3) := by decide +kernel
theorem dX6_judge_5 : decode cX6_judge 5 = .ok (.iconst 0, 1) := by decide +kernel
theorem dX6_judge_6 : decode cX6_judge 6 = .ok (.istore 5, 2) := by decide +kernel
theorem dX6_judge_8 : decode cX6_judge 8 = .ok (.iload_n 2, 1) := by decide +kernel
theorem dX6_judge_9 : decode cX6_judge 9 = .ok (.ifCond .lt 8, 3) := by decide +kernel
theorem dX6_judge_12 : decode cX6_judge 12 = .ok (.aload_n 0, 1) := by decide +kernel
theorem dX6_judge_13 : decode cX6_judge 13 = .ok (.iload_n 2, 1) := by decide +kernel
theorem dX6_judge_14 : decode cX6_judge 14 = .ok (.invokevirtual 86, 3) := by decide +kernel
theorem dX6_judge_17 : decode cX6_judge 17 = .ok (.iload_n 3, 1) := by decide +kernel
theorem dX6_judge_18 : decode cX6_judge 18 = .ok (.ifCond .lt 18, 3) := by decide +kernel
theorem dX6_judge_21 : decode cX6_judge 21 = .ok (.aload_n 0, 1) := by decide +kernel
theorem dX6_judge_22 : decode cX6_judge 22 = .ok (.iload_n 3, 1) := by decide +kernel
theorem dX6_judge_23 : decode cX6_judge 23 = .ok (.invokevirtual 86, 3) := by decide +kernel
theorem dX6_judge_26 : decode cX6_judge 26 = .ok (.iload 5, 2) := by decide +kernel
theorem dX6_judge_28 : decode cX6_judge 28 = .ok (.aload_n 0, 1) := by decide +kernel
theorem dX6_judge_29 : decode cX6_judge 29 = .ok (.iload_n 3, 1) := by decide +kernel
theorem dX6_judge_30 : decode cX6_judge 30 = .ok (.invokevirtual 68, 3) := by decide +kernel
theorem dX6_judge_33 : decode cX6_judge 33 = .ok (.ior, 1) := by decide +kernel
theorem dX6_judge_34 : decode cX6_judge 34 = .ok (.istore 5, 2) := by decide +kernel
theorem dX6_judge_36 : decode cX6_judge 36 = .ok (.iload 4, 2) := by decide +kernel
theorem dX6_judge_38 : decode cX6_judge 38 = .ok (.ifCond .lt 20, 3) := by decide +kernel
theorem dX6_judge_41 : decode cX6_judge 41 = .ok (.aload_n 0, 1) := by decide +kernel
theorem dX6_judge_42 : decode cX6_judge 42 = .ok (.iload 4, 2) := by decide +kernel
theorem dX6_judge_44 : decode cX6_judge 44 = .ok (.invokevirtual 86, 3) := by decide +kernel
theorem dX6_judge_47 : decode cX6_judge 47 = .ok (.iload 5, 2) := by decide +kernel
theorem dX6_judge_49 : decode cX6_judge 49 = .ok (.aload_n 0, 1) := by decide +kernel
theorem dX6_judge_50 : decode cX6_judge 50 = .ok (.iload 4, 2) := by decide +kernel
theorem dX6_judge_52 : decode cX6_judge 52 = .ok (.invokevirtual 68, 3) := by decide +kernel
theorem dX6_judge_55 : decode cX6_judge 55 = .ok (.ior, 1) := by decide +kernel
theorem dX6_judge_56 : decode cX6_judge 56 = .ok (.istore 5, 2) := by decide +kernel
theorem dX6_judge_58 : decode cX6_judge 58 = .ok (.aload_n 0, 1) := by decide +kernel
theorem dX6_judge_59 : decode cX6_judge 59 = .ok (.getfield 13, 3) := by decide +kernel
theorem dX6_judge_62 : decode cX6_judge 62 = .ok (.iconst 4, 1) := by decide +kernel
theorem dX6_judge_63 : decode cX6_judge 63 = .ok (.iload_n 1, 1) := by decide +kernel
theorem dX6_judge_64 : decode cX6_judge 64 = .ok (.imul, 1) := by decide +kernel
theorem dX6_judge_65 : decode cX6_judge 65 = .ok (.iaload, 1) := by decide +kernel
theorem dX6_judge_66 : decode cX6_judge 66 = .ok (.istore 6, 2) := by decide +kernel
theorem dX6_judge_68 : decode cX6_judge 68 = .ok (.iload 6, 2) := by decide +kernel
theorem dX6_judge_70 : decode cX6_judge 70 = .ok (.iload 5, 2) := by decide +kernel
theorem dX6_judge_72 : decode cX6_judge 72 = .ok (.iconst (-1), 1) := by decide +kernel
theorem dX6_judge_73 : decode cX6_judge 73 = .ok (.ixor, 1) := by decide +kernel
theorem dX6_judge_74 : decode cX6_judge 74 = .ok (.iand, 1) := by decide +kernel
theorem dX6_judge_75 : decode cX6_judge 75 = .ok (.invokestatic 90, 3) := by decide +kernel
theorem dX6_judge_78 : decode cX6_judge 78 = .ok (.iload_n 2, 1) := by decide +kernel
theorem dX6_judge_79 : decode cX6_judge 79 = .ok (.ifCond .ge 20, 3) := by decide +kernel
theorem dX6_judge_82 : decode cX6_judge 82 = .ok (.aload_n 0, 1) := by decide +kernel
theorem dX6_judge_83 : decode cX6_judge 83 = .ok (.getfield 13, 3) := by decide +kernel
theorem dX6_judge_86 : decode cX6_judge 86 = .ok (.iconst 4, 1) := by decide +kernel
theorem dX6_judge_87 : decode cX6_judge 87 = .ok (.iload_n 1, 1) := by decide +kernel
theorem dX6_judge_88 : decode cX6_judge 88 = .ok (.imul, 1) := by decide +kernel
theorem dX6_judge_89 : decode cX6_judge 89 = .ok (.iconst 1, 1) := by decide +kernel
theorem dX6_judge_90 : decode cX6_judge 90 = .ok (.iadd, 1) := by decide +kernel
theorem dX6_judge_91 : decode cX6_judge 91 = .ok (.iaload, 1) := by decide +kernel
theorem dX6_judge_92 : decode cX6_judge 92 = .ok (.ifCond .lt 7, 3) := by decide +kernel
theorem dX6_judge_95 : decode cX6_judge 95 = .ok (.iconst 1, 1) := by decide +kernel
theorem dX6_judge_96 : decode cX6_judge 96 = .ok (.goto 4, 3) := by decide +kernel
theorem dX6_judge_99 : decode cX6_judge 99 = .ok (.iconst 0, 1) := by decide +kernel
theorem dX6_judge_100 : decode cX6_judge 100 = .ok (.iadd, 1) := by decide +kernel
theorem dX6_judge_101 : decode cX6_judge 101 = .ok (.istore 7, 2) := by decide +kernel
theorem dX6_judge_103 : decode cX6_judge 103 = .ok (.iload 5, 2) := by decide +kernel
theorem dX6_judge_105 : decode cX6_judge 105 = .ok (.iload 6, 2) := by decide +kernel
theorem dX6_judge_107 : decode cX6_judge 107 = .ok (.iconst (-1), 1) := by decide +kernel
theorem dX6_judge_108 : decode cX6_judge 108 = .ok (.ixor, 1) := by decide +kernel
theorem dX6_judge_109 : decode cX6_judge 109 = .ok (.iand, 1) := by decide +kernel
theorem dX6_judge_110 : decode cX6_judge 110 = .ok (.invokestatic 90, 3) := by decide +kernel
theorem dX6_judge_113 : decode cX6_judge 113 = .ok (.istore 8, 2) := by decide +kernel
theorem dX6_judge_115 : decode cX6_judge 115 = .ok (.sipush 10000, 3) := by decide +kernel
theorem dX6_judge_118 : decode cX6_judge 118 = .ok (.iload 7, 2) := by decide +kernel
theorem dX6_judge_120 : decode cX6_judge 120 = .ok (.imul, 1) := by decide +kernel
theorem dX6_judge_121 : decode cX6_judge 121 = .ok (.bipush 100, 2) := by decide +kernel
theorem dX6_judge_123 : decode cX6_judge 123 = .ok (.iload 8, 2) := by decide +kernel
theorem dX6_judge_125 : decode cX6_judge 125 = .ok (.imul, 1) := by decide +kernel
theorem dX6_judge_126 : decode cX6_judge 126 = .ok (.iadd, 1) := by decide +kernel
theorem dX6_judge_127 : decode cX6_judge 127 = .ok (.aload_n 0, 1) := by decide +kernel
theorem dX6_judge_128 : decode cX6_judge 128 = .ok (.getfield 82, 3) := by decide +kernel
theorem dX6_judge_131 : decode cX6_judge 131 = .ok (.iadd, 1) := by decide +kernel
theorem dX6_judge_132 : decode cX6_judge 132 = .ok (.istore 9, 2) := by decide +kernel
theorem dX6_judge_134 : decode cX6_judge 134 = .ok (.sipush 10000, 3) := by decide +kernel
theorem dX6_judge_137 : decode cX6_judge 137 = .ok (.aload_n 0, 1) := by decide +kernel
theorem dX6_judge_138 : decode cX6_judge 138 = .ok (.getfield 19, 3) := by decide +kernel
theorem dX6_judge_141 : decode cX6_judge 141 = .ok (.iload_n 1, 1) := by decide +kernel
theorem dX6_judge_142 : decode cX6_judge 142 = .ok (.iaload, 1) := by decide +kernel
theorem dX6_judge_143 : decode cX6_judge 143 = .ok (.imul, 1) := by decide +kernel
theorem dX6_judge_144 : decode cX6_judge 144 = .ok (.bipush 100, 2) := by decide +kernel
theorem dX6_judge_146 : decode cX6_judge 146 = .ok (.aload_n 0, 1) := by decide +kernel
theorem dX6_judge_147 : decode cX6_judge 147 = .ok (.getfield 22, 3) := by decide +kernel
theorem dX6_judge_150 : decode cX6_judge 150 = .ok (.iload_n 1, 1) := by decide +kernel
theorem dX6_judge_151 : decode cX6_judge 151 = .ok (.iaload, 1) := by decide +kernel
theorem dX6_judge_152 : decode cX6_judge 152 = .ok (.imul, 1) := by decide +kernel
theorem dX6_judge_153 : decode cX6_judge 153 = .ok (.iadd, 1) := by decide +kernel
theorem dX6_judge_154 : decode cX6_judge 154 = .ok (.aload_n 0, 1) := by decide +kernel
theorem dX6_judge_155 : decode cX6_judge 155 = .ok (.getfield 25, 3) := by decide +kernel
theorem dX6_judge_158 : decode cX6_judge 158 = .ok (.iload_n 1, 1) := by decide +kernel
theorem dX6_judge_159 : decode cX6_judge 159 = .ok (.iaload, 1) := by decide +kernel
theorem dX6_judge_160 : decode cX6_judge 160 = .ok (.iadd, 1) := by decide +kernel
theorem dX6_judge_161 : decode cX6_judge 161 = .ok (.istore 10, 2) := by decide +kernel
theorem dX6_judge_163 : decode cX6_judge 163 = .ok (.aload_n 0, 1) := by decide +kernel
theorem dX6_judge_164 : decode cX6_judge 164 = .ok (.getfield 28, 3) := by decide +kernel
theorem dX6_judge_167 : decode cX6_judge 167 = .ok (.iload_n 1, 1) := by decide +kernel
theorem dX6_judge_168 : decode cX6_judge 168 = .ok (.iaload, 1) := by decide +kernel
theorem dX6_judge_169 : decode cX6_judge 169 = .ok (.ifCond .le 11, 3) := by decide +kernel
theorem dX6_judge_172 : decode cX6_judge 172 = .ok (.iload 9, 2) := by decide +kernel
theorem dX6_judge_174 : decode cX6_judge 174 = .ok (.iload 10, 2) := by decide +kernel
theorem dX6_judge_176 : decode cX6_judge 176 = .ok (.if_icmp .le 4, 3) := by decide +kernel
theorem dX6_judge_179 : decode cX6_judge 179 = .ok (.return_, 1) := by decide +kernel
theorem dX6_judge_180 : decode cX6_judge 180 = .ok (.iload 9, 2) := by decide +kernel
theorem dX6_judge_182 : decode cX6_judge 182 = .ok (.iload 10, 2) := by decide +kernel
theorem dX6_judge_184 : decode cX6_judge 184 = .ok (.if_icmp .ge 10, 3) := by decide +kernel
theorem dX6_judge_187 : decode cX6_judge 187 = .ok (.aload_n 0, 1) := by decide +kernel
theorem dX6_judge_188 : decode cX6_judge 188 = .ok (.getfield 28, 3) := by decide +kernel
theorem dX6_judge_191 : decode cX6_judge 191 = .ok (.iload_n 1, 1) := by decide +kernel
theorem dX6_judge_192 : decode cX6_judge 192 = .ok (.iconst 0, 1) := by decide +kernel
theorem dX6_judge_193 : decode cX6_judge 193 = .ok (.iastore, 1) := by decide +kernel
theorem dX6_judge_194 : decode cX6_judge 194 = .ok (.aload_n 0, 1) := by decide +kernel
theorem dX6_judge_195 : decode cX6_judge 195 = .ok (.getfield 19, 3) := by decide +kernel
theorem dX6_judge_198 : decode cX6_judge 198 = .ok (.iload_n 1, 1) := by decide +kernel
theorem dX6_judge_199 : decode cX6_judge 199 = .ok (.iload 7, 2) := by decide +kernel
theorem dX6_judge_201 : decode cX6_judge 201 = .ok (.iastore, 1) := by decide +kernel
theorem dX6_judge_202 : decode cX6_judge 202 = .ok (.aload_n 0, 1) := by decide +kernel
theorem dX6_judge_203 : decode cX6_judge 203 = .ok (.getfield 22, 3) := by decide +kernel
theorem dX6_judge_206 : decode cX6_judge 206 = .ok (.iload_n 1, 1) := by decide +kernel
theorem dX6_judge_207 : decode cX6_judge 207 = .ok (.iload 8, 2) := by decide +kernel
theorem dX6_judge_209 : decode cX6_judge 209 = .ok (.iastore, 1) := by decide +kernel
theorem dX6_judge_210 : decode cX6_judge 210 = .ok (.aload_n 0, 1) := by decide +kernel
theorem dX6_judge_211 : decode cX6_judge 211 = .ok (.getfield 25, 3) := by decide +kernel
theorem dX6_judge_214 : decode cX6_judge 214 = .ok (.iload_n 1, 1) := by decide +kernel
theorem dX6_judge_215 : decode cX6_judge 215 = .ok (.aload_n 0, 1) := by decide +kernel
theorem dX6_judge_216 : decode cX6_judge 216 = .ok (.getfield 82, 3) := by decide +kernel
theorem dX6_judge_219 : decode cX6_judge 219 = .ok (.iastore, 1) := by decide +kernel
theorem dX6_judge_220 : decode cX6_judge 220 = .ok (.aload_n 0, 1) := by decide +kernel
theorem dX6_judge_221 : decode cX6_judge 221 = .ok (.getfield 28, 3) := by decide +kernel
theorem dX6_judge_224 : decode cX6_judge 224 = .ok (.iload_n 1, 1) := by decide +kernel
theorem dX6_judge_225 : decode cX6_judge 225 = .ok (.iaload, 1) := by decide +kernel
theorem dX6_judge_226 : decode cX6_judge 226 = .ok (.istore 11, 2) := by decide +kernel
theorem dX6_judge_228 : decode cX6_judge 228 = .ok (.iload 11, 2) := by decide +kernel
theorem dX6_judge_230 : decode cX6_judge 230 = .ok (.ifCond .le 27, 3) := by decide +kernel
theorem dX6_judge_233 : decode cX6_judge 233 = .ok (.aload_n 0, 1) := by decide +kernel
theorem dX6_judge_234 : decode cX6_judge 234 = .ok (.bipush 60, 2) := by decide +kernel
theorem dX6_judge_236 : decode cX6_judge 236 = .ok (.iload_n 1, 1) := by decide +kernel
theorem dX6_judge_237 : decode cX6_judge 237 = .ok (.imul, 1) := by decide +kernel
theorem dX6_judge_238 : decode cX6_judge 238 = .ok (.iconst 3, 1) := by decide +kernel
theorem dX6_judge_239 : decode cX6_judge 239 = .ok (.iload 11, 2) := by decide +kernel
theorem dX6_judge_241 : decode cX6_judge 241 = .ok (.iconst 1, 1) := by decide +kernel
theorem dX6_judge_242 : decode cX6_judge 242 = .ok (.isub, 1) := by decide +kernel
theorem dX6_judge_243 : decode cX6_judge 243 = .ok (.imul, 1) := by decide +kernel
theorem dX6_judge_244 : decode cX6_judge 244 = .ok (.iadd, 1) := by decide +kernel
theorem dX6_judge_245 : decode cX6_judge 245 = .ok (.invokevirtual 93, 3) := by decide +kernel
theorem dX6_judge_248 : decode cX6_judge 248 = .ok (.ifCond .eq 9, 3) := by decide +kernel
theorem dX6_judge_251 : decode cX6_judge 251 = .ok (.iinc 11 (-1), 3) := by decide +kernel
theorem dX6_judge_254 : decode cX6_judge 254 = .ok (.goto (-26), 3) := by decide +kernel
theorem dX6_judge_257 : decode cX6_judge 257 = .ok (.iload 11, 2) := by decide +kernel
theorem dX6_judge_259 : decode cX6_judge 259 = .ok (.bipush 20, 2) := by decide +kernel
theorem dX6_judge_261 : decode cX6_judge 261 = .ok (.if_icmp .ne 4, 3) := by decide +kernel
theorem dX6_judge_264 : decode cX6_judge 264 = .ok (.return_, 1) := by decide +kernel
theorem dX6_judge_265 : decode cX6_judge 265 = .ok (.aload_n 0, 1) := by decide +kernel
theorem dX6_judge_266 : decode cX6_judge 266 = .ok (.getfield 28, 3) := by decide +kernel
theorem dX6_judge_269 : decode cX6_judge 269 = .ok (.iload_n 1, 1) := by decide +kernel
theorem dX6_judge_270 : decode cX6_judge 270 = .ok (.iaload, 1) := by decide +kernel
theorem dX6_judge_271 : decode cX6_judge 271 = .ok (.bipush 20, 2) := by decide +kernel
theorem dX6_judge_273 : decode cX6_judge 273 = .ok (.if_icmp .ne 8, 3) := by decide +kernel
theorem dX6_judge_276 : decode cX6_judge 276 = .ok (.bipush 19, 2) := by decide +kernel
theorem dX6_judge_278 : decode cX6_judge 278 = .ok (.goto 9, 3) := by decide +kernel
theorem dX6_judge_281 : decode cX6_judge 281 = .ok (.aload_n 0, 1) := by decide +kernel
theorem dX6_judge_282 : decode cX6_judge 282 = .ok (.getfield 28, 3) := by decide +kernel
theorem dX6_judge_285 : decode cX6_judge 285 = .ok (.iload_n 1, 1) := by decide +kernel
theorem dX6_judge_286 : decode cX6_judge 286 = .ok (.iaload, 1) := by decide +kernel
theorem dX6_judge_287 : decode cX6_judge 287 = .ok (.istore 12, 2) := by decide +kernel
theorem dX6_judge_289 : decode cX6_judge 289 = .ok (.iload 12, 2) := by decide +kernel
theorem dX6_judge_291 : decode cX6_judge 291 = .ok (.istore 13, 2) := by decide +kernel
theorem dX6_judge_293 : decode cX6_judge 293 = .ok (.iload 13, 2) := by decide +kernel
theorem dX6_judge_295 : decode cX6_judge 295 = .ok (.iload 11, 2) := by decide +kernel
theorem dX6_judge_297 : decode cX6_judge 297 = .ok (.if_icmp .le 60, 3) := by decide +kernel
theorem dX6_judge_300 : decode cX6_judge 300 = .ok (.iconst 0, 1) := by decide +kernel
theorem dX6_judge_301 : decode cX6_judge 301 = .ok (.istore 14, 2) := by decide +kernel
theorem dX6_judge_303 : decode cX6_judge 303 = .ok (.iload 14, 2) := by decide +kernel
theorem dX6_judge_305 : decode cX6_judge 305 = .ok (.iconst 3, 1) := by decide +kernel
theorem dX6_judge_306 : decode cX6_judge 306 = .ok (.if_icmp .ge 45, 3) := by decide +kernel
theorem dX6_judge_309 : decode cX6_judge 309 = .ok (.aload_n 0, 1) := by decide +kernel
theorem dX6_judge_310 : decode cX6_judge 310 = .ok (.getfield 31, 3) := by decide +kernel
theorem dX6_judge_313 : decode cX6_judge 313 = .ok (.bipush 60, 2) := by decide +kernel
theorem dX6_judge_315 : decode cX6_judge 315 = .ok (.iload_n 1, 1) := by decide +kernel
theorem dX6_judge_316 : decode cX6_judge 316 = .ok (.imul, 1) := by decide +kernel
theorem dX6_judge_317 : decode cX6_judge 317 = .ok (.iconst 3, 1) := by decide +kernel
theorem dX6_judge_318 : decode cX6_judge 318 = .ok (.iload 13, 2) := by decide +kernel
theorem dX6_judge_320 : decode cX6_judge 320 = .ok (.imul, 1) := by decide +kernel
theorem dX6_judge_321 : decode cX6_judge 321 = .ok (.iadd, 1) := by decide +kernel
theorem dX6_judge_322 : decode cX6_judge 322 = .ok (.iload 14, 2) := by decide +kernel
theorem dX6_judge_324 : decode cX6_judge 324 = .ok (.iadd, 1) := by decide +kernel
theorem dX6_judge_325 : decode cX6_judge 325 = .ok (.aload_n 0, 1) := by decide +kernel
theorem dX6_judge_326 : decode cX6_judge 326 = .ok (.getfield 31, 3) := by decide +kernel
theorem dX6_judge_329 : decode cX6_judge 329 = .ok (.bipush 60, 2) := by decide +kernel
theorem dX6_judge_331 : decode cX6_judge 331 = .ok (.iload_n 1, 1) := by decide +kernel
theorem dX6_judge_332 : decode cX6_judge 332 = .ok (.imul, 1) := by decide +kernel
theorem dX6_judge_333 : decode cX6_judge 333 = .ok (.iconst 3, 1) := by decide +kernel
theorem dX6_judge_334 : decode cX6_judge 334 = .ok (.iload 13, 2) := by decide +kernel
theorem dX6_judge_336 : decode cX6_judge 336 = .ok (.iconst 1, 1) := by decide +kernel
theorem dX6_judge_337 : decode cX6_judge 337 = .ok (.isub, 1) := by decide +kernel
theorem dX6_judge_338 : decode cX6_judge 338 = .ok (.imul, 1) := by decide +kernel
theorem dX6_judge_339 : decode cX6_judge 339 = .ok (.iadd, 1) := by decide +kernel
theorem dX6_judge_340 : decode cX6_judge 340 = .ok (.iload 14, 2) := by decide +kernel
theorem dX6_judge_342 : decode cX6_judge 342 = .ok (.iadd, 1) := by decide +kernel
theorem dX6_judge_343 : decode cX6_judge 343 = .ok (.iaload, 1) := by decide +kernel
theorem dX6_judge_344 : decode cX6_judge 344 = .ok (.iastore, 1) := by decide +kernel
theorem dX6_judge_345 : decode cX6_judge 345 = .ok (.iinc 14 1, 3) := by decide +kernel
theorem dX6_judge_348 : decode cX6_judge 348 = .ok (.goto (-45), 3) := by decide +kernel
theorem dX6_judge_351 : decode cX6_judge 351 = .ok (.iinc 13 (-1), 3) := by decide +kernel
theorem dX6_judge_354 : decode cX6_judge 354 = .ok (.goto (-61), 3) := by decide +kernel
theorem dX6_judge_357 : decode cX6_judge 357 = .ok (.iconst 0, 1) := by decide +kernel
theorem dX6_judge_358 : decode cX6_judge 358 = .ok (.istore 13, 2) := by decide +kernel
theorem dX6_judge_360 : decode cX6_judge 360 = .ok (.iload 13, 2) := by decide +kernel
theorem dX6_judge_362 : decode cX6_judge 362 = .ok (.aload_n 0, 1) := by decide +kernel
theorem dX6_judge_363 : decode cX6_judge 363 = .ok (.getfield 82, 3) := by decide +kernel
theorem dX6_judge_366 : decode cX6_judge 366 = .ok (.if_icmp .ge 33, 3) := by decide +kernel
theorem dX6_judge_369 : decode cX6_judge 369 = .ok (.aload_n 0, 1) := by decide +kernel
theorem dX6_judge_370 : decode cX6_judge 370 = .ok (.getfield 31, 3) := by decide +kernel
theorem dX6_judge_373 : decode cX6_judge 373 = .ok (.bipush 60, 2) := by decide +kernel
theorem dX6_judge_375 : decode cX6_judge 375 = .ok (.iload_n 1, 1) := by decide +kernel
theorem dX6_judge_376 : decode cX6_judge 376 = .ok (.imul, 1) := by decide +kernel
theorem dX6_judge_377 : decode cX6_judge 377 = .ok (.iconst 3, 1) := by decide +kernel
theorem dX6_judge_378 : decode cX6_judge 378 = .ok (.iload 11, 2) := by decide +kernel
theorem dX6_judge_380 : decode cX6_judge 380 = .ok (.imul, 1) := by decide +kernel
theorem dX6_judge_381 : decode cX6_judge 381 = .ok (.iadd, 1) := by decide +kernel
theorem dX6_judge_382 : decode cX6_judge 382 = .ok (.iload 13, 2) := by decide +kernel
theorem dX6_judge_384 : decode cX6_judge 384 = .ok (.iadd, 1) := by decide +kernel
theorem dX6_judge_385 : decode cX6_judge 385 = .ok (.aload_n 0, 1) := by decide +kernel
theorem dX6_judge_386 : decode cX6_judge 386 = .ok (.getfield 34, 3) := by decide +kernel
theorem dX6_judge_389 : decode cX6_judge 389 = .ok (.iload 13, 2) := by decide +kernel
theorem dX6_judge_391 : decode cX6_judge 391 = .ok (.iaload, 1) := by decide +kernel
theorem dX6_judge_392 : decode cX6_judge 392 = .ok (.iastore, 1) := by decide +kernel
theorem dX6_judge_393 : decode cX6_judge 393 = .ok (.iinc 13 1, 3) := by decide +kernel
theorem dX6_judge_396 : decode cX6_judge 396 = .ok (.goto (-36), 3) := by decide +kernel
theorem dX6_judge_399 : decode cX6_judge 399 = .ok (.aload_n 0, 1) := by decide +kernel
theorem dX6_judge_400 : decode cX6_judge 400 = .ok (.getfield 28, 3) := by decide +kernel
theorem dX6_judge_403 : decode cX6_judge 403 = .ok (.iload_n 1, 1) := by decide +kernel
theorem dX6_judge_404 : decode cX6_judge 404 = .ok (.iload 12, 2) := by decide +kernel
theorem dX6_judge_406 : decode cX6_judge 406 = .ok (.iconst 1, 1) := by decide +kernel
theorem dX6_judge_407 : decode cX6_judge 407 = .ok (.iadd, 1) := by decide +kernel
theorem dX6_judge_408 : decode cX6_judge 408 = .ok (.iastore, 1) := by decide +kernel
theorem dX6_judge_409 : decode cX6_judge 409 = .ok (.return_, 1) := by decide +kernel
theorem dX6_judgeAll_0 : decode cX6_judgeAll 0 = .ok (.aload_n 0, 1) := by decide +kernel
theorem dX6_judgeAll_1 : decode cX6_judgeAll 1 = .ok (.iload_n 1, 1) := by decide +kernel
theorem dX6_judgeAll_2 : decode cX6_judgeAll 2 = .ok (.iload_n 2, 1) := by decide +kernel
theorem dX6_judgeAll_3 : decode cX6_judgeAll 3 = .ok (.iconst (-1), 1) := by decide +kernel
theorem dX6_judgeAll_4 : decode cX6_judgeAll 4 = .ok (.iconst (-1), 1) := by decide +kernel
theorem dX6_judgeAll_5 : decode cX6_judgeAll 5 = .ok (.invokevirtual 96, 3) := by decide +kernel
theorem dX6_judgeAll_8 : decode cX6_judgeAll 8 = .ok (.iconst 0, 1) := by decide +kernel
theorem dX6_judgeAll_9 : decode cX6_judgeAll 9 = .ok (.istore_n 3, 1) := by decide +kernel
theorem dX6_judgeAll_10 : decode cX6_judgeAll 10 = .ok (.iload_n 3, 1) := by decide +kernel
theorem dX6_judgeAll_11 : decode cX6_judgeAll 11 = .ok (.bipush 72, 2) := by decide +kernel
theorem dX6_judgeAll_13 : decode cX6_judgeAll 13 = .ok (.if_icmp .ge 81, 3) := by decide +kernel
theorem dX6_judgeAll_16 : decode cX6_judgeAll 16 = .ok (.iload_n 3, 1) := by decide +kernel
theorem dX6_judgeAll_17 : decode cX6_judgeAll 17 = .ok (.bipush 6, 2) := by decide +kernel
theorem dX6_judgeAll_19 : decode cX6_judgeAll 19 = .ok (.irem, 1) := by decide +kernel
theorem dX6_judgeAll_20 : decode cX6_judgeAll 20 = .ok (.iconst 2, 1) := by decide +kernel
theorem dX6_judgeAll_21 : decode cX6_judgeAll 21 = .ok (.if_icmp .lt 67, 3) := by decide +kernel
theorem dX6_judgeAll_24 : decode cX6_judgeAll 24 = .ok (.aload_n 0, 1) := by decide +kernel
theorem dX6_judgeAll_25 : decode cX6_judgeAll 25 = .ok (.iload_n 3, 1) := by decide +kernel
theorem dX6_judgeAll_26 : decode cX6_judgeAll 26 = .ok (.invokevirtual 64, 3) := by decide +kernel
theorem dX6_judgeAll_29 : decode cX6_judgeAll 29 = .ok (.ifCond .ne 6, 3) := by decide +kernel
theorem dX6_judgeAll_32 : decode cX6_judgeAll 32 = .ok (.goto 56, 3) := by decide +kernel
theorem dX6_judgeAll_35 : decode cX6_judgeAll 35 = .ok (.aload_n 0, 1) := by decide +kernel
theorem dX6_judgeAll_36 : decode cX6_judgeAll 36 = .ok (.iload_n 1, 1) := by decide +kernel
theorem dX6_judgeAll_37 : decode cX6_judgeAll 37 = .ok (.iload_n 2, 1) := by decide +kernel
theorem dX6_judgeAll_38 : decode cX6_judgeAll 38 = .ok (.iload_n 3, 1) := by decide +kernel
theorem dX6_judgeAll_39 : decode cX6_judgeAll 39 = .ok (.iconst (-1), 1) := by decide +kernel
theorem dX6_judgeAll_40 : decode cX6_judgeAll 40 = .ok (.invokevirtual 96, 3) := by decide +kernel
theorem dX6_judgeAll_43 : decode cX6_judgeAll 43 = .ok (.iload_n 3, 1) := by decide +kernel
theorem dX6_judgeAll_44 : decode cX6_judgeAll 44 = .ok (.iconst 1, 1) := by decide +kernel
theorem dX6_judgeAll_45 : decode cX6_judgeAll 45 = .ok (.iadd, 1) := by decide +kernel
theorem dX6_judgeAll_46 : decode cX6_judgeAll 46 = .ok (.istore 4, 2) := by decide +kernel
theorem dX6_judgeAll_48 : decode cX6_judgeAll 48 = .ok (.iload 4, 2) := by decide +kernel
theorem dX6_judgeAll_50 : decode cX6_judgeAll 50 = .ok (.bipush 72, 2) := by decide +kernel
theorem dX6_judgeAll_52 : decode cX6_judgeAll 52 = .ok (.if_icmp .ge 36, 3) := by decide +kernel
theorem dX6_judgeAll_55 : decode cX6_judgeAll 55 = .ok (.iload 4, 2) := by decide +kernel
theorem dX6_judgeAll_57 : decode cX6_judgeAll 57 = .ok (.bipush 6, 2) := by decide +kernel
theorem dX6_judgeAll_59 : decode cX6_judgeAll 59 = .ok (.irem, 1) := by decide +kernel
theorem dX6_judgeAll_60 : decode cX6_judgeAll 60 = .ok (.iconst 1, 1) := by decide +kernel
theorem dX6_judgeAll_61 : decode cX6_judgeAll 61 = .ok (.if_icmp .le 21, 3) := by decide +kernel
theorem dX6_judgeAll_64 : decode cX6_judgeAll 64 = .ok (.aload_n 0, 1) := by decide +kernel
theorem dX6_judgeAll_65 : decode cX6_judgeAll 65 = .ok (.iload 4, 2) := by decide +kernel
theorem dX6_judgeAll_67 : decode cX6_judgeAll 67 = .ok (.invokevirtual 64, 3) := by decide +kernel
theorem dX6_judgeAll_70 : decode cX6_judgeAll 70 = .ok (.ifCond .eq 12, 3) := by decide +kernel
theorem dX6_judgeAll_73 : decode cX6_judgeAll 73 = .ok (.aload_n 0, 1) := by decide +kernel
theorem dX6_judgeAll_74 : decode cX6_judgeAll 74 = .ok (.iload_n 1, 1) := by decide +kernel
theorem dX6_judgeAll_75 : decode cX6_judgeAll 75 = .ok (.iload_n 2, 1) := by decide +kernel
theorem dX6_judgeAll_76 : decode cX6_judgeAll 76 = .ok (.iload_n 3, 1) := by decide +kernel
theorem dX6_judgeAll_77 : decode cX6_judgeAll 77 = .ok (.iload 4, 2) := by decide +kernel
theorem dX6_judgeAll_79 : decode cX6_judgeAll 79 = .ok (.invokevirtual 96, 3) := by decide +kernel
theorem dX6_judgeAll_82 : decode cX6_judgeAll 82 = .ok (.iinc 4 1, 3) := by decide +kernel
theorem dX6_judgeAll_85 : decode cX6_judgeAll 85 = .ok (.goto (-37), 3) := by decide +kernel
theorem dX6_judgeAll_88 : decode cX6_judgeAll 88 = .ok (.iinc 3 1, 3) := by decide +kernel
theorem dX6_judgeAll_91 : decode cX6_judgeAll 91 = .ok (.goto (-81), 3) := by decide +kernel
theorem dX6_judgeAll_94 : decode cX6_judgeAll 94 = .ok (.return_, 1) := by decide +kernel
theorem dX6_findGood_0 : decode cX6_findGood 0 = .ok (.aload_n 0, 1) := by decide +kernel
theorem dX6_findGood_1 : decode cX6_findGood 1 = .ok (.getfield 28, 3) := by decide +kernel
theorem dX6_findGood_4 : decode cX6_findGood 4 = .ok (.iload_n 1, 1) := by decide +kernel
theorem dX6_findGood_5 : decode cX6_findGood 5 = .ok (.iconst 0, 1) := by decide +kernel
theorem dX6_findGood_6 : decode cX6_findGood 6 = .ok (.iastore, 1) := by decide +kernel
theorem dX6_findGood_7 : decode cX6_findGood 7 = .ok (.aload_n 0, 1) := by decide +kernel
theorem dX6_findGood_8 : decode cX6_findGood 8 = .ok (.getfield 19, 3) := by decide +kernel
theorem dX6_findGood_11 : decode cX6_findGood 11 = .ok (.iload_n 1, 1) := by decide +kernel
theorem dX6_findGood_12 : decode cX6_findGood 12 = .ok (.bipush 100, 2) := by decide +kernel
theorem dX6_findGood_14 : decode cX6_findGood 14 = .ok (.iastore, 1) := by decide +kernel
theorem dX6_findGood_15 : decode cX6_findGood 15 = .ok (.aload_n 0, 1) := by decide +kernel
theorem dX6_findGood_16 : decode cX6_findGood 16 = .ok (.getfield 22, 3) := by decide +kernel
theorem dX6_findGood_19 : decode cX6_findGood 19 = .ok (.iload_n 1, 1) := by decide +kernel
theorem dX6_findGood_20 : decode cX6_findGood 20 = .ok (.iconst 0, 1) := by decide +kernel
theorem dX6_findGood_21 : decode cX6_findGood 21 = .ok (.iastore, 1) := by decide +kernel
theorem dX6_findGood_22 : decode cX6_findGood 22 = .ok (.aload_n 0, 1) := by decide +kernel
theorem dX6_findGood_23 : decode cX6_findGood 23 = .ok (.getfield 25, 3) := by decide +kernel
theorem dX6_findGood_26 : decode cX6_findGood 26 = .ok (.iload_n 1, 1) := by decide +kernel
theorem dX6_findGood_27 : decode cX6_findGood 27 = .ok (.iconst 0, 1) := by decide +kernel
theorem dX6_findGood_28 : decode cX6_findGood 28 = .ok (.iastore, 1) := by decide +kernel
theorem dX6_findGood_29 : decode cX6_findGood 29 = .ok (.aload_n 0, 1) := by decide +kernel
theorem dX6_findGood_30 : decode cX6_findGood 30 = .ok (.getfield 13, 3) := by decide +kernel
theorem dX6_findGood_33 : decode cX6_findGood 33 = .ok (.iconst 4, 1) := by decide +kernel
theorem dX6_findGood_34 : decode cX6_findGood 34 = .ok (.iload_n 1, 1) := by decide +kernel
theorem dX6_findGood_35 : decode cX6_findGood 35 = .ok (.imul, 1) := by decide +kernel
theorem dX6_findGood_36 : decode cX6_findGood 36 = .ok (.iconst 1, 1) := by decide +kernel
theorem dX6_findGood_37 : decode cX6_findGood 37 = .ok (.iadd, 1) := by decide +kernel
theorem dX6_findGood_38 : decode cX6_findGood 38 = .ok (.iaload, 1) := by decide +kernel
theorem dX6_findGood_39 : decode cX6_findGood 39 = .ok (.istore_n 2, 1) := by decide +kernel
theorem dX6_findGood_40 : decode cX6_findGood 40 = .ok (.iconst 0, 1) := by decide +kernel
theorem dX6_findGood_41 : decode cX6_findGood 41 = .ok (.istore_n 3, 1) := by decide +kernel
theorem dX6_findGood_42 : decode cX6_findGood 42 = .ok (.iconst 0, 1) := by decide +kernel
theorem dX6_findGood_43 : decode cX6_findGood 43 = .ok (.istore 4, 2) := by decide +kernel
theorem dX6_findGood_45 : decode cX6_findGood 45 = .ok (.iload 4, 2) := by decide +kernel
theorem dX6_findGood_47 : decode cX6_findGood 47 = .ok (.bipush 72, 2) := by decide +kernel
theorem dX6_findGood_49 : decode cX6_findGood 49 = .ok (.if_icmp .ge 52, 3) := by decide +kernel
theorem dX6_findGood_52 : decode cX6_findGood 52 = .ok (.iload_n 2, 1) := by decide +kernel
theorem dX6_findGood_53 : decode cX6_findGood 53 = .ok (.ifCond .lt 48, 3) := by decide +kernel
theorem dX6_findGood_56 : decode cX6_findGood 56 = .ok (.iload 4, 2) := by decide +kernel
theorem dX6_findGood_58 : decode cX6_findGood 58 = .ok (.bipush 6, 2) := by decide +kernel
theorem dX6_findGood_60 : decode cX6_findGood 60 = .ok (.irem, 1) := by decide +kernel
theorem dX6_findGood_61 : decode cX6_findGood 61 = .ok (.iconst 2, 1) := by decide +kernel
theorem dX6_findGood_62 : decode cX6_findGood 62 = .ok (.if_icmp .ge 33, 3) := by decide +kernel
theorem dX6_findGood_65 : decode cX6_findGood 65 = .ok (.aload_n 0, 1) := by decide +kernel
theorem dX6_findGood_66 : decode cX6_findGood 66 = .ok (.iload 4, 2) := by decide +kernel
theorem dX6_findGood_68 : decode cX6_findGood 68 = .ok (.invokevirtual 64, 3) := by decide +kernel
theorem dX6_findGood_71 : decode cX6_findGood 71 = .ok (.ifCond .eq 24, 3) := by decide +kernel
theorem dX6_findGood_74 : decode cX6_findGood 74 = .ok (.aload_n 0, 1) := by decide +kernel
theorem dX6_findGood_75 : decode cX6_findGood 75 = .ok (.iload 4, 2) := by decide +kernel
theorem dX6_findGood_77 : decode cX6_findGood 77 = .ok (.invokevirtual 68, 3) := by decide +kernel
theorem dX6_findGood_80 : decode cX6_findGood 80 = .ok (.iconst 1, 1) := by decide +kernel
theorem dX6_findGood_81 : decode cX6_findGood 81 = .ok (.iload_n 2, 1) := by decide +kernel
theorem dX6_findGood_82 : decode cX6_findGood 82 = .ok (.ishl, 1) := by decide +kernel
theorem dX6_findGood_83 : decode cX6_findGood 83 = .ok (.if_icmp .ne 12, 3) := by decide +kernel
theorem dX6_findGood_86 : decode cX6_findGood 86 = .ok (.iconst 1, 1) := by decide +kernel
theorem dX6_findGood_87 : decode cX6_findGood 87 = .ok (.istore_n 3, 1) := by decide +kernel
theorem dX6_findGood_88 : decode cX6_findGood 88 = .ok (.aload_n 0, 1) := by decide +kernel
theorem dX6_findGood_89 : decode cX6_findGood 89 = .ok (.iload_n 1, 1) := by decide +kernel
theorem dX6_findGood_90 : decode cX6_findGood 90 = .ok (.iload 4, 2) := by decide +kernel
theorem dX6_findGood_92 : decode cX6_findGood 92 = .ok (.invokevirtual 100, 3) := by decide +kernel
theorem dX6_findGood_95 : decode cX6_findGood 95 = .ok (.iinc 4 1, 3) := by decide +kernel
theorem dX6_findGood_98 : decode cX6_findGood 98 = .ok (.goto (-53), 3) := by decide +kernel
theorem dX6_findGood_101 : decode cX6_findGood 101 = .ok (.iload_n 3, 1) := by decide +kernel
theorem dX6_findGood_102 : decode cX6_findGood 102 = .ok (.ifCond .ne 9, 3) := by decide +kernel
theorem dX6_findGood_105 : decode cX6_findGood 105 = .ok (.aload_n 0, 1) := by decide +kernel
theorem dX6_findGood_106 : decode cX6_findGood 106 = .ok (.iload_n 1, 1) := by decide +kernel
theorem dX6_findGood_107 : decode cX6_findGood 107 = .ok (.iconst (-1), 1) := by decide +kernel
theorem dX6_findGood_108 : decode cX6_findGood 108 = .ok (.invokevirtual 100, 3) := by decide +kernel
theorem dX6_findGood_111 : decode cX6_findGood 111 = .ok (.return_, 1) := by decide +kernel
theorem dX6_good_0 : decode cX6_good 0 = .ok (.aload_n 0, 1) := by decide +kernel
theorem dX6_good_1 : decode cX6_good 1 = .ok (.iload_n 1, 1) := by decide +kernel
theorem dX6_good_2 : decode cX6_good 2 = .ok (.invokevirtual 79, 3) := by decide +kernel
theorem dX6_good_5 : decode cX6_good 5 = .ok (.ifCond .eq 12, 3) := by decide +kernel
theorem dX6_good_8 : decode cX6_good 8 = .ok (.iload_n 2, 1) := by decide +kernel
theorem dX6_good_9 : decode cX6_good 9 = .ok (.iconst 0, 1) := by decide +kernel
theorem dX6_good_10 : decode cX6_good 10 = .ok (.iconst 3, 1) := by decide +kernel
theorem dX6_good_11 : decode cX6_good 11 = .ok (.invokestatic 52, 3) := by decide +kernel
theorem dX6_good_14 : decode cX6_good 14 = .ok (.ifCond .ne 5, 3) := by decide +kernel
theorem dX6_good_17 : decode cX6_good 17 = .ok (.iconst (-1), 1) := by decide +kernel
theorem dX6_good_18 : decode cX6_good 18 = .ok (.ireturn, 1) := by decide +kernel
theorem dX6_good_19 : decode cX6_good 19 = .ok (.aload_n 0, 1) := by decide +kernel
theorem dX6_good_20 : decode cX6_good 20 = .ok (.iload_n 1, 1) := by decide +kernel
theorem dX6_good_21 : decode cX6_good 21 = .ok (.invokevirtual 104, 3) := by decide +kernel
theorem dX6_good_24 : decode cX6_good 24 = .ok (.iload_n 2, 1) := by decide +kernel
theorem dX6_good_25 : decode cX6_good 25 = .ok (.ifCond .ne 12, 3) := by decide +kernel
theorem dX6_good_28 : decode cX6_good 28 = .ok (.aload_n 0, 1) := by decide +kernel
theorem dX6_good_29 : decode cX6_good 29 = .ok (.getfield 19, 3) := by decide +kernel
theorem dX6_good_32 : decode cX6_good 32 = .ok (.iload_n 1, 1) := by decide +kernel
theorem dX6_good_33 : decode cX6_good 33 = .ok (.iaload, 1) := by decide +kernel
theorem dX6_good_34 : decode cX6_good 34 = .ok (.goto 37, 3) := by decide +kernel
theorem dX6_good_37 : decode cX6_good 37 = .ok (.iload_n 2, 1) := by decide +kernel
theorem dX6_good_38 : decode cX6_good 38 = .ok (.iconst 1, 1) := by decide +kernel
theorem dX6_good_39 : decode cX6_good 39 = .ok (.if_icmp .ne 12, 3) := by decide +kernel
theorem dX6_good_42 : decode cX6_good 42 = .ok (.aload_n 0, 1) := by decide +kernel
theorem dX6_good_43 : decode cX6_good 43 = .ok (.getfield 22, 3) := by decide +kernel
theorem dX6_good_46 : decode cX6_good 46 = .ok (.iload_n 1, 1) := by decide +kernel
theorem dX6_good_47 : decode cX6_good 47 = .ok (.iaload, 1) := by decide +kernel
theorem dX6_good_48 : decode cX6_good 48 = .ok (.goto 23, 3) := by decide +kernel
theorem dX6_good_51 : decode cX6_good 51 = .ok (.iload_n 2, 1) := by decide +kernel
theorem dX6_good_52 : decode cX6_good 52 = .ok (.iconst 2, 1) := by decide +kernel
theorem dX6_good_53 : decode cX6_good 53 = .ok (.if_icmp .ne 12, 3) := by decide +kernel
theorem dX6_good_56 : decode cX6_good 56 = .ok (.aload_n 0, 1) := by decide +kernel
theorem dX6_good_57 : decode cX6_good 57 = .ok (.getfield 25, 3) := by decide +kernel
theorem dX6_good_60 : decode cX6_good 60 = .ok (.iload_n 1, 1) := by decide +kernel
theorem dX6_good_61 : decode cX6_good 61 = .ok (.iaload, 1) := by decide +kernel
theorem dX6_good_62 : decode cX6_good 62 = .ok (.goto 9, 3) := by decide +kernel
theorem dX6_good_65 : decode cX6_good 65 = .ok (.aload_n 0, 1) := by decide +kernel
theorem dX6_good_66 : decode cX6_good 66 = .ok (.getfield 28, 3) := by decide +kernel
theorem dX6_good_69 : decode cX6_good 69 = .ok (.iload_n 1, 1) := by decide +kernel
theorem dX6_good_70 : decode cX6_good 70 = .ok (.iaload, 1) := by decide +kernel
theorem dX6_good_71 : decode cX6_good 71 = .ok (.ireturn, 1) := by decide +kernel
theorem dX6_button_0 : decode cX6_button 0 = .ok (.aload_n 0, 1) := by decide +kernel
theorem dX6_button_1 : decode cX6_button 1 = .ok (.iload_n 1, 1) := by decide +kernel
theorem dX6_button_2 : decode cX6_button 2 = .ok (.invokevirtual 79, 3) := by decide +kernel
theorem dX6_button_5 : decode cX6_button 5 = .ok (.ifCond .ne 5, 3) := by decide +kernel
theorem dX6_button_8 : decode cX6_button 8 = .ok (.iconst (-1), 1) := by decide +kernel
theorem dX6_button_9 : decode cX6_button 9 = .ok (.ireturn, 1) := by decide +kernel
theorem dX6_button_10 : decode cX6_button 10 = .ok (.aload_n 0, 1) := by decide +kernel
theorem dX6_button_11 : decode cX6_button 11 = .ok (.iload_n 1, 1) := by decide +kernel
theorem dX6_button_12 : decode cX6_button 12 = .ok (.invokevirtual 104, 3) := by decide +kernel
theorem dX6_button_15 : decode cX6_button 15 = .ok (.iload_n 2, 1) := by decide +kernel
theorem dX6_button_16 : decode cX6_button 16 = .ok (.iconst 0, 1) := by decide +kernel
theorem dX6_button_17 : decode cX6_button 17 = .ok (.aload_n 0, 1) := by decide +kernel
theorem dX6_button_18 : decode cX6_button 18 = .ok (.getfield 28, 3) := by decide +kernel
theorem dX6_button_21 : decode cX6_button 21 = .ok (.iload_n 1, 1) := by decide +kernel
theorem dX6_button_22 : decode cX6_button 22 = .ok (.iaload, 1) := by decide +kernel
theorem dX6_button_23 : decode cX6_button 23 = .ok (.iconst 1, 1) := by decide +kernel
theorem dX6_button_24 : decode cX6_button 24 = .ok (.isub, 1) := by decide +kernel
theorem dX6_button_25 : decode cX6_button 25 = .ok (.invokestatic 52, 3) := by decide +kernel
theorem dX6_button_28 : decode cX6_button 28 = .ok (.ifCond .eq 37, 3) := by decide +kernel
theorem dX6_button_31 : decode cX6_button 31 = .ok (.iload_n 3, 1) := by decide +kernel
theorem dX6_button_32 : decode cX6_button 32 = .ok (.iconst 0, 1) := by decide +kernel
theorem dX6_button_33 : decode cX6_button 33 = .ok (.aload_n 0, 1) := by decide +kernel
theorem dX6_button_34 : decode cX6_button 34 = .ok (.getfield 25, 3) := by decide +kernel
theorem dX6_button_37 : decode cX6_button 37 = .ok (.iload_n 1, 1) := by decide +kernel
theorem dX6_button_38 : decode cX6_button 38 = .ok (.iaload, 1) := by decide +kernel
theorem dX6_button_39 : decode cX6_button 39 = .ok (.iconst 1, 1) := by decide +kernel
theorem dX6_button_40 : decode cX6_button 40 = .ok (.isub, 1) := by decide +kernel
theorem dX6_button_41 : decode cX6_button 41 = .ok (.invokestatic 52, 3) := by decide +kernel
theorem dX6_button_44 : decode cX6_button 44 = .ok (.ifCond .eq 21, 3) := by decide +kernel
theorem dX6_button_47 : decode cX6_button 47 = .ok (.aload_n 0, 1) := by decide +kernel
theorem dX6_button_48 : decode cX6_button 48 = .ok (.getfield 31, 3) := by decide +kernel
theorem dX6_button_51 : decode cX6_button 51 = .ok (.bipush 60, 2) := by decide +kernel
theorem dX6_button_53 : decode cX6_button 53 = .ok (.iload_n 1, 1) := by decide +kernel
theorem dX6_button_54 : decode cX6_button 54 = .ok (.imul, 1) := by decide +kernel
theorem dX6_button_55 : decode cX6_button 55 = .ok (.iconst 3, 1) := by decide +kernel
theorem dX6_button_56 : decode cX6_button 56 = .ok (.iload_n 2, 1) := by decide +kernel
theorem dX6_button_57 : decode cX6_button 57 = .ok (.imul, 1) := by decide +kernel
theorem dX6_button_58 : decode cX6_button 58 = .ok (.iadd, 1) := by decide +kernel
theorem dX6_button_59 : decode cX6_button 59 = .ok (.iload_n 3, 1) := by decide +kernel
theorem dX6_button_60 : decode cX6_button 60 = .ok (.iadd, 1) := by decide +kernel
theorem dX6_button_61 : decode cX6_button 61 = .ok (.iaload, 1) := by decide +kernel
theorem dX6_button_62 : decode cX6_button 62 = .ok (.goto 5, 3) := by decide +kernel
theorem dX6_button_65 : decode cX6_button 65 = .ok (.bipush (-3), 2) := by decide +kernel
theorem dX6_button_67 : decode cX6_button 67 = .ok (.ireturn, 1) := by decide +kernel
theorem dX6_placeOf_0 : decode cX6_placeOf 0 = .ok (.aload_n 0, 1) := by decide +kernel
theorem dX6_placeOf_1 : decode cX6_placeOf 1 = .ok (.getfield 31, 3) := by decide +kernel
theorem dX6_placeOf_4 : decode cX6_placeOf 4 = .ok (.bipush 60, 2) := by decide +kernel
theorem dX6_placeOf_6 : decode cX6_placeOf 6 = .ok (.iload_n 1, 1) := by decide +kernel
theorem dX6_placeOf_7 : decode cX6_placeOf 7 = .ok (.imul, 1) := by decide +kernel
theorem dX6_placeOf_8 : decode cX6_placeOf 8 = .ok (.iconst 3, 1) := by decide +kernel
theorem dX6_placeOf_9 : decode cX6_placeOf 9 = .ok (.iload_n 2, 1) := by decide +kernel
theorem dX6_placeOf_10 : decode cX6_placeOf 10 = .ok (.imul, 1) := by decide +kernel
theorem dX6_placeOf_11 : decode cX6_placeOf 11 = .ok (.iadd, 1) := by decide +kernel
theorem dX6_placeOf_12 : decode cX6_placeOf 12 = .ok (.iaload, 1) := by decide +kernel
theorem dX6_placeOf_13 : decode cX6_placeOf 13 = .ok (.bipush 6, 2) := by decide +kernel
theorem dX6_placeOf_15 : decode cX6_placeOf 15 = .ok (.idiv, 1) := by decide +kernel
theorem dX6_placeOf_16 : decode cX6_placeOf 16 = .ok (.ireturn, 1) := by decide +kernel
theorem dX6_away_0 : decode cX6_away 0 = .ok (.iload_n 0, 1) := by decide +kernel
theorem dX6_away_1 : decode cX6_away 1 = .ok (.iload_n 1, 1) := by decide +kernel
theorem dX6_away_2 : decode cX6_away 2 = .ok (.if_icmp .ge 9, 3) := by decide +kernel
theorem dX6_away_5 : decode cX6_away 5 = .ok (.iload_n 1, 1) := by decide +kernel
theorem dX6_away_6 : decode cX6_away 6 = .ok (.iload_n 0, 1) := by decide +kernel
theorem dX6_away_7 : decode cX6_away 7 = .ok (.isub, 1) := by decide +kernel
theorem dX6_away_8 : decode cX6_away 8 = .ok (.goto 6, 3) := by decide +kernel
theorem dX6_away_11 : decode cX6_away 11 = .ok (.iload_n 0, 1) := by decide +kernel
theorem dX6_away_12 : decode cX6_away 12 = .ok (.iload_n 1, 1) := by decide +kernel
theorem dX6_away_13 : decode cX6_away 13 = .ok (.isub, 1) := by decide +kernel
theorem dX6_away_14 : decode cX6_away 14 = .ok (.ireturn, 1) := by decide +kernel
theorem dX6_nextWith_0 : decode cX6_nextWith 0 = .ok (.iload_n 1, 1) := by decide +kernel
theorem dX6_nextWith_1 : decode cX6_nextWith 1 = .ok (.istore_n 2, 1) := by decide +kernel
theorem dX6_nextWith_2 : decode cX6_nextWith 2 = .ok (.iload_n 2, 1) := by decide +kernel
theorem dX6_nextWith_3 : decode cX6_nextWith 3 = .ok (.aload_n 0, 1) := by decide +kernel
theorem dX6_nextWith_4 : decode cX6_nextWith 4 = .ok (.getfield 7, 3) := by decide +kernel
theorem dX6_nextWith_7 : decode cX6_nextWith 7 = .ok (.iconst 5, 1) := by decide +kernel
theorem dX6_nextWith_8 : decode cX6_nextWith 8 = .ok (.iaload, 1) := by decide +kernel
theorem dX6_nextWith_9 : decode cX6_nextWith 9 = .ok (.if_icmp .ge 18, 3) := by decide +kernel
theorem dX6_nextWith_12 : decode cX6_nextWith 12 = .ok (.aload_n 0, 1) := by decide +kernel
theorem dX6_nextWith_13 : decode cX6_nextWith 13 = .ok (.getfield 25, 3) := by decide +kernel
theorem dX6_nextWith_16 : decode cX6_nextWith 16 = .ok (.iload_n 2, 1) := by decide +kernel
theorem dX6_nextWith_17 : decode cX6_nextWith 17 = .ok (.iaload, 1) := by decide +kernel
theorem dX6_nextWith_18 : decode cX6_nextWith 18 = .ok (.ifCond .ne 9, 3) := by decide +kernel
theorem dX6_nextWith_21 : decode cX6_nextWith 21 = .ok (.iinc 2 1, 3) := by decide +kernel
theorem dX6_nextWith_24 : decode cX6_nextWith 24 = .ok (.goto (-22), 3) := by decide +kernel
theorem dX6_nextWith_27 : decode cX6_nextWith 27 = .ok (.iload_n 2, 1) := by decide +kernel
theorem dX6_nextWith_28 : decode cX6_nextWith 28 = .ok (.ireturn, 1) := by decide +kernel
theorem dX6_behind_0 : decode cX6_behind 0 = .ok (.aload_n 0, 1) := by decide +kernel
theorem dX6_behind_1 : decode cX6_behind 1 = .ok (.iload_n 1, 1) := by decide +kernel
theorem dX6_behind_2 : decode cX6_behind 2 = .ok (.iconst 1, 1) := by decide +kernel
theorem dX6_behind_3 : decode cX6_behind 3 = .ok (.iadd, 1) := by decide +kernel
theorem dX6_behind_4 : decode cX6_behind 4 = .ok (.invokevirtual 107, 3) := by decide +kernel
theorem dX6_behind_7 : decode cX6_behind 7 = .ok (.istore_n 3, 1) := by decide +kernel
theorem dX6_behind_8 : decode cX6_behind 8 = .ok (.iload_n 3, 1) := by decide +kernel
theorem dX6_behind_9 : decode cX6_behind 9 = .ok (.aload_n 0, 1) := by decide +kernel
theorem dX6_behind_10 : decode cX6_behind 10 = .ok (.getfield 7, 3) := by decide +kernel
theorem dX6_behind_13 : decode cX6_behind 13 = .ok (.iconst 5, 1) := by decide +kernel
theorem dX6_behind_14 : decode cX6_behind 14 = .ok (.iaload, 1) := by decide +kernel
theorem dX6_behind_15 : decode cX6_behind 15 = .ok (.if_icmp .ne 5, 3) := by decide +kernel
theorem dX6_behind_18 : decode cX6_behind 18 = .ok (.iconst 0, 1) := by decide +kernel
theorem dX6_behind_19 : decode cX6_behind 19 = .ok (.ireturn, 1) := by decide +kernel
theorem dX6_behind_20 : decode cX6_behind 20 = .ok (.ldc 110, 2) := by decide +kernel
theorem dX6_behind_22 : decode cX6_behind 22 = .ok (.istore 4, 2) := by decide +kernel
theorem dX6_behind_24 : decode cX6_behind 24 = .ok (.iconst 0, 1) := by decide +kernel
theorem dX6_behind_25 : decode cX6_behind 25 = .ok (.istore 5, 2) := by decide +kernel
theorem dX6_behind_27 : decode cX6_behind 27 = .ok (.iload 5, 2) := by decide +kernel
theorem dX6_behind_29 : decode cX6_behind 29 = .ok (.aload_n 0, 1) := by decide +kernel
theorem dX6_behind_30 : decode cX6_behind 30 = .ok (.getfield 28, 3) := by decide +kernel
theorem dX6_behind_33 : decode cX6_behind 33 = .ok (.iload_n 3, 1) := by decide +kernel
theorem dX6_behind_34 : decode cX6_behind 34 = .ok (.iaload, 1) := by decide +kernel
theorem dX6_behind_35 : decode cX6_behind 35 = .ok (.if_icmp .ge 56, 3) := by decide +kernel
theorem dX6_behind_38 : decode cX6_behind 38 = .ok (.aload_n 0, 1) := by decide +kernel
theorem dX6_behind_39 : decode cX6_behind 39 = .ok (.iload_n 1, 1) := by decide +kernel
theorem dX6_behind_40 : decode cX6_behind 40 = .ok (.iload_n 2, 1) := by decide +kernel
theorem dX6_behind_41 : decode cX6_behind 41 = .ok (.invokevirtual 111, 3) := by decide +kernel
theorem dX6_behind_44 : decode cX6_behind 44 = .ok (.aload_n 0, 1) := by decide +kernel
theorem dX6_behind_45 : decode cX6_behind 45 = .ok (.iload_n 3, 1) := by decide +kernel
theorem dX6_behind_46 : decode cX6_behind 46 = .ok (.iload 5, 2) := by decide +kernel
theorem dX6_behind_48 : decode cX6_behind 48 = .ok (.invokevirtual 111, 3) := by decide +kernel
theorem dX6_behind_51 : decode cX6_behind 51 = .ok (.invokestatic 115, 3) := by decide +kernel
theorem dX6_behind_54 : decode cX6_behind 54 = .ok (.aload_n 0, 1) := by decide +kernel
theorem dX6_behind_55 : decode cX6_behind 55 = .ok (.getfield 37, 3) := by decide +kernel
theorem dX6_behind_58 : decode cX6_behind 58 = .ok (.bipush 20, 2) := by decide +kernel
theorem dX6_behind_60 : decode cX6_behind 60 = .ok (.iload_n 3, 1) := by decide +kernel
theorem dX6_behind_61 : decode cX6_behind 61 = .ok (.imul, 1) := by decide +kernel
theorem dX6_behind_62 : decode cX6_behind 62 = .ok (.iload 5, 2) := by decide +kernel
theorem dX6_behind_64 : decode cX6_behind 64 = .ok (.iadd, 1) := by decide +kernel
theorem dX6_behind_65 : decode cX6_behind 65 = .ok (.iaload, 1) := by decide +kernel
theorem dX6_behind_66 : decode cX6_behind 66 = .ok (.iadd, 1) := by decide +kernel
theorem dX6_behind_67 : decode cX6_behind 67 = .ok (.istore 6, 2) := by decide +kernel
theorem dX6_behind_69 : decode cX6_behind 69 = .ok (.iload 6, 2) := by decide +kernel
theorem dX6_behind_71 : decode cX6_behind 71 = .ok (.iload 4, 2) := by decide +kernel
theorem dX6_behind_73 : decode cX6_behind 73 = .ok (.if_icmp .ge 8, 3) := by decide +kernel
theorem dX6_behind_76 : decode cX6_behind 76 = .ok (.iload 6, 2) := by decide +kernel
theorem dX6_behind_78 : decode cX6_behind 78 = .ok (.goto 5, 3) := by decide +kernel
theorem dX6_behind_81 : decode cX6_behind 81 = .ok (.iload 4, 2) := by decide +kernel
theorem dX6_behind_83 : decode cX6_behind 83 = .ok (.istore 4, 2) := by decide +kernel
theorem dX6_behind_85 : decode cX6_behind 85 = .ok (.iinc 5 1, 3) := by decide +kernel
theorem dX6_behind_88 : decode cX6_behind 88 = .ok (.goto (-61), 3) := by decide +kernel
theorem dX6_behind_91 : decode cX6_behind 91 = .ok (.iload 4, 2) := by decide +kernel
theorem dX6_behind_93 : decode cX6_behind 93 = .ok (.ireturn, 1) := by decide +kernel
theorem dX6_findHand_0 : decode cX6_findHand 0 = .ok (.aload_n 0, 1) := by decide +kernel
theorem dX6_findHand_1 : decode cX6_findHand 1 = .ok (.getfield 7, 3) := by decide +kernel
theorem dX6_findHand_4 : decode cX6_findHand 4 = .ok (.iconst 5, 1) := by decide +kernel
theorem dX6_findHand_5 : decode cX6_findHand 5 = .ok (.iaload, 1) := by decide +kernel
theorem dX6_findHand_6 : decode cX6_findHand 6 = .ok (.iconst 1, 1) := by decide +kernel
theorem dX6_findHand_7 : decode cX6_findHand 7 = .ok (.isub, 1) := by decide +kernel
theorem dX6_findHand_8 : decode cX6_findHand 8 = .ok (.istore_n 1, 1) := by decide +kernel
theorem dX6_findHand_9 : decode cX6_findHand 9 = .ok (.iload_n 1, 1) := by decide +kernel
theorem dX6_findHand_10 : decode cX6_findHand 10 = .ok (.ifCond .lt 58, 3) := by decide +kernel
theorem dX6_findHand_13 : decode cX6_findHand 13 = .ok (.aload_n 0, 1) := by decide +kernel
theorem dX6_findHand_14 : decode cX6_findHand 14 = .ok (.iload_n 1, 1) := by decide +kernel
theorem dX6_findHand_15 : decode cX6_findHand 15 = .ok (.invokevirtual 104, 3) := by decide +kernel
theorem dX6_findHand_18 : decode cX6_findHand 18 = .ok (.iconst 0, 1) := by decide +kernel
theorem dX6_findHand_19 : decode cX6_findHand 19 = .ok (.istore_n 2, 1) := by decide +kernel
theorem dX6_findHand_20 : decode cX6_findHand 20 = .ok (.iload_n 2, 1) := by decide +kernel
theorem dX6_findHand_21 : decode cX6_findHand 21 = .ok (.aload_n 0, 1) := by decide +kernel
theorem dX6_findHand_22 : decode cX6_findHand 22 = .ok (.getfield 28, 3) := by decide +kernel
theorem dX6_findHand_25 : decode cX6_findHand 25 = .ok (.iload_n 1, 1) := by decide +kernel
theorem dX6_findHand_26 : decode cX6_findHand 26 = .ok (.iaload, 1) := by decide +kernel
theorem dX6_findHand_27 : decode cX6_findHand 27 = .ok (.if_icmp .ge 35, 3) := by decide +kernel
theorem dX6_findHand_30 : decode cX6_findHand 30 = .ok (.aload_n 0, 1) := by decide +kernel
theorem dX6_findHand_31 : decode cX6_findHand 31 = .ok (.getfield 25, 3) := by decide +kernel
theorem dX6_findHand_34 : decode cX6_findHand 34 = .ok (.iload_n 1, 1) := by decide +kernel
theorem dX6_findHand_35 : decode cX6_findHand 35 = .ok (.iaload, 1) := by decide +kernel
theorem dX6_findHand_36 : decode cX6_findHand 36 = .ok (.ifCond .le 26, 3) := by decide +kernel
theorem dX6_findHand_39 : decode cX6_findHand 39 = .ok (.aload_n 0, 1) := by decide +kernel
theorem dX6_findHand_40 : decode cX6_findHand 40 = .ok (.getfield 37, 3) := by decide +kernel
theorem dX6_findHand_43 : decode cX6_findHand 43 = .ok (.bipush 20, 2) := by decide +kernel
theorem dX6_findHand_45 : decode cX6_findHand 45 = .ok (.iload_n 1, 1) := by decide +kernel
theorem dX6_findHand_46 : decode cX6_findHand 46 = .ok (.imul, 1) := by decide +kernel
theorem dX6_findHand_47 : decode cX6_findHand 47 = .ok (.iload_n 2, 1) := by decide +kernel
theorem dX6_findHand_48 : decode cX6_findHand 48 = .ok (.iadd, 1) := by decide +kernel
theorem dX6_findHand_49 : decode cX6_findHand 49 = .ok (.aload_n 0, 1) := by decide +kernel
theorem dX6_findHand_50 : decode cX6_findHand 50 = .ok (.iload_n 1, 1) := by decide +kernel
theorem dX6_findHand_51 : decode cX6_findHand 51 = .ok (.iload_n 2, 1) := by decide +kernel
theorem dX6_findHand_52 : decode cX6_findHand 52 = .ok (.invokevirtual 118, 3) := by decide +kernel
theorem dX6_findHand_55 : decode cX6_findHand 55 = .ok (.iastore, 1) := by decide +kernel
theorem dX6_findHand_56 : decode cX6_findHand 56 = .ok (.iinc 2 1, 3) := by decide +kernel
theorem dX6_findHand_59 : decode cX6_findHand 59 = .ok (.goto (-39), 3) := by decide +kernel
theorem dX6_findHand_62 : decode cX6_findHand 62 = .ok (.iinc 1 (-1), 3) := by decide +kernel
theorem dX6_findHand_65 : decode cX6_findHand 65 = .ok (.goto (-56), 3) := by decide +kernel
theorem dX6_findHand_68 : decode cX6_findHand 68 = .ok (.aload_n 0, 1) := by decide +kernel
theorem dX6_findHand_69 : decode cX6_findHand 69 = .ok (.iconst 0, 1) := by decide +kernel
theorem dX6_findHand_70 : decode cX6_findHand 70 = .ok (.putfield 121, 3) := by decide +kernel
theorem dX6_findHand_73 : decode cX6_findHand 73 = .ok (.iconst (-1), 1) := by decide +kernel
theorem dX6_findHand_74 : decode cX6_findHand 74 = .ok (.istore_n 1, 1) := by decide +kernel
theorem dX6_findHand_75 : decode cX6_findHand 75 = .ok (.iconst 0, 1) := by decide +kernel
theorem dX6_findHand_76 : decode cX6_findHand 76 = .ok (.istore_n 2, 1) := by decide +kernel
theorem dX6_findHand_77 : decode cX6_findHand 77 = .ok (.iload_n 2, 1) := by decide +kernel
theorem dX6_findHand_78 : decode cX6_findHand 78 = .ok (.aload_n 0, 1) := by decide +kernel
theorem dX6_findHand_79 : decode cX6_findHand 79 = .ok (.getfield 7, 3) := by decide +kernel
theorem dX6_findHand_82 : decode cX6_findHand 82 = .ok (.iconst 5, 1) := by decide +kernel
theorem dX6_findHand_83 : decode cX6_findHand 83 = .ok (.iaload, 1) := by decide +kernel
theorem dX6_findHand_84 : decode cX6_findHand 84 = .ok (.if_icmp .ge 156, 3) := by decide +kernel
theorem dX6_findHand_87 : decode cX6_findHand 87 = .ok (.aload_n 0, 1) := by decide +kernel
theorem dX6_findHand_88 : decode cX6_findHand 88 = .ok (.getfield 40, 3) := by decide +kernel
theorem dX6_findHand_91 : decode cX6_findHand 91 = .ok (.iload_n 2, 1) := by decide +kernel
theorem dX6_findHand_92 : decode cX6_findHand 92 = .ok (.iconst 0, 1) := by decide +kernel
theorem dX6_findHand_93 : decode cX6_findHand 93 = .ok (.iastore, 1) := by decide +kernel
theorem dX6_findHand_94 : decode cX6_findHand 94 = .ok (.aload_n 0, 1) := by decide +kernel
theorem dX6_findHand_95 : decode cX6_findHand 95 = .ok (.getfield 25, 3) := by decide +kernel
theorem dX6_findHand_98 : decode cX6_findHand 98 = .ok (.iload_n 2, 1) := by decide +kernel
theorem dX6_findHand_99 : decode cX6_findHand 99 = .ok (.iaload, 1) := by decide +kernel
theorem dX6_findHand_100 : decode cX6_findHand 100 = .ok (.ifCond .ne 6, 3) := by decide +kernel
theorem dX6_findHand_103 : decode cX6_findHand 103 = .ok (.goto 131, 3) := by decide +kernel
theorem dX6_findHand_106 : decode cX6_findHand 106 = .ok (.ldc 110, 2) := by decide +kernel
theorem dX6_findHand_108 : decode cX6_findHand 108 = .ok (.istore_n 3, 1) := by decide +kernel
theorem dX6_findHand_109 : decode cX6_findHand 109 = .ok (.iconst 0, 1) := by decide +kernel
theorem dX6_findHand_110 : decode cX6_findHand 110 = .ok (.istore 4, 2) := by decide +kernel
theorem dX6_findHand_112 : decode cX6_findHand 112 = .ok (.iload 4, 2) := by decide +kernel
theorem dX6_findHand_114 : decode cX6_findHand 114 = .ok (.aload_n 0, 1) := by decide +kernel
theorem dX6_findHand_115 : decode cX6_findHand 115 = .ok (.getfield 28, 3) := by decide +kernel
theorem dX6_findHand_118 : decode cX6_findHand 118 = .ok (.iload_n 2, 1) := by decide +kernel
theorem dX6_findHand_119 : decode cX6_findHand 119 = .ok (.iaload, 1) := by decide +kernel
theorem dX6_findHand_120 : decode cX6_findHand 120 = .ok (.if_icmp .ge 70, 3) := by decide +kernel
theorem dX6_findHand_123 : decode cX6_findHand 123 = .ok (.aload_n 0, 1) := by decide +kernel
theorem dX6_findHand_124 : decode cX6_findHand 124 = .ok (.getfield 37, 3) := by decide +kernel
theorem dX6_findHand_127 : decode cX6_findHand 127 = .ok (.bipush 20, 2) := by decide +kernel
theorem dX6_findHand_129 : decode cX6_findHand 129 = .ok (.iload_n 2, 1) := by decide +kernel
theorem dX6_findHand_130 : decode cX6_findHand 130 = .ok (.imul, 1) := by decide +kernel
theorem dX6_findHand_131 : decode cX6_findHand 131 = .ok (.iload 4, 2) := by decide +kernel
theorem dX6_findHand_133 : decode cX6_findHand 133 = .ok (.iadd, 1) := by decide +kernel
theorem dX6_findHand_134 : decode cX6_findHand 134 = .ok (.iaload, 1) := by decide +kernel
theorem dX6_findHand_135 : decode cX6_findHand 135 = .ok (.iload_n 1, 1) := by decide +kernel
theorem dX6_findHand_136 : decode cX6_findHand 136 = .ok (.ifCond .ge 7, 3) := by decide +kernel
theorem dX6_findHand_139 : decode cX6_findHand 139 = .ok (.iconst 0, 1) := by decide +kernel
theorem dX6_findHand_140 : decode cX6_findHand 140 = .ok (.goto 24, 3) := by decide +kernel
theorem dX6_findHand_143 : decode cX6_findHand 143 = .ok (.aload_n 0, 1) := by decide +kernel
theorem dX6_findHand_144 : decode cX6_findHand 144 = .ok (.iload_n 1, 1) := by decide +kernel
theorem dX6_findHand_145 : decode cX6_findHand 145 = .ok (.aload_n 0, 1) := by decide +kernel
theorem dX6_findHand_146 : decode cX6_findHand 146 = .ok (.getfield 40, 3) := by decide +kernel
theorem dX6_findHand_149 : decode cX6_findHand 149 = .ok (.iload_n 1, 1) := by decide +kernel
theorem dX6_findHand_150 : decode cX6_findHand 150 = .ok (.iaload, 1) := by decide +kernel
theorem dX6_findHand_151 : decode cX6_findHand 151 = .ok (.invokevirtual 111, 3) := by decide +kernel
theorem dX6_findHand_154 : decode cX6_findHand 154 = .ok (.aload_n 0, 1) := by decide +kernel
theorem dX6_findHand_155 : decode cX6_findHand 155 = .ok (.iload_n 2, 1) := by decide +kernel
theorem dX6_findHand_156 : decode cX6_findHand 156 = .ok (.iload 4, 2) := by decide +kernel
theorem dX6_findHand_158 : decode cX6_findHand 158 = .ok (.invokevirtual 111, 3) := by decide +kernel
theorem dX6_findHand_161 : decode cX6_findHand 161 = .ok (.invokestatic 115, 3) := by decide +kernel
theorem dX6_findHand_164 : decode cX6_findHand 164 = .ok (.iadd, 1) := by decide +kernel
theorem dX6_findHand_165 : decode cX6_findHand 165 = .ok (.istore 5, 2) := by decide +kernel
theorem dX6_findHand_167 : decode cX6_findHand 167 = .ok (.iload 5, 2) := by decide +kernel
theorem dX6_findHand_169 : decode cX6_findHand 169 = .ok (.iload_n 3, 1) := by decide +kernel
theorem dX6_findHand_170 : decode cX6_findHand 170 = .ok (.if_icmp .ge 14, 3) := by decide +kernel
theorem dX6_findHand_173 : decode cX6_findHand 173 = .ok (.iload 5, 2) := by decide +kernel
theorem dX6_findHand_175 : decode cX6_findHand 175 = .ok (.istore_n 3, 1) := by decide +kernel
theorem dX6_findHand_176 : decode cX6_findHand 176 = .ok (.aload_n 0, 1) := by decide +kernel
theorem dX6_findHand_177 : decode cX6_findHand 177 = .ok (.getfield 40, 3) := by decide +kernel
theorem dX6_findHand_180 : decode cX6_findHand 180 = .ok (.iload_n 2, 1) := by decide +kernel
theorem dX6_findHand_181 : decode cX6_findHand 181 = .ok (.iload 4, 2) := by decide +kernel
theorem dX6_findHand_183 : decode cX6_findHand 183 = .ok (.iastore, 1) := by decide +kernel
theorem dX6_findHand_184 : decode cX6_findHand 184 = .ok (.iinc 4 1, 3) := by decide +kernel
theorem dX6_findHand_187 : decode cX6_findHand 187 = .ok (.goto (-75), 3) := by decide +kernel
theorem dX6_findHand_190 : decode cX6_findHand 190 = .ok (.aload_n 0, 1) := by decide +kernel
theorem dX6_findHand_191 : decode cX6_findHand 191 = .ok (.dup, 1) := by decide +kernel
theorem dX6_findHand_192 : decode cX6_findHand 192 = .ok (.getfield 121, 3) := by decide +kernel
theorem dX6_findHand_195 : decode cX6_findHand 195 = .ok (.iload_n 1, 1) := by decide +kernel
theorem dX6_findHand_196 : decode cX6_findHand 196 = .ok (.ifCond .ge 7, 3) := by decide +kernel
theorem dX6_findHand_199 : decode cX6_findHand 199 = .ok (.iconst 0, 1) := by decide +kernel
theorem dX6_findHand_200 : decode cX6_findHand 200 = .ok (.goto 28, 3) := by decide +kernel
theorem dX6_findHand_203 : decode cX6_findHand 203 = .ok (.aload_n 0, 1) := by decide +kernel
theorem dX6_findHand_204 : decode cX6_findHand 204 = .ok (.iload_n 1, 1) := by decide +kernel
theorem dX6_findHand_205 : decode cX6_findHand 205 = .ok (.aload_n 0, 1) := by decide +kernel
theorem dX6_findHand_206 : decode cX6_findHand 206 = .ok (.getfield 40, 3) := by decide +kernel
theorem dX6_findHand_209 : decode cX6_findHand 209 = .ok (.iload_n 1, 1) := by decide +kernel
theorem dX6_findHand_210 : decode cX6_findHand 210 = .ok (.iaload, 1) := by decide +kernel
theorem dX6_findHand_211 : decode cX6_findHand 211 = .ok (.invokevirtual 111, 3) := by decide +kernel
theorem dX6_findHand_214 : decode cX6_findHand 214 = .ok (.aload_n 0, 1) := by decide +kernel
theorem dX6_findHand_215 : decode cX6_findHand 215 = .ok (.iload_n 2, 1) := by decide +kernel
theorem dX6_findHand_216 : decode cX6_findHand 216 = .ok (.aload_n 0, 1) := by decide +kernel
theorem dX6_findHand_217 : decode cX6_findHand 217 = .ok (.getfield 40, 3) := by decide +kernel
theorem dX6_findHand_220 : decode cX6_findHand 220 = .ok (.iload_n 2, 1) := by decide +kernel
theorem dX6_findHand_221 : decode cX6_findHand 221 = .ok (.iaload, 1) := by decide +kernel
theorem dX6_findHand_222 : decode cX6_findHand 222 = .ok (.invokevirtual 111, 3) := by decide +kernel
theorem dX6_findHand_225 : decode cX6_findHand 225 = .ok (.invokestatic 115, 3) := by decide +kernel
theorem dX6_findHand_228 : decode cX6_findHand 228 = .ok (.iadd, 1) := by decide +kernel
theorem dX6_findHand_229 : decode cX6_findHand 229 = .ok (.putfield 121, 3) := by decide +kernel
theorem dX6_findHand_232 : decode cX6_findHand 232 = .ok (.iload_n 2, 1) := by decide +kernel
theorem dX6_findHand_233 : decode cX6_findHand 233 = .ok (.istore_n 1, 1) := by decide +kernel
theorem dX6_findHand_234 : decode cX6_findHand 234 = .ok (.iinc 2 1, 3) := by decide +kernel
theorem dX6_findHand_237 : decode cX6_findHand 237 = .ok (.goto (-160), 3) := by decide +kernel
theorem dX6_findHand_240 : decode cX6_findHand 240 = .ok (.return_, 1) := by decide +kernel
theorem dX6_hand_0 : decode cX6_hand 0 = .ok (.aload_n 0, 1) := by decide +kernel
theorem dX6_hand_1 : decode cX6_hand 1 = .ok (.iload_n 1, 1) := by decide +kernel
theorem dX6_hand_2 : decode cX6_hand 2 = .ok (.invokevirtual 79, 3) := by decide +kernel
theorem dX6_hand_5 : decode cX6_hand 5 = .ok (.ifCond .ne 5, 3) := by decide +kernel
theorem dX6_hand_8 : decode cX6_hand 8 = .ok (.iconst (-1), 1) := by decide +kernel
theorem dX6_hand_9 : decode cX6_hand 9 = .ok (.ireturn, 1) := by decide +kernel
theorem dX6_hand_10 : decode cX6_hand 10 = .ok (.aload_n 0, 1) := by decide +kernel
theorem dX6_hand_11 : decode cX6_hand 11 = .ok (.invokevirtual 124, 3) := by decide +kernel
theorem dX6_hand_14 : decode cX6_hand 14 = .ok (.aload_n 0, 1) := by decide +kernel
theorem dX6_hand_15 : decode cX6_hand 15 = .ok (.getfield 40, 3) := by decide +kernel
theorem dX6_hand_18 : decode cX6_hand 18 = .ok (.iload_n 1, 1) := by decide +kernel
theorem dX6_hand_19 : decode cX6_hand 19 = .ok (.iaload, 1) := by decide +kernel
theorem dX6_hand_20 : decode cX6_hand 20 = .ok (.ireturn, 1) := by decide +kernel
theorem dX6_jumps_0 : decode cX6_jumps 0 = .ok (.aload_n 0, 1) := by decide +kernel
theorem dX6_jumps_1 : decode cX6_jumps 1 = .ok (.invokevirtual 124, 3) := by decide +kernel
theorem dX6_jumps_4 : decode cX6_jumps 4 = .ok (.aload_n 0, 1) := by decide +kernel
theorem dX6_jumps_5 : decode cX6_jumps 5 = .ok (.getfield 121, 3) := by decide +kernel
theorem dX6_jumps_8 : decode cX6_jumps 8 = .ok (.ireturn, 1) := by decide +kernel
theorem dX6_heardAt_0 : decode cX6_heardAt 0 = .ok (.iconst 0, 1) := by decide +kernel
theorem dX6_heardAt_1 : decode cX6_heardAt 1 = .ok (.istore_n 2, 1) := by decide +kernel
theorem dX6_heardAt_2 : decode cX6_heardAt 2 = .ok (.iconst 0, 1) := by decide +kernel
theorem dX6_heardAt_3 : decode cX6_heardAt 3 = .ok (.istore_n 3, 1) := by decide +kernel
theorem dX6_heardAt_4 : decode cX6_heardAt 4 = .ok (.iload_n 3, 1) := by decide +kernel
theorem dX6_heardAt_5 : decode cX6_heardAt 5 = .ok (.aload_n 0, 1) := by decide +kernel
theorem dX6_heardAt_6 : decode cX6_heardAt 6 = .ok (.getfield 25, 3) := by decide +kernel
theorem dX6_heardAt_9 : decode cX6_heardAt 9 = .ok (.iload_n 1, 1) := by decide +kernel
theorem dX6_heardAt_10 : decode cX6_heardAt 10 = .ok (.iaload, 1) := by decide +kernel
theorem dX6_heardAt_11 : decode cX6_heardAt 11 = .ok (.if_icmp .ge 36, 3) := by decide +kernel
theorem dX6_heardAt_14 : decode cX6_heardAt 14 = .ok (.iload_n 2, 1) := by decide +kernel
theorem dX6_heardAt_15 : decode cX6_heardAt 15 = .ok (.aload_n 0, 1) := by decide +kernel
theorem dX6_heardAt_16 : decode cX6_heardAt 16 = .ok (.aload_n 0, 1) := by decide +kernel
theorem dX6_heardAt_17 : decode cX6_heardAt 17 = .ok (.getfield 31, 3) := by decide +kernel
theorem dX6_heardAt_20 : decode cX6_heardAt 20 = .ok (.bipush 60, 2) := by decide +kernel
theorem dX6_heardAt_22 : decode cX6_heardAt 22 = .ok (.iload_n 1, 1) := by decide +kernel
theorem dX6_heardAt_23 : decode cX6_heardAt 23 = .ok (.imul, 1) := by decide +kernel
theorem dX6_heardAt_24 : decode cX6_heardAt 24 = .ok (.iconst 3, 1) := by decide +kernel
theorem dX6_heardAt_25 : decode cX6_heardAt 25 = .ok (.aload_n 0, 1) := by decide +kernel
theorem dX6_heardAt_26 : decode cX6_heardAt 26 = .ok (.getfield 40, 3) := by decide +kernel
theorem dX6_heardAt_29 : decode cX6_heardAt 29 = .ok (.iload_n 1, 1) := by decide +kernel
theorem dX6_heardAt_30 : decode cX6_heardAt 30 = .ok (.iaload, 1) := by decide +kernel
theorem dX6_heardAt_31 : decode cX6_heardAt 31 = .ok (.imul, 1) := by decide +kernel
theorem dX6_heardAt_32 : decode cX6_heardAt 32 = .ok (.iadd, 1) := by decide +kernel
theorem dX6_heardAt_33 : decode cX6_heardAt 33 = .ok (.iload_n 3, 1) := by decide +kernel
theorem dX6_heardAt_34 : decode cX6_heardAt 34 = .ok (.iadd, 1) := by decide +kernel
theorem dX6_heardAt_35 : decode cX6_heardAt 35 = .ok (.iaload, 1) := by decide +kernel
theorem dX6_heardAt_36 : decode cX6_heardAt 36 = .ok (.invokevirtual 68, 3) := by decide +kernel
theorem dX6_heardAt_39 : decode cX6_heardAt 39 = .ok (.ior, 1) := by decide +kernel
theorem dX6_heardAt_40 : decode cX6_heardAt 40 = .ok (.istore_n 2, 1) := by decide +kernel
theorem dX6_heardAt_41 : decode cX6_heardAt 41 = .ok (.iinc 3 1, 3) := by decide +kernel
theorem dX6_heardAt_44 : decode cX6_heardAt 44 = .ok (.goto (-40), 3) := by decide +kernel
theorem dX6_heardAt_47 : decode cX6_heardAt 47 = .ok (.iload_n 2, 1) := by decide +kernel
theorem dX6_heardAt_48 : decode cX6_heardAt 48 = .ok (.ireturn, 1) := by decide +kernel
theorem dX6_sounds_0 : decode cX6_sounds 0 = .ok (.aload_n 0, 1) := by decide +kernel
theorem dX6_sounds_1 : decode cX6_sounds 1 = .ok (.iload_n 1, 1) := by decide +kernel
theorem dX6_sounds_2 : decode cX6_sounds 2 = .ok (.invokevirtual 79, 3) := by decide +kernel
theorem dX6_sounds_5 : decode cX6_sounds 5 = .ok (.ifCond .ne 5, 3) := by decide +kernel
theorem dX6_sounds_8 : decode cX6_sounds 8 = .ok (.iconst (-1), 1) := by decide +kernel
theorem dX6_sounds_9 : decode cX6_sounds 9 = .ok (.ireturn, 1) := by decide +kernel
theorem dX6_sounds_10 : decode cX6_sounds 10 = .ok (.aload_n 0, 1) := by decide +kernel
theorem dX6_sounds_11 : decode cX6_sounds 11 = .ok (.invokevirtual 124, 3) := by decide +kernel
theorem dX6_sounds_14 : decode cX6_sounds 14 = .ok (.aload_n 0, 1) := by decide +kernel
theorem dX6_sounds_15 : decode cX6_sounds 15 = .ok (.iload_n 1, 1) := by decide +kernel
theorem dX6_sounds_16 : decode cX6_sounds 16 = .ok (.invokevirtual 127, 3) := by decide +kernel
theorem dX6_sounds_19 : decode cX6_sounds 19 = .ok (.ireturn, 1) := by decide +kernel
theorem dX6_buttonAt_0 : decode cX6_buttonAt 0 = .ok (.iload_n 2, 1) := by decide +kernel
theorem dX6_buttonAt_1 : decode cX6_buttonAt 1 = .ok (.aload_n 0, 1) := by decide +kernel
theorem dX6_buttonAt_2 : decode cX6_buttonAt 2 = .ok (.getfield 25, 3) := by decide +kernel
theorem dX6_buttonAt_5 : decode cX6_buttonAt 5 = .ok (.iload_n 1, 1) := by decide +kernel
theorem dX6_buttonAt_6 : decode cX6_buttonAt 6 = .ok (.iaload, 1) := by decide +kernel
theorem dX6_buttonAt_7 : decode cX6_buttonAt 7 = .ok (.if_icmp .ge 26, 3) := by decide +kernel
theorem dX6_buttonAt_10 : decode cX6_buttonAt 10 = .ok (.aload_n 0, 1) := by decide +kernel
theorem dX6_buttonAt_11 : decode cX6_buttonAt 11 = .ok (.getfield 31, 3) := by decide +kernel
theorem dX6_buttonAt_14 : decode cX6_buttonAt 14 = .ok (.bipush 60, 2) := by decide +kernel
theorem dX6_buttonAt_16 : decode cX6_buttonAt 16 = .ok (.iload_n 1, 1) := by decide +kernel
theorem dX6_buttonAt_17 : decode cX6_buttonAt 17 = .ok (.imul, 1) := by decide +kernel
theorem dX6_buttonAt_18 : decode cX6_buttonAt 18 = .ok (.iconst 3, 1) := by decide +kernel
theorem dX6_buttonAt_19 : decode cX6_buttonAt 19 = .ok (.aload_n 0, 1) := by decide +kernel
theorem dX6_buttonAt_20 : decode cX6_buttonAt 20 = .ok (.getfield 40, 3) := by decide +kernel
theorem dX6_buttonAt_23 : decode cX6_buttonAt 23 = .ok (.iload_n 1, 1) := by decide +kernel
theorem dX6_buttonAt_24 : decode cX6_buttonAt 24 = .ok (.iaload, 1) := by decide +kernel
theorem dX6_buttonAt_25 : decode cX6_buttonAt 25 = .ok (.imul, 1) := by decide +kernel
theorem dX6_buttonAt_26 : decode cX6_buttonAt 26 = .ok (.iadd, 1) := by decide +kernel
theorem dX6_buttonAt_27 : decode cX6_buttonAt 27 = .ok (.iload_n 2, 1) := by decide +kernel
theorem dX6_buttonAt_28 : decode cX6_buttonAt 28 = .ok (.iadd, 1) := by decide +kernel
theorem dX6_buttonAt_29 : decode cX6_buttonAt 29 = .ok (.iaload, 1) := by decide +kernel
theorem dX6_buttonAt_30 : decode cX6_buttonAt 30 = .ok (.goto 4, 3) := by decide +kernel
theorem dX6_buttonAt_33 : decode cX6_buttonAt 33 = .ok (.iconst (-1), 1) := by decide +kernel
theorem dX6_buttonAt_34 : decode cX6_buttonAt 34 = .ok (.ireturn, 1) := by decide +kernel
theorem dX6_changed_0 : decode cX6_changed 0 = .ok (.iload_n 1, 1) := by decide +kernel
theorem dX6_changed_1 : decode cX6_changed 1 = .ok (.iload_n 2, 1) := by decide +kernel
theorem dX6_changed_2 : decode cX6_changed 2 = .ok (.invokestatic 56, 3) := by decide +kernel
theorem dX6_changed_5 : decode cX6_changed 5 = .ok (.ifCond .ne 5, 3) := by decide +kernel
theorem dX6_changed_8 : decode cX6_changed 8 = .ok (.iconst (-1), 1) := by decide +kernel
theorem dX6_changed_9 : decode cX6_changed 9 = .ok (.ireturn, 1) := by decide +kernel
theorem dX6_changed_10 : decode cX6_changed 10 = .ok (.aload_n 0, 1) := by decide +kernel
theorem dX6_changed_11 : decode cX6_changed 11 = .ok (.invokevirtual 124, 3) := by decide +kernel
theorem dX6_changed_14 : decode cX6_changed 14 = .ok (.iconst 0, 1) := by decide +kernel
theorem dX6_changed_15 : decode cX6_changed 15 = .ok (.istore_n 3, 1) := by decide +kernel
theorem dX6_changed_16 : decode cX6_changed 16 = .ok (.iload_n 3, 1) := by decide +kernel
theorem dX6_changed_17 : decode cX6_changed 17 = .ok (.iconst 3, 1) := by decide +kernel
theorem dX6_changed_18 : decode cX6_changed 18 = .ok (.aload_n 0, 1) := by decide +kernel
theorem dX6_changed_19 : decode cX6_changed 19 = .ok (.getfield 7, 3) := by decide +kernel
theorem dX6_changed_22 : decode cX6_changed 22 = .ok (.iconst 5, 1) := by decide +kernel
theorem dX6_changed_23 : decode cX6_changed 23 = .ok (.iaload, 1) := by decide +kernel
theorem dX6_changed_24 : decode cX6_changed 24 = .ok (.imul, 1) := by decide +kernel
theorem dX6_changed_25 : decode cX6_changed 25 = .ok (.if_icmp .ge 25, 3) := by decide +kernel
theorem dX6_changed_28 : decode cX6_changed 28 = .ok (.aload_n 0, 1) := by decide +kernel
theorem dX6_changed_29 : decode cX6_changed 29 = .ok (.getfield 43, 3) := by decide +kernel
theorem dX6_changed_32 : decode cX6_changed 32 = .ok (.iload_n 3, 1) := by decide +kernel
theorem dX6_changed_33 : decode cX6_changed 33 = .ok (.aload_n 0, 1) := by decide +kernel
theorem dX6_changed_34 : decode cX6_changed 34 = .ok (.iload_n 3, 1) := by decide +kernel
theorem dX6_changed_35 : decode cX6_changed 35 = .ok (.iconst 3, 1) := by decide +kernel
theorem dX6_changed_36 : decode cX6_changed 36 = .ok (.idiv, 1) := by decide +kernel
theorem dX6_changed_37 : decode cX6_changed 37 = .ok (.iload_n 3, 1) := by decide +kernel
theorem dX6_changed_38 : decode cX6_changed 38 = .ok (.iconst 3, 1) := by decide +kernel
theorem dX6_changed_39 : decode cX6_changed 39 = .ok (.irem, 1) := by decide +kernel
theorem dX6_changed_40 : decode cX6_changed 40 = .ok (.invokevirtual 130, 3) := by decide +kernel
theorem dX6_changed_43 : decode cX6_changed 43 = .ok (.iastore, 1) := by decide +kernel
theorem dX6_changed_44 : decode cX6_changed 44 = .ok (.iinc 3 1, 3) := by decide +kernel
theorem dX6_changed_47 : decode cX6_changed 47 = .ok (.goto (-31), 3) := by decide +kernel
theorem dX6_changed_50 : decode cX6_changed 50 = .ok (.aload_n 0, 1) := by decide +kernel
theorem dX6_changed_51 : decode cX6_changed 51 = .ok (.getfield 7, 3) := by decide +kernel
theorem dX6_changed_54 : decode cX6_changed 54 = .ok (.iconst 0, 1) := by decide +kernel
theorem dX6_changed_55 : decode cX6_changed 55 = .ok (.iaload, 1) := by decide +kernel
theorem dX6_changed_56 : decode cX6_changed 56 = .ok (.istore_n 3, 1) := by decide +kernel
theorem dX6_changed_57 : decode cX6_changed 57 = .ok (.aload_n 0, 1) := by decide +kernel
theorem dX6_changed_58 : decode cX6_changed 58 = .ok (.getfield 7, 3) := by decide +kernel
theorem dX6_changed_61 : decode cX6_changed 61 = .ok (.iconst 1, 1) := by decide +kernel
theorem dX6_changed_62 : decode cX6_changed 62 = .ok (.iaload, 1) := by decide +kernel
theorem dX6_changed_63 : decode cX6_changed 63 = .ok (.istore 4, 2) := by decide +kernel
theorem dX6_changed_65 : decode cX6_changed 65 = .ok (.aload_n 0, 1) := by decide +kernel
theorem dX6_changed_66 : decode cX6_changed 66 = .ok (.getfield 7, 3) := by decide +kernel
theorem dX6_changed_69 : decode cX6_changed 69 = .ok (.iconst 0, 1) := by decide +kernel
theorem dX6_changed_70 : decode cX6_changed 70 = .ok (.iload_n 1, 1) := by decide +kernel
theorem dX6_changed_71 : decode cX6_changed 71 = .ok (.iastore, 1) := by decide +kernel
theorem dX6_changed_72 : decode cX6_changed 72 = .ok (.aload_n 0, 1) := by decide +kernel
theorem dX6_changed_73 : decode cX6_changed 73 = .ok (.getfield 7, 3) := by decide +kernel
theorem dX6_changed_76 : decode cX6_changed 76 = .ok (.iconst 1, 1) := by decide +kernel
theorem dX6_changed_77 : decode cX6_changed 77 = .ok (.iload_n 2, 1) := by decide +kernel
theorem dX6_changed_78 : decode cX6_changed 78 = .ok (.iastore, 1) := by decide +kernel
theorem dX6_changed_79 : decode cX6_changed 79 = .ok (.aload_n 0, 1) := by decide +kernel
theorem dX6_changed_80 : decode cX6_changed 80 = .ok (.invokevirtual 124, 3) := by decide +kernel
theorem dX6_changed_83 : decode cX6_changed 83 = .ok (.iconst 0, 1) := by decide +kernel
theorem dX6_changed_84 : decode cX6_changed 84 = .ok (.istore 5, 2) := by decide +kernel
theorem dX6_changed_86 : decode cX6_changed 86 = .ok (.iconst 0, 1) := by decide +kernel
theorem dX6_changed_87 : decode cX6_changed 87 = .ok (.istore 6, 2) := by decide +kernel
theorem dX6_changed_89 : decode cX6_changed 89 = .ok (.iload 6, 2) := by decide +kernel
theorem dX6_changed_91 : decode cX6_changed 91 = .ok (.aload_n 0, 1) := by decide +kernel
theorem dX6_changed_92 : decode cX6_changed 92 = .ok (.getfield 7, 3) := by decide +kernel
theorem dX6_changed_95 : decode cX6_changed 95 = .ok (.iconst 5, 1) := by decide +kernel
theorem dX6_changed_96 : decode cX6_changed 96 = .ok (.iaload, 1) := by decide +kernel
theorem dX6_changed_97 : decode cX6_changed 97 = .ok (.if_icmp .ge 77, 3) := by decide +kernel
theorem dX6_changed_100 : decode cX6_changed 100 = .ok (.iconst 1, 1) := by decide +kernel
theorem dX6_changed_101 : decode cX6_changed 101 = .ok (.istore 7, 2) := by decide +kernel
theorem dX6_changed_103 : decode cX6_changed 103 = .ok (.iconst 0, 1) := by decide +kernel
theorem dX6_changed_104 : decode cX6_changed 104 = .ok (.istore 8, 2) := by decide +kernel
theorem dX6_changed_106 : decode cX6_changed 106 = .ok (.iload 8, 2) := by decide +kernel
theorem dX6_changed_108 : decode cX6_changed 108 = .ok (.iconst 3, 1) := by decide +kernel
theorem dX6_changed_109 : decode cX6_changed 109 = .ok (.if_icmp .ge 44, 3) := by decide +kernel
theorem dX6_changed_112 : decode cX6_changed 112 = .ok (.iload 7, 2) := by decide +kernel
theorem dX6_changed_114 : decode cX6_changed 114 = .ok (.ifCond .eq 30, 3) := by decide +kernel
theorem dX6_changed_117 : decode cX6_changed 117 = .ok (.aload_n 0, 1) := by decide +kernel
theorem dX6_changed_118 : decode cX6_changed 118 = .ok (.getfield 43, 3) := by decide +kernel
theorem dX6_changed_121 : decode cX6_changed 121 = .ok (.iconst 3, 1) := by decide +kernel
theorem dX6_changed_122 : decode cX6_changed 122 = .ok (.iload 6, 2) := by decide +kernel
theorem dX6_changed_124 : decode cX6_changed 124 = .ok (.imul, 1) := by decide +kernel
theorem dX6_changed_125 : decode cX6_changed 125 = .ok (.iload 8, 2) := by decide +kernel
theorem dX6_changed_127 : decode cX6_changed 127 = .ok (.iadd, 1) := by decide +kernel
theorem dX6_changed_128 : decode cX6_changed 128 = .ok (.iaload, 1) := by decide +kernel
theorem dX6_changed_129 : decode cX6_changed 129 = .ok (.aload_n 0, 1) := by decide +kernel
theorem dX6_changed_130 : decode cX6_changed 130 = .ok (.iload 6, 2) := by decide +kernel
theorem dX6_changed_132 : decode cX6_changed 132 = .ok (.iload 8, 2) := by decide +kernel
theorem dX6_changed_134 : decode cX6_changed 134 = .ok (.invokevirtual 130, 3) := by decide +kernel
theorem dX6_changed_137 : decode cX6_changed 137 = .ok (.if_icmp .ne 7, 3) := by decide +kernel
theorem dX6_changed_140 : decode cX6_changed 140 = .ok (.iconst 1, 1) := by decide +kernel
theorem dX6_changed_141 : decode cX6_changed 141 = .ok (.goto 4, 3) := by decide +kernel
theorem dX6_changed_144 : decode cX6_changed 144 = .ok (.iconst 0, 1) := by decide +kernel
theorem dX6_changed_145 : decode cX6_changed 145 = .ok (.istore 7, 2) := by decide +kernel
theorem dX6_changed_147 : decode cX6_changed 147 = .ok (.iinc 8 1, 3) := by decide +kernel
theorem dX6_changed_150 : decode cX6_changed 150 = .ok (.goto (-44), 3) := by decide +kernel
theorem dX6_changed_153 : decode cX6_changed 153 = .ok (.iload 5, 2) := by decide +kernel
theorem dX6_changed_155 : decode cX6_changed 155 = .ok (.iload 7, 2) := by decide +kernel
theorem dX6_changed_157 : decode cX6_changed 157 = .ok (.ifCond .eq 7, 3) := by decide +kernel
theorem dX6_changed_160 : decode cX6_changed 160 = .ok (.iconst 0, 1) := by decide +kernel
theorem dX6_changed_161 : decode cX6_changed 161 = .ok (.goto 4, 3) := by decide +kernel
theorem dX6_changed_164 : decode cX6_changed 164 = .ok (.iconst 1, 1) := by decide +kernel
theorem dX6_changed_165 : decode cX6_changed 165 = .ok (.iadd, 1) := by decide +kernel
theorem dX6_changed_166 : decode cX6_changed 166 = .ok (.istore 5, 2) := by decide +kernel
theorem dX6_changed_168 : decode cX6_changed 168 = .ok (.iinc 6 1, 3) := by decide +kernel
theorem dX6_changed_171 : decode cX6_changed 171 = .ok (.goto (-82), 3) := by decide +kernel
theorem dX6_changed_174 : decode cX6_changed 174 = .ok (.aload_n 0, 1) := by decide +kernel
theorem dX6_changed_175 : decode cX6_changed 175 = .ok (.getfield 7, 3) := by decide +kernel
theorem dX6_changed_178 : decode cX6_changed 178 = .ok (.iconst 0, 1) := by decide +kernel
theorem dX6_changed_179 : decode cX6_changed 179 = .ok (.iload_n 3, 1) := by decide +kernel
theorem dX6_changed_180 : decode cX6_changed 180 = .ok (.iastore, 1) := by decide +kernel
theorem dX6_changed_181 : decode cX6_changed 181 = .ok (.aload_n 0, 1) := by decide +kernel
theorem dX6_changed_182 : decode cX6_changed 182 = .ok (.getfield 7, 3) := by decide +kernel
theorem dX6_changed_185 : decode cX6_changed 185 = .ok (.iconst 1, 1) := by decide +kernel
theorem dX6_changed_186 : decode cX6_changed 186 = .ok (.iload 4, 2) := by decide +kernel
theorem dX6_changed_188 : decode cX6_changed 188 = .ok (.iastore, 1) := by decide +kernel
theorem dX6_changed_189 : decode cX6_changed 189 = .ok (.iload 5, 2) := by decide +kernel
theorem dX6_changed_191 : decode cX6_changed 191 = .ok (.ireturn, 1) := by decide +kernel
theorem dX6_findUses_0 : decode cX6_findUses 0 = .ok (.aload_n 0, 1) := by decide +kernel
theorem dX6_findUses_1 : decode cX6_findUses 1 = .ok (.invokevirtual 124, 3) := by decide +kernel
theorem dX6_findUses_4 : decode cX6_findUses 4 = .ok (.iconst 0, 1) := by decide +kernel
theorem dX6_findUses_5 : decode cX6_findUses 5 = .ok (.istore_n 1, 1) := by decide +kernel
theorem dX6_findUses_6 : decode cX6_findUses 6 = .ok (.iload_n 1, 1) := by decide +kernel
theorem dX6_findUses_7 : decode cX6_findUses 7 = .ok (.aload_n 0, 1) := by decide +kernel
theorem dX6_findUses_8 : decode cX6_findUses 8 = .ok (.getfield 7, 3) := by decide +kernel
theorem dX6_findUses_11 : decode cX6_findUses 11 = .ok (.iconst 5, 1) := by decide +kernel
theorem dX6_findUses_12 : decode cX6_findUses 12 = .ok (.iaload, 1) := by decide +kernel
theorem dX6_findUses_13 : decode cX6_findUses 13 = .ok (.if_icmp .ge 41, 3) := by decide +kernel
theorem dX6_findUses_16 : decode cX6_findUses 16 = .ok (.aload_n 0, 1) := by decide +kernel
theorem dX6_findUses_17 : decode cX6_findUses 17 = .ok (.getfield 46, 3) := by decide +kernel
theorem dX6_findUses_20 : decode cX6_findUses 20 = .ok (.iload_n 1, 1) := by decide +kernel
theorem dX6_findUses_21 : decode cX6_findUses 21 = .ok (.aload_n 0, 1) := by decide +kernel
theorem dX6_findUses_22 : decode cX6_findUses 22 = .ok (.getfield 13, 3) := by decide +kernel
theorem dX6_findUses_25 : decode cX6_findUses 25 = .ok (.iconst 4, 1) := by decide +kernel
theorem dX6_findUses_26 : decode cX6_findUses 26 = .ok (.iload_n 1, 1) := by decide +kernel
theorem dX6_findUses_27 : decode cX6_findUses 27 = .ok (.imul, 1) := by decide +kernel
theorem dX6_findUses_28 : decode cX6_findUses 28 = .ok (.iconst 2, 1) := by decide +kernel
theorem dX6_findUses_29 : decode cX6_findUses 29 = .ok (.iadd, 1) := by decide +kernel
theorem dX6_findUses_30 : decode cX6_findUses 30 = .ok (.iaload, 1) := by decide +kernel
theorem dX6_findUses_31 : decode cX6_findUses 31 = .ok (.aload_n 0, 1) := by decide +kernel
theorem dX6_findUses_32 : decode cX6_findUses 32 = .ok (.getfield 7, 3) := by decide +kernel
theorem dX6_findUses_35 : decode cX6_findUses 35 = .ok (.iconst 2, 1) := by decide +kernel
theorem dX6_findUses_36 : decode cX6_findUses 36 = .ok (.iaload, 1) := by decide +kernel
theorem dX6_findUses_37 : decode cX6_findUses 37 = .ok (.imul, 1) := by decide +kernel
theorem dX6_findUses_38 : decode cX6_findUses 38 = .ok (.aload_n 0, 1) := by decide +kernel
theorem dX6_findUses_39 : decode cX6_findUses 39 = .ok (.iload_n 1, 1) := by decide +kernel
theorem dX6_findUses_40 : decode cX6_findUses 40 = .ok (.invokevirtual 127, 3) := by decide +kernel
theorem dX6_findUses_43 : decode cX6_findUses 43 = .ok (.invokestatic 90, 3) := by decide +kernel
theorem dX6_findUses_46 : decode cX6_findUses 46 = .ok (.imul, 1) := by decide +kernel
theorem dX6_findUses_47 : decode cX6_findUses 47 = .ok (.iastore, 1) := by decide +kernel
theorem dX6_findUses_48 : decode cX6_findUses 48 = .ok (.iinc 1 1, 3) := by decide +kernel
theorem dX6_findUses_51 : decode cX6_findUses 51 = .ok (.goto (-45), 3) := by decide +kernel
theorem dX6_findUses_54 : decode cX6_findUses 54 = .ok (.return_, 1) := by decide +kernel
theorem dX6_use_0 : decode cX6_use 0 = .ok (.aload_n 0, 1) := by decide +kernel
theorem dX6_use_1 : decode cX6_use 1 = .ok (.iload_n 1, 1) := by decide +kernel
theorem dX6_use_2 : decode cX6_use 2 = .ok (.invokevirtual 79, 3) := by decide +kernel
theorem dX6_use_5 : decode cX6_use 5 = .ok (.ifCond .ne 5, 3) := by decide +kernel
theorem dX6_use_8 : decode cX6_use 8 = .ok (.iconst (-1), 1) := by decide +kernel
theorem dX6_use_9 : decode cX6_use 9 = .ok (.ireturn, 1) := by decide +kernel
theorem dX6_use_10 : decode cX6_use 10 = .ok (.aload_n 0, 1) := by decide +kernel
theorem dX6_use_11 : decode cX6_use 11 = .ok (.invokevirtual 133, 3) := by decide +kernel
theorem dX6_use_14 : decode cX6_use 14 = .ok (.aload_n 0, 1) := by decide +kernel
theorem dX6_use_15 : decode cX6_use 15 = .ok (.getfield 46, 3) := by decide +kernel
theorem dX6_use_18 : decode cX6_use 18 = .ok (.iload_n 1, 1) := by decide +kernel
theorem dX6_use_19 : decode cX6_use 19 = .ok (.iaload, 1) := by decide +kernel
theorem dX6_use_20 : decode cX6_use 20 = .ok (.ireturn, 1) := by decide +kernel
theorem dX6_costOf_0 : decode cX6_costOf 0 = .ok (.aload_n 0, 1) := by decide +kernel
theorem dX6_costOf_1 : decode cX6_costOf 1 = .ok (.getfield 7, 3) := by decide +kernel
theorem dX6_costOf_4 : decode cX6_costOf 4 = .ok (.iconst 5, 1) := by decide +kernel
theorem dX6_costOf_5 : decode cX6_costOf 5 = .ok (.iaload, 1) := by decide +kernel
theorem dX6_costOf_6 : decode cX6_costOf 6 = .ok (.istore_n 3, 1) := by decide +kernel
theorem dX6_costOf_7 : decode cX6_costOf 7 = .ok (.aload_n 0, 1) := by decide +kernel
theorem dX6_costOf_8 : decode cX6_costOf 8 = .ok (.getfield 7, 3) := by decide +kernel
theorem dX6_costOf_11 : decode cX6_costOf 11 = .ok (.iconst 4, 1) := by decide +kernel
theorem dX6_costOf_12 : decode cX6_costOf 12 = .ok (.iaload, 1) := by decide +kernel
theorem dX6_costOf_13 : decode cX6_costOf 13 = .ok (.istore 4, 2) := by decide +kernel
theorem dX6_costOf_15 : decode cX6_costOf 15 = .ok (.iconst 0, 1) := by decide +kernel
theorem dX6_costOf_16 : decode cX6_costOf 16 = .ok (.istore 5, 2) := by decide +kernel
theorem dX6_costOf_18 : decode cX6_costOf 18 = .ok (.iconst 0, 1) := by decide +kernel
theorem dX6_costOf_19 : decode cX6_costOf 19 = .ok (.istore 6, 2) := by decide +kernel
theorem dX6_costOf_21 : decode cX6_costOf 21 = .ok (.iload 6, 2) := by decide +kernel
theorem dX6_costOf_23 : decode cX6_costOf 23 = .ok (.iload_n 3, 1) := by decide +kernel
theorem dX6_costOf_24 : decode cX6_costOf 24 = .ok (.if_icmp .ge 143, 3) := by decide +kernel
theorem dX6_costOf_27 : decode cX6_costOf 27 = .ok (.iload_n 1, 1) := by decide +kernel
theorem dX6_costOf_28 : decode cX6_costOf 28 = .ok (.iload_n 3, 1) := by decide +kernel
theorem dX6_costOf_29 : decode cX6_costOf 29 = .ok (.iconst 1, 1) := by decide +kernel
theorem dX6_costOf_30 : decode cX6_costOf 30 = .ok (.isub, 1) := by decide +kernel
theorem dX6_costOf_31 : decode cX6_costOf 31 = .ok (.iload 6, 2) := by decide +kernel
theorem dX6_costOf_33 : decode cX6_costOf 33 = .ok (.isub, 1) := by decide +kernel
theorem dX6_costOf_34 : decode cX6_costOf 34 = .ok (.ishr, 1) := by decide +kernel
theorem dX6_costOf_35 : decode cX6_costOf 35 = .ok (.iconst 1, 1) := by decide +kernel
theorem dX6_costOf_36 : decode cX6_costOf 36 = .ok (.iand, 1) := by decide +kernel
theorem dX6_costOf_37 : decode cX6_costOf 37 = .ok (.iconst 1, 1) := by decide +kernel
theorem dX6_costOf_38 : decode cX6_costOf 38 = .ok (.if_icmp .ne 7, 3) := by decide +kernel
theorem dX6_costOf_41 : decode cX6_costOf 41 = .ok (.iconst 1, 1) := by decide +kernel
theorem dX6_costOf_42 : decode cX6_costOf 42 = .ok (.goto 4, 3) := by decide +kernel
theorem dX6_costOf_45 : decode cX6_costOf 45 = .ok (.iconst 0, 1) := by decide +kernel
theorem dX6_costOf_46 : decode cX6_costOf 46 = .ok (.istore 7, 2) := by decide +kernel
theorem dX6_costOf_48 : decode cX6_costOf 48 = .ok (.iload 6, 2) := by decide +kernel
theorem dX6_costOf_50 : decode cX6_costOf 50 = .ok (.ifCond .le 28, 3) := by decide +kernel
theorem dX6_costOf_53 : decode cX6_costOf 53 = .ok (.iload_n 1, 1) := by decide +kernel
theorem dX6_costOf_54 : decode cX6_costOf 54 = .ok (.iload_n 3, 1) := by decide +kernel
theorem dX6_costOf_55 : decode cX6_costOf 55 = .ok (.iload 6, 2) := by decide +kernel
theorem dX6_costOf_57 : decode cX6_costOf 57 = .ok (.isub, 1) := by decide +kernel
theorem dX6_costOf_58 : decode cX6_costOf 58 = .ok (.ishr, 1) := by decide +kernel
theorem dX6_costOf_59 : decode cX6_costOf 59 = .ok (.iconst 1, 1) := by decide +kernel
theorem dX6_costOf_60 : decode cX6_costOf 60 = .ok (.iand, 1) := by decide +kernel
theorem dX6_costOf_61 : decode cX6_costOf 61 = .ok (.iload_n 1, 1) := by decide +kernel
theorem dX6_costOf_62 : decode cX6_costOf 62 = .ok (.iload_n 3, 1) := by decide +kernel
theorem dX6_costOf_63 : decode cX6_costOf 63 = .ok (.iconst 1, 1) := by decide +kernel
theorem dX6_costOf_64 : decode cX6_costOf 64 = .ok (.isub, 1) := by decide +kernel
theorem dX6_costOf_65 : decode cX6_costOf 65 = .ok (.iload 6, 2) := by decide +kernel
theorem dX6_costOf_67 : decode cX6_costOf 67 = .ok (.isub, 1) := by decide +kernel
theorem dX6_costOf_68 : decode cX6_costOf 68 = .ok (.ishr, 1) := by decide +kernel
theorem dX6_costOf_69 : decode cX6_costOf 69 = .ok (.iconst 1, 1) := by decide +kernel
theorem dX6_costOf_70 : decode cX6_costOf 70 = .ok (.iand, 1) := by decide +kernel
theorem dX6_costOf_71 : decode cX6_costOf 71 = .ok (.if_icmp .eq 7, 3) := by decide +kernel
theorem dX6_costOf_74 : decode cX6_costOf 74 = .ok (.iconst 1, 1) := by decide +kernel
theorem dX6_costOf_75 : decode cX6_costOf 75 = .ok (.goto 4, 3) := by decide +kernel
theorem dX6_costOf_78 : decode cX6_costOf 78 = .ok (.iconst 0, 1) := by decide +kernel
theorem dX6_costOf_79 : decode cX6_costOf 79 = .ok (.istore 8, 2) := by decide +kernel
theorem dX6_costOf_81 : decode cX6_costOf 81 = .ok (.iload 4, 2) := by decide +kernel
theorem dX6_costOf_83 : decode cX6_costOf 83 = .ok (.iload 7, 2) := by decide +kernel
theorem dX6_costOf_85 : decode cX6_costOf 85 = .ok (.ifCond .eq 14, 3) := by decide +kernel
theorem dX6_costOf_88 : decode cX6_costOf 88 = .ok (.aload_n 0, 1) := by decide +kernel
theorem dX6_costOf_89 : decode cX6_costOf 89 = .ok (.getfield 46, 3) := by decide +kernel
theorem dX6_costOf_92 : decode cX6_costOf 92 = .ok (.iload 6, 2) := by decide +kernel
theorem dX6_costOf_94 : decode cX6_costOf 94 = .ok (.iaload, 1) := by decide +kernel
theorem dX6_costOf_95 : decode cX6_costOf 95 = .ok (.ineg, 1) := by decide +kernel
theorem dX6_costOf_96 : decode cX6_costOf 96 = .ok (.goto 10, 3) := by decide +kernel
theorem dX6_costOf_99 : decode cX6_costOf 99 = .ok (.aload_n 0, 1) := by decide +kernel
theorem dX6_costOf_100 : decode cX6_costOf 100 = .ok (.getfield 46, 3) := by decide +kernel
theorem dX6_costOf_103 : decode cX6_costOf 103 = .ok (.iload 6, 2) := by decide +kernel
theorem dX6_costOf_105 : decode cX6_costOf 105 = .ok (.iaload, 1) := by decide +kernel
theorem dX6_costOf_106 : decode cX6_costOf 106 = .ok (.iadd, 1) := by decide +kernel
theorem dX6_costOf_107 : decode cX6_costOf 107 = .ok (.istore 4, 2) := by decide +kernel
theorem dX6_costOf_109 : decode cX6_costOf 109 = .ok (.iload 5, 2) := by decide +kernel
theorem dX6_costOf_111 : decode cX6_costOf 111 = .ok (.iload 8, 2) := by decide +kernel
theorem dX6_costOf_113 : decode cX6_costOf 113 = .ok (.ifCond .eq 22, 3) := by decide +kernel
theorem dX6_costOf_116 : decode cX6_costOf 116 = .ok (.aload_n 0, 1) := by decide +kernel
theorem dX6_costOf_117 : decode cX6_costOf 117 = .ok (.getfield 49, 3) := by decide +kernel
theorem dX6_costOf_120 : decode cX6_costOf 120 = .ok (.aload_n 0, 1) := by decide +kernel
theorem dX6_costOf_121 : decode cX6_costOf 121 = .ok (.getfield 13, 3) := by decide +kernel
theorem dX6_costOf_124 : decode cX6_costOf 124 = .ok (.iconst 4, 1) := by decide +kernel
theorem dX6_costOf_125 : decode cX6_costOf 125 = .ok (.iload 6, 2) := by decide +kernel
theorem dX6_costOf_127 : decode cX6_costOf 127 = .ok (.imul, 1) := by decide +kernel
theorem dX6_costOf_128 : decode cX6_costOf 128 = .ok (.iconst 3, 1) := by decide +kernel
theorem dX6_costOf_129 : decode cX6_costOf 129 = .ok (.iadd, 1) := by decide +kernel
theorem dX6_costOf_130 : decode cX6_costOf 130 = .ok (.iaload, 1) := by decide +kernel
theorem dX6_costOf_131 : decode cX6_costOf 131 = .ok (.iaload, 1) := by decide +kernel
theorem dX6_costOf_132 : decode cX6_costOf 132 = .ok (.goto 4, 3) := by decide +kernel
theorem dX6_costOf_135 : decode cX6_costOf 135 = .ok (.iconst 0, 1) := by decide +kernel
theorem dX6_costOf_136 : decode cX6_costOf 136 = .ok (.iadd, 1) := by decide +kernel
theorem dX6_costOf_137 : decode cX6_costOf 137 = .ok (.istore 5, 2) := by decide +kernel
theorem dX6_costOf_139 : decode cX6_costOf 139 = .ok (.iload 5, 2) := by decide +kernel
theorem dX6_costOf_141 : decode cX6_costOf 141 = .ok (.iload 4, 2) := by decide +kernel
theorem dX6_costOf_143 : decode cX6_costOf 143 = .ok (.iconst 0, 1) := by decide +kernel
theorem dX6_costOf_144 : decode cX6_costOf 144 = .ok (.iload_n 2, 1) := by decide +kernel
theorem dX6_costOf_145 : decode cX6_costOf 145 = .ok (.invokestatic 52, 3) := by decide +kernel
theorem dX6_costOf_148 : decode cX6_costOf 148 = .ok (.ifCond .eq 7, 3) := by decide +kernel
theorem dX6_costOf_151 : decode cX6_costOf 151 = .ok (.iconst 0, 1) := by decide +kernel
theorem dX6_costOf_152 : decode cX6_costOf 152 = .ok (.goto 6, 3) := by decide +kernel
theorem dX6_costOf_155 : decode cX6_costOf 155 = .ok (.sipush 1000, 3) := by decide +kernel
theorem dX6_costOf_158 : decode cX6_costOf 158 = .ok (.iadd, 1) := by decide +kernel
theorem dX6_costOf_159 : decode cX6_costOf 159 = .ok (.istore 5, 2) := by decide +kernel
theorem dX6_costOf_161 : decode cX6_costOf 161 = .ok (.iinc 6 1, 3) := by decide +kernel
theorem dX6_costOf_164 : decode cX6_costOf 164 = .ok (.goto (-143), 3) := by decide +kernel
theorem dX6_costOf_167 : decode cX6_costOf 167 = .ok (.iload 5, 2) := by decide +kernel
theorem dX6_costOf_169 : decode cX6_costOf 169 = .ok (.ireturn, 1) := by decide +kernel
theorem dX6_findWay_0 : decode cX6_findWay 0 = .ok (.iconst (-1), 1) := by decide +kernel
theorem dX6_findWay_1 : decode cX6_findWay 1 = .ok (.istore_n 2, 1) := by decide +kernel
theorem dX6_findWay_2 : decode cX6_findWay 2 = .ok (.aload_n 0, 1) := by decide +kernel
theorem dX6_findWay_3 : decode cX6_findWay 3 = .ok (.sipush 1000, 3) := by decide +kernel
theorem dX6_findWay_6 : decode cX6_findWay 6 = .ok (.putfield 136, 3) := by decide +kernel
theorem dX6_findWay_9 : decode cX6_findWay 9 = .ok (.iconst 0, 1) := by decide +kernel
theorem dX6_findWay_10 : decode cX6_findWay 10 = .ok (.istore_n 3, 1) := by decide +kernel
theorem dX6_findWay_11 : decode cX6_findWay 11 = .ok (.iload_n 3, 1) := by decide +kernel
theorem dX6_findWay_12 : decode cX6_findWay 12 = .ok (.iconst 1, 1) := by decide +kernel
theorem dX6_findWay_13 : decode cX6_findWay 13 = .ok (.aload_n 0, 1) := by decide +kernel
theorem dX6_findWay_14 : decode cX6_findWay 14 = .ok (.getfield 7, 3) := by decide +kernel
theorem dX6_findWay_17 : decode cX6_findWay 17 = .ok (.iconst 5, 1) := by decide +kernel
theorem dX6_findWay_18 : decode cX6_findWay 18 = .ok (.iaload, 1) := by decide +kernel
theorem dX6_findWay_19 : decode cX6_findWay 19 = .ok (.ishl, 1) := by decide +kernel
theorem dX6_findWay_20 : decode cX6_findWay 20 = .ok (.if_icmp .ge 34, 3) := by decide +kernel
theorem dX6_findWay_23 : decode cX6_findWay 23 = .ok (.aload_n 0, 1) := by decide +kernel
theorem dX6_findWay_24 : decode cX6_findWay 24 = .ok (.iload_n 3, 1) := by decide +kernel
theorem dX6_findWay_25 : decode cX6_findWay 25 = .ok (.iload_n 1, 1) := by decide +kernel
theorem dX6_findWay_26 : decode cX6_findWay 26 = .ok (.invokevirtual 139, 3) := by decide +kernel
theorem dX6_findWay_29 : decode cX6_findWay 29 = .ok (.istore 4, 2) := by decide +kernel
theorem dX6_findWay_31 : decode cX6_findWay 31 = .ok (.iload 4, 2) := by decide +kernel
theorem dX6_findWay_33 : decode cX6_findWay 33 = .ok (.aload_n 0, 1) := by decide +kernel
theorem dX6_findWay_34 : decode cX6_findWay 34 = .ok (.getfield 136, 3) := by decide +kernel
theorem dX6_findWay_37 : decode cX6_findWay 37 = .ok (.if_icmp .ge 11, 3) := by decide +kernel
theorem dX6_findWay_40 : decode cX6_findWay 40 = .ok (.aload_n 0, 1) := by decide +kernel
theorem dX6_findWay_41 : decode cX6_findWay 41 = .ok (.iload 4, 2) := by decide +kernel
theorem dX6_findWay_43 : decode cX6_findWay 43 = .ok (.putfield 136, 3) := by decide +kernel
theorem dX6_findWay_46 : decode cX6_findWay 46 = .ok (.iload_n 3, 1) := by decide +kernel
theorem dX6_findWay_47 : decode cX6_findWay 47 = .ok (.istore_n 2, 1) := by decide +kernel
theorem dX6_findWay_48 : decode cX6_findWay 48 = .ok (.iinc 3 1, 3) := by decide +kernel
theorem dX6_findWay_51 : decode cX6_findWay 51 = .ok (.goto (-40), 3) := by decide +kernel
theorem dX6_findWay_54 : decode cX6_findWay 54 = .ok (.iload_n 2, 1) := by decide +kernel
theorem dX6_findWay_55 : decode cX6_findWay 55 = .ok (.ireturn, 1) := by decide +kernel
theorem dX6_goesOut_0 : decode cX6_goesOut 0 = .ok (.iload_n 1, 1) := by decide +kernel
theorem dX6_goesOut_1 : decode cX6_goesOut 1 = .ok (.aload_n 0, 1) := by decide +kernel
theorem dX6_goesOut_2 : decode cX6_goesOut 2 = .ok (.getfield 7, 3) := by decide +kernel
theorem dX6_goesOut_5 : decode cX6_goesOut 5 = .ok (.iconst 5, 1) := by decide +kernel
theorem dX6_goesOut_6 : decode cX6_goesOut 6 = .ok (.iaload, 1) := by decide +kernel
theorem dX6_goesOut_7 : decode cX6_goesOut 7 = .ok (.iconst 1, 1) := by decide +kernel
theorem dX6_goesOut_8 : decode cX6_goesOut 8 = .ok (.isub, 1) := by decide +kernel
theorem dX6_goesOut_9 : decode cX6_goesOut 9 = .ok (.iload_n 2, 1) := by decide +kernel
theorem dX6_goesOut_10 : decode cX6_goesOut 10 = .ok (.isub, 1) := by decide +kernel
theorem dX6_goesOut_11 : decode cX6_goesOut 11 = .ok (.ishr, 1) := by decide +kernel
theorem dX6_goesOut_12 : decode cX6_goesOut 12 = .ok (.iconst 1, 1) := by decide +kernel
theorem dX6_goesOut_13 : decode cX6_goesOut 13 = .ok (.iand, 1) := by decide +kernel
theorem dX6_goesOut_14 : decode cX6_goesOut 14 = .ok (.ifCond .ne 7, 3) := by decide +kernel
theorem dX6_goesOut_17 : decode cX6_goesOut 17 = .ok (.iconst 1, 1) := by decide +kernel
theorem dX6_goesOut_18 : decode cX6_goesOut 18 = .ok (.goto 4, 3) := by decide +kernel
theorem dX6_goesOut_21 : decode cX6_goesOut 21 = .ok (.iconst 0, 1) := by decide +kernel
theorem dX6_goesOut_22 : decode cX6_goesOut 22 = .ok (.ireturn, 1) := by decide +kernel
theorem dX6_bellows_0 : decode cX6_bellows 0 = .ok (.aload_n 0, 1) := by decide +kernel
theorem dX6_bellows_1 : decode cX6_bellows 1 = .ok (.iload_n 1, 1) := by decide +kernel
theorem dX6_bellows_2 : decode cX6_bellows 2 = .ok (.invokevirtual 79, 3) := by decide +kernel
theorem dX6_bellows_5 : decode cX6_bellows 5 = .ok (.ifCond .ne 5, 3) := by decide +kernel
theorem dX6_bellows_8 : decode cX6_bellows 8 = .ok (.iconst (-1), 1) := by decide +kernel
theorem dX6_bellows_9 : decode cX6_bellows 9 = .ok (.ireturn, 1) := by decide +kernel
theorem dX6_bellows_10 : decode cX6_bellows 10 = .ok (.aload_n 0, 1) := by decide +kernel
theorem dX6_bellows_11 : decode cX6_bellows 11 = .ok (.invokevirtual 133, 3) := by decide +kernel
theorem dX6_bellows_14 : decode cX6_bellows 14 = .ok (.aload_n 0, 1) := by decide +kernel
theorem dX6_bellows_15 : decode cX6_bellows 15 = .ok (.aload_n 0, 1) := by decide +kernel
theorem dX6_bellows_16 : decode cX6_bellows 16 = .ok (.getfield 7, 3) := by decide +kernel
theorem dX6_bellows_19 : decode cX6_bellows 19 = .ok (.iconst 3, 1) := by decide +kernel
theorem dX6_bellows_20 : decode cX6_bellows 20 = .ok (.iaload, 1) := by decide +kernel
theorem dX6_bellows_21 : decode cX6_bellows 21 = .ok (.invokevirtual 142, 3) := by decide +kernel
theorem dX6_bellows_24 : decode cX6_bellows 24 = .ok (.istore_n 2, 1) := by decide +kernel
theorem dX6_bellows_25 : decode cX6_bellows 25 = .ok (.iload_n 2, 1) := by decide +kernel
theorem dX6_bellows_26 : decode cX6_bellows 26 = .ok (.ifCond .ge 8, 3) := by decide +kernel
theorem dX6_bellows_29 : decode cX6_bellows 29 = .ok (.bipush (-3), 2) := by decide +kernel
theorem dX6_bellows_31 : decode cX6_bellows 31 = .ok (.goto 17, 3) := by decide +kernel
theorem dX6_bellows_34 : decode cX6_bellows 34 = .ok (.aload_n 0, 1) := by decide +kernel
theorem dX6_bellows_35 : decode cX6_bellows 35 = .ok (.iload_n 2, 1) := by decide +kernel
theorem dX6_bellows_36 : decode cX6_bellows 36 = .ok (.iload_n 1, 1) := by decide +kernel
theorem dX6_bellows_37 : decode cX6_bellows 37 = .ok (.invokevirtual 145, 3) := by decide +kernel
theorem dX6_bellows_40 : decode cX6_bellows 40 = .ok (.ifCond .eq 7, 3) := by decide +kernel
theorem dX6_bellows_43 : decode cX6_bellows 43 = .ok (.iconst 1, 1) := by decide +kernel
theorem dX6_bellows_44 : decode cX6_bellows 44 = .ok (.goto 4, 3) := by decide +kernel
theorem dX6_bellows_47 : decode cX6_bellows 47 = .ok (.iconst 0, 1) := by decide +kernel
theorem dX6_bellows_48 : decode cX6_bellows 48 = .ok (.ireturn, 1) := by decide +kernel
theorem dX6_air_0 : decode cX6_air 0 = .ok (.aload_n 0, 1) := by decide +kernel
theorem dX6_air_1 : decode cX6_air 1 = .ok (.iload_n 1, 1) := by decide +kernel
theorem dX6_air_2 : decode cX6_air 2 = .ok (.invokevirtual 79, 3) := by decide +kernel
theorem dX6_air_5 : decode cX6_air 5 = .ok (.ifCond .ne 5, 3) := by decide +kernel
theorem dX6_air_8 : decode cX6_air 8 = .ok (.iconst (-1), 1) := by decide +kernel
theorem dX6_air_9 : decode cX6_air 9 = .ok (.ireturn, 1) := by decide +kernel
theorem dX6_air_10 : decode cX6_air 10 = .ok (.aload_n 0, 1) := by decide +kernel
theorem dX6_air_11 : decode cX6_air 11 = .ok (.invokevirtual 133, 3) := by decide +kernel
theorem dX6_air_14 : decode cX6_air 14 = .ok (.aload_n 0, 1) := by decide +kernel
theorem dX6_air_15 : decode cX6_air 15 = .ok (.aload_n 0, 1) := by decide +kernel
theorem dX6_air_16 : decode cX6_air 16 = .ok (.getfield 7, 3) := by decide +kernel
theorem dX6_air_19 : decode cX6_air 19 = .ok (.iconst 3, 1) := by decide +kernel
theorem dX6_air_20 : decode cX6_air 20 = .ok (.iaload, 1) := by decide +kernel
theorem dX6_air_21 : decode cX6_air 21 = .ok (.invokevirtual 142, 3) := by decide +kernel
theorem dX6_air_24 : decode cX6_air 24 = .ok (.istore_n 2, 1) := by decide +kernel
theorem dX6_air_25 : decode cX6_air 25 = .ok (.iload_n 2, 1) := by decide +kernel
theorem dX6_air_26 : decode cX6_air 26 = .ok (.ifCond .ge 6, 3) := by decide +kernel
theorem dX6_air_29 : decode cX6_air 29 = .ok (.bipush (-3), 2) := by decide +kernel
theorem dX6_air_31 : decode cX6_air 31 = .ok (.ireturn, 1) := by decide +kernel
theorem dX6_air_32 : decode cX6_air 32 = .ok (.aload_n 0, 1) := by decide +kernel
theorem dX6_air_33 : decode cX6_air 33 = .ok (.getfield 7, 3) := by decide +kernel
theorem dX6_air_36 : decode cX6_air 36 = .ok (.iconst 4, 1) := by decide +kernel
theorem dX6_air_37 : decode cX6_air 37 = .ok (.iaload, 1) := by decide +kernel
theorem dX6_air_38 : decode cX6_air 38 = .ok (.istore_n 3, 1) := by decide +kernel
theorem dX6_air_39 : decode cX6_air 39 = .ok (.iconst 0, 1) := by decide +kernel
theorem dX6_air_40 : decode cX6_air 40 = .ok (.istore 4, 2) := by decide +kernel
theorem dX6_air_42 : decode cX6_air 42 = .ok (.iload 4, 2) := by decide +kernel
theorem dX6_air_44 : decode cX6_air 44 = .ok (.iload_n 1, 1) := by decide +kernel
theorem dX6_air_45 : decode cX6_air 45 = .ok (.if_icmp .gt 40, 3) := by decide +kernel
theorem dX6_air_48 : decode cX6_air 48 = .ok (.iload_n 3, 1) := by decide +kernel
theorem dX6_air_49 : decode cX6_air 49 = .ok (.aload_n 0, 1) := by decide +kernel
theorem dX6_air_50 : decode cX6_air 50 = .ok (.iload_n 2, 1) := by decide +kernel
theorem dX6_air_51 : decode cX6_air 51 = .ok (.iload 4, 2) := by decide +kernel
theorem dX6_air_53 : decode cX6_air 53 = .ok (.invokevirtual 145, 3) := by decide +kernel
theorem dX6_air_56 : decode cX6_air 56 = .ok (.ifCond .eq 13, 3) := by decide +kernel
theorem dX6_air_59 : decode cX6_air 59 = .ok (.aload_n 0, 1) := by decide +kernel
theorem dX6_air_60 : decode cX6_air 60 = .ok (.getfield 46, 3) := by decide +kernel
theorem dX6_air_63 : decode cX6_air 63 = .ok (.iload 4, 2) := by decide +kernel
theorem dX6_air_65 : decode cX6_air 65 = .ok (.iaload, 1) := by decide +kernel
theorem dX6_air_66 : decode cX6_air 66 = .ok (.goto 11, 3) := by decide +kernel
theorem dX6_air_69 : decode cX6_air 69 = .ok (.aload_n 0, 1) := by decide +kernel
theorem dX6_air_70 : decode cX6_air 70 = .ok (.getfield 46, 3) := by decide +kernel
theorem dX6_air_73 : decode cX6_air 73 = .ok (.iload 4, 2) := by decide +kernel
theorem dX6_air_75 : decode cX6_air 75 = .ok (.iaload, 1) := by decide +kernel
theorem dX6_air_76 : decode cX6_air 76 = .ok (.ineg, 1) := by decide +kernel
theorem dX6_air_77 : decode cX6_air 77 = .ok (.iadd, 1) := by decide +kernel
theorem dX6_air_78 : decode cX6_air 78 = .ok (.istore_n 3, 1) := by decide +kernel
theorem dX6_air_79 : decode cX6_air 79 = .ok (.iinc 4 1, 3) := by decide +kernel
theorem dX6_air_82 : decode cX6_air 82 = .ok (.goto (-40), 3) := by decide +kernel
theorem dX6_air_85 : decode cX6_air 85 = .ok (.iload_n 3, 1) := by decide +kernel
theorem dX6_air_86 : decode cX6_air 86 = .ok (.ireturn, 1) := by decide +kernel
theorem dX6_cost_0 : decode cX6_cost 0 = .ok (.aload_n 0, 1) := by decide +kernel
theorem dX6_cost_1 : decode cX6_cost 1 = .ok (.invokevirtual 133, 3) := by decide +kernel
theorem dX6_cost_4 : decode cX6_cost 4 = .ok (.aload_n 0, 1) := by decide +kernel
theorem dX6_cost_5 : decode cX6_cost 5 = .ok (.aload_n 0, 1) := by decide +kernel
theorem dX6_cost_6 : decode cX6_cost 6 = .ok (.getfield 7, 3) := by decide +kernel
theorem dX6_cost_9 : decode cX6_cost 9 = .ok (.iconst 3, 1) := by decide +kernel
theorem dX6_cost_10 : decode cX6_cost 10 = .ok (.iaload, 1) := by decide +kernel
theorem dX6_cost_11 : decode cX6_cost 11 = .ok (.invokevirtual 142, 3) := by decide +kernel
theorem dX6_cost_14 : decode cX6_cost 14 = .ok (.ifCond .ge 8, 3) := by decide +kernel
theorem dX6_cost_17 : decode cX6_cost 17 = .ok (.bipush (-3), 2) := by decide +kernel
theorem dX6_cost_19 : decode cX6_cost 19 = .ok (.goto 7, 3) := by decide +kernel
theorem dX6_cost_22 : decode cX6_cost 22 = .ok (.aload_n 0, 1) := by decide +kernel
theorem dX6_cost_23 : decode cX6_cost 23 = .ok (.getfield 136, 3) := by decide +kernel
theorem dX6_cost_26 : decode cX6_cost 26 = .ok (.ireturn, 1) := by decide +kernel
theorem dX6_wants_0 : decode cX6_wants 0 = .ok (.aload_n 0, 1) := by decide +kernel
theorem dX6_wants_1 : decode cX6_wants 1 = .ok (.invokevirtual 133, 3) := by decide +kernel
theorem dX6_wants_4 : decode cX6_wants 4 = .ok (.aload_n 0, 1) := by decide +kernel
theorem dX6_wants_5 : decode cX6_wants 5 = .ok (.getfield 7, 3) := by decide +kernel
theorem dX6_wants_8 : decode cX6_wants 8 = .ok (.iconst 4, 1) := by decide +kernel
theorem dX6_wants_9 : decode cX6_wants 9 = .ok (.iaload, 1) := by decide +kernel
theorem dX6_wants_10 : decode cX6_wants 10 = .ok (.iconst 1, 1) := by decide +kernel
theorem dX6_wants_11 : decode cX6_wants 11 = .ok (.if_icmp .le 12, 3) := by decide +kernel
theorem dX6_wants_14 : decode cX6_wants 14 = .ok (.aload_n 0, 1) := by decide +kernel
theorem dX6_wants_15 : decode cX6_wants 15 = .ok (.getfield 7, 3) := by decide +kernel
theorem dX6_wants_18 : decode cX6_wants 18 = .ok (.iconst 4, 1) := by decide +kernel
theorem dX6_wants_19 : decode cX6_wants 19 = .ok (.iaload, 1) := by decide +kernel
theorem dX6_wants_20 : decode cX6_wants 20 = .ok (.goto 4, 3) := by decide +kernel
theorem dX6_wants_23 : decode cX6_wants 23 = .ok (.iconst 1, 1) := by decide +kernel
theorem dX6_wants_24 : decode cX6_wants 24 = .ok (.istore_n 1, 1) := by decide +kernel
theorem dX6_wants_25 : decode cX6_wants 25 = .ok (.iload_n 1, 1) := by decide +kernel
theorem dX6_wants_26 : decode cX6_wants 26 = .ok (.sipush 400, 3) := by decide +kernel
theorem dX6_wants_29 : decode cX6_wants 29 = .ok (.if_icmp .gt 19, 3) := by decide +kernel
theorem dX6_wants_32 : decode cX6_wants 32 = .ok (.aload_n 0, 1) := by decide +kernel
theorem dX6_wants_33 : decode cX6_wants 33 = .ok (.iload_n 1, 1) := by decide +kernel
theorem dX6_wants_34 : decode cX6_wants 34 = .ok (.invokevirtual 142, 3) := by decide +kernel
theorem dX6_wants_37 : decode cX6_wants 37 = .ok (.ifCond .lt 5, 3) := by decide +kernel
theorem dX6_wants_40 : decode cX6_wants 40 = .ok (.iload_n 1, 1) := by decide +kernel
theorem dX6_wants_41 : decode cX6_wants 41 = .ok (.ireturn, 1) := by decide +kernel
theorem dX6_wants_42 : decode cX6_wants 42 = .ok (.iinc 1 1, 3) := by decide +kernel
theorem dX6_wants_45 : decode cX6_wants 45 = .ok (.goto (-20), 3) := by decide +kernel
theorem dX6_wants_48 : decode cX6_wants 48 = .ok (.bipush (-3), 2) := by decide +kernel
theorem dX6_wants_50 : decode cX6_wants 50 = .ok (.ireturn, 1) := by decide +kernel
theorem dX6_sum_0 : decode cX6_sum 0 = .ok (.iconst 0, 1) := by decide +kernel
theorem dX6_sum_1 : decode cX6_sum 1 = .ok (.istore_n 2, 1) := by decide +kernel
theorem dX6_sum_2 : decode cX6_sum 2 = .ok (.iconst 0, 1) := by decide +kernel
theorem dX6_sum_3 : decode cX6_sum 3 = .ok (.istore_n 3, 1) := by decide +kernel
theorem dX6_sum_4 : decode cX6_sum 4 = .ok (.iload_n 3, 1) := by decide +kernel
theorem dX6_sum_5 : decode cX6_sum 5 = .ok (.aload_n 0, 1) := by decide +kernel
theorem dX6_sum_6 : decode cX6_sum 6 = .ok (.getfield 7, 3) := by decide +kernel
theorem dX6_sum_9 : decode cX6_sum 9 = .ok (.iconst 5, 1) := by decide +kernel
theorem dX6_sum_10 : decode cX6_sum 10 = .ok (.iaload, 1) := by decide +kernel
theorem dX6_sum_11 : decode cX6_sum 11 = .ok (.if_icmp .ge 18, 3) := by decide +kernel
theorem dX6_sum_14 : decode cX6_sum 14 = .ok (.iload_n 2, 1) := by decide +kernel
theorem dX6_sum_15 : decode cX6_sum 15 = .ok (.aload_n 0, 1) := by decide +kernel
theorem dX6_sum_16 : decode cX6_sum 16 = .ok (.iload_n 3, 1) := by decide +kernel
theorem dX6_sum_17 : decode cX6_sum 17 = .ok (.iload_n 1, 1) := by decide +kernel
theorem dX6_sum_18 : decode cX6_sum 18 = .ok (.invokevirtual 148, 3) := by decide +kernel
theorem dX6_sum_21 : decode cX6_sum 21 = .ok (.iadd, 1) := by decide +kernel
theorem dX6_sum_22 : decode cX6_sum 22 = .ok (.istore_n 2, 1) := by decide +kernel
theorem dX6_sum_23 : decode cX6_sum 23 = .ok (.iinc 3 1, 3) := by decide +kernel
theorem dX6_sum_26 : decode cX6_sum 26 = .ok (.goto (-22), 3) := by decide +kernel
theorem dX6_sum_29 : decode cX6_sum 29 = .ok (.iload_n 2, 1) := by decide +kernel
theorem dX6_sum_30 : decode cX6_sum 30 = .ok (.ireturn, 1) := by decide +kernel
theorem dX6_turns_0 : decode cX6_turns 0 = .ok (.aload_n 0, 1) := by decide +kernel
theorem dX6_turns_1 : decode cX6_turns 1 = .ok (.invokevirtual 133, 3) := by decide +kernel
theorem dX6_turns_4 : decode cX6_turns 4 = .ok (.aload_n 0, 1) := by decide +kernel
theorem dX6_turns_5 : decode cX6_turns 5 = .ok (.aload_n 0, 1) := by decide +kernel
theorem dX6_turns_6 : decode cX6_turns 6 = .ok (.getfield 7, 3) := by decide +kernel
theorem dX6_turns_9 : decode cX6_turns 9 = .ok (.iconst 3, 1) := by decide +kernel
theorem dX6_turns_10 : decode cX6_turns 10 = .ok (.iaload, 1) := by decide +kernel
theorem dX6_turns_11 : decode cX6_turns 11 = .ok (.invokevirtual 142, 3) := by decide +kernel
theorem dX6_turns_14 : decode cX6_turns 14 = .ok (.istore_n 1, 1) := by decide +kernel
theorem dX6_turns_15 : decode cX6_turns 15 = .ok (.iconst 0, 1) := by decide +kernel
theorem dX6_turns_16 : decode cX6_turns 16 = .ok (.istore_n 2, 1) := by decide +kernel
theorem dX6_turns_17 : decode cX6_turns 17 = .ok (.iconst 1, 1) := by decide +kernel
theorem dX6_turns_18 : decode cX6_turns 18 = .ok (.istore_n 3, 1) := by decide +kernel
theorem dX6_turns_19 : decode cX6_turns 19 = .ok (.iload_n 3, 1) := by decide +kernel
theorem dX6_turns_20 : decode cX6_turns 20 = .ok (.aload_n 0, 1) := by decide +kernel
theorem dX6_turns_21 : decode cX6_turns 21 = .ok (.getfield 7, 3) := by decide +kernel
theorem dX6_turns_24 : decode cX6_turns 24 = .ok (.iconst 5, 1) := by decide +kernel
theorem dX6_turns_25 : decode cX6_turns 25 = .ok (.iaload, 1) := by decide +kernel
theorem dX6_turns_26 : decode cX6_turns 26 = .ok (.if_icmp .ge 38, 3) := by decide +kernel
theorem dX6_turns_29 : decode cX6_turns 29 = .ok (.iload_n 1, 1) := by decide +kernel
theorem dX6_turns_30 : decode cX6_turns 30 = .ok (.ifCond .lt 34, 3) := by decide +kernel
theorem dX6_turns_33 : decode cX6_turns 33 = .ok (.iload_n 2, 1) := by decide +kernel
theorem dX6_turns_34 : decode cX6_turns 34 = .ok (.aload_n 0, 1) := by decide +kernel
theorem dX6_turns_35 : decode cX6_turns 35 = .ok (.iload_n 1, 1) := by decide +kernel
theorem dX6_turns_36 : decode cX6_turns 36 = .ok (.iload_n 3, 1) := by decide +kernel
theorem dX6_turns_37 : decode cX6_turns 37 = .ok (.invokevirtual 145, 3) := by decide +kernel
theorem dX6_turns_40 : decode cX6_turns 40 = .ok (.aload_n 0, 1) := by decide +kernel
theorem dX6_turns_41 : decode cX6_turns 41 = .ok (.iload_n 1, 1) := by decide +kernel
theorem dX6_turns_42 : decode cX6_turns 42 = .ok (.iload_n 3, 1) := by decide +kernel
theorem dX6_turns_43 : decode cX6_turns 43 = .ok (.iconst 1, 1) := by decide +kernel
theorem dX6_turns_44 : decode cX6_turns 44 = .ok (.isub, 1) := by decide +kernel
theorem dX6_turns_45 : decode cX6_turns 45 = .ok (.invokevirtual 145, 3) := by decide +kernel
theorem dX6_turns_48 : decode cX6_turns 48 = .ok (.if_icmp .eq 7, 3) := by decide +kernel
theorem dX6_turns_51 : decode cX6_turns 51 = .ok (.iconst 1, 1) := by decide +kernel
theorem dX6_turns_52 : decode cX6_turns 52 = .ok (.goto 4, 3) := by decide +kernel
theorem dX6_turns_55 : decode cX6_turns 55 = .ok (.iconst 0, 1) := by decide +kernel
theorem dX6_turns_56 : decode cX6_turns 56 = .ok (.iadd, 1) := by decide +kernel
theorem dX6_turns_57 : decode cX6_turns 57 = .ok (.istore_n 2, 1) := by decide +kernel
theorem dX6_turns_58 : decode cX6_turns 58 = .ok (.iinc 3 1, 3) := by decide +kernel
theorem dX6_turns_61 : decode cX6_turns 61 = .ok (.goto (-42), 3) := by decide +kernel
theorem dX6_turns_64 : decode cX6_turns 64 = .ok (.iload_n 2, 1) := by decide +kernel
theorem dX6_turns_65 : decode cX6_turns 65 = .ok (.ireturn, 1) := by decide +kernel
theorem dX6_many_0 : decode cX6_many 0 = .ok (.iload_n 1, 1) := by decide +kernel
theorem dX6_many_1 : decode cX6_many 1 = .ok (.tableswitch 90 0 7 #[47, 54, 67, 67, 67, 75, 80, 80], 47) := by decide +kernel
theorem dX6_many_48 : decode cX6_many 48 = .ok (.aload_n 0, 1) := by decide +kernel
theorem dX6_many_49 : decode cX6_many 49 = .ok (.getfield 7, 3) := by decide +kernel
theorem dX6_many_52 : decode cX6_many 52 = .ok (.iconst 5, 1) := by decide +kernel
theorem dX6_many_53 : decode cX6_many 53 = .ok (.iaload, 1) := by decide +kernel
theorem dX6_many_54 : decode cX6_many 54 = .ok (.ireturn, 1) := by decide +kernel
theorem dX6_many_55 : decode cX6_many 55 = .ok (.bipush 12, 2) := by decide +kernel
theorem dX6_many_57 : decode cX6_many 57 = .ok (.aload_n 0, 1) := by decide +kernel
theorem dX6_many_58 : decode cX6_many 58 = .ok (.getfield 7, 3) := by decide +kernel
theorem dX6_many_61 : decode cX6_many 61 = .ok (.iconst 1, 1) := by decide +kernel
theorem dX6_many_62 : decode cX6_many 62 = .ok (.iaload, 1) := by decide +kernel
theorem dX6_many_63 : decode cX6_many 63 = .ok (.invokestatic 90, 3) := by decide +kernel
theorem dX6_many_66 : decode cX6_many 66 = .ok (.imul, 1) := by decide +kernel
theorem dX6_many_67 : decode cX6_many 67 = .ok (.ireturn, 1) := by decide +kernel
theorem dX6_many_68 : decode cX6_many 68 = .ok (.aload_n 0, 1) := by decide +kernel
theorem dX6_many_69 : decode cX6_many 69 = .ok (.iload_n 1, 1) := by decide +kernel
theorem dX6_many_70 : decode cX6_many 70 = .ok (.iconst 2, 1) := by decide +kernel
theorem dX6_many_71 : decode cX6_many 71 = .ok (.isub, 1) := by decide +kernel
theorem dX6_many_72 : decode cX6_many 72 = .ok (.invokevirtual 151, 3) := by decide +kernel
theorem dX6_many_75 : decode cX6_many 75 = .ok (.ireturn, 1) := by decide +kernel
theorem dX6_many_76 : decode cX6_many 76 = .ok (.aload_n 0, 1) := by decide +kernel
theorem dX6_many_77 : decode cX6_many 77 = .ok (.invokevirtual 154, 3) := by decide +kernel
theorem dX6_many_80 : decode cX6_many 80 = .ok (.ireturn, 1) := by decide +kernel
theorem dX6_many_81 : decode cX6_many 81 = .ok (.aload_n 0, 1) := by decide +kernel
theorem dX6_many_82 : decode cX6_many 82 = .ok (.getfield 7, 3) := by decide +kernel
theorem dX6_many_85 : decode cX6_many 85 = .ok (.iload_n 1, 1) := by decide +kernel
theorem dX6_many_86 : decode cX6_many 86 = .ok (.bipush 6, 2) := by decide +kernel
theorem dX6_many_88 : decode cX6_many 88 = .ok (.isub, 1) := by decide +kernel
theorem dX6_many_89 : decode cX6_many 89 = .ok (.iaload, 1) := by decide +kernel
theorem dX6_many_90 : decode cX6_many 90 = .ok (.ireturn, 1) := by decide +kernel
theorem dX6_many_91 : decode cX6_many 91 = .ok (.iconst (-1), 1) := by decide +kernel
theorem dX6_many_92 : decode cX6_many 92 = .ok (.ireturn, 1) := by decide +kernel
theorem dX6_keep_0 : decode cX6_keep 0 = .ok (.aload_n 0, 1) := by decide +kernel
theorem dX6_keep_1 : decode cX6_keep 1 = .ok (.iconst 1, 1) := by decide +kernel
theorem dX6_keep_2 : decode cX6_keep 2 = .ok (.putfield 158, 3) := by decide +kernel
theorem dX6_keep_5 : decode cX6_keep 5 = .ok (.iconst 0, 1) := by decide +kernel
theorem dX6_keep_6 : decode cX6_keep 6 = .ok (.istore_n 1, 1) := by decide +kernel
theorem dX6_keep_7 : decode cX6_keep 7 = .ok (.iload_n 1, 1) := by decide +kernel
theorem dX6_keep_8 : decode cX6_keep 8 = .ok (.bipush 6, 2) := by decide +kernel
theorem dX6_keep_10 : decode cX6_keep 10 = .ok (.if_icmp .ge 21, 3) := by decide +kernel
theorem dX6_keep_13 : decode cX6_keep 13 = .ok (.aload_n 0, 1) := by decide +kernel
theorem dX6_keep_14 : decode cX6_keep 14 = .ok (.getfield 16, 3) := by decide +kernel
theorem dX6_keep_17 : decode cX6_keep 17 = .ok (.iload_n 1, 1) := by decide +kernel
theorem dX6_keep_18 : decode cX6_keep 18 = .ok (.aload_n 0, 1) := by decide +kernel
theorem dX6_keep_19 : decode cX6_keep 19 = .ok (.getfield 7, 3) := by decide +kernel
theorem dX6_keep_22 : decode cX6_keep 22 = .ok (.iload_n 1, 1) := by decide +kernel
theorem dX6_keep_23 : decode cX6_keep 23 = .ok (.iaload, 1) := by decide +kernel
theorem dX6_keep_24 : decode cX6_keep 24 = .ok (.iastore, 1) := by decide +kernel
theorem dX6_keep_25 : decode cX6_keep 25 = .ok (.iinc 1 1, 3) := by decide +kernel
theorem dX6_keep_28 : decode cX6_keep 28 = .ok (.goto (-21), 3) := by decide +kernel
theorem dX6_keep_31 : decode cX6_keep 31 = .ok (.iconst 0, 1) := by decide +kernel
theorem dX6_keep_32 : decode cX6_keep 32 = .ok (.istore_n 1, 1) := by decide +kernel
theorem dX6_keep_33 : decode cX6_keep 33 = .ok (.iload_n 1, 1) := by decide +kernel
theorem dX6_keep_34 : decode cX6_keep 34 = .ok (.bipush 32, 2) := by decide +kernel
theorem dX6_keep_36 : decode cX6_keep 36 = .ok (.if_icmp .ge 24, 3) := by decide +kernel
theorem dX6_keep_39 : decode cX6_keep 39 = .ok (.aload_n 0, 1) := by decide +kernel
theorem dX6_keep_40 : decode cX6_keep 40 = .ok (.getfield 16, 3) := by decide +kernel
theorem dX6_keep_43 : decode cX6_keep 43 = .ok (.bipush 6, 2) := by decide +kernel
theorem dX6_keep_45 : decode cX6_keep 45 = .ok (.iload_n 1, 1) := by decide +kernel
theorem dX6_keep_46 : decode cX6_keep 46 = .ok (.iadd, 1) := by decide +kernel
theorem dX6_keep_47 : decode cX6_keep 47 = .ok (.aload_n 0, 1) := by decide +kernel
theorem dX6_keep_48 : decode cX6_keep 48 = .ok (.getfield 13, 3) := by decide +kernel
theorem dX6_keep_51 : decode cX6_keep 51 = .ok (.iload_n 1, 1) := by decide +kernel
theorem dX6_keep_52 : decode cX6_keep 52 = .ok (.iaload, 1) := by decide +kernel
theorem dX6_keep_53 : decode cX6_keep 53 = .ok (.iastore, 1) := by decide +kernel
theorem dX6_keep_54 : decode cX6_keep 54 = .ok (.iinc 1 1, 3) := by decide +kernel
theorem dX6_keep_57 : decode cX6_keep 57 = .ok (.goto (-24), 3) := by decide +kernel
theorem dX6_keep_60 : decode cX6_keep 60 = .ok (.iconst 1, 1) := by decide +kernel
theorem dX6_keep_61 : decode cX6_keep 61 = .ok (.ireturn, 1) := by decide +kernel
theorem dX6_back_0 : decode cX6_back 0 = .ok (.aload_n 0, 1) := by decide +kernel
theorem dX6_back_1 : decode cX6_back 1 = .ok (.getfield 158, 3) := by decide +kernel
theorem dX6_back_4 : decode cX6_back 4 = .ok (.ifCond .ne 6, 3) := by decide +kernel
theorem dX6_back_7 : decode cX6_back 7 = .ok (.bipush (-3), 2) := by decide +kernel
theorem dX6_back_9 : decode cX6_back 9 = .ok (.ireturn, 1) := by decide +kernel
theorem dX6_back_10 : decode cX6_back 10 = .ok (.iconst 0, 1) := by decide +kernel
theorem dX6_back_11 : decode cX6_back 11 = .ok (.istore_n 1, 1) := by decide +kernel
theorem dX6_back_12 : decode cX6_back 12 = .ok (.iload_n 1, 1) := by decide +kernel
theorem dX6_back_13 : decode cX6_back 13 = .ok (.bipush 6, 2) := by decide +kernel
theorem dX6_back_15 : decode cX6_back 15 = .ok (.if_icmp .ge 21, 3) := by decide +kernel
theorem dX6_back_18 : decode cX6_back 18 = .ok (.aload_n 0, 1) := by decide +kernel
theorem dX6_back_19 : decode cX6_back 19 = .ok (.getfield 7, 3) := by decide +kernel
theorem dX6_back_22 : decode cX6_back 22 = .ok (.iload_n 1, 1) := by decide +kernel
theorem dX6_back_23 : decode cX6_back 23 = .ok (.aload_n 0, 1) := by decide +kernel
theorem dX6_back_24 : decode cX6_back 24 = .ok (.getfield 16, 3) := by decide +kernel
theorem dX6_back_27 : decode cX6_back 27 = .ok (.iload_n 1, 1) := by decide +kernel
theorem dX6_back_28 : decode cX6_back 28 = .ok (.iaload, 1) := by decide +kernel
theorem dX6_back_29 : decode cX6_back 29 = .ok (.iastore, 1) := by decide +kernel
theorem dX6_back_30 : decode cX6_back 30 = .ok (.iinc 1 1, 3) := by decide +kernel
theorem dX6_back_33 : decode cX6_back 33 = .ok (.goto (-21), 3) := by decide +kernel
theorem dX6_back_36 : decode cX6_back 36 = .ok (.iconst 0, 1) := by decide +kernel
theorem dX6_back_37 : decode cX6_back 37 = .ok (.istore_n 1, 1) := by decide +kernel
theorem dX6_back_38 : decode cX6_back 38 = .ok (.iload_n 1, 1) := by decide +kernel
theorem dX6_back_39 : decode cX6_back 39 = .ok (.bipush 32, 2) := by decide +kernel
theorem dX6_back_41 : decode cX6_back 41 = .ok (.if_icmp .ge 24, 3) := by decide +kernel
theorem dX6_back_44 : decode cX6_back 44 = .ok (.aload_n 0, 1) := by decide +kernel
theorem dX6_back_45 : decode cX6_back 45 = .ok (.getfield 13, 3) := by decide +kernel
theorem dX6_back_48 : decode cX6_back 48 = .ok (.iload_n 1, 1) := by decide +kernel
theorem dX6_back_49 : decode cX6_back 49 = .ok (.aload_n 0, 1) := by decide +kernel
theorem dX6_back_50 : decode cX6_back 50 = .ok (.getfield 16, 3) := by decide +kernel
theorem dX6_back_53 : decode cX6_back 53 = .ok (.bipush 6, 2) := by decide +kernel
theorem dX6_back_55 : decode cX6_back 55 = .ok (.iload_n 1, 1) := by decide +kernel
theorem dX6_back_56 : decode cX6_back 56 = .ok (.iadd, 1) := by decide +kernel
theorem dX6_back_57 : decode cX6_back 57 = .ok (.iaload, 1) := by decide +kernel
theorem dX6_back_58 : decode cX6_back 58 = .ok (.iastore, 1) := by decide +kernel
theorem dX6_back_59 : decode cX6_back 59 = .ok (.iinc 1 1, 3) := by decide +kernel
theorem dX6_back_62 : decode cX6_back 62 = .ok (.goto (-24), 3) := by decide +kernel
theorem dX6_back_65 : decode cX6_back 65 = .ok (.iconst 1, 1) := by decide +kernel
theorem dX6_back_66 : decode cX6_back 66 = .ok (.ireturn, 1) := by decide +kernel
