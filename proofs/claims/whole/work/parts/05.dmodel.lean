theorem dX12_init_0 : decode cX12_init 0 = .ok (.aload_n 0, 1) := by decide +kernel
theorem dX12_init_1 : decode cX12_init 1 = .ok (.invokespecial 1, 3) := by decide +kernel
theorem dX12_init_4 : decode cX12_init 4 = .ok (.aload_n 0, 1) := by decide +kernel
theorem dX12_init_5 : decode cX12_init 5 = .ok (.sipush 482, 3) := by decide +kernel
theorem dX12_init_8 : decode cX12_init 8 = .ok (.newarray .int, 2) := by decide +kernel
theorem dX12_init_10 : decode cX12_init 10 = .ok (.putfield 7, 3) := by decide +kernel
theorem dX12_init_13 : decode cX12_init 13 = .ok (.aload_n 0, 1) := by decide +kernel
theorem dX12_init_14 : decode cX12_init 14 = .ok (.sipush 482, 3) := by decide +kernel
theorem dX12_init_17 : decode cX12_init 17 = .ok (.newarray .int, 2) := by decide +kernel
theorem dX12_init_19 : decode cX12_init 19 = .ok (.putfield 13, 3) := by decide +kernel
theorem dX12_init_22 : decode cX12_init 22 = .ok (.aload_n 0, 1) := by decide +kernel
theorem dX12_init_23 : decode cX12_init 23 = .ok (.sipush 482, 3) := by decide +kernel
theorem dX12_init_26 : decode cX12_init 26 = .ok (.newarray .int, 2) := by decide +kernel
theorem dX12_init_28 : decode cX12_init 28 = .ok (.putfield 16, 3) := by decide +kernel
theorem dX12_init_31 : decode cX12_init 31 = .ok (.aload_n 0, 1) := by decide +kernel
theorem dX12_init_32 : decode cX12_init 32 = .ok (.sipush 964, 3) := by decide +kernel
theorem dX12_init_35 : decode cX12_init 35 = .ok (.newarray .int, 2) := by decide +kernel
theorem dX12_init_37 : decode cX12_init 37 = .ok (.putfield 19, 3) := by decide +kernel
theorem dX12_init_40 : decode cX12_init 40 = .ok (.aload_n 0, 1) := by decide +kernel
theorem dX12_init_41 : decode cX12_init 41 = .ok (.sipush 200, 3) := by decide +kernel
theorem dX12_init_44 : decode cX12_init 44 = .ok (.newarray .int, 2) := by decide +kernel
theorem dX12_init_46 : decode cX12_init 46 = .ok (.putfield 22, 3) := by decide +kernel
theorem dX12_init_49 : decode cX12_init 49 = .ok (.aload_n 0, 1) := by decide +kernel
theorem dX12_init_50 : decode cX12_init 50 = .ok (.sipush 200, 3) := by decide +kernel
theorem dX12_init_53 : decode cX12_init 53 = .ok (.newarray .int, 2) := by decide +kernel
theorem dX12_init_55 : decode cX12_init 55 = .ok (.putfield 25, 3) := by decide +kernel
theorem dX12_init_58 : decode cX12_init 58 = .ok (.aload_n 0, 1) := by decide +kernel
theorem dX12_init_59 : decode cX12_init 59 = .ok (.sipush 400, 3) := by decide +kernel
theorem dX12_init_62 : decode cX12_init 62 = .ok (.newarray .int, 2) := by decide +kernel
theorem dX12_init_64 : decode cX12_init 64 = .ok (.putfield 28, 3) := by decide +kernel
theorem dX12_init_67 : decode cX12_init 67 = .ok (.aload_n 0, 1) := by decide +kernel
theorem dX12_init_68 : decode cX12_init 68 = .ok (.getfield 7, 3) := by decide +kernel
theorem dX12_init_71 : decode cX12_init 71 = .ok (.iconst 0, 1) := by decide +kernel
theorem dX12_init_72 : decode cX12_init 72 = .ok (.iconst 3, 1) := by decide +kernel
theorem dX12_init_73 : decode cX12_init 73 = .ok (.iastore, 1) := by decide +kernel
theorem dX12_init_74 : decode cX12_init 74 = .ok (.aload_n 0, 1) := by decide +kernel
theorem dX12_init_75 : decode cX12_init 75 = .ok (.getfield 7, 3) := by decide +kernel
theorem dX12_init_78 : decode cX12_init 78 = .ok (.iconst 1, 1) := by decide +kernel
theorem dX12_init_79 : decode cX12_init 79 = .ok (.iconst 1, 1) := by decide +kernel
theorem dX12_init_80 : decode cX12_init 80 = .ok (.iastore, 1) := by decide +kernel
theorem dX12_init_81 : decode cX12_init 81 = .ok (.aload_n 0, 1) := by decide +kernel
theorem dX12_init_82 : decode cX12_init 82 = .ok (.getfield 7, 3) := by decide +kernel
theorem dX12_init_85 : decode cX12_init 85 = .ok (.iconst 3, 1) := by decide +kernel
theorem dX12_init_86 : decode cX12_init 86 = .ok (.iconst 4, 1) := by decide +kernel
theorem dX12_init_87 : decode cX12_init 87 = .ok (.iastore, 1) := by decide +kernel
theorem dX12_init_88 : decode cX12_init 88 = .ok (.aload_n 0, 1) := by decide +kernel
theorem dX12_init_89 : decode cX12_init 89 = .ok (.getfield 7, 3) := by decide +kernel
theorem dX12_init_92 : decode cX12_init 92 = .ok (.iconst 4, 1) := by decide +kernel
theorem dX12_init_93 : decode cX12_init 93 = .ok (.bipush 8, 2) := by decide +kernel
theorem dX12_init_95 : decode cX12_init 95 = .ok (.iastore, 1) := by decide +kernel
theorem dX12_init_96 : decode cX12_init 96 = .ok (.aload_n 0, 1) := by decide +kernel
theorem dX12_init_97 : decode cX12_init 97 = .ok (.getfield 7, 3) := by decide +kernel
theorem dX12_init_100 : decode cX12_init 100 = .ok (.iconst 5, 1) := by decide +kernel
theorem dX12_init_101 : decode cX12_init 101 = .ok (.iconst 3, 1) := by decide +kernel
theorem dX12_init_102 : decode cX12_init 102 = .ok (.iastore, 1) := by decide +kernel
theorem dX12_init_103 : decode cX12_init 103 = .ok (.aload_n 0, 1) := by decide +kernel
theorem dX12_init_104 : decode cX12_init 104 = .ok (.getfield 7, 3) := by decide +kernel
theorem dX12_init_107 : decode cX12_init 107 = .ok (.bipush 6, 2) := by decide +kernel
theorem dX12_init_109 : decode cX12_init 109 = .ok (.iconst 5, 1) := by decide +kernel
theorem dX12_init_110 : decode cX12_init 110 = .ok (.iastore, 1) := by decide +kernel
theorem dX12_init_111 : decode cX12_init 111 = .ok (.aload_n 0, 1) := by decide +kernel
theorem dX12_init_112 : decode cX12_init 112 = .ok (.getfield 7, 3) := by decide +kernel
theorem dX12_init_115 : decode cX12_init 115 = .ok (.bipush 7, 2) := by decide +kernel
theorem dX12_init_117 : decode cX12_init 117 = .ok (.iconst 4, 1) := by decide +kernel
theorem dX12_init_118 : decode cX12_init 118 = .ok (.iastore, 1) := by decide +kernel
theorem dX12_init_119 : decode cX12_init 119 = .ok (.aload_n 0, 1) := by decide +kernel
theorem dX12_init_120 : decode cX12_init 120 = .ok (.iconst 3, 1) := by decide +kernel
theorem dX12_init_121 : decode cX12_init 121 = .ok (.invokevirtual 31, 3) := by decide +kernel
theorem dX12_init_124 : decode cX12_init 124 = .ok (.return_, 1) := by decide +kernel
theorem dX12_isIn_0 : decode cX12_isIn 0 = .ok (.iload_n 0, 1) := by decide +kernel
theorem dX12_isIn_1 : decode cX12_isIn 1 = .ok (.iload_n 1, 1) := by decide +kernel
theorem dX12_isIn_2 : decode cX12_isIn 2 = .ok (.if_icmp .lt 12, 3) := by decide +kernel
theorem dX12_isIn_5 : decode cX12_isIn 5 = .ok (.iload_n 0, 1) := by decide +kernel
theorem dX12_isIn_6 : decode cX12_isIn 6 = .ok (.iload_n 2, 1) := by decide +kernel
theorem dX12_isIn_7 : decode cX12_isIn 7 = .ok (.if_icmp .gt 7, 3) := by decide +kernel
theorem dX12_isIn_10 : decode cX12_isIn 10 = .ok (.iconst 1, 1) := by decide +kernel
theorem dX12_isIn_11 : decode cX12_isIn 11 = .ok (.goto 4, 3) := by decide +kernel
theorem dX12_isIn_14 : decode cX12_isIn 14 = .ok (.iconst 0, 1) := by decide +kernel
theorem dX12_isIn_15 : decode cX12_isIn 15 = .ok (.ireturn, 1) := by decide +kernel
theorem dX12_begin_0 : decode cX12_begin 0 = .ok (.bipush 9, 2) := by decide +kernel
theorem dX12_begin_2 : decode cX12_begin 2 = .ok (.istore_n 2, 1) := by decide +kernel
theorem dX12_begin_3 : decode cX12_begin 3 = .ok (.iload_n 2, 1) := by decide +kernel
theorem dX12_begin_4 : decode cX12_begin 4 = .ok (.sipush 482, 3) := by decide +kernel
theorem dX12_begin_7 : decode cX12_begin 7 = .ok (.if_icmp .ge 16, 3) := by decide +kernel
theorem dX12_begin_10 : decode cX12_begin 10 = .ok (.aload_n 0, 1) := by decide +kernel
theorem dX12_begin_11 : decode cX12_begin 11 = .ok (.getfield 7, 3) := by decide +kernel
theorem dX12_begin_14 : decode cX12_begin 14 = .ok (.iload_n 2, 1) := by decide +kernel
theorem dX12_begin_15 : decode cX12_begin 15 = .ok (.iconst 0, 1) := by decide +kernel
theorem dX12_begin_16 : decode cX12_begin 16 = .ok (.iastore, 1) := by decide +kernel
theorem dX12_begin_17 : decode cX12_begin 17 = .ok (.iinc 2 1, 3) := by decide +kernel
theorem dX12_begin_20 : decode cX12_begin 20 = .ok (.goto (-17), 3) := by decide +kernel
theorem dX12_begin_23 : decode cX12_begin 23 = .ok (.aload_n 0, 1) := by decide +kernel
theorem dX12_begin_24 : decode cX12_begin 24 = .ok (.getfield 7, 3) := by decide +kernel
theorem dX12_begin_27 : decode cX12_begin 27 = .ok (.iconst 0, 1) := by decide +kernel
theorem dX12_begin_28 : decode cX12_begin 28 = .ok (.iload_n 1, 1) := by decide +kernel
theorem dX12_begin_29 : decode cX12_begin 29 = .ok (.iastore, 1) := by decide +kernel
theorem dX12_begin_30 : decode cX12_begin 30 = .ok (.iconst 0, 1) := by decide +kernel
theorem dX12_begin_31 : decode cX12_begin 31 = .ok (.istore_n 2, 1) := by decide +kernel
theorem dX12_begin_32 : decode cX12_begin 32 = .ok (.iload_n 2, 1) := by decide +kernel
theorem dX12_begin_33 : decode cX12_begin 33 = .ok (.bipush 6, 2) := by decide +kernel
theorem dX12_begin_35 : decode cX12_begin 35 = .ok (.if_icmp .ge 31, 3) := by decide +kernel
theorem dX12_begin_38 : decode cX12_begin 38 = .ok (.aload_n 0, 1) := by decide +kernel
theorem dX12_begin_39 : decode cX12_begin 39 = .ok (.getfield 7, 3) := by decide +kernel
theorem dX12_begin_42 : decode cX12_begin 42 = .ok (.bipush 22, 2) := by decide +kernel
theorem dX12_begin_44 : decode cX12_begin 44 = .ok (.iload_n 2, 1) := by decide +kernel
theorem dX12_begin_45 : decode cX12_begin 45 = .ok (.iadd, 1) := by decide +kernel
theorem dX12_begin_46 : decode cX12_begin 46 = .ok (.bipush (-8), 2) := by decide +kernel
theorem dX12_begin_48 : decode cX12_begin 48 = .ok (.iastore, 1) := by decide +kernel
theorem dX12_begin_49 : decode cX12_begin 49 = .ok (.aload_n 0, 1) := by decide +kernel
theorem dX12_begin_50 : decode cX12_begin 50 = .ok (.getfield 7, 3) := by decide +kernel
theorem dX12_begin_53 : decode cX12_begin 53 = .ok (.bipush 28, 2) := by decide +kernel
theorem dX12_begin_55 : decode cX12_begin 55 = .ok (.iload_n 2, 1) := by decide +kernel
theorem dX12_begin_56 : decode cX12_begin 56 = .ok (.iadd, 1) := by decide +kernel
theorem dX12_begin_57 : decode cX12_begin 57 = .ok (.bipush (-8), 2) := by decide +kernel
theorem dX12_begin_59 : decode cX12_begin 59 = .ok (.iastore, 1) := by decide +kernel
theorem dX12_begin_60 : decode cX12_begin 60 = .ok (.iinc 2 1, 3) := by decide +kernel
theorem dX12_begin_63 : decode cX12_begin 63 = .ok (.goto (-31), 3) := by decide +kernel
theorem dX12_begin_66 : decode cX12_begin 66 = .ok (.iconst 0, 1) := by decide +kernel
theorem dX12_begin_67 : decode cX12_begin 67 = .ok (.istore_n 2, 1) := by decide +kernel
theorem dX12_begin_68 : decode cX12_begin 68 = .ok (.iload_n 2, 1) := by decide +kernel
theorem dX12_begin_69 : decode cX12_begin 69 = .ok (.bipush 8, 2) := by decide +kernel
theorem dX12_begin_71 : decode cX12_begin 71 = .ok (.if_icmp .ge 66, 3) := by decide +kernel
theorem dX12_begin_74 : decode cX12_begin 74 = .ok (.aload_n 0, 1) := by decide +kernel
theorem dX12_begin_75 : decode cX12_begin 75 = .ok (.getfield 7, 3) := by decide +kernel
theorem dX12_begin_78 : decode cX12_begin 78 = .ok (.bipush 46, 2) := by decide +kernel
theorem dX12_begin_80 : decode cX12_begin 80 = .ok (.iload_n 2, 1) := by decide +kernel
theorem dX12_begin_81 : decode cX12_begin 81 = .ok (.iadd, 1) := by decide +kernel
theorem dX12_begin_82 : decode cX12_begin 82 = .ok (.aload_n 0, 1) := by decide +kernel
theorem dX12_begin_83 : decode cX12_begin 83 = .ok (.getfield 7, 3) := by decide +kernel
theorem dX12_begin_86 : decode cX12_begin 86 = .ok (.iconst 1, 1) := by decide +kernel
theorem dX12_begin_87 : decode cX12_begin 87 = .ok (.iaload, 1) := by decide +kernel
theorem dX12_begin_88 : decode cX12_begin 88 = .ok (.iconst 1, 1) := by decide +kernel
theorem dX12_begin_89 : decode cX12_begin 89 = .ok (.if_icmp .ne 7, 3) := by decide +kernel
theorem dX12_begin_92 : decode cX12_begin 92 = .ok (.iconst 1, 1) := by decide +kernel
theorem dX12_begin_93 : decode cX12_begin 93 = .ok (.goto 4, 3) := by decide +kernel
theorem dX12_begin_96 : decode cX12_begin 96 = .ok (.iconst 0, 1) := by decide +kernel
theorem dX12_begin_97 : decode cX12_begin 97 = .ok (.iastore, 1) := by decide +kernel
theorem dX12_begin_98 : decode cX12_begin 98 = .ok (.aload_n 0, 1) := by decide +kernel
theorem dX12_begin_99 : decode cX12_begin 99 = .ok (.getfield 7, 3) := by decide +kernel
theorem dX12_begin_102 : decode cX12_begin 102 = .ok (.bipush 54, 2) := by decide +kernel
theorem dX12_begin_104 : decode cX12_begin 104 = .ok (.iload_n 2, 1) := by decide +kernel
theorem dX12_begin_105 : decode cX12_begin 105 = .ok (.iadd, 1) := by decide +kernel
theorem dX12_begin_106 : decode cX12_begin 106 = .ok (.bipush (-8), 2) := by decide +kernel
theorem dX12_begin_108 : decode cX12_begin 108 = .ok (.iastore, 1) := by decide +kernel
theorem dX12_begin_109 : decode cX12_begin 109 = .ok (.aload_n 0, 1) := by decide +kernel
theorem dX12_begin_110 : decode cX12_begin 110 = .ok (.getfield 7, 3) := by decide +kernel
theorem dX12_begin_113 : decode cX12_begin 113 = .ok (.bipush 70, 2) := by decide +kernel
theorem dX12_begin_115 : decode cX12_begin 115 = .ok (.iload_n 2, 1) := by decide +kernel
theorem dX12_begin_116 : decode cX12_begin 116 = .ok (.iadd, 1) := by decide +kernel
theorem dX12_begin_117 : decode cX12_begin 117 = .ok (.bipush (-8), 2) := by decide +kernel
theorem dX12_begin_119 : decode cX12_begin 119 = .ok (.iastore, 1) := by decide +kernel
theorem dX12_begin_120 : decode cX12_begin 120 = .ok (.aload_n 0, 1) := by decide +kernel
theorem dX12_begin_121 : decode cX12_begin 121 = .ok (.getfield 7, 3) := by decide +kernel
theorem dX12_begin_124 : decode cX12_begin 124 = .ok (.bipush 94, 2) := by decide +kernel
theorem dX12_begin_126 : decode cX12_begin 126 = .ok (.iload_n 2, 1) := by decide +kernel
theorem dX12_begin_127 : decode cX12_begin 127 = .ok (.iadd, 1) := by decide +kernel
theorem dX12_begin_128 : decode cX12_begin 128 = .ok (.bipush (-8), 2) := by decide +kernel
theorem dX12_begin_130 : decode cX12_begin 130 = .ok (.iastore, 1) := by decide +kernel
theorem dX12_begin_131 : decode cX12_begin 131 = .ok (.iinc 2 1, 3) := by decide +kernel
theorem dX12_begin_134 : decode cX12_begin 134 = .ok (.goto (-66), 3) := by decide +kernel
theorem dX12_begin_137 : decode cX12_begin 137 = .ok (.iconst 0, 1) := by decide +kernel
theorem dX12_begin_138 : decode cX12_begin 138 = .ok (.istore_n 2, 1) := by decide +kernel
theorem dX12_begin_139 : decode cX12_begin 139 = .ok (.iload_n 2, 1) := by decide +kernel
theorem dX12_begin_140 : decode cX12_begin 140 = .ok (.iconst 3, 1) := by decide +kernel
theorem dX12_begin_141 : decode cX12_begin 141 = .ok (.if_icmp .ge 20, 3) := by decide +kernel
theorem dX12_begin_144 : decode cX12_begin 144 = .ok (.aload_n 0, 1) := by decide +kernel
theorem dX12_begin_145 : decode cX12_begin 145 = .ok (.getfield 7, 3) := by decide +kernel
theorem dX12_begin_148 : decode cX12_begin 148 = .ok (.sipush 228, 3) := by decide +kernel
theorem dX12_begin_151 : decode cX12_begin 151 = .ok (.iload_n 2, 1) := by decide +kernel
theorem dX12_begin_152 : decode cX12_begin 152 = .ok (.iadd, 1) := by decide +kernel
theorem dX12_begin_153 : decode cX12_begin 153 = .ok (.iconst 1, 1) := by decide +kernel
theorem dX12_begin_154 : decode cX12_begin 154 = .ok (.iastore, 1) := by decide +kernel
theorem dX12_begin_155 : decode cX12_begin 155 = .ok (.iinc 2 1, 3) := by decide +kernel
theorem dX12_begin_158 : decode cX12_begin 158 = .ok (.goto (-19), 3) := by decide +kernel
theorem dX12_begin_161 : decode cX12_begin 161 = .ok (.return_, 1) := by decide +kernel
theorem dX12_isThread_0 : decode cX12_isThread 0 = .ok (.iload_n 1, 1) := by decide +kernel
theorem dX12_isThread_1 : decode cX12_isThread 1 = .ok (.iconst 0, 1) := by decide +kernel
theorem dX12_isThread_2 : decode cX12_isThread 2 = .ok (.aload_n 0, 1) := by decide +kernel
theorem dX12_isThread_3 : decode cX12_isThread 3 = .ok (.getfield 7, 3) := by decide +kernel
theorem dX12_isThread_6 : decode cX12_isThread 6 = .ok (.iconst 0, 1) := by decide +kernel
theorem dX12_isThread_7 : decode cX12_isThread 7 = .ok (.iaload, 1) := by decide +kernel
theorem dX12_isThread_8 : decode cX12_isThread 8 = .ok (.iconst 1, 1) := by decide +kernel
theorem dX12_isThread_9 : decode cX12_isThread 9 = .ok (.isub, 1) := by decide +kernel
theorem dX12_isThread_10 : decode cX12_isThread 10 = .ok (.invokestatic 35, 3) := by decide +kernel
theorem dX12_isThread_13 : decode cX12_isThread 13 = .ok (.ireturn, 1) := by decide +kernel
theorem dX12_isObject_0 : decode cX12_isObject 0 = .ok (.iload_n 0, 1) := by decide +kernel
theorem dX12_isObject_1 : decode cX12_isObject 1 = .ok (.iconst 0, 1) := by decide +kernel
theorem dX12_isObject_2 : decode cX12_isObject 2 = .ok (.bipush 7, 2) := by decide +kernel
theorem dX12_isObject_4 : decode cX12_isObject 4 = .ok (.invokestatic 35, 3) := by decide +kernel
theorem dX12_isObject_7 : decode cX12_isObject 7 = .ok (.ireturn, 1) := by decide +kernel
theorem dX12_reset_0 : decode cX12_reset 0 = .ok (.iload_n 1, 1) := by decide +kernel
theorem dX12_reset_1 : decode cX12_reset 1 = .ok (.iconst 2, 1) := by decide +kernel
theorem dX12_reset_2 : decode cX12_reset 2 = .ok (.bipush 6, 2) := by decide +kernel
theorem dX12_reset_4 : decode cX12_reset 4 = .ok (.invokestatic 35, 3) := by decide +kernel
theorem dX12_reset_7 : decode cX12_reset 7 = .ok (.ifCond .ne 6, 3) := by decide +kernel
theorem dX12_reset_10 : decode cX12_reset 10 = .ok (.bipush (-3), 2) := by decide +kernel
theorem dX12_reset_12 : decode cX12_reset 12 = .ok (.ireturn, 1) := by decide +kernel
theorem dX12_reset_13 : decode cX12_reset 13 = .ok (.aload_n 0, 1) := by decide +kernel
theorem dX12_reset_14 : decode cX12_reset 14 = .ok (.getfield 7, 3) := by decide +kernel
theorem dX12_reset_17 : decode cX12_reset 17 = .ok (.iconst 0, 1) := by decide +kernel
theorem dX12_reset_18 : decode cX12_reset 18 = .ok (.iaload, 1) := by decide +kernel
theorem dX12_reset_19 : decode cX12_reset 19 = .ok (.istore_n 2, 1) := by decide +kernel
theorem dX12_reset_20 : decode cX12_reset 20 = .ok (.aload_n 0, 1) := by decide +kernel
theorem dX12_reset_21 : decode cX12_reset 21 = .ok (.iload_n 1, 1) := by decide +kernel
theorem dX12_reset_22 : decode cX12_reset 22 = .ok (.invokevirtual 31, 3) := by decide +kernel
theorem dX12_reset_25 : decode cX12_reset 25 = .ok (.iload_n 2, 1) := by decide +kernel
theorem dX12_reset_26 : decode cX12_reset 26 = .ok (.ireturn, 1) := by decide +kernel
theorem dX12_least_0 : decode cX12_least 0 = .ok (.iload_n 0, 1) := by decide +kernel
theorem dX12_least_1 : decode cX12_least 1 = .ok (.ifCond .eq 14, 3) := by decide +kernel
theorem dX12_least_4 : decode cX12_least 4 = .ok (.iload_n 0, 1) := by decide +kernel
theorem dX12_least_5 : decode cX12_least 5 = .ok (.iconst 1, 1) := by decide +kernel
theorem dX12_least_6 : decode cX12_least 6 = .ok (.if_icmp .eq 9, 3) := by decide +kernel
theorem dX12_least_9 : decode cX12_least 9 = .ok (.iload_n 0, 1) := by decide +kernel
theorem dX12_least_10 : decode cX12_least 10 = .ok (.bipush 7, 2) := by decide +kernel
theorem dX12_least_12 : decode cX12_least 12 = .ok (.if_icmp .ne 7, 3) := by decide +kernel
theorem dX12_least_15 : decode cX12_least 15 = .ok (.iconst 0, 1) := by decide +kernel
theorem dX12_least_16 : decode cX12_least 16 = .ok (.goto 4, 3) := by decide +kernel
theorem dX12_least_19 : decode cX12_least 19 = .ok (.iconst 1, 1) := by decide +kernel
theorem dX12_least_20 : decode cX12_least 20 = .ok (.ireturn, 1) := by decide +kernel
theorem dX12_most_0 : decode cX12_most 0 = .ok (.iload_n 0, 1) := by decide +kernel
theorem dX12_most_1 : decode cX12_most 1 = .ok (.tableswitch 44 2 6 #[41, 41, 35, 41, 38], 35) := by decide +kernel
theorem dX12_most_36 : decode cX12_most 36 = .ok (.bipush 15, 2) := by decide +kernel
theorem dX12_most_38 : decode cX12_most 38 = .ok (.ireturn, 1) := by decide +kernel
theorem dX12_most_39 : decode cX12_most 39 = .ok (.bipush 8, 2) := by decide +kernel
theorem dX12_most_41 : decode cX12_most 41 = .ok (.ireturn, 1) := by decide +kernel
theorem dX12_most_42 : decode cX12_most 42 = .ok (.bipush 20, 2) := by decide +kernel
theorem dX12_most_44 : decode cX12_most 44 = .ok (.ireturn, 1) := by decide +kernel
theorem dX12_most_45 : decode cX12_most 45 = .ok (.iconst 1, 1) := by decide +kernel
theorem dX12_most_46 : decode cX12_most 46 = .ok (.ireturn, 1) := by decide +kernel
theorem dX12_isValue_0 : decode cX12_isValue 0 = .ok (.iload_n 0, 1) := by decide +kernel
theorem dX12_isValue_1 : decode cX12_isValue 1 = .ok (.iconst 0, 1) := by decide +kernel
theorem dX12_isValue_2 : decode cX12_isValue 2 = .ok (.bipush 7, 2) := by decide +kernel
theorem dX12_isValue_4 : decode cX12_isValue 4 = .ok (.invokestatic 35, 3) := by decide +kernel
theorem dX12_isValue_7 : decode cX12_isValue 7 = .ok (.ifCond .eq 22, 3) := by decide +kernel
theorem dX12_isValue_10 : decode cX12_isValue 10 = .ok (.iload_n 1, 1) := by decide +kernel
theorem dX12_isValue_11 : decode cX12_isValue 11 = .ok (.iload_n 0, 1) := by decide +kernel
theorem dX12_isValue_12 : decode cX12_isValue 12 = .ok (.invokestatic 39, 3) := by decide +kernel
theorem dX12_isValue_15 : decode cX12_isValue 15 = .ok (.iload_n 0, 1) := by decide +kernel
theorem dX12_isValue_16 : decode cX12_isValue 16 = .ok (.invokestatic 43, 3) := by decide +kernel
theorem dX12_isValue_19 : decode cX12_isValue 19 = .ok (.invokestatic 35, 3) := by decide +kernel
theorem dX12_isValue_22 : decode cX12_isValue 22 = .ok (.ifCond .eq 7, 3) := by decide +kernel
theorem dX12_isValue_25 : decode cX12_isValue 25 = .ok (.iconst 1, 1) := by decide +kernel
theorem dX12_isValue_26 : decode cX12_isValue 26 = .ok (.goto 4, 3) := by decide +kernel
theorem dX12_isValue_29 : decode cX12_isValue 29 = .ok (.iconst 0, 1) := by decide +kernel
theorem dX12_isValue_30 : decode cX12_isValue 30 = .ok (.ireturn, 1) := by decide +kernel
theorem dX12_set_0 : decode cX12_set 0 = .ok (.iload_n 1, 1) := by decide +kernel
theorem dX12_set_1 : decode cX12_set 1 = .ok (.iload_n 2, 1) := by decide +kernel
theorem dX12_set_2 : decode cX12_set 2 = .ok (.invokestatic 46, 3) := by decide +kernel
theorem dX12_set_5 : decode cX12_set 5 = .ok (.ifCond .ne 6, 3) := by decide +kernel
theorem dX12_set_8 : decode cX12_set 8 = .ok (.bipush (-3), 2) := by decide +kernel
theorem dX12_set_10 : decode cX12_set 10 = .ok (.ireturn, 1) := by decide +kernel
theorem dX12_set_11 : decode cX12_set 11 = .ok (.iload_n 1, 1) := by decide +kernel
theorem dX12_set_12 : decode cX12_set 12 = .ok (.bipush 6, 2) := by decide +kernel
theorem dX12_set_14 : decode cX12_set 14 = .ok (.if_icmp .ne 14, 3) := by decide +kernel
theorem dX12_set_17 : decode cX12_set 17 = .ok (.iload_n 2, 1) := by decide +kernel
theorem dX12_set_18 : decode cX12_set 18 = .ok (.aload_n 0, 1) := by decide +kernel
theorem dX12_set_19 : decode cX12_set 19 = .ok (.invokevirtual 50, 3) := by decide +kernel
theorem dX12_set_22 : decode cX12_set 22 = .ok (.if_icmp .ge 6, 3) := by decide +kernel
theorem dX12_set_25 : decode cX12_set 25 = .ok (.bipush (-7), 2) := by decide +kernel
theorem dX12_set_27 : decode cX12_set 27 = .ok (.ireturn, 1) := by decide +kernel
theorem dX12_set_28 : decode cX12_set 28 = .ok (.aload_n 0, 1) := by decide +kernel
theorem dX12_set_29 : decode cX12_set 29 = .ok (.getfield 7, 3) := by decide +kernel
theorem dX12_set_32 : decode cX12_set 32 = .ok (.iconst 1, 1) := by decide +kernel
theorem dX12_set_33 : decode cX12_set 33 = .ok (.iload_n 1, 1) := by decide +kernel
theorem dX12_set_34 : decode cX12_set 34 = .ok (.iadd, 1) := by decide +kernel
theorem dX12_set_35 : decode cX12_set 35 = .ok (.iaload, 1) := by decide +kernel
theorem dX12_set_36 : decode cX12_set 36 = .ok (.istore_n 3, 1) := by decide +kernel
theorem dX12_set_37 : decode cX12_set 37 = .ok (.aload_n 0, 1) := by decide +kernel
theorem dX12_set_38 : decode cX12_set 38 = .ok (.getfield 7, 3) := by decide +kernel
theorem dX12_set_41 : decode cX12_set 41 = .ok (.iconst 1, 1) := by decide +kernel
theorem dX12_set_42 : decode cX12_set 42 = .ok (.iload_n 1, 1) := by decide +kernel
theorem dX12_set_43 : decode cX12_set 43 = .ok (.iadd, 1) := by decide +kernel
theorem dX12_set_44 : decode cX12_set 44 = .ok (.iload_n 2, 1) := by decide +kernel
theorem dX12_set_45 : decode cX12_set 45 = .ok (.iastore, 1) := by decide +kernel
theorem dX12_set_46 : decode cX12_set 46 = .ok (.iload_n 3, 1) := by decide +kernel
theorem dX12_set_47 : decode cX12_set 47 = .ok (.ireturn, 1) := by decide +kernel
theorem dX12_setting_0 : decode cX12_setting 0 = .ok (.iload_n 1, 1) := by decide +kernel
theorem dX12_setting_1 : decode cX12_setting 1 = .ok (.iconst 0, 1) := by decide +kernel
theorem dX12_setting_2 : decode cX12_setting 2 = .ok (.bipush 7, 2) := by decide +kernel
theorem dX12_setting_4 : decode cX12_setting 4 = .ok (.invokestatic 35, 3) := by decide +kernel
theorem dX12_setting_7 : decode cX12_setting 7 = .ok (.ifCond .eq 14, 3) := by decide +kernel
theorem dX12_setting_10 : decode cX12_setting 10 = .ok (.aload_n 0, 1) := by decide +kernel
theorem dX12_setting_11 : decode cX12_setting 11 = .ok (.getfield 7, 3) := by decide +kernel
theorem dX12_setting_14 : decode cX12_setting 14 = .ok (.iconst 1, 1) := by decide +kernel
theorem dX12_setting_15 : decode cX12_setting 15 = .ok (.iload_n 1, 1) := by decide +kernel
theorem dX12_setting_16 : decode cX12_setting 16 = .ok (.iadd, 1) := by decide +kernel
theorem dX12_setting_17 : decode cX12_setting 17 = .ok (.iaload, 1) := by decide +kernel
theorem dX12_setting_18 : decode cX12_setting 18 = .ok (.goto 5, 3) := by decide +kernel
theorem dX12_setting_21 : decode cX12_setting 21 = .ok (.bipush (-3), 2) := by decide +kernel
theorem dX12_setting_23 : decode cX12_setting 23 = .ok (.ireturn, 1) := by decide +kernel
theorem dX12_monitors_0 : decode cX12_monitors 0 = .ok (.iconst 0, 1) := by decide +kernel
theorem dX12_monitors_1 : decode cX12_monitors 1 = .ok (.istore_n 1, 1) := by decide +kernel
theorem dX12_monitors_2 : decode cX12_monitors 2 = .ok (.iconst 0, 1) := by decide +kernel
theorem dX12_monitors_3 : decode cX12_monitors 3 = .ok (.istore_n 2, 1) := by decide +kernel
theorem dX12_monitors_4 : decode cX12_monitors 4 = .ok (.iload_n 2, 1) := by decide +kernel
theorem dX12_monitors_5 : decode cX12_monitors 5 = .ok (.bipush 8, 2) := by decide +kernel
theorem dX12_monitors_7 : decode cX12_monitors 7 = .ok (.if_icmp .ge 30, 3) := by decide +kernel
theorem dX12_monitors_10 : decode cX12_monitors 10 = .ok (.iload_n 1, 1) := by decide +kernel
theorem dX12_monitors_11 : decode cX12_monitors 11 = .ok (.aload_n 0, 1) := by decide +kernel
theorem dX12_monitors_12 : decode cX12_monitors 12 = .ok (.getfield 7, 3) := by decide +kernel
theorem dX12_monitors_15 : decode cX12_monitors 15 = .ok (.bipush 46, 2) := by decide +kernel
theorem dX12_monitors_17 : decode cX12_monitors 17 = .ok (.iload_n 2, 1) := by decide +kernel
theorem dX12_monitors_18 : decode cX12_monitors 18 = .ok (.iadd, 1) := by decide +kernel
theorem dX12_monitors_19 : decode cX12_monitors 19 = .ok (.iaload, 1) := by decide +kernel
theorem dX12_monitors_20 : decode cX12_monitors 20 = .ok (.iconst 4, 1) := by decide +kernel
theorem dX12_monitors_21 : decode cX12_monitors 21 = .ok (.if_icmp .ne 7, 3) := by decide +kernel
theorem dX12_monitors_24 : decode cX12_monitors 24 = .ok (.iconst 1, 1) := by decide +kernel
theorem dX12_monitors_25 : decode cX12_monitors 25 = .ok (.goto 4, 3) := by decide +kernel
theorem dX12_monitors_28 : decode cX12_monitors 28 = .ok (.iconst 0, 1) := by decide +kernel
theorem dX12_monitors_29 : decode cX12_monitors 29 = .ok (.iadd, 1) := by decide +kernel
theorem dX12_monitors_30 : decode cX12_monitors 30 = .ok (.istore_n 1, 1) := by decide +kernel
theorem dX12_monitors_31 : decode cX12_monitors 31 = .ok (.iinc 2 1, 3) := by decide +kernel
theorem dX12_monitors_34 : decode cX12_monitors 34 = .ok (.goto (-30), 3) := by decide +kernel
theorem dX12_monitors_37 : decode cX12_monitors 37 = .ok (.iload_n 1, 1) := by decide +kernel
theorem dX12_monitors_38 : decode cX12_monitors 38 = .ok (.ireturn, 1) := by decide +kernel
theorem dX12_isHeld_0 : decode cX12_isHeld 0 = .ok (.aload_n 0, 1) := by decide +kernel
theorem dX12_isHeld_1 : decode cX12_isHeld 1 = .ok (.getfield 7, 3) := by decide +kernel
theorem dX12_isHeld_4 : decode cX12_isHeld 4 = .ok (.bipush 62, 2) := by decide +kernel
theorem dX12_isHeld_6 : decode cX12_isHeld 6 = .ok (.iload_n 1, 1) := by decide +kernel
theorem dX12_isHeld_7 : decode cX12_isHeld 7 = .ok (.iadd, 1) := by decide +kernel
theorem dX12_isHeld_8 : decode cX12_isHeld 8 = .ok (.iaload, 1) := by decide +kernel
theorem dX12_isHeld_9 : decode cX12_isHeld 9 = .ok (.ifCond .le 7, 3) := by decide +kernel
theorem dX12_isHeld_12 : decode cX12_isHeld 12 = .ok (.iconst 1, 1) := by decide +kernel
theorem dX12_isHeld_13 : decode cX12_isHeld 13 = .ok (.goto 4, 3) := by decide +kernel
theorem dX12_isHeld_16 : decode cX12_isHeld 16 = .ok (.iconst 0, 1) := by decide +kernel
theorem dX12_isHeld_17 : decode cX12_isHeld 17 = .ok (.ireturn, 1) := by decide +kernel
theorem dX12_isIdle_0 : decode cX12_isIdle 0 = .ok (.aload_n 0, 1) := by decide +kernel
theorem dX12_isIdle_1 : decode cX12_isIdle 1 = .ok (.getfield 7, 3) := by decide +kernel
theorem dX12_isIdle_4 : decode cX12_isIdle 4 = .ok (.bipush 46, 2) := by decide +kernel
theorem dX12_isIdle_6 : decode cX12_isIdle 6 = .ok (.iload_n 1, 1) := by decide +kernel
theorem dX12_isIdle_7 : decode cX12_isIdle 7 = .ok (.iadd, 1) := by decide +kernel
theorem dX12_isIdle_8 : decode cX12_isIdle 8 = .ok (.iaload, 1) := by decide +kernel
theorem dX12_isIdle_9 : decode cX12_isIdle 9 = .ok (.iconst 4, 1) := by decide +kernel
theorem dX12_isIdle_10 : decode cX12_isIdle 10 = .ok (.if_icmp .ne 39, 3) := by decide +kernel
theorem dX12_isIdle_13 : decode cX12_isIdle 13 = .ok (.aload_n 0, 1) := by decide +kernel
theorem dX12_isIdle_14 : decode cX12_isIdle 14 = .ok (.iload_n 1, 1) := by decide +kernel
theorem dX12_isIdle_15 : decode cX12_isIdle 15 = .ok (.invokevirtual 54, 3) := by decide +kernel
theorem dX12_isIdle_18 : decode cX12_isIdle 18 = .ok (.ifCond .ne 31, 3) := by decide +kernel
theorem dX12_isIdle_21 : decode cX12_isIdle 21 = .ok (.aload_n 0, 1) := by decide +kernel
theorem dX12_isIdle_22 : decode cX12_isIdle 22 = .ok (.getfield 7, 3) := by decide +kernel
theorem dX12_isIdle_25 : decode cX12_isIdle 25 = .ok (.bipush 110, 2) := by decide +kernel
theorem dX12_isIdle_27 : decode cX12_isIdle 27 = .ok (.iload_n 1, 1) := by decide +kernel
theorem dX12_isIdle_28 : decode cX12_isIdle 28 = .ok (.iadd, 1) := by decide +kernel
theorem dX12_isIdle_29 : decode cX12_isIdle 29 = .ok (.iaload, 1) := by decide +kernel
theorem dX12_isIdle_30 : decode cX12_isIdle 30 = .ok (.ifCond .ne 19, 3) := by decide +kernel
theorem dX12_isIdle_33 : decode cX12_isIdle 33 = .ok (.aload_n 0, 1) := by decide +kernel
theorem dX12_isIdle_34 : decode cX12_isIdle 34 = .ok (.getfield 7, 3) := by decide +kernel
theorem dX12_isIdle_37 : decode cX12_isIdle 37 = .ok (.bipush 118, 2) := by decide +kernel
theorem dX12_isIdle_39 : decode cX12_isIdle 39 = .ok (.iload_n 1, 1) := by decide +kernel
theorem dX12_isIdle_40 : decode cX12_isIdle 40 = .ok (.iadd, 1) := by decide +kernel
theorem dX12_isIdle_41 : decode cX12_isIdle 41 = .ok (.iaload, 1) := by decide +kernel
theorem dX12_isIdle_42 : decode cX12_isIdle 42 = .ok (.ifCond .ne 7, 3) := by decide +kernel
theorem dX12_isIdle_45 : decode cX12_isIdle 45 = .ok (.iconst 1, 1) := by decide +kernel
theorem dX12_isIdle_46 : decode cX12_isIdle 46 = .ok (.goto 4, 3) := by decide +kernel
theorem dX12_isIdle_49 : decode cX12_isIdle 49 = .ok (.iconst 0, 1) := by decide +kernel
theorem dX12_isIdle_50 : decode cX12_isIdle 50 = .ok (.ireturn, 1) := by decide +kernel
theorem dX12_deflate_0 : decode cX12_deflate 0 = .ok (.aload_n 0, 1) := by decide +kernel
theorem dX12_deflate_1 : decode cX12_deflate 1 = .ok (.getfield 7, 3) := by decide +kernel
theorem dX12_deflate_4 : decode cX12_deflate 4 = .ok (.bipush 46, 2) := by decide +kernel
theorem dX12_deflate_6 : decode cX12_deflate 6 = .ok (.iload_n 1, 1) := by decide +kernel
theorem dX12_deflate_7 : decode cX12_deflate 7 = .ok (.iadd, 1) := by decide +kernel
theorem dX12_deflate_8 : decode cX12_deflate 8 = .ok (.iconst 0, 1) := by decide +kernel
theorem dX12_deflate_9 : decode cX12_deflate 9 = .ok (.iastore, 1) := by decide +kernel
theorem dX12_deflate_10 : decode cX12_deflate 10 = .ok (.aload_n 0, 1) := by decide +kernel
theorem dX12_deflate_11 : decode cX12_deflate 11 = .ok (.getfield 7, 3) := by decide +kernel
theorem dX12_deflate_14 : decode cX12_deflate 14 = .ok (.sipush 234, 3) := by decide +kernel
theorem dX12_deflate_17 : decode cX12_deflate 17 = .ok (.dup2, 1) := by decide +kernel
theorem dX12_deflate_18 : decode cX12_deflate 18 = .ok (.iaload, 1) := by decide +kernel
theorem dX12_deflate_19 : decode cX12_deflate 19 = .ok (.iconst 1, 1) := by decide +kernel
theorem dX12_deflate_20 : decode cX12_deflate 20 = .ok (.iadd, 1) := by decide +kernel
theorem dX12_deflate_21 : decode cX12_deflate 21 = .ok (.iastore, 1) := by decide +kernel
theorem dX12_deflate_22 : decode cX12_deflate 22 = .ok (.return_, 1) := by decide +kernel
theorem dX12_inflates_0 : decode cX12_inflates 0 = .ok (.aload_n 0, 1) := by decide +kernel
theorem dX12_inflates_1 : decode cX12_inflates 1 = .ok (.invokevirtual 50, 3) := by decide +kernel
theorem dX12_inflates_4 : decode cX12_inflates 4 = .ok (.aload_n 0, 1) := by decide +kernel
theorem dX12_inflates_5 : decode cX12_inflates 5 = .ok (.getfield 7, 3) := by decide +kernel
theorem dX12_inflates_8 : decode cX12_inflates 8 = .ok (.bipush 7, 2) := by decide +kernel
theorem dX12_inflates_10 : decode cX12_inflates 10 = .ok (.iaload, 1) := by decide +kernel
theorem dX12_inflates_11 : decode cX12_inflates 11 = .ok (.if_icmp .lt 65, 3) := by decide +kernel
theorem dX12_inflates_14 : decode cX12_inflates 14 = .ok (.iconst (-1), 1) := by decide +kernel
theorem dX12_inflates_15 : decode cX12_inflates 15 = .ok (.istore_n 2, 1) := by decide +kernel
theorem dX12_inflates_16 : decode cX12_inflates 16 = .ok (.iconst 0, 1) := by decide +kernel
theorem dX12_inflates_17 : decode cX12_inflates 17 = .ok (.istore_n 3, 1) := by decide +kernel
theorem dX12_inflates_18 : decode cX12_inflates 18 = .ok (.iload_n 3, 1) := by decide +kernel
theorem dX12_inflates_19 : decode cX12_inflates 19 = .ok (.bipush 8, 2) := by decide +kernel
theorem dX12_inflates_21 : decode cX12_inflates 21 = .ok (.if_icmp .ge 44, 3) := by decide +kernel
theorem dX12_inflates_24 : decode cX12_inflates 24 = .ok (.aload_n 0, 1) := by decide +kernel
theorem dX12_inflates_25 : decode cX12_inflates 25 = .ok (.iload_n 3, 1) := by decide +kernel
theorem dX12_inflates_26 : decode cX12_inflates 26 = .ok (.invokevirtual 58, 3) := by decide +kernel
theorem dX12_inflates_29 : decode cX12_inflates 29 = .ok (.ifCond .eq 30, 3) := by decide +kernel
theorem dX12_inflates_32 : decode cX12_inflates 32 = .ok (.iload_n 2, 1) := by decide +kernel
theorem dX12_inflates_33 : decode cX12_inflates 33 = .ok (.ifCond .lt 24, 3) := by decide +kernel
theorem dX12_inflates_36 : decode cX12_inflates 36 = .ok (.aload_n 0, 1) := by decide +kernel
theorem dX12_inflates_37 : decode cX12_inflates 37 = .ok (.getfield 7, 3) := by decide +kernel
theorem dX12_inflates_40 : decode cX12_inflates 40 = .ok (.bipush 102, 2) := by decide +kernel
theorem dX12_inflates_42 : decode cX12_inflates 42 = .ok (.iload_n 3, 1) := by decide +kernel
theorem dX12_inflates_43 : decode cX12_inflates 43 = .ok (.iadd, 1) := by decide +kernel
theorem dX12_inflates_44 : decode cX12_inflates 44 = .ok (.iaload, 1) := by decide +kernel
theorem dX12_inflates_45 : decode cX12_inflates 45 = .ok (.aload_n 0, 1) := by decide +kernel
theorem dX12_inflates_46 : decode cX12_inflates 46 = .ok (.getfield 7, 3) := by decide +kernel
theorem dX12_inflates_49 : decode cX12_inflates 49 = .ok (.bipush 102, 2) := by decide +kernel
theorem dX12_inflates_51 : decode cX12_inflates 51 = .ok (.iload_n 2, 1) := by decide +kernel
theorem dX12_inflates_52 : decode cX12_inflates 52 = .ok (.iadd, 1) := by decide +kernel
theorem dX12_inflates_53 : decode cX12_inflates 53 = .ok (.iaload, 1) := by decide +kernel
theorem dX12_inflates_54 : decode cX12_inflates 54 = .ok (.if_icmp .ge 5, 3) := by decide +kernel
theorem dX12_inflates_57 : decode cX12_inflates 57 = .ok (.iload_n 3, 1) := by decide +kernel
theorem dX12_inflates_58 : decode cX12_inflates 58 = .ok (.istore_n 2, 1) := by decide +kernel
theorem dX12_inflates_59 : decode cX12_inflates 59 = .ok (.iinc 3 1, 3) := by decide +kernel
theorem dX12_inflates_62 : decode cX12_inflates 62 = .ok (.goto (-44), 3) := by decide +kernel
theorem dX12_inflates_65 : decode cX12_inflates 65 = .ok (.iload_n 2, 1) := by decide +kernel
theorem dX12_inflates_66 : decode cX12_inflates 66 = .ok (.ifCond .ge 5, 3) := by decide +kernel
theorem dX12_inflates_69 : decode cX12_inflates 69 = .ok (.iconst 0, 1) := by decide +kernel
theorem dX12_inflates_70 : decode cX12_inflates 70 = .ok (.ireturn, 1) := by decide +kernel
theorem dX12_inflates_71 : decode cX12_inflates 71 = .ok (.aload_n 0, 1) := by decide +kernel
theorem dX12_inflates_72 : decode cX12_inflates 72 = .ok (.iload_n 2, 1) := by decide +kernel
theorem dX12_inflates_73 : decode cX12_inflates 73 = .ok (.invokevirtual 61, 3) := by decide +kernel
theorem dX12_inflates_76 : decode cX12_inflates 76 = .ok (.aload_n 0, 1) := by decide +kernel
theorem dX12_inflates_77 : decode cX12_inflates 77 = .ok (.getfield 7, 3) := by decide +kernel
theorem dX12_inflates_80 : decode cX12_inflates 80 = .ok (.bipush 46, 2) := by decide +kernel
theorem dX12_inflates_82 : decode cX12_inflates 82 = .ok (.iload_n 1, 1) := by decide +kernel
theorem dX12_inflates_83 : decode cX12_inflates 83 = .ok (.iadd, 1) := by decide +kernel
theorem dX12_inflates_84 : decode cX12_inflates 84 = .ok (.iconst 4, 1) := by decide +kernel
theorem dX12_inflates_85 : decode cX12_inflates 85 = .ok (.iastore, 1) := by decide +kernel
theorem dX12_inflates_86 : decode cX12_inflates 86 = .ok (.aload_n 0, 1) := by decide +kernel
theorem dX12_inflates_87 : decode cX12_inflates 87 = .ok (.getfield 7, 3) := by decide +kernel
theorem dX12_inflates_90 : decode cX12_inflates 90 = .ok (.bipush 70, 2) := by decide +kernel
theorem dX12_inflates_92 : decode cX12_inflates 92 = .ok (.iload_n 1, 1) := by decide +kernel
theorem dX12_inflates_93 : decode cX12_inflates 93 = .ok (.iadd, 1) := by decide +kernel
theorem dX12_inflates_94 : decode cX12_inflates 94 = .ok (.bipush (-8), 2) := by decide +kernel
theorem dX12_inflates_96 : decode cX12_inflates 96 = .ok (.iastore, 1) := by decide +kernel
theorem dX12_inflates_97 : decode cX12_inflates 97 = .ok (.aload_n 0, 1) := by decide +kernel
theorem dX12_inflates_98 : decode cX12_inflates 98 = .ok (.getfield 7, 3) := by decide +kernel
theorem dX12_inflates_101 : decode cX12_inflates 101 = .ok (.bipush 102, 2) := by decide +kernel
theorem dX12_inflates_103 : decode cX12_inflates 103 = .ok (.iload_n 1, 1) := by decide +kernel
theorem dX12_inflates_104 : decode cX12_inflates 104 = .ok (.iadd, 1) := by decide +kernel
theorem dX12_inflates_105 : decode cX12_inflates 105 = .ok (.aload_n 0, 1) := by decide +kernel
theorem dX12_inflates_106 : decode cX12_inflates 106 = .ok (.getfield 7, 3) := by decide +kernel
theorem dX12_inflates_109 : decode cX12_inflates 109 = .ok (.bipush 9, 2) := by decide +kernel
theorem dX12_inflates_111 : decode cX12_inflates 111 = .ok (.iaload, 1) := by decide +kernel
theorem dX12_inflates_112 : decode cX12_inflates 112 = .ok (.iastore, 1) := by decide +kernel
theorem dX12_inflates_113 : decode cX12_inflates 113 = .ok (.aload_n 0, 1) := by decide +kernel
theorem dX12_inflates_114 : decode cX12_inflates 114 = .ok (.getfield 7, 3) := by decide +kernel
theorem dX12_inflates_117 : decode cX12_inflates 117 = .ok (.sipush 233, 3) := by decide +kernel
theorem dX12_inflates_120 : decode cX12_inflates 120 = .ok (.dup2, 1) := by decide +kernel
theorem dX12_inflates_121 : decode cX12_inflates 121 = .ok (.iaload, 1) := by decide +kernel
theorem dX12_inflates_122 : decode cX12_inflates 122 = .ok (.iconst 1, 1) := by decide +kernel
theorem dX12_inflates_123 : decode cX12_inflates 123 = .ok (.iadd, 1) := by decide +kernel
theorem dX12_inflates_124 : decode cX12_inflates 124 = .ok (.iastore, 1) := by decide +kernel
theorem dX12_inflates_125 : decode cX12_inflates 125 = .ok (.iconst 1, 1) := by decide +kernel
theorem dX12_inflates_126 : decode cX12_inflates 126 = .ok (.ireturn, 1) := by decide +kernel
theorem dX12_queueUp_0 : decode cX12_queueUp 0 = .ok (.aload_n 0, 1) := by decide +kernel
theorem dX12_queueUp_1 : decode cX12_queueUp 1 = .ok (.getfield 7, 3) := by decide +kernel
theorem dX12_queueUp_4 : decode cX12_queueUp 4 = .ok (.bipush 126, 2) := by decide +kernel
theorem dX12_queueUp_6 : decode cX12_queueUp 6 = .ok (.bipush 6, 2) := by decide +kernel
theorem dX12_queueUp_8 : decode cX12_queueUp 8 = .ok (.iload_n 2, 1) := by decide +kernel
theorem dX12_queueUp_9 : decode cX12_queueUp 9 = .ok (.imul, 1) := by decide +kernel
theorem dX12_queueUp_10 : decode cX12_queueUp 10 = .ok (.iadd, 1) := by decide +kernel
theorem dX12_queueUp_11 : decode cX12_queueUp 11 = .ok (.aload_n 0, 1) := by decide +kernel
theorem dX12_queueUp_12 : decode cX12_queueUp 12 = .ok (.getfield 7, 3) := by decide +kernel
theorem dX12_queueUp_15 : decode cX12_queueUp 15 = .ok (.bipush 110, 2) := by decide +kernel
theorem dX12_queueUp_17 : decode cX12_queueUp 17 = .ok (.iload_n 2, 1) := by decide +kernel
theorem dX12_queueUp_18 : decode cX12_queueUp 18 = .ok (.iadd, 1) := by decide +kernel
theorem dX12_queueUp_19 : decode cX12_queueUp 19 = .ok (.iaload, 1) := by decide +kernel
theorem dX12_queueUp_20 : decode cX12_queueUp 20 = .ok (.iadd, 1) := by decide +kernel
theorem dX12_queueUp_21 : decode cX12_queueUp 21 = .ok (.iload_n 1, 1) := by decide +kernel
theorem dX12_queueUp_22 : decode cX12_queueUp 22 = .ok (.iastore, 1) := by decide +kernel
theorem dX12_queueUp_23 : decode cX12_queueUp 23 = .ok (.aload_n 0, 1) := by decide +kernel
theorem dX12_queueUp_24 : decode cX12_queueUp 24 = .ok (.getfield 7, 3) := by decide +kernel
theorem dX12_queueUp_27 : decode cX12_queueUp 27 = .ok (.bipush 110, 2) := by decide +kernel
theorem dX12_queueUp_29 : decode cX12_queueUp 29 = .ok (.iload_n 2, 1) := by decide +kernel
theorem dX12_queueUp_30 : decode cX12_queueUp 30 = .ok (.iadd, 1) := by decide +kernel
theorem dX12_queueUp_31 : decode cX12_queueUp 31 = .ok (.dup2, 1) := by decide +kernel
theorem dX12_queueUp_32 : decode cX12_queueUp 32 = .ok (.iaload, 1) := by decide +kernel
theorem dX12_queueUp_33 : decode cX12_queueUp 33 = .ok (.iconst 1, 1) := by decide +kernel
theorem dX12_queueUp_34 : decode cX12_queueUp 34 = .ok (.iadd, 1) := by decide +kernel
theorem dX12_queueUp_35 : decode cX12_queueUp 35 = .ok (.iastore, 1) := by decide +kernel
theorem dX12_queueUp_36 : decode cX12_queueUp 36 = .ok (.aload_n 0, 1) := by decide +kernel
theorem dX12_queueUp_37 : decode cX12_queueUp 37 = .ok (.getfield 7, 3) := by decide +kernel
theorem dX12_queueUp_40 : decode cX12_queueUp 40 = .ok (.bipush 10, 2) := by decide +kernel
theorem dX12_queueUp_42 : decode cX12_queueUp 42 = .ok (.iload_n 1, 1) := by decide +kernel
theorem dX12_queueUp_43 : decode cX12_queueUp 43 = .ok (.iadd, 1) := by decide +kernel
theorem dX12_queueUp_44 : decode cX12_queueUp 44 = .ok (.iconst 1, 1) := by decide +kernel
theorem dX12_queueUp_45 : decode cX12_queueUp 45 = .ok (.iastore, 1) := by decide +kernel
theorem dX12_queueUp_46 : decode cX12_queueUp 46 = .ok (.aload_n 0, 1) := by decide +kernel
theorem dX12_queueUp_47 : decode cX12_queueUp 47 = .ok (.getfield 7, 3) := by decide +kernel
theorem dX12_queueUp_50 : decode cX12_queueUp 50 = .ok (.bipush 28, 2) := by decide +kernel
theorem dX12_queueUp_52 : decode cX12_queueUp 52 = .ok (.iload_n 1, 1) := by decide +kernel
theorem dX12_queueUp_53 : decode cX12_queueUp 53 = .ok (.iadd, 1) := by decide +kernel
theorem dX12_queueUp_54 : decode cX12_queueUp 54 = .ok (.iload_n 2, 1) := by decide +kernel
theorem dX12_queueUp_55 : decode cX12_queueUp 55 = .ok (.iastore, 1) := by decide +kernel
theorem dX12_queueUp_56 : decode cX12_queueUp 56 = .ok (.return_, 1) := by decide +kernel
theorem dX12_queueFirst_0 : decode cX12_queueFirst 0 = .ok (.aload_n 0, 1) := by decide +kernel
theorem dX12_queueFirst_1 : decode cX12_queueFirst 1 = .ok (.getfield 7, 3) := by decide +kernel
theorem dX12_queueFirst_4 : decode cX12_queueFirst 4 = .ok (.bipush 110, 2) := by decide +kernel
theorem dX12_queueFirst_6 : decode cX12_queueFirst 6 = .ok (.iload_n 2, 1) := by decide +kernel
theorem dX12_queueFirst_7 : decode cX12_queueFirst 7 = .ok (.iadd, 1) := by decide +kernel
theorem dX12_queueFirst_8 : decode cX12_queueFirst 8 = .ok (.iaload, 1) := by decide +kernel
theorem dX12_queueFirst_9 : decode cX12_queueFirst 9 = .ok (.istore_n 3, 1) := by decide +kernel
theorem dX12_queueFirst_10 : decode cX12_queueFirst 10 = .ok (.iload_n 3, 1) := by decide +kernel
theorem dX12_queueFirst_11 : decode cX12_queueFirst 11 = .ok (.ifCond .le 39, 3) := by decide +kernel
theorem dX12_queueFirst_14 : decode cX12_queueFirst 14 = .ok (.aload_n 0, 1) := by decide +kernel
theorem dX12_queueFirst_15 : decode cX12_queueFirst 15 = .ok (.getfield 7, 3) := by decide +kernel
theorem dX12_queueFirst_18 : decode cX12_queueFirst 18 = .ok (.bipush 126, 2) := by decide +kernel
theorem dX12_queueFirst_20 : decode cX12_queueFirst 20 = .ok (.bipush 6, 2) := by decide +kernel
theorem dX12_queueFirst_22 : decode cX12_queueFirst 22 = .ok (.iload_n 2, 1) := by decide +kernel
theorem dX12_queueFirst_23 : decode cX12_queueFirst 23 = .ok (.imul, 1) := by decide +kernel
theorem dX12_queueFirst_24 : decode cX12_queueFirst 24 = .ok (.iadd, 1) := by decide +kernel
theorem dX12_queueFirst_25 : decode cX12_queueFirst 25 = .ok (.iload_n 3, 1) := by decide +kernel
theorem dX12_queueFirst_26 : decode cX12_queueFirst 26 = .ok (.iadd, 1) := by decide +kernel
theorem dX12_queueFirst_27 : decode cX12_queueFirst 27 = .ok (.aload_n 0, 1) := by decide +kernel
theorem dX12_queueFirst_28 : decode cX12_queueFirst 28 = .ok (.getfield 7, 3) := by decide +kernel
theorem dX12_queueFirst_31 : decode cX12_queueFirst 31 = .ok (.bipush 126, 2) := by decide +kernel
theorem dX12_queueFirst_33 : decode cX12_queueFirst 33 = .ok (.bipush 6, 2) := by decide +kernel
theorem dX12_queueFirst_35 : decode cX12_queueFirst 35 = .ok (.iload_n 2, 1) := by decide +kernel
theorem dX12_queueFirst_36 : decode cX12_queueFirst 36 = .ok (.imul, 1) := by decide +kernel
theorem dX12_queueFirst_37 : decode cX12_queueFirst 37 = .ok (.iadd, 1) := by decide +kernel
theorem dX12_queueFirst_38 : decode cX12_queueFirst 38 = .ok (.iload_n 3, 1) := by decide +kernel
theorem dX12_queueFirst_39 : decode cX12_queueFirst 39 = .ok (.iadd, 1) := by decide +kernel
theorem dX12_queueFirst_40 : decode cX12_queueFirst 40 = .ok (.iconst 1, 1) := by decide +kernel
theorem dX12_queueFirst_41 : decode cX12_queueFirst 41 = .ok (.isub, 1) := by decide +kernel
theorem dX12_queueFirst_42 : decode cX12_queueFirst 42 = .ok (.iaload, 1) := by decide +kernel
theorem dX12_queueFirst_43 : decode cX12_queueFirst 43 = .ok (.iastore, 1) := by decide +kernel
theorem dX12_queueFirst_44 : decode cX12_queueFirst 44 = .ok (.iinc 3 (-1), 3) := by decide +kernel
theorem dX12_queueFirst_47 : decode cX12_queueFirst 47 = .ok (.goto (-37), 3) := by decide +kernel
theorem dX12_queueFirst_50 : decode cX12_queueFirst 50 = .ok (.aload_n 0, 1) := by decide +kernel
theorem dX12_queueFirst_51 : decode cX12_queueFirst 51 = .ok (.getfield 7, 3) := by decide +kernel
theorem dX12_queueFirst_54 : decode cX12_queueFirst 54 = .ok (.bipush 126, 2) := by decide +kernel
theorem dX12_queueFirst_56 : decode cX12_queueFirst 56 = .ok (.bipush 6, 2) := by decide +kernel
theorem dX12_queueFirst_58 : decode cX12_queueFirst 58 = .ok (.iload_n 2, 1) := by decide +kernel
theorem dX12_queueFirst_59 : decode cX12_queueFirst 59 = .ok (.imul, 1) := by decide +kernel
theorem dX12_queueFirst_60 : decode cX12_queueFirst 60 = .ok (.iadd, 1) := by decide +kernel
theorem dX12_queueFirst_61 : decode cX12_queueFirst 61 = .ok (.iload_n 1, 1) := by decide +kernel
theorem dX12_queueFirst_62 : decode cX12_queueFirst 62 = .ok (.iastore, 1) := by decide +kernel
theorem dX12_queueFirst_63 : decode cX12_queueFirst 63 = .ok (.aload_n 0, 1) := by decide +kernel
theorem dX12_queueFirst_64 : decode cX12_queueFirst 64 = .ok (.getfield 7, 3) := by decide +kernel
theorem dX12_queueFirst_67 : decode cX12_queueFirst 67 = .ok (.bipush 110, 2) := by decide +kernel
theorem dX12_queueFirst_69 : decode cX12_queueFirst 69 = .ok (.iload_n 2, 1) := by decide +kernel
theorem dX12_queueFirst_70 : decode cX12_queueFirst 70 = .ok (.iadd, 1) := by decide +kernel
theorem dX12_queueFirst_71 : decode cX12_queueFirst 71 = .ok (.dup2, 1) := by decide +kernel
theorem dX12_queueFirst_72 : decode cX12_queueFirst 72 = .ok (.iaload, 1) := by decide +kernel
theorem dX12_queueFirst_73 : decode cX12_queueFirst 73 = .ok (.iconst 1, 1) := by decide +kernel
theorem dX12_queueFirst_74 : decode cX12_queueFirst 74 = .ok (.iadd, 1) := by decide +kernel
theorem dX12_queueFirst_75 : decode cX12_queueFirst 75 = .ok (.iastore, 1) := by decide +kernel
theorem dX12_queueFirst_76 : decode cX12_queueFirst 76 = .ok (.aload_n 0, 1) := by decide +kernel
theorem dX12_queueFirst_77 : decode cX12_queueFirst 77 = .ok (.getfield 7, 3) := by decide +kernel
theorem dX12_queueFirst_80 : decode cX12_queueFirst 80 = .ok (.bipush 10, 2) := by decide +kernel
theorem dX12_queueFirst_82 : decode cX12_queueFirst 82 = .ok (.iload_n 1, 1) := by decide +kernel
theorem dX12_queueFirst_83 : decode cX12_queueFirst 83 = .ok (.iadd, 1) := by decide +kernel
theorem dX12_queueFirst_84 : decode cX12_queueFirst 84 = .ok (.iconst 1, 1) := by decide +kernel
theorem dX12_queueFirst_85 : decode cX12_queueFirst 85 = .ok (.iastore, 1) := by decide +kernel
theorem dX12_queueFirst_86 : decode cX12_queueFirst 86 = .ok (.aload_n 0, 1) := by decide +kernel
theorem dX12_queueFirst_87 : decode cX12_queueFirst 87 = .ok (.getfield 7, 3) := by decide +kernel
theorem dX12_queueFirst_90 : decode cX12_queueFirst 90 = .ok (.bipush 28, 2) := by decide +kernel
theorem dX12_queueFirst_92 : decode cX12_queueFirst 92 = .ok (.iload_n 1, 1) := by decide +kernel
theorem dX12_queueFirst_93 : decode cX12_queueFirst 93 = .ok (.iadd, 1) := by decide +kernel
theorem dX12_queueFirst_94 : decode cX12_queueFirst 94 = .ok (.iload_n 2, 1) := by decide +kernel
theorem dX12_queueFirst_95 : decode cX12_queueFirst 95 = .ok (.iastore, 1) := by decide +kernel
theorem dX12_queueFirst_96 : decode cX12_queueFirst 96 = .ok (.return_, 1) := by decide +kernel
theorem dX12_takeOut_0 : decode cX12_takeOut 0 = .ok (.iconst 0, 1) := by decide +kernel
theorem dX12_takeOut_1 : decode cX12_takeOut 1 = .ok (.istore 4, 2) := by decide +kernel
theorem dX12_takeOut_3 : decode cX12_takeOut 3 = .ok (.iconst 0, 1) := by decide +kernel
theorem dX12_takeOut_4 : decode cX12_takeOut 4 = .ok (.istore 5, 2) := by decide +kernel
theorem dX12_takeOut_6 : decode cX12_takeOut 6 = .ok (.iload 5, 2) := by decide +kernel
theorem dX12_takeOut_8 : decode cX12_takeOut 8 = .ok (.aload_n 0, 1) := by decide +kernel
theorem dX12_takeOut_9 : decode cX12_takeOut 9 = .ok (.getfield 7, 3) := by decide +kernel
theorem dX12_takeOut_12 : decode cX12_takeOut 12 = .ok (.iload_n 3, 1) := by decide +kernel
theorem dX12_takeOut_13 : decode cX12_takeOut 13 = .ok (.iaload, 1) := by decide +kernel
theorem dX12_takeOut_14 : decode cX12_takeOut 14 = .ok (.if_icmp .ge 40, 3) := by decide +kernel
theorem dX12_takeOut_17 : decode cX12_takeOut 17 = .ok (.aload_n 0, 1) := by decide +kernel
theorem dX12_takeOut_18 : decode cX12_takeOut 18 = .ok (.getfield 7, 3) := by decide +kernel
theorem dX12_takeOut_21 : decode cX12_takeOut 21 = .ok (.iload_n 2, 1) := by decide +kernel
theorem dX12_takeOut_22 : decode cX12_takeOut 22 = .ok (.iload 5, 2) := by decide +kernel
theorem dX12_takeOut_24 : decode cX12_takeOut 24 = .ok (.iadd, 1) := by decide +kernel
theorem dX12_takeOut_25 : decode cX12_takeOut 25 = .ok (.iaload, 1) := by decide +kernel
theorem dX12_takeOut_26 : decode cX12_takeOut 26 = .ok (.istore 6, 2) := by decide +kernel
theorem dX12_takeOut_28 : decode cX12_takeOut 28 = .ok (.iload 6, 2) := by decide +kernel
theorem dX12_takeOut_30 : decode cX12_takeOut 30 = .ok (.iload_n 1, 1) := by decide +kernel
theorem dX12_takeOut_31 : decode cX12_takeOut 31 = .ok (.if_icmp .eq 17, 3) := by decide +kernel
theorem dX12_takeOut_34 : decode cX12_takeOut 34 = .ok (.aload_n 0, 1) := by decide +kernel
theorem dX12_takeOut_35 : decode cX12_takeOut 35 = .ok (.getfield 7, 3) := by decide +kernel
theorem dX12_takeOut_38 : decode cX12_takeOut 38 = .ok (.iload_n 2, 1) := by decide +kernel
theorem dX12_takeOut_39 : decode cX12_takeOut 39 = .ok (.iload 4, 2) := by decide +kernel
theorem dX12_takeOut_41 : decode cX12_takeOut 41 = .ok (.iadd, 1) := by decide +kernel
theorem dX12_takeOut_42 : decode cX12_takeOut 42 = .ok (.iload 6, 2) := by decide +kernel
theorem dX12_takeOut_44 : decode cX12_takeOut 44 = .ok (.iastore, 1) := by decide +kernel
theorem dX12_takeOut_45 : decode cX12_takeOut 45 = .ok (.iinc 4 1, 3) := by decide +kernel
theorem dX12_takeOut_48 : decode cX12_takeOut 48 = .ok (.iinc 5 1, 3) := by decide +kernel
theorem dX12_takeOut_51 : decode cX12_takeOut 51 = .ok (.goto (-45), 3) := by decide +kernel
theorem dX12_takeOut_54 : decode cX12_takeOut 54 = .ok (.aload_n 0, 1) := by decide +kernel
theorem dX12_takeOut_55 : decode cX12_takeOut 55 = .ok (.getfield 7, 3) := by decide +kernel
theorem dX12_takeOut_58 : decode cX12_takeOut 58 = .ok (.iload_n 3, 1) := by decide +kernel
theorem dX12_takeOut_59 : decode cX12_takeOut 59 = .ok (.iload 4, 2) := by decide +kernel
theorem dX12_takeOut_61 : decode cX12_takeOut 61 = .ok (.iastore, 1) := by decide +kernel
theorem dX12_takeOut_62 : decode cX12_takeOut 62 = .ok (.return_, 1) := by decide +kernel
theorem dX12_endWait_0 : decode cX12_endWait 0 = .ok (.aload_n 0, 1) := by decide +kernel
theorem dX12_endWait_1 : decode cX12_endWait 1 = .ok (.getfield 7, 3) := by decide +kernel
theorem dX12_endWait_4 : decode cX12_endWait 4 = .ok (.bipush 28, 2) := by decide +kernel
theorem dX12_endWait_6 : decode cX12_endWait 6 = .ok (.iload_n 1, 1) := by decide +kernel
theorem dX12_endWait_7 : decode cX12_endWait 7 = .ok (.iadd, 1) := by decide +kernel
theorem dX12_endWait_8 : decode cX12_endWait 8 = .ok (.iaload, 1) := by decide +kernel
theorem dX12_endWait_9 : decode cX12_endWait 9 = .ok (.istore 4, 2) := by decide +kernel
theorem dX12_endWait_11 : decode cX12_endWait 11 = .ok (.aload_n 0, 1) := by decide +kernel
theorem dX12_endWait_12 : decode cX12_endWait 12 = .ok (.iload_n 1, 1) := by decide +kernel
theorem dX12_endWait_13 : decode cX12_endWait 13 = .ok (.sipush 174, 3) := by decide +kernel
theorem dX12_endWait_16 : decode cX12_endWait 16 = .ok (.bipush 6, 2) := by decide +kernel
theorem dX12_endWait_18 : decode cX12_endWait 18 = .ok (.iload 4, 2) := by decide +kernel
theorem dX12_endWait_20 : decode cX12_endWait 20 = .ok (.imul, 1) := by decide +kernel
theorem dX12_endWait_21 : decode cX12_endWait 21 = .ok (.iadd, 1) := by decide +kernel
theorem dX12_endWait_22 : decode cX12_endWait 22 = .ok (.bipush 118, 2) := by decide +kernel
theorem dX12_endWait_24 : decode cX12_endWait 24 = .ok (.iload 4, 2) := by decide +kernel
theorem dX12_endWait_26 : decode cX12_endWait 26 = .ok (.iadd, 1) := by decide +kernel
theorem dX12_endWait_27 : decode cX12_endWait 27 = .ok (.invokevirtual 64, 3) := by decide +kernel
theorem dX12_endWait_30 : decode cX12_endWait 30 = .ok (.aload_n 0, 1) := by decide +kernel
theorem dX12_endWait_31 : decode cX12_endWait 31 = .ok (.getfield 7, 3) := by decide +kernel
theorem dX12_endWait_34 : decode cX12_endWait 34 = .ok (.bipush 22, 2) := by decide +kernel
theorem dX12_endWait_36 : decode cX12_endWait 36 = .ok (.iload_n 1, 1) := by decide +kernel
theorem dX12_endWait_37 : decode cX12_endWait 37 = .ok (.iadd, 1) := by decide +kernel
theorem dX12_endWait_38 : decode cX12_endWait 38 = .ok (.iload_n 2, 1) := by decide +kernel
theorem dX12_endWait_39 : decode cX12_endWait 39 = .ok (.iastore, 1) := by decide +kernel
theorem dX12_endWait_40 : decode cX12_endWait 40 = .ok (.iload_n 3, 1) := by decide +kernel
theorem dX12_endWait_41 : decode cX12_endWait 41 = .ok (.ifCond .eq 13, 3) := by decide +kernel
theorem dX12_endWait_44 : decode cX12_endWait 44 = .ok (.aload_n 0, 1) := by decide +kernel
theorem dX12_endWait_45 : decode cX12_endWait 45 = .ok (.iload_n 1, 1) := by decide +kernel
theorem dX12_endWait_46 : decode cX12_endWait 46 = .ok (.iload 4, 2) := by decide +kernel
theorem dX12_endWait_48 : decode cX12_endWait 48 = .ok (.invokevirtual 68, 3) := by decide +kernel
theorem dX12_endWait_51 : decode cX12_endWait 51 = .ok (.goto 10, 3) := by decide +kernel
theorem dX12_endWait_54 : decode cX12_endWait 54 = .ok (.aload_n 0, 1) := by decide +kernel
theorem dX12_endWait_55 : decode cX12_endWait 55 = .ok (.iload_n 1, 1) := by decide +kernel
theorem dX12_endWait_56 : decode cX12_endWait 56 = .ok (.iload 4, 2) := by decide +kernel
theorem dX12_endWait_58 : decode cX12_endWait 58 = .ok (.invokevirtual 72, 3) := by decide +kernel
theorem dX12_endWait_61 : decode cX12_endWait 61 = .ok (.return_, 1) := by decide +kernel
theorem dX12_hold_0 : decode cX12_hold 0 = .ok (.aload_n 0, 1) := by decide +kernel
theorem dX12_hold_1 : decode cX12_hold 1 = .ok (.getfield 7, 3) := by decide +kernel
theorem dX12_hold_4 : decode cX12_hold 4 = .ok (.bipush 54, 2) := by decide +kernel
theorem dX12_hold_6 : decode cX12_hold 6 = .ok (.iload_n 2, 1) := by decide +kernel
theorem dX12_hold_7 : decode cX12_hold 7 = .ok (.iadd, 1) := by decide +kernel
theorem dX12_hold_8 : decode cX12_hold 8 = .ok (.iload_n 1, 1) := by decide +kernel
theorem dX12_hold_9 : decode cX12_hold 9 = .ok (.iastore, 1) := by decide +kernel
theorem dX12_hold_10 : decode cX12_hold 10 = .ok (.aload_n 0, 1) := by decide +kernel
theorem dX12_hold_11 : decode cX12_hold 11 = .ok (.getfield 7, 3) := by decide +kernel
theorem dX12_hold_14 : decode cX12_hold 14 = .ok (.bipush 62, 2) := by decide +kernel
theorem dX12_hold_16 : decode cX12_hold 16 = .ok (.iload_n 2, 1) := by decide +kernel
theorem dX12_hold_17 : decode cX12_hold 17 = .ok (.iadd, 1) := by decide +kernel
theorem dX12_hold_18 : decode cX12_hold 18 = .ok (.iload_n 3, 1) := by decide +kernel
theorem dX12_hold_19 : decode cX12_hold 19 = .ok (.iastore, 1) := by decide +kernel
theorem dX12_hold_20 : decode cX12_hold 20 = .ok (.aload_n 0, 1) := by decide +kernel
theorem dX12_hold_21 : decode cX12_hold 21 = .ok (.getfield 7, 3) := by decide +kernel
theorem dX12_hold_24 : decode cX12_hold 24 = .ok (.bipush 86, 2) := by decide +kernel
theorem dX12_hold_26 : decode cX12_hold 26 = .ok (.iload_n 2, 1) := by decide +kernel
theorem dX12_hold_27 : decode cX12_hold 27 = .ok (.iadd, 1) := by decide +kernel
theorem dX12_hold_28 : decode cX12_hold 28 = .ok (.iaload, 1) := by decide +kernel
theorem dX12_hold_29 : decode cX12_hold 29 = .ok (.iconst 1, 1) := by decide +kernel
theorem dX12_hold_30 : decode cX12_hold 30 = .ok (.if_icmp .ne 25, 3) := by decide +kernel
theorem dX12_hold_33 : decode cX12_hold 33 = .ok (.aload_n 0, 1) := by decide +kernel
theorem dX12_hold_34 : decode cX12_hold 34 = .ok (.getfield 7, 3) := by decide +kernel
theorem dX12_hold_37 : decode cX12_hold 37 = .ok (.bipush 86, 2) := by decide +kernel
theorem dX12_hold_39 : decode cX12_hold 39 = .ok (.iload_n 2, 1) := by decide +kernel
theorem dX12_hold_40 : decode cX12_hold 40 = .ok (.iadd, 1) := by decide +kernel
theorem dX12_hold_41 : decode cX12_hold 41 = .ok (.iconst 0, 1) := by decide +kernel
theorem dX12_hold_42 : decode cX12_hold 42 = .ok (.iastore, 1) := by decide +kernel
theorem dX12_hold_43 : decode cX12_hold 43 = .ok (.aload_n 0, 1) := by decide +kernel
theorem dX12_hold_44 : decode cX12_hold 44 = .ok (.getfield 7, 3) := by decide +kernel
theorem dX12_hold_47 : decode cX12_hold 47 = .ok (.sipush 239, 3) := by decide +kernel
theorem dX12_hold_50 : decode cX12_hold 50 = .ok (.dup2, 1) := by decide +kernel
theorem dX12_hold_51 : decode cX12_hold 51 = .ok (.iaload, 1) := by decide +kernel
theorem dX12_hold_52 : decode cX12_hold 52 = .ok (.iconst 1, 1) := by decide +kernel
theorem dX12_hold_53 : decode cX12_hold 53 = .ok (.iadd, 1) := by decide +kernel
theorem dX12_hold_54 : decode cX12_hold 54 = .ok (.iastore, 1) := by decide +kernel
theorem dX12_hold_55 : decode cX12_hold 55 = .ok (.return_, 1) := by decide +kernel
theorem dX12_acquire_0 : decode cX12_acquire 0 = .ok (.aload_n 0, 1) := by decide +kernel
theorem dX12_acquire_1 : decode cX12_acquire 1 = .ok (.getfield 7, 3) := by decide +kernel
theorem dX12_acquire_4 : decode cX12_acquire 4 = .ok (.bipush 126, 2) := by decide +kernel
theorem dX12_acquire_6 : decode cX12_acquire 6 = .ok (.bipush 6, 2) := by decide +kernel
theorem dX12_acquire_8 : decode cX12_acquire 8 = .ok (.iload_n 1, 1) := by decide +kernel
theorem dX12_acquire_9 : decode cX12_acquire 9 = .ok (.imul, 1) := by decide +kernel
theorem dX12_acquire_10 : decode cX12_acquire 10 = .ok (.iadd, 1) := by decide +kernel
theorem dX12_acquire_11 : decode cX12_acquire 11 = .ok (.iaload, 1) := by decide +kernel
theorem dX12_acquire_12 : decode cX12_acquire 12 = .ok (.istore_n 2, 1) := by decide +kernel
theorem dX12_acquire_13 : decode cX12_acquire 13 = .ok (.aload_n 0, 1) := by decide +kernel
theorem dX12_acquire_14 : decode cX12_acquire 14 = .ok (.iload_n 2, 1) := by decide +kernel
theorem dX12_acquire_15 : decode cX12_acquire 15 = .ok (.bipush 126, 2) := by decide +kernel
theorem dX12_acquire_17 : decode cX12_acquire 17 = .ok (.bipush 6, 2) := by decide +kernel
theorem dX12_acquire_19 : decode cX12_acquire 19 = .ok (.iload_n 1, 1) := by decide +kernel
theorem dX12_acquire_20 : decode cX12_acquire 20 = .ok (.imul, 1) := by decide +kernel
theorem dX12_acquire_21 : decode cX12_acquire 21 = .ok (.iadd, 1) := by decide +kernel
theorem dX12_acquire_22 : decode cX12_acquire 22 = .ok (.bipush 110, 2) := by decide +kernel
theorem dX12_acquire_24 : decode cX12_acquire 24 = .ok (.iload_n 1, 1) := by decide +kernel
theorem dX12_acquire_25 : decode cX12_acquire 25 = .ok (.iadd, 1) := by decide +kernel
theorem dX12_acquire_26 : decode cX12_acquire 26 = .ok (.invokevirtual 64, 3) := by decide +kernel
theorem dX12_acquire_29 : decode cX12_acquire 29 = .ok (.aload_n 0, 1) := by decide +kernel
theorem dX12_acquire_30 : decode cX12_acquire 30 = .ok (.getfield 7, 3) := by decide +kernel
theorem dX12_acquire_33 : decode cX12_acquire 33 = .ok (.bipush 10, 2) := by decide +kernel
theorem dX12_acquire_35 : decode cX12_acquire 35 = .ok (.iload_n 2, 1) := by decide +kernel
theorem dX12_acquire_36 : decode cX12_acquire 36 = .ok (.iadd, 1) := by decide +kernel
theorem dX12_acquire_37 : decode cX12_acquire 37 = .ok (.iconst 0, 1) := by decide +kernel
theorem dX12_acquire_38 : decode cX12_acquire 38 = .ok (.iastore, 1) := by decide +kernel
theorem dX12_acquire_39 : decode cX12_acquire 39 = .ok (.aload_n 0, 1) := by decide +kernel
theorem dX12_acquire_40 : decode cX12_acquire 40 = .ok (.getfield 7, 3) := by decide +kernel
theorem dX12_acquire_43 : decode cX12_acquire 43 = .ok (.bipush 28, 2) := by decide +kernel
theorem dX12_acquire_45 : decode cX12_acquire 45 = .ok (.iload_n 2, 1) := by decide +kernel
theorem dX12_acquire_46 : decode cX12_acquire 46 = .ok (.iadd, 1) := by decide +kernel
theorem dX12_acquire_47 : decode cX12_acquire 47 = .ok (.bipush (-8), 2) := by decide +kernel
theorem dX12_acquire_49 : decode cX12_acquire 49 = .ok (.iastore, 1) := by decide +kernel
theorem dX12_acquire_50 : decode cX12_acquire 50 = .ok (.aload_n 0, 1) := by decide +kernel
theorem dX12_acquire_51 : decode cX12_acquire 51 = .ok (.iload_n 2, 1) := by decide +kernel
theorem dX12_acquire_52 : decode cX12_acquire 52 = .ok (.iload_n 1, 1) := by decide +kernel
theorem dX12_acquire_53 : decode cX12_acquire 53 = .ok (.aload_n 0, 1) := by decide +kernel
theorem dX12_acquire_54 : decode cX12_acquire 54 = .ok (.getfield 7, 3) := by decide +kernel
theorem dX12_acquire_57 : decode cX12_acquire 57 = .ok (.bipush 40, 2) := by decide +kernel
theorem dX12_acquire_59 : decode cX12_acquire 59 = .ok (.iload_n 2, 1) := by decide +kernel
theorem dX12_acquire_60 : decode cX12_acquire 60 = .ok (.iadd, 1) := by decide +kernel
theorem dX12_acquire_61 : decode cX12_acquire 61 = .ok (.iaload, 1) := by decide +kernel
theorem dX12_acquire_62 : decode cX12_acquire 62 = .ok (.invokevirtual 75, 3) := by decide +kernel
theorem dX12_acquire_65 : decode cX12_acquire 65 = .ok (.return_, 1) := by decide +kernel
theorem dX12_release_0 : decode cX12_release 0 = .ok (.aload_n 0, 1) := by decide +kernel
theorem dX12_release_1 : decode cX12_release 1 = .ok (.getfield 7, 3) := by decide +kernel
theorem dX12_release_4 : decode cX12_release 4 = .ok (.bipush 54, 2) := by decide +kernel
theorem dX12_release_6 : decode cX12_release 6 = .ok (.iload_n 1, 1) := by decide +kernel
theorem dX12_release_7 : decode cX12_release 7 = .ok (.iadd, 1) := by decide +kernel
theorem dX12_release_8 : decode cX12_release 8 = .ok (.bipush (-8), 2) := by decide +kernel
theorem dX12_release_10 : decode cX12_release 10 = .ok (.iastore, 1) := by decide +kernel
theorem dX12_release_11 : decode cX12_release 11 = .ok (.aload_n 0, 1) := by decide +kernel
theorem dX12_release_12 : decode cX12_release 12 = .ok (.getfield 7, 3) := by decide +kernel
theorem dX12_release_15 : decode cX12_release 15 = .ok (.bipush 62, 2) := by decide +kernel
theorem dX12_release_17 : decode cX12_release 17 = .ok (.iload_n 1, 1) := by decide +kernel
theorem dX12_release_18 : decode cX12_release 18 = .ok (.iadd, 1) := by decide +kernel
theorem dX12_release_19 : decode cX12_release 19 = .ok (.iconst 0, 1) := by decide +kernel
theorem dX12_release_20 : decode cX12_release 20 = .ok (.iastore, 1) := by decide +kernel
theorem dX12_release_21 : decode cX12_release 21 = .ok (.aload_n 0, 1) := by decide +kernel
theorem dX12_release_22 : decode cX12_release 22 = .ok (.getfield 7, 3) := by decide +kernel
theorem dX12_release_25 : decode cX12_release 25 = .ok (.bipush 46, 2) := by decide +kernel
theorem dX12_release_27 : decode cX12_release 27 = .ok (.iload_n 1, 1) := by decide +kernel
theorem dX12_release_28 : decode cX12_release 28 = .ok (.iadd, 1) := by decide +kernel
theorem dX12_release_29 : decode cX12_release 29 = .ok (.iaload, 1) := by decide +kernel
theorem dX12_release_30 : decode cX12_release 30 = .ok (.iconst 3, 1) := by decide +kernel
theorem dX12_release_31 : decode cX12_release 31 = .ok (.if_icmp .ne 28, 3) := by decide +kernel
theorem dX12_release_34 : decode cX12_release 34 = .ok (.aload_n 0, 1) := by decide +kernel
theorem dX12_release_35 : decode cX12_release 35 = .ok (.getfield 7, 3) := by decide +kernel
theorem dX12_release_38 : decode cX12_release 38 = .ok (.bipush 46, 2) := by decide +kernel
theorem dX12_release_40 : decode cX12_release 40 = .ok (.iload_n 1, 1) := by decide +kernel
theorem dX12_release_41 : decode cX12_release 41 = .ok (.iadd, 1) := by decide +kernel
theorem dX12_release_42 : decode cX12_release 42 = .ok (.iconst 0, 1) := by decide +kernel
theorem dX12_release_43 : decode cX12_release 43 = .ok (.iastore, 1) := by decide +kernel
theorem dX12_release_44 : decode cX12_release 44 = .ok (.aload_n 0, 1) := by decide +kernel
theorem dX12_release_45 : decode cX12_release 45 = .ok (.getfield 7, 3) := by decide +kernel
theorem dX12_release_48 : decode cX12_release 48 = .ok (.sipush 231, 3) := by decide +kernel
theorem dX12_release_51 : decode cX12_release 51 = .ok (.dup2, 1) := by decide +kernel
theorem dX12_release_52 : decode cX12_release 52 = .ok (.iaload, 1) := by decide +kernel
theorem dX12_release_53 : decode cX12_release 53 = .ok (.iconst 1, 1) := by decide +kernel
theorem dX12_release_54 : decode cX12_release 54 = .ok (.iadd, 1) := by decide +kernel
theorem dX12_release_55 : decode cX12_release 55 = .ok (.iastore, 1) := by decide +kernel
theorem dX12_release_56 : decode cX12_release 56 = .ok (.goto 71, 3) := by decide +kernel
theorem dX12_release_59 : decode cX12_release 59 = .ok (.aload_n 0, 1) := by decide +kernel
theorem dX12_release_60 : decode cX12_release 60 = .ok (.getfield 7, 3) := by decide +kernel
theorem dX12_release_63 : decode cX12_release 63 = .ok (.bipush 46, 2) := by decide +kernel
theorem dX12_release_65 : decode cX12_release 65 = .ok (.iload_n 1, 1) := by decide +kernel
theorem dX12_release_66 : decode cX12_release 66 = .ok (.iadd, 1) := by decide +kernel
theorem dX12_release_67 : decode cX12_release 67 = .ok (.iaload, 1) := by decide +kernel
theorem dX12_release_68 : decode cX12_release 68 = .ok (.iconst 4, 1) := by decide +kernel
theorem dX12_release_69 : decode cX12_release 69 = .ok (.if_icmp .ne 58, 3) := by decide +kernel
theorem dX12_release_72 : decode cX12_release 72 = .ok (.aload_n 0, 1) := by decide +kernel
theorem dX12_release_73 : decode cX12_release 73 = .ok (.getfield 7, 3) := by decide +kernel
theorem dX12_release_76 : decode cX12_release 76 = .ok (.bipush 102, 2) := by decide +kernel
theorem dX12_release_78 : decode cX12_release 78 = .ok (.iload_n 1, 1) := by decide +kernel
theorem dX12_release_79 : decode cX12_release 79 = .ok (.iadd, 1) := by decide +kernel
theorem dX12_release_80 : decode cX12_release 80 = .ok (.aload_n 0, 1) := by decide +kernel
theorem dX12_release_81 : decode cX12_release 81 = .ok (.getfield 7, 3) := by decide +kernel
theorem dX12_release_84 : decode cX12_release 84 = .ok (.bipush 9, 2) := by decide +kernel
theorem dX12_release_86 : decode cX12_release 86 = .ok (.iaload, 1) := by decide +kernel
theorem dX12_release_87 : decode cX12_release 87 = .ok (.iastore, 1) := by decide +kernel
theorem dX12_release_88 : decode cX12_release 88 = .ok (.aload_n 0, 1) := by decide +kernel
theorem dX12_release_89 : decode cX12_release 89 = .ok (.getfield 7, 3) := by decide +kernel
theorem dX12_release_92 : decode cX12_release 92 = .ok (.bipush 110, 2) := by decide +kernel
theorem dX12_release_94 : decode cX12_release 94 = .ok (.iload_n 1, 1) := by decide +kernel
theorem dX12_release_95 : decode cX12_release 95 = .ok (.iadd, 1) := by decide +kernel
theorem dX12_release_96 : decode cX12_release 96 = .ok (.iaload, 1) := by decide +kernel
theorem dX12_release_97 : decode cX12_release 97 = .ok (.ifCond .le 30, 3) := by decide +kernel
theorem dX12_release_100 : decode cX12_release 100 = .ok (.aload_n 0, 1) := by decide +kernel
theorem dX12_release_101 : decode cX12_release 101 = .ok (.getfield 7, 3) := by decide +kernel
theorem dX12_release_104 : decode cX12_release 104 = .ok (.iconst 2, 1) := by decide +kernel
theorem dX12_release_105 : decode cX12_release 105 = .ok (.iaload, 1) := by decide +kernel
theorem dX12_release_106 : decode cX12_release 106 = .ok (.iconst 1, 1) := by decide +kernel
theorem dX12_release_107 : decode cX12_release 107 = .ok (.if_icmp .ne 20, 3) := by decide +kernel
theorem dX12_release_110 : decode cX12_release 110 = .ok (.aload_n 0, 1) := by decide +kernel
theorem dX12_release_111 : decode cX12_release 111 = .ok (.getfield 7, 3) := by decide +kernel
theorem dX12_release_114 : decode cX12_release 114 = .ok (.sipush 237, 3) := by decide +kernel
theorem dX12_release_117 : decode cX12_release 117 = .ok (.dup2, 1) := by decide +kernel
theorem dX12_release_118 : decode cX12_release 118 = .ok (.iaload, 1) := by decide +kernel
theorem dX12_release_119 : decode cX12_release 119 = .ok (.iconst 1, 1) := by decide +kernel
theorem dX12_release_120 : decode cX12_release 120 = .ok (.iadd, 1) := by decide +kernel
theorem dX12_release_121 : decode cX12_release 121 = .ok (.iastore, 1) := by decide +kernel
theorem dX12_release_122 : decode cX12_release 122 = .ok (.aload_n 0, 1) := by decide +kernel
theorem dX12_release_123 : decode cX12_release 123 = .ok (.iload_n 1, 1) := by decide +kernel
theorem dX12_release_124 : decode cX12_release 124 = .ok (.invokevirtual 78, 3) := by decide +kernel
theorem dX12_release_127 : decode cX12_release 127 = .ok (.return_, 1) := by decide +kernel
theorem dX12_record_0 : decode cX12_record 0 = .ok (.aload_n 0, 1) := by decide +kernel
theorem dX12_record_1 : decode cX12_record 1 = .ok (.getfield 7, 3) := by decide +kernel
theorem dX12_record_4 : decode cX12_record 4 = .ok (.sipush 241, 3) := by decide +kernel
theorem dX12_record_7 : decode cX12_record 7 = .ok (.iaload, 1) := by decide +kernel
theorem dX12_record_8 : decode cX12_record 8 = .ok (.bipush 60, 2) := by decide +kernel
theorem dX12_record_10 : decode cX12_record 10 = .ok (.if_icmp .ge 70, 3) := by decide +kernel
theorem dX12_record_13 : decode cX12_record 13 = .ok (.sipush 242, 3) := by decide +kernel
theorem dX12_record_16 : decode cX12_record 16 = .ok (.iconst 4, 1) := by decide +kernel
theorem dX12_record_17 : decode cX12_record 17 = .ok (.aload_n 0, 1) := by decide +kernel
theorem dX12_record_18 : decode cX12_record 18 = .ok (.getfield 7, 3) := by decide +kernel
theorem dX12_record_21 : decode cX12_record 21 = .ok (.sipush 241, 3) := by decide +kernel
theorem dX12_record_24 : decode cX12_record 24 = .ok (.iaload, 1) := by decide +kernel
theorem dX12_record_25 : decode cX12_record 25 = .ok (.imul, 1) := by decide +kernel
theorem dX12_record_26 : decode cX12_record 26 = .ok (.iadd, 1) := by decide +kernel
theorem dX12_record_27 : decode cX12_record 27 = .ok (.istore 5, 2) := by decide +kernel
theorem dX12_record_29 : decode cX12_record 29 = .ok (.aload_n 0, 1) := by decide +kernel
theorem dX12_record_30 : decode cX12_record 30 = .ok (.getfield 7, 3) := by decide +kernel
theorem dX12_record_33 : decode cX12_record 33 = .ok (.iload 5, 2) := by decide +kernel
theorem dX12_record_35 : decode cX12_record 35 = .ok (.iload_n 1, 1) := by decide +kernel
theorem dX12_record_36 : decode cX12_record 36 = .ok (.iastore, 1) := by decide +kernel
theorem dX12_record_37 : decode cX12_record 37 = .ok (.aload_n 0, 1) := by decide +kernel
theorem dX12_record_38 : decode cX12_record 38 = .ok (.getfield 7, 3) := by decide +kernel
theorem dX12_record_41 : decode cX12_record 41 = .ok (.iload 5, 2) := by decide +kernel
theorem dX12_record_43 : decode cX12_record 43 = .ok (.iconst 1, 1) := by decide +kernel
theorem dX12_record_44 : decode cX12_record 44 = .ok (.iadd, 1) := by decide +kernel
theorem dX12_record_45 : decode cX12_record 45 = .ok (.iload_n 2, 1) := by decide +kernel
theorem dX12_record_46 : decode cX12_record 46 = .ok (.iastore, 1) := by decide +kernel
theorem dX12_record_47 : decode cX12_record 47 = .ok (.aload_n 0, 1) := by decide +kernel
theorem dX12_record_48 : decode cX12_record 48 = .ok (.getfield 7, 3) := by decide +kernel
theorem dX12_record_51 : decode cX12_record 51 = .ok (.iload 5, 2) := by decide +kernel
theorem dX12_record_53 : decode cX12_record 53 = .ok (.iconst 2, 1) := by decide +kernel
theorem dX12_record_54 : decode cX12_record 54 = .ok (.iadd, 1) := by decide +kernel
theorem dX12_record_55 : decode cX12_record 55 = .ok (.iload_n 3, 1) := by decide +kernel
theorem dX12_record_56 : decode cX12_record 56 = .ok (.iastore, 1) := by decide +kernel
theorem dX12_record_57 : decode cX12_record 57 = .ok (.aload_n 0, 1) := by decide +kernel
theorem dX12_record_58 : decode cX12_record 58 = .ok (.getfield 7, 3) := by decide +kernel
theorem dX12_record_61 : decode cX12_record 61 = .ok (.iload 5, 2) := by decide +kernel
theorem dX12_record_63 : decode cX12_record 63 = .ok (.iconst 3, 1) := by decide +kernel
theorem dX12_record_64 : decode cX12_record 64 = .ok (.iadd, 1) := by decide +kernel
theorem dX12_record_65 : decode cX12_record 65 = .ok (.iload 4, 2) := by decide +kernel
theorem dX12_record_67 : decode cX12_record 67 = .ok (.iastore, 1) := by decide +kernel
theorem dX12_record_68 : decode cX12_record 68 = .ok (.aload_n 0, 1) := by decide +kernel
theorem dX12_record_69 : decode cX12_record 69 = .ok (.getfield 7, 3) := by decide +kernel
theorem dX12_record_72 : decode cX12_record 72 = .ok (.sipush 241, 3) := by decide +kernel
theorem dX12_record_75 : decode cX12_record 75 = .ok (.dup2, 1) := by decide +kernel
theorem dX12_record_76 : decode cX12_record 76 = .ok (.iaload, 1) := by decide +kernel
theorem dX12_record_77 : decode cX12_record 77 = .ok (.iconst 1, 1) := by decide +kernel
theorem dX12_record_78 : decode cX12_record 78 = .ok (.iadd, 1) := by decide +kernel
theorem dX12_record_79 : decode cX12_record 79 = .ok (.iastore, 1) := by decide +kernel
theorem dX12_record_80 : decode cX12_record 80 = .ok (.return_, 1) := by decide +kernel
theorem dX12_isValid_0 : decode cX12_isValid 0 = .ok (.aload_n 0, 1) := by decide +kernel
theorem dX12_isValid_1 : decode cX12_isValid 1 = .ok (.getfield 7, 3) := by decide +kernel
theorem dX12_isValid_4 : decode cX12_isValid 4 = .ok (.bipush 78, 2) := by decide +kernel
theorem dX12_isValid_6 : decode cX12_isValid 6 = .ok (.iload_n 1, 1) := by decide +kernel
theorem dX12_isValid_7 : decode cX12_isValid 7 = .ok (.iadd, 1) := by decide +kernel
theorem dX12_isValid_8 : decode cX12_isValid 8 = .ok (.iaload, 1) := by decide +kernel
theorem dX12_isValid_9 : decode cX12_isValid 9 = .ok (.aload_n 0, 1) := by decide +kernel
theorem dX12_isValid_10 : decode cX12_isValid 10 = .ok (.getfield 7, 3) := by decide +kernel
theorem dX12_isValid_13 : decode cX12_isValid 13 = .ok (.sipush 222, 3) := by decide +kernel
theorem dX12_isValid_16 : decode cX12_isValid 16 = .ok (.iload_n 1, 1) := by decide +kernel
theorem dX12_isValid_17 : decode cX12_isValid 17 = .ok (.iconst 3, 1) := by decide +kernel
theorem dX12_isValid_18 : decode cX12_isValid 18 = .ok (.irem, 1) := by decide +kernel
theorem dX12_isValid_19 : decode cX12_isValid 19 = .ok (.iadd, 1) := by decide +kernel
theorem dX12_isValid_20 : decode cX12_isValid 20 = .ok (.iaload, 1) := by decide +kernel
theorem dX12_isValid_21 : decode cX12_isValid 21 = .ok (.if_icmp .ne 7, 3) := by decide +kernel
theorem dX12_isValid_24 : decode cX12_isValid 24 = .ok (.iconst 1, 1) := by decide +kernel
theorem dX12_isValid_25 : decode cX12_isValid 25 = .ok (.goto 4, 3) := by decide +kernel
theorem dX12_isValid_28 : decode cX12_isValid 28 = .ok (.iconst 0, 1) := by decide +kernel
theorem dX12_isValid_29 : decode cX12_isValid 29 = .ok (.ireturn, 1) := by decide +kernel
theorem dX12_unbias_0 : decode cX12_unbias 0 = .ok (.aload_n 0, 1) := by decide +kernel
theorem dX12_unbias_1 : decode cX12_unbias 1 = .ok (.getfield 7, 3) := by decide +kernel
theorem dX12_unbias_4 : decode cX12_unbias 4 = .ok (.bipush 46, 2) := by decide +kernel
theorem dX12_unbias_6 : decode cX12_unbias 6 = .ok (.iload_n 1, 1) := by decide +kernel
theorem dX12_unbias_7 : decode cX12_unbias 7 = .ok (.iadd, 1) := by decide +kernel
theorem dX12_unbias_8 : decode cX12_unbias 8 = .ok (.aload_n 0, 1) := by decide +kernel
theorem dX12_unbias_9 : decode cX12_unbias 9 = .ok (.iload_n 1, 1) := by decide +kernel
theorem dX12_unbias_10 : decode cX12_unbias 10 = .ok (.invokevirtual 54, 3) := by decide +kernel
theorem dX12_unbias_13 : decode cX12_unbias 13 = .ok (.ifCond .eq 7, 3) := by decide +kernel
theorem dX12_unbias_16 : decode cX12_unbias 16 = .ok (.iconst 3, 1) := by decide +kernel
theorem dX12_unbias_17 : decode cX12_unbias 17 = .ok (.goto 4, 3) := by decide +kernel
theorem dX12_unbias_20 : decode cX12_unbias 20 = .ok (.iconst 0, 1) := by decide +kernel
theorem dX12_unbias_21 : decode cX12_unbias 21 = .ok (.iastore, 1) := by decide +kernel
theorem dX12_unbias_22 : decode cX12_unbias 22 = .ok (.aload_n 0, 1) := by decide +kernel
theorem dX12_unbias_23 : decode cX12_unbias 23 = .ok (.getfield 7, 3) := by decide +kernel
theorem dX12_unbias_26 : decode cX12_unbias 26 = .ok (.bipush 70, 2) := by decide +kernel
theorem dX12_unbias_28 : decode cX12_unbias 28 = .ok (.iload_n 1, 1) := by decide +kernel
theorem dX12_unbias_29 : decode cX12_unbias 29 = .ok (.iadd, 1) := by decide +kernel
theorem dX12_unbias_30 : decode cX12_unbias 30 = .ok (.bipush (-8), 2) := by decide +kernel
theorem dX12_unbias_32 : decode cX12_unbias 32 = .ok (.iastore, 1) := by decide +kernel
theorem dX12_unbias_33 : decode cX12_unbias 33 = .ok (.return_, 1) := by decide +kernel
theorem dX12_revoke_0 : decode cX12_revoke 0 = .ok (.iload_n 1, 1) := by decide +kernel
theorem dX12_revoke_1 : decode cX12_revoke 1 = .ok (.iconst 3, 1) := by decide +kernel
theorem dX12_revoke_2 : decode cX12_revoke 2 = .ok (.irem, 1) := by decide +kernel
theorem dX12_revoke_3 : decode cX12_revoke 3 = .ok (.istore_n 2, 1) := by decide +kernel
theorem dX12_revoke_4 : decode cX12_revoke 4 = .ok (.aload_n 0, 1) := by decide +kernel
theorem dX12_revoke_5 : decode cX12_revoke 5 = .ok (.getfield 7, 3) := by decide +kernel
theorem dX12_revoke_8 : decode cX12_revoke 8 = .ok (.sipush 225, 3) := by decide +kernel
theorem dX12_revoke_11 : decode cX12_revoke 11 = .ok (.iload_n 2, 1) := by decide +kernel
theorem dX12_revoke_12 : decode cX12_revoke 12 = .ok (.iadd, 1) := by decide +kernel
theorem dX12_revoke_13 : decode cX12_revoke 13 = .ok (.dup2, 1) := by decide +kernel
theorem dX12_revoke_14 : decode cX12_revoke 14 = .ok (.iaload, 1) := by decide +kernel
theorem dX12_revoke_15 : decode cX12_revoke 15 = .ok (.iconst 1, 1) := by decide +kernel
theorem dX12_revoke_16 : decode cX12_revoke 16 = .ok (.iadd, 1) := by decide +kernel
theorem dX12_revoke_17 : decode cX12_revoke 17 = .ok (.iastore, 1) := by decide +kernel
theorem dX12_revoke_18 : decode cX12_revoke 18 = .ok (.aload_n 0, 1) := by decide +kernel
theorem dX12_revoke_19 : decode cX12_revoke 19 = .ok (.getfield 7, 3) := by decide +kernel
theorem dX12_revoke_22 : decode cX12_revoke 22 = .ok (.sipush 232, 3) := by decide +kernel
theorem dX12_revoke_25 : decode cX12_revoke 25 = .ok (.dup2, 1) := by decide +kernel
theorem dX12_revoke_26 : decode cX12_revoke 26 = .ok (.iaload, 1) := by decide +kernel
theorem dX12_revoke_27 : decode cX12_revoke 27 = .ok (.iconst 1, 1) := by decide +kernel
theorem dX12_revoke_28 : decode cX12_revoke 28 = .ok (.iadd, 1) := by decide +kernel
theorem dX12_revoke_29 : decode cX12_revoke 29 = .ok (.iastore, 1) := by decide +kernel
theorem dX12_revoke_30 : decode cX12_revoke 30 = .ok (.aload_n 0, 1) := by decide +kernel
theorem dX12_revoke_31 : decode cX12_revoke 31 = .ok (.getfield 7, 3) := by decide +kernel
theorem dX12_revoke_34 : decode cX12_revoke 34 = .ok (.sipush 225, 3) := by decide +kernel
theorem dX12_revoke_37 : decode cX12_revoke 37 = .ok (.iload_n 2, 1) := by decide +kernel
theorem dX12_revoke_38 : decode cX12_revoke 38 = .ok (.iadd, 1) := by decide +kernel
theorem dX12_revoke_39 : decode cX12_revoke 39 = .ok (.iaload, 1) := by decide +kernel
theorem dX12_revoke_40 : decode cX12_revoke 40 = .ok (.aload_n 0, 1) := by decide +kernel
theorem dX12_revoke_41 : decode cX12_revoke 41 = .ok (.getfield 7, 3) := by decide +kernel
theorem dX12_revoke_44 : decode cX12_revoke 44 = .ok (.iconst 4, 1) := by decide +kernel
theorem dX12_revoke_45 : decode cX12_revoke 45 = .ok (.iaload, 1) := by decide +kernel
theorem dX12_revoke_46 : decode cX12_revoke 46 = .ok (.if_icmp .lt 62, 3) := by decide +kernel
theorem dX12_revoke_49 : decode cX12_revoke 49 = .ok (.aload_n 0, 1) := by decide +kernel
theorem dX12_revoke_50 : decode cX12_revoke 50 = .ok (.getfield 7, 3) := by decide +kernel
theorem dX12_revoke_53 : decode cX12_revoke 53 = .ok (.sipush 228, 3) := by decide +kernel
theorem dX12_revoke_56 : decode cX12_revoke 56 = .ok (.iload_n 2, 1) := by decide +kernel
theorem dX12_revoke_57 : decode cX12_revoke 57 = .ok (.iadd, 1) := by decide +kernel
theorem dX12_revoke_58 : decode cX12_revoke 58 = .ok (.iconst 0, 1) := by decide +kernel
theorem dX12_revoke_59 : decode cX12_revoke 59 = .ok (.iastore, 1) := by decide +kernel
theorem dX12_revoke_60 : decode cX12_revoke 60 = .ok (.iload_n 2, 1) := by decide +kernel
theorem dX12_revoke_61 : decode cX12_revoke 61 = .ok (.istore_n 3, 1) := by decide +kernel
theorem dX12_revoke_62 : decode cX12_revoke 62 = .ok (.iload_n 3, 1) := by decide +kernel
theorem dX12_revoke_63 : decode cX12_revoke 63 = .ok (.bipush 8, 2) := by decide +kernel
theorem dX12_revoke_65 : decode cX12_revoke 65 = .ok (.if_icmp .ge 40, 3) := by decide +kernel
theorem dX12_revoke_68 : decode cX12_revoke 68 = .ok (.aload_n 0, 1) := by decide +kernel
theorem dX12_revoke_69 : decode cX12_revoke 69 = .ok (.getfield 7, 3) := by decide +kernel
theorem dX12_revoke_72 : decode cX12_revoke 72 = .ok (.bipush 46, 2) := by decide +kernel
theorem dX12_revoke_74 : decode cX12_revoke 74 = .ok (.iload_n 3, 1) := by decide +kernel
theorem dX12_revoke_75 : decode cX12_revoke 75 = .ok (.iadd, 1) := by decide +kernel
theorem dX12_revoke_76 : decode cX12_revoke 76 = .ok (.iaload, 1) := by decide +kernel
theorem dX12_revoke_77 : decode cX12_revoke 77 = .ok (.iconst 1, 1) := by decide +kernel
theorem dX12_revoke_78 : decode cX12_revoke 78 = .ok (.if_icmp .eq 16, 3) := by decide +kernel
theorem dX12_revoke_81 : decode cX12_revoke 81 = .ok (.aload_n 0, 1) := by decide +kernel
theorem dX12_revoke_82 : decode cX12_revoke 82 = .ok (.getfield 7, 3) := by decide +kernel
theorem dX12_revoke_85 : decode cX12_revoke 85 = .ok (.bipush 46, 2) := by decide +kernel
theorem dX12_revoke_87 : decode cX12_revoke 87 = .ok (.iload_n 3, 1) := by decide +kernel
theorem dX12_revoke_88 : decode cX12_revoke 88 = .ok (.iadd, 1) := by decide +kernel
theorem dX12_revoke_89 : decode cX12_revoke 89 = .ok (.iaload, 1) := by decide +kernel
theorem dX12_revoke_90 : decode cX12_revoke 90 = .ok (.iconst 2, 1) := by decide +kernel
theorem dX12_revoke_91 : decode cX12_revoke 91 = .ok (.if_icmp .ne 8, 3) := by decide +kernel
theorem dX12_revoke_94 : decode cX12_revoke 94 = .ok (.aload_n 0, 1) := by decide +kernel
theorem dX12_revoke_95 : decode cX12_revoke 95 = .ok (.iload_n 3, 1) := by decide +kernel
theorem dX12_revoke_96 : decode cX12_revoke 96 = .ok (.invokevirtual 81, 3) := by decide +kernel
theorem dX12_revoke_99 : decode cX12_revoke 99 = .ok (.iinc 3 3, 3) := by decide +kernel
theorem dX12_revoke_102 : decode cX12_revoke 102 = .ok (.goto (-40), 3) := by decide +kernel
theorem dX12_revoke_105 : decode cX12_revoke 105 = .ok (.goto 111, 3) := by decide +kernel
theorem dX12_revoke_108 : decode cX12_revoke 108 = .ok (.aload_n 0, 1) := by decide +kernel
theorem dX12_revoke_109 : decode cX12_revoke 109 = .ok (.getfield 7, 3) := by decide +kernel
theorem dX12_revoke_112 : decode cX12_revoke 112 = .ok (.sipush 225, 3) := by decide +kernel
theorem dX12_revoke_115 : decode cX12_revoke 115 = .ok (.iload_n 2, 1) := by decide +kernel
theorem dX12_revoke_116 : decode cX12_revoke 116 = .ok (.iadd, 1) := by decide +kernel
theorem dX12_revoke_117 : decode cX12_revoke 117 = .ok (.iaload, 1) := by decide +kernel
theorem dX12_revoke_118 : decode cX12_revoke 118 = .ok (.aload_n 0, 1) := by decide +kernel
theorem dX12_revoke_119 : decode cX12_revoke 119 = .ok (.getfield 7, 3) := by decide +kernel
theorem dX12_revoke_122 : decode cX12_revoke 122 = .ok (.iconst 3, 1) := by decide +kernel
theorem dX12_revoke_123 : decode cX12_revoke 123 = .ok (.iaload, 1) := by decide +kernel
theorem dX12_revoke_124 : decode cX12_revoke 124 = .ok (.if_icmp .ne 87, 3) := by decide +kernel
theorem dX12_revoke_127 : decode cX12_revoke 127 = .ok (.aload_n 0, 1) := by decide +kernel
theorem dX12_revoke_128 : decode cX12_revoke 128 = .ok (.getfield 7, 3) := by decide +kernel
theorem dX12_revoke_131 : decode cX12_revoke 131 = .ok (.sipush 222, 3) := by decide +kernel
theorem dX12_revoke_134 : decode cX12_revoke 134 = .ok (.iload_n 2, 1) := by decide +kernel
theorem dX12_revoke_135 : decode cX12_revoke 135 = .ok (.iadd, 1) := by decide +kernel
theorem dX12_revoke_136 : decode cX12_revoke 136 = .ok (.dup2, 1) := by decide +kernel
theorem dX12_revoke_137 : decode cX12_revoke 137 = .ok (.iaload, 1) := by decide +kernel
theorem dX12_revoke_138 : decode cX12_revoke 138 = .ok (.iconst 1, 1) := by decide +kernel
theorem dX12_revoke_139 : decode cX12_revoke 139 = .ok (.iadd, 1) := by decide +kernel
theorem dX12_revoke_140 : decode cX12_revoke 140 = .ok (.iastore, 1) := by decide +kernel
theorem dX12_revoke_141 : decode cX12_revoke 141 = .ok (.iload_n 2, 1) := by decide +kernel
theorem dX12_revoke_142 : decode cX12_revoke 142 = .ok (.istore_n 3, 1) := by decide +kernel
theorem dX12_revoke_143 : decode cX12_revoke 143 = .ok (.iload_n 3, 1) := by decide +kernel
theorem dX12_revoke_144 : decode cX12_revoke 144 = .ok (.bipush 8, 2) := by decide +kernel
theorem dX12_revoke_146 : decode cX12_revoke 146 = .ok (.if_icmp .ge 49, 3) := by decide +kernel
theorem dX12_revoke_149 : decode cX12_revoke 149 = .ok (.aload_n 0, 1) := by decide +kernel
theorem dX12_revoke_150 : decode cX12_revoke 150 = .ok (.getfield 7, 3) := by decide +kernel
theorem dX12_revoke_153 : decode cX12_revoke 153 = .ok (.bipush 46, 2) := by decide +kernel
theorem dX12_revoke_155 : decode cX12_revoke 155 = .ok (.iload_n 3, 1) := by decide +kernel
theorem dX12_revoke_156 : decode cX12_revoke 156 = .ok (.iadd, 1) := by decide +kernel
theorem dX12_revoke_157 : decode cX12_revoke 157 = .ok (.iaload, 1) := by decide +kernel
theorem dX12_revoke_158 : decode cX12_revoke 158 = .ok (.iconst 2, 1) := by decide +kernel
theorem dX12_revoke_159 : decode cX12_revoke 159 = .ok (.if_icmp .ne 30, 3) := by decide +kernel
theorem dX12_revoke_162 : decode cX12_revoke 162 = .ok (.aload_n 0, 1) := by decide +kernel
theorem dX12_revoke_163 : decode cX12_revoke 163 = .ok (.iload_n 3, 1) := by decide +kernel
theorem dX12_revoke_164 : decode cX12_revoke 164 = .ok (.invokevirtual 54, 3) := by decide +kernel
theorem dX12_revoke_167 : decode cX12_revoke 167 = .ok (.ifCond .eq 22, 3) := by decide +kernel
theorem dX12_revoke_170 : decode cX12_revoke 170 = .ok (.aload_n 0, 1) := by decide +kernel
theorem dX12_revoke_171 : decode cX12_revoke 171 = .ok (.getfield 7, 3) := by decide +kernel
theorem dX12_revoke_174 : decode cX12_revoke 174 = .ok (.bipush 78, 2) := by decide +kernel
theorem dX12_revoke_176 : decode cX12_revoke 176 = .ok (.iload_n 3, 1) := by decide +kernel
theorem dX12_revoke_177 : decode cX12_revoke 177 = .ok (.iadd, 1) := by decide +kernel
theorem dX12_revoke_178 : decode cX12_revoke 178 = .ok (.aload_n 0, 1) := by decide +kernel
theorem dX12_revoke_179 : decode cX12_revoke 179 = .ok (.getfield 7, 3) := by decide +kernel
theorem dX12_revoke_182 : decode cX12_revoke 182 = .ok (.sipush 222, 3) := by decide +kernel
theorem dX12_revoke_185 : decode cX12_revoke 185 = .ok (.iload_n 2, 1) := by decide +kernel
theorem dX12_revoke_186 : decode cX12_revoke 186 = .ok (.iadd, 1) := by decide +kernel
theorem dX12_revoke_187 : decode cX12_revoke 187 = .ok (.iaload, 1) := by decide +kernel
theorem dX12_revoke_188 : decode cX12_revoke 188 = .ok (.iastore, 1) := by decide +kernel
theorem dX12_revoke_189 : decode cX12_revoke 189 = .ok (.iinc 3 3, 3) := by decide +kernel
theorem dX12_revoke_192 : decode cX12_revoke 192 = .ok (.goto (-49), 3) := by decide +kernel
theorem dX12_revoke_195 : decode cX12_revoke 195 = .ok (.aload_n 0, 1) := by decide +kernel
theorem dX12_revoke_196 : decode cX12_revoke 196 = .ok (.iload_n 1, 1) := by decide +kernel
theorem dX12_revoke_197 : decode cX12_revoke 197 = .ok (.invokevirtual 54, 3) := by decide +kernel
theorem dX12_revoke_200 : decode cX12_revoke 200 = .ok (.ifCond .eq 16, 3) := by decide +kernel
theorem dX12_revoke_203 : decode cX12_revoke 203 = .ok (.aload_n 0, 1) := by decide +kernel
theorem dX12_revoke_204 : decode cX12_revoke 204 = .ok (.iload_n 1, 1) := by decide +kernel
theorem dX12_revoke_205 : decode cX12_revoke 205 = .ok (.invokevirtual 81, 3) := by decide +kernel
theorem dX12_revoke_208 : decode cX12_revoke 208 = .ok (.goto 8, 3) := by decide +kernel
theorem dX12_revoke_211 : decode cX12_revoke 211 = .ok (.aload_n 0, 1) := by decide +kernel
theorem dX12_revoke_212 : decode cX12_revoke 212 = .ok (.iload_n 1, 1) := by decide +kernel
theorem dX12_revoke_213 : decode cX12_revoke 213 = .ok (.invokevirtual 81, 3) := by decide +kernel
theorem dX12_revoke_216 : decode cX12_revoke 216 = .ok (.return_, 1) := by decide +kernel
theorem dX12_biased_0 : decode cX12_biased 0 = .ok (.aload_n 0, 1) := by decide +kernel
theorem dX12_biased_1 : decode cX12_biased 1 = .ok (.getfield 7, 3) := by decide +kernel
theorem dX12_biased_4 : decode cX12_biased 4 = .ok (.bipush 46, 2) := by decide +kernel
theorem dX12_biased_6 : decode cX12_biased 6 = .ok (.iload_n 2, 1) := by decide +kernel
theorem dX12_biased_7 : decode cX12_biased 7 = .ok (.iadd, 1) := by decide +kernel
theorem dX12_biased_8 : decode cX12_biased 8 = .ok (.iconst 2, 1) := by decide +kernel
theorem dX12_biased_9 : decode cX12_biased 9 = .ok (.iastore, 1) := by decide +kernel
theorem dX12_biased_10 : decode cX12_biased 10 = .ok (.aload_n 0, 1) := by decide +kernel
theorem dX12_biased_11 : decode cX12_biased 11 = .ok (.getfield 7, 3) := by decide +kernel
theorem dX12_biased_14 : decode cX12_biased 14 = .ok (.bipush 70, 2) := by decide +kernel
theorem dX12_biased_16 : decode cX12_biased 16 = .ok (.iload_n 2, 1) := by decide +kernel
theorem dX12_biased_17 : decode cX12_biased 17 = .ok (.iadd, 1) := by decide +kernel
theorem dX12_biased_18 : decode cX12_biased 18 = .ok (.iload_n 1, 1) := by decide +kernel
theorem dX12_biased_19 : decode cX12_biased 19 = .ok (.iastore, 1) := by decide +kernel
theorem dX12_biased_20 : decode cX12_biased 20 = .ok (.aload_n 0, 1) := by decide +kernel
theorem dX12_biased_21 : decode cX12_biased 21 = .ok (.getfield 7, 3) := by decide +kernel
theorem dX12_biased_24 : decode cX12_biased 24 = .ok (.bipush 78, 2) := by decide +kernel
theorem dX12_biased_26 : decode cX12_biased 26 = .ok (.iload_n 2, 1) := by decide +kernel
theorem dX12_biased_27 : decode cX12_biased 27 = .ok (.iadd, 1) := by decide +kernel
theorem dX12_biased_28 : decode cX12_biased 28 = .ok (.aload_n 0, 1) := by decide +kernel
theorem dX12_biased_29 : decode cX12_biased 29 = .ok (.getfield 7, 3) := by decide +kernel
theorem dX12_biased_32 : decode cX12_biased 32 = .ok (.sipush 222, 3) := by decide +kernel
theorem dX12_biased_35 : decode cX12_biased 35 = .ok (.iload_n 2, 1) := by decide +kernel
theorem dX12_biased_36 : decode cX12_biased 36 = .ok (.iconst 3, 1) := by decide +kernel
theorem dX12_biased_37 : decode cX12_biased 37 = .ok (.irem, 1) := by decide +kernel
theorem dX12_biased_38 : decode cX12_biased 38 = .ok (.iadd, 1) := by decide +kernel
theorem dX12_biased_39 : decode cX12_biased 39 = .ok (.iaload, 1) := by decide +kernel
theorem dX12_biased_40 : decode cX12_biased 40 = .ok (.iastore, 1) := by decide +kernel
theorem dX12_biased_41 : decode cX12_biased 41 = .ok (.aload_n 0, 1) := by decide +kernel
theorem dX12_biased_42 : decode cX12_biased 42 = .ok (.getfield 7, 3) := by decide +kernel
theorem dX12_biased_45 : decode cX12_biased 45 = .ok (.sipush 231, 3) := by decide +kernel
theorem dX12_biased_48 : decode cX12_biased 48 = .ok (.dup2, 1) := by decide +kernel
theorem dX12_biased_49 : decode cX12_biased 49 = .ok (.iaload, 1) := by decide +kernel
theorem dX12_biased_50 : decode cX12_biased 50 = .ok (.iload_n 3, 1) := by decide +kernel
theorem dX12_biased_51 : decode cX12_biased 51 = .ok (.ifCond .eq 7, 3) := by decide +kernel
theorem dX12_biased_54 : decode cX12_biased 54 = .ok (.iconst 1, 1) := by decide +kernel
theorem dX12_biased_55 : decode cX12_biased 55 = .ok (.goto 4, 3) := by decide +kernel
theorem dX12_biased_58 : decode cX12_biased 58 = .ok (.iconst 0, 1) := by decide +kernel
theorem dX12_biased_59 : decode cX12_biased 59 = .ok (.iadd, 1) := by decide +kernel
theorem dX12_biased_60 : decode cX12_biased 60 = .ok (.iastore, 1) := by decide +kernel
theorem dX12_biased_61 : decode cX12_biased 61 = .ok (.aload_n 0, 1) := by decide +kernel
theorem dX12_biased_62 : decode cX12_biased 62 = .ok (.iload_n 1, 1) := by decide +kernel
theorem dX12_biased_63 : decode cX12_biased 63 = .ok (.iload_n 2, 1) := by decide +kernel
theorem dX12_biased_64 : decode cX12_biased 64 = .ok (.iconst 1, 1) := by decide +kernel
theorem dX12_biased_65 : decode cX12_biased 65 = .ok (.invokevirtual 75, 3) := by decide +kernel
theorem dX12_biased_68 : decode cX12_biased 68 = .ok (.iconst 1, 1) := by decide +kernel
theorem dX12_biased_69 : decode cX12_biased 69 = .ok (.ireturn, 1) := by decide +kernel
theorem dX12_entered_0 : decode cX12_entered 0 = .ok (.aload_n 0, 1) := by decide +kernel
theorem dX12_entered_1 : decode cX12_entered 1 = .ok (.getfield 7, 3) := by decide +kernel
theorem dX12_entered_4 : decode cX12_entered 4 = .ok (.bipush 46, 2) := by decide +kernel
theorem dX12_entered_6 : decode cX12_entered 6 = .ok (.iload_n 2, 1) := by decide +kernel
theorem dX12_entered_7 : decode cX12_entered 7 = .ok (.iadd, 1) := by decide +kernel
theorem dX12_entered_8 : decode cX12_entered 8 = .ok (.iaload, 1) := by decide +kernel
theorem dX12_entered_9 : decode cX12_entered 9 = .ok (.iconst 2, 1) := by decide +kernel
theorem dX12_entered_10 : decode cX12_entered 10 = .ok (.if_icmp .ne 27, 3) := by decide +kernel
theorem dX12_entered_13 : decode cX12_entered 13 = .ok (.aload_n 0, 1) := by decide +kernel
theorem dX12_entered_14 : decode cX12_entered 14 = .ok (.iload_n 2, 1) := by decide +kernel
theorem dX12_entered_15 : decode cX12_entered 15 = .ok (.invokevirtual 54, 3) := by decide +kernel
theorem dX12_entered_18 : decode cX12_entered 18 = .ok (.ifCond .ne 19, 3) := by decide +kernel
theorem dX12_entered_21 : decode cX12_entered 21 = .ok (.aload_n 0, 1) := by decide +kernel
theorem dX12_entered_22 : decode cX12_entered 22 = .ok (.iload_n 2, 1) := by decide +kernel
theorem dX12_entered_23 : decode cX12_entered 23 = .ok (.invokevirtual 84, 3) := by decide +kernel
theorem dX12_entered_26 : decode cX12_entered 26 = .ok (.ifCond .ne 11, 3) := by decide +kernel
theorem dX12_entered_29 : decode cX12_entered 29 = .ok (.aload_n 0, 1) := by decide +kernel
theorem dX12_entered_30 : decode cX12_entered 30 = .ok (.iload_n 1, 1) := by decide +kernel
theorem dX12_entered_31 : decode cX12_entered 31 = .ok (.iload_n 2, 1) := by decide +kernel
theorem dX12_entered_32 : decode cX12_entered 32 = .ok (.iconst 1, 1) := by decide +kernel
theorem dX12_entered_33 : decode cX12_entered 33 = .ok (.invokevirtual 87, 3) := by decide +kernel
theorem dX12_entered_36 : decode cX12_entered 36 = .ok (.ireturn, 1) := by decide +kernel
theorem dX12_entered_37 : decode cX12_entered 37 = .ok (.aload_n 0, 1) := by decide +kernel
theorem dX12_entered_38 : decode cX12_entered 38 = .ok (.getfield 7, 3) := by decide +kernel
theorem dX12_entered_41 : decode cX12_entered 41 = .ok (.bipush 46, 2) := by decide +kernel
theorem dX12_entered_43 : decode cX12_entered 43 = .ok (.iload_n 2, 1) := by decide +kernel
theorem dX12_entered_44 : decode cX12_entered 44 = .ok (.iadd, 1) := by decide +kernel
theorem dX12_entered_45 : decode cX12_entered 45 = .ok (.iaload, 1) := by decide +kernel
theorem dX12_entered_46 : decode cX12_entered 46 = .ok (.ifCond .ne 34, 3) := by decide +kernel
theorem dX12_entered_49 : decode cX12_entered 49 = .ok (.aload_n 0, 1) := by decide +kernel
theorem dX12_entered_50 : decode cX12_entered 50 = .ok (.getfield 7, 3) := by decide +kernel
theorem dX12_entered_53 : decode cX12_entered 53 = .ok (.bipush 46, 2) := by decide +kernel
theorem dX12_entered_55 : decode cX12_entered 55 = .ok (.iload_n 2, 1) := by decide +kernel
theorem dX12_entered_56 : decode cX12_entered 56 = .ok (.iadd, 1) := by decide +kernel
theorem dX12_entered_57 : decode cX12_entered 57 = .ok (.iconst 3, 1) := by decide +kernel
theorem dX12_entered_58 : decode cX12_entered 58 = .ok (.iastore, 1) := by decide +kernel
theorem dX12_entered_59 : decode cX12_entered 59 = .ok (.aload_n 0, 1) := by decide +kernel
theorem dX12_entered_60 : decode cX12_entered 60 = .ok (.getfield 7, 3) := by decide +kernel
theorem dX12_entered_63 : decode cX12_entered 63 = .ok (.sipush 231, 3) := by decide +kernel
theorem dX12_entered_66 : decode cX12_entered 66 = .ok (.dup2, 1) := by decide +kernel
theorem dX12_entered_67 : decode cX12_entered 67 = .ok (.iaload, 1) := by decide +kernel
theorem dX12_entered_68 : decode cX12_entered 68 = .ok (.iconst 1, 1) := by decide +kernel
theorem dX12_entered_69 : decode cX12_entered 69 = .ok (.iadd, 1) := by decide +kernel
theorem dX12_entered_70 : decode cX12_entered 70 = .ok (.iastore, 1) := by decide +kernel
theorem dX12_entered_71 : decode cX12_entered 71 = .ok (.aload_n 0, 1) := by decide +kernel
theorem dX12_entered_72 : decode cX12_entered 72 = .ok (.iload_n 1, 1) := by decide +kernel
theorem dX12_entered_73 : decode cX12_entered 73 = .ok (.iload_n 2, 1) := by decide +kernel
theorem dX12_entered_74 : decode cX12_entered 74 = .ok (.iconst 1, 1) := by decide +kernel
theorem dX12_entered_75 : decode cX12_entered 75 = .ok (.invokevirtual 75, 3) := by decide +kernel
theorem dX12_entered_78 : decode cX12_entered 78 = .ok (.iconst 2, 1) := by decide +kernel
theorem dX12_entered_79 : decode cX12_entered 79 = .ok (.ireturn, 1) := by decide +kernel
theorem dX12_entered_80 : decode cX12_entered 80 = .ok (.aload_n 0, 1) := by decide +kernel
theorem dX12_entered_81 : decode cX12_entered 81 = .ok (.getfield 7, 3) := by decide +kernel
theorem dX12_entered_84 : decode cX12_entered 84 = .ok (.bipush 46, 2) := by decide +kernel
theorem dX12_entered_86 : decode cX12_entered 86 = .ok (.iload_n 2, 1) := by decide +kernel
theorem dX12_entered_87 : decode cX12_entered 87 = .ok (.iadd, 1) := by decide +kernel
theorem dX12_entered_88 : decode cX12_entered 88 = .ok (.iaload, 1) := by decide +kernel
theorem dX12_entered_89 : decode cX12_entered 89 = .ok (.iconst 4, 1) := by decide +kernel
theorem dX12_entered_90 : decode cX12_entered 90 = .ok (.if_icmp .ne 60, 3) := by decide +kernel
theorem dX12_entered_93 : decode cX12_entered 93 = .ok (.aload_n 0, 1) := by decide +kernel
theorem dX12_entered_94 : decode cX12_entered 94 = .ok (.iload_n 2, 1) := by decide +kernel
theorem dX12_entered_95 : decode cX12_entered 95 = .ok (.invokevirtual 54, 3) := by decide +kernel
theorem dX12_entered_98 : decode cX12_entered 98 = .ok (.ifCond .ne 52, 3) := by decide +kernel
theorem dX12_entered_101 : decode cX12_entered 101 = .ok (.aload_n 0, 1) := by decide +kernel
theorem dX12_entered_102 : decode cX12_entered 102 = .ok (.getfield 7, 3) := by decide +kernel
theorem dX12_entered_105 : decode cX12_entered 105 = .ok (.sipush 231, 3) := by decide +kernel
theorem dX12_entered_108 : decode cX12_entered 108 = .ok (.dup2, 1) := by decide +kernel
theorem dX12_entered_109 : decode cX12_entered 109 = .ok (.iaload, 1) := by decide +kernel
theorem dX12_entered_110 : decode cX12_entered 110 = .ok (.iconst 1, 1) := by decide +kernel
theorem dX12_entered_111 : decode cX12_entered 111 = .ok (.iadd, 1) := by decide +kernel
theorem dX12_entered_112 : decode cX12_entered 112 = .ok (.iastore, 1) := by decide +kernel
theorem dX12_entered_113 : decode cX12_entered 113 = .ok (.aload_n 0, 1) := by decide +kernel
theorem dX12_entered_114 : decode cX12_entered 114 = .ok (.getfield 7, 3) := by decide +kernel
theorem dX12_entered_117 : decode cX12_entered 117 = .ok (.sipush 238, 3) := by decide +kernel
theorem dX12_entered_120 : decode cX12_entered 120 = .ok (.dup2, 1) := by decide +kernel
theorem dX12_entered_121 : decode cX12_entered 121 = .ok (.iaload, 1) := by decide +kernel
theorem dX12_entered_122 : decode cX12_entered 122 = .ok (.aload_n 0, 1) := by decide +kernel
theorem dX12_entered_123 : decode cX12_entered 123 = .ok (.getfield 7, 3) := by decide +kernel
theorem dX12_entered_126 : decode cX12_entered 126 = .ok (.bipush 110, 2) := by decide +kernel
theorem dX12_entered_128 : decode cX12_entered 128 = .ok (.iload_n 2, 1) := by decide +kernel
theorem dX12_entered_129 : decode cX12_entered 129 = .ok (.iadd, 1) := by decide +kernel
theorem dX12_entered_130 : decode cX12_entered 130 = .ok (.iaload, 1) := by decide +kernel
theorem dX12_entered_131 : decode cX12_entered 131 = .ok (.ifCond .le 7, 3) := by decide +kernel
theorem dX12_entered_134 : decode cX12_entered 134 = .ok (.iconst 1, 1) := by decide +kernel
theorem dX12_entered_135 : decode cX12_entered 135 = .ok (.goto 4, 3) := by decide +kernel
theorem dX12_entered_138 : decode cX12_entered 138 = .ok (.iconst 0, 1) := by decide +kernel
theorem dX12_entered_139 : decode cX12_entered 139 = .ok (.iadd, 1) := by decide +kernel
theorem dX12_entered_140 : decode cX12_entered 140 = .ok (.iastore, 1) := by decide +kernel
theorem dX12_entered_141 : decode cX12_entered 141 = .ok (.aload_n 0, 1) := by decide +kernel
theorem dX12_entered_142 : decode cX12_entered 142 = .ok (.iload_n 1, 1) := by decide +kernel
theorem dX12_entered_143 : decode cX12_entered 143 = .ok (.iload_n 2, 1) := by decide +kernel
theorem dX12_entered_144 : decode cX12_entered 144 = .ok (.iconst 1, 1) := by decide +kernel
theorem dX12_entered_145 : decode cX12_entered 145 = .ok (.invokevirtual 75, 3) := by decide +kernel
theorem dX12_entered_148 : decode cX12_entered 148 = .ok (.iconst 3, 1) := by decide +kernel
theorem dX12_entered_149 : decode cX12_entered 149 = .ok (.ireturn, 1) := by decide +kernel
theorem dX12_entered_150 : decode cX12_entered 150 = .ok (.aload_n 0, 1) := by decide +kernel
theorem dX12_entered_151 : decode cX12_entered 151 = .ok (.getfield 7, 3) := by decide +kernel
theorem dX12_entered_154 : decode cX12_entered 154 = .ok (.bipush 46, 2) := by decide +kernel
theorem dX12_entered_156 : decode cX12_entered 156 = .ok (.iload_n 2, 1) := by decide +kernel
theorem dX12_entered_157 : decode cX12_entered 157 = .ok (.iadd, 1) := by decide +kernel
theorem dX12_entered_158 : decode cX12_entered 158 = .ok (.iaload, 1) := by decide +kernel
theorem dX12_entered_159 : decode cX12_entered 159 = .ok (.iconst 3, 1) := by decide +kernel
theorem dX12_entered_160 : decode cX12_entered 160 = .ok (.if_icmp .ne 14, 3) := by decide +kernel
theorem dX12_entered_163 : decode cX12_entered 163 = .ok (.aload_n 0, 1) := by decide +kernel
theorem dX12_entered_164 : decode cX12_entered 164 = .ok (.iload_n 2, 1) := by decide +kernel
theorem dX12_entered_165 : decode cX12_entered 165 = .ok (.invokevirtual 91, 3) := by decide +kernel
theorem dX12_entered_168 : decode cX12_entered 168 = .ok (.ifCond .ne 6, 3) := by decide +kernel
theorem dX12_entered_171 : decode cX12_entered 171 = .ok (.bipush (-6), 2) := by decide +kernel
theorem dX12_entered_173 : decode cX12_entered 173 = .ok (.ireturn, 1) := by decide +kernel
theorem dX12_entered_174 : decode cX12_entered 174 = .ok (.aload_n 0, 1) := by decide +kernel
theorem dX12_entered_175 : decode cX12_entered 175 = .ok (.getfield 7, 3) := by decide +kernel
theorem dX12_entered_178 : decode cX12_entered 178 = .ok (.sipush 235, 3) := by decide +kernel
theorem dX12_entered_181 : decode cX12_entered 181 = .ok (.dup2, 1) := by decide +kernel
theorem dX12_entered_182 : decode cX12_entered 182 = .ok (.iaload, 1) := by decide +kernel
theorem dX12_entered_183 : decode cX12_entered 183 = .ok (.iconst 1, 1) := by decide +kernel
theorem dX12_entered_184 : decode cX12_entered 184 = .ok (.iadd, 1) := by decide +kernel
theorem dX12_entered_185 : decode cX12_entered 185 = .ok (.iastore, 1) := by decide +kernel
theorem dX12_entered_186 : decode cX12_entered 186 = .ok (.aload_n 0, 1) := by decide +kernel
theorem dX12_entered_187 : decode cX12_entered 187 = .ok (.getfield 7, 3) := by decide +kernel
theorem dX12_entered_190 : decode cX12_entered 190 = .ok (.bipush 40, 2) := by decide +kernel
theorem dX12_entered_192 : decode cX12_entered 192 = .ok (.iload_n 1, 1) := by decide +kernel
theorem dX12_entered_193 : decode cX12_entered 193 = .ok (.iadd, 1) := by decide +kernel
theorem dX12_entered_194 : decode cX12_entered 194 = .ok (.iconst 1, 1) := by decide +kernel
theorem dX12_entered_195 : decode cX12_entered 195 = .ok (.iastore, 1) := by decide +kernel
theorem dX12_entered_196 : decode cX12_entered 196 = .ok (.aload_n 0, 1) := by decide +kernel
theorem dX12_entered_197 : decode cX12_entered 197 = .ok (.iload_n 1, 1) := by decide +kernel
theorem dX12_entered_198 : decode cX12_entered 198 = .ok (.iload_n 2, 1) := by decide +kernel
theorem dX12_entered_199 : decode cX12_entered 199 = .ok (.invokevirtual 72, 3) := by decide +kernel
theorem dX12_entered_202 : decode cX12_entered 202 = .ok (.iconst 0, 1) := by decide +kernel
theorem dX12_entered_203 : decode cX12_entered 203 = .ok (.ireturn, 1) := by decide +kernel
theorem dX12_entering_0 : decode cX12_entering 0 = .ok (.aload_n 0, 1) := by decide +kernel
theorem dX12_entering_1 : decode cX12_entering 1 = .ok (.iload_n 2, 1) := by decide +kernel
theorem dX12_entering_2 : decode cX12_entering 2 = .ok (.invokevirtual 54, 3) := by decide +kernel
theorem dX12_entering_5 : decode cX12_entering 5 = .ok (.ifCond .eq 73, 3) := by decide +kernel
theorem dX12_entering_8 : decode cX12_entering 8 = .ok (.aload_n 0, 1) := by decide +kernel
theorem dX12_entering_9 : decode cX12_entering 9 = .ok (.getfield 7, 3) := by decide +kernel
theorem dX12_entering_12 : decode cX12_entering 12 = .ok (.bipush 54, 2) := by decide +kernel
theorem dX12_entering_14 : decode cX12_entering 14 = .ok (.iload_n 2, 1) := by decide +kernel
theorem dX12_entering_15 : decode cX12_entering 15 = .ok (.iadd, 1) := by decide +kernel
theorem dX12_entering_16 : decode cX12_entering 16 = .ok (.iaload, 1) := by decide +kernel
theorem dX12_entering_17 : decode cX12_entering 17 = .ok (.iload_n 1, 1) := by decide +kernel
theorem dX12_entering_18 : decode cX12_entering 18 = .ok (.if_icmp .ne 60, 3) := by decide +kernel
theorem dX12_entering_21 : decode cX12_entering 21 = .ok (.aload_n 0, 1) := by decide +kernel
theorem dX12_entering_22 : decode cX12_entering 22 = .ok (.getfield 7, 3) := by decide +kernel
theorem dX12_entering_25 : decode cX12_entering 25 = .ok (.bipush 46, 2) := by decide +kernel
theorem dX12_entering_27 : decode cX12_entering 27 = .ok (.iload_n 2, 1) := by decide +kernel
theorem dX12_entering_28 : decode cX12_entering 28 = .ok (.iadd, 1) := by decide +kernel
theorem dX12_entering_29 : decode cX12_entering 29 = .ok (.iaload, 1) := by decide +kernel
theorem dX12_entering_30 : decode cX12_entering 30 = .ok (.iconst 3, 1) := by decide +kernel
theorem dX12_entering_31 : decode cX12_entering 31 = .ok (.if_icmp .ne 32, 3) := by decide +kernel
theorem dX12_entering_34 : decode cX12_entering 34 = .ok (.aload_n 0, 1) := by decide +kernel
theorem dX12_entering_35 : decode cX12_entering 35 = .ok (.getfield 7, 3) := by decide +kernel
theorem dX12_entering_38 : decode cX12_entering 38 = .ok (.bipush 62, 2) := by decide +kernel
theorem dX12_entering_40 : decode cX12_entering 40 = .ok (.iload_n 2, 1) := by decide +kernel
theorem dX12_entering_41 : decode cX12_entering 41 = .ok (.iadd, 1) := by decide +kernel
theorem dX12_entering_42 : decode cX12_entering 42 = .ok (.iaload, 1) := by decide +kernel
theorem dX12_entering_43 : decode cX12_entering 43 = .ok (.aload_n 0, 1) := by decide +kernel
theorem dX12_entering_44 : decode cX12_entering 44 = .ok (.getfield 7, 3) := by decide +kernel
theorem dX12_entering_47 : decode cX12_entering 47 = .ok (.iconst 5, 1) := by decide +kernel
theorem dX12_entering_48 : decode cX12_entering 48 = .ok (.iaload, 1) := by decide +kernel
theorem dX12_entering_49 : decode cX12_entering 49 = .ok (.if_icmp .lt 14, 3) := by decide +kernel
theorem dX12_entering_52 : decode cX12_entering 52 = .ok (.aload_n 0, 1) := by decide +kernel
theorem dX12_entering_53 : decode cX12_entering 53 = .ok (.iload_n 2, 1) := by decide +kernel
theorem dX12_entering_54 : decode cX12_entering 54 = .ok (.invokevirtual 91, 3) := by decide +kernel
theorem dX12_entering_57 : decode cX12_entering 57 = .ok (.ifCond .ne 6, 3) := by decide +kernel
theorem dX12_entering_60 : decode cX12_entering 60 = .ok (.bipush (-6), 2) := by decide +kernel
theorem dX12_entering_62 : decode cX12_entering 62 = .ok (.ireturn, 1) := by decide +kernel
theorem dX12_entering_63 : decode cX12_entering 63 = .ok (.aload_n 0, 1) := by decide +kernel
theorem dX12_entering_64 : decode cX12_entering 64 = .ok (.getfield 7, 3) := by decide +kernel
theorem dX12_entering_67 : decode cX12_entering 67 = .ok (.bipush 62, 2) := by decide +kernel
theorem dX12_entering_69 : decode cX12_entering 69 = .ok (.iload_n 2, 1) := by decide +kernel
theorem dX12_entering_70 : decode cX12_entering 70 = .ok (.iadd, 1) := by decide +kernel
theorem dX12_entering_71 : decode cX12_entering 71 = .ok (.dup2, 1) := by decide +kernel
theorem dX12_entering_72 : decode cX12_entering 72 = .ok (.iaload, 1) := by decide +kernel
theorem dX12_entering_73 : decode cX12_entering 73 = .ok (.iconst 1, 1) := by decide +kernel
theorem dX12_entering_74 : decode cX12_entering 74 = .ok (.iadd, 1) := by decide +kernel
theorem dX12_entering_75 : decode cX12_entering 75 = .ok (.iastore, 1) := by decide +kernel
theorem dX12_entering_76 : decode cX12_entering 76 = .ok (.iconst 4, 1) := by decide +kernel
theorem dX12_entering_77 : decode cX12_entering 77 = .ok (.ireturn, 1) := by decide +kernel
theorem dX12_entering_78 : decode cX12_entering 78 = .ok (.aload_n 0, 1) := by decide +kernel
theorem dX12_entering_79 : decode cX12_entering 79 = .ok (.getfield 7, 3) := by decide +kernel
theorem dX12_entering_82 : decode cX12_entering 82 = .ok (.bipush 46, 2) := by decide +kernel
theorem dX12_entering_84 : decode cX12_entering 84 = .ok (.iload_n 2, 1) := by decide +kernel
theorem dX12_entering_85 : decode cX12_entering 85 = .ok (.iadd, 1) := by decide +kernel
theorem dX12_entering_86 : decode cX12_entering 86 = .ok (.iaload, 1) := by decide +kernel
theorem dX12_entering_87 : decode cX12_entering 87 = .ok (.iconst 1, 1) := by decide +kernel
theorem dX12_entering_88 : decode cX12_entering 88 = .ok (.if_icmp .ne 11, 3) := by decide +kernel
theorem dX12_entering_91 : decode cX12_entering 91 = .ok (.aload_n 0, 1) := by decide +kernel
theorem dX12_entering_92 : decode cX12_entering 92 = .ok (.iload_n 1, 1) := by decide +kernel
theorem dX12_entering_93 : decode cX12_entering 93 = .ok (.iload_n 2, 1) := by decide +kernel
theorem dX12_entering_94 : decode cX12_entering 94 = .ok (.iconst 1, 1) := by decide +kernel
theorem dX12_entering_95 : decode cX12_entering 95 = .ok (.invokevirtual 87, 3) := by decide +kernel
theorem dX12_entering_98 : decode cX12_entering 98 = .ok (.ireturn, 1) := by decide +kernel
theorem dX12_entering_99 : decode cX12_entering 99 = .ok (.aload_n 0, 1) := by decide +kernel
theorem dX12_entering_100 : decode cX12_entering 100 = .ok (.getfield 7, 3) := by decide +kernel
theorem dX12_entering_103 : decode cX12_entering 103 = .ok (.bipush 46, 2) := by decide +kernel
theorem dX12_entering_105 : decode cX12_entering 105 = .ok (.iload_n 2, 1) := by decide +kernel
theorem dX12_entering_106 : decode cX12_entering 106 = .ok (.iadd, 1) := by decide +kernel
theorem dX12_entering_107 : decode cX12_entering 107 = .ok (.iaload, 1) := by decide +kernel
theorem dX12_entering_108 : decode cX12_entering 108 = .ok (.iconst 2, 1) := by decide +kernel
theorem dX12_entering_109 : decode cX12_entering 109 = .ok (.if_icmp .ne 40, 3) := by decide +kernel
theorem dX12_entering_112 : decode cX12_entering 112 = .ok (.aload_n 0, 1) := by decide +kernel
theorem dX12_entering_113 : decode cX12_entering 113 = .ok (.iload_n 2, 1) := by decide +kernel
theorem dX12_entering_114 : decode cX12_entering 114 = .ok (.invokevirtual 54, 3) := by decide +kernel
theorem dX12_entering_117 : decode cX12_entering 117 = .ok (.ifCond .ne 32, 3) := by decide +kernel
theorem dX12_entering_120 : decode cX12_entering 120 = .ok (.aload_n 0, 1) := by decide +kernel
theorem dX12_entering_121 : decode cX12_entering 121 = .ok (.getfield 7, 3) := by decide +kernel
theorem dX12_entering_124 : decode cX12_entering 124 = .ok (.bipush 70, 2) := by decide +kernel
theorem dX12_entering_126 : decode cX12_entering 126 = .ok (.iload_n 2, 1) := by decide +kernel
theorem dX12_entering_127 : decode cX12_entering 127 = .ok (.iadd, 1) := by decide +kernel
theorem dX12_entering_128 : decode cX12_entering 128 = .ok (.iaload, 1) := by decide +kernel
theorem dX12_entering_129 : decode cX12_entering 129 = .ok (.iload_n 1, 1) := by decide +kernel
theorem dX12_entering_130 : decode cX12_entering 130 = .ok (.if_icmp .ne 19, 3) := by decide +kernel
theorem dX12_entering_133 : decode cX12_entering 133 = .ok (.aload_n 0, 1) := by decide +kernel
theorem dX12_entering_134 : decode cX12_entering 134 = .ok (.iload_n 2, 1) := by decide +kernel
theorem dX12_entering_135 : decode cX12_entering 135 = .ok (.invokevirtual 84, 3) := by decide +kernel
theorem dX12_entering_138 : decode cX12_entering 138 = .ok (.ifCond .eq 11, 3) := by decide +kernel
theorem dX12_entering_141 : decode cX12_entering 141 = .ok (.aload_n 0, 1) := by decide +kernel
theorem dX12_entering_142 : decode cX12_entering 142 = .ok (.iload_n 1, 1) := by decide +kernel
theorem dX12_entering_143 : decode cX12_entering 143 = .ok (.iload_n 2, 1) := by decide +kernel
theorem dX12_entering_144 : decode cX12_entering 144 = .ok (.iconst 0, 1) := by decide +kernel
theorem dX12_entering_145 : decode cX12_entering 145 = .ok (.invokevirtual 87, 3) := by decide +kernel
theorem dX12_entering_148 : decode cX12_entering 148 = .ok (.ireturn, 1) := by decide +kernel
theorem dX12_entering_149 : decode cX12_entering 149 = .ok (.aload_n 0, 1) := by decide +kernel
theorem dX12_entering_150 : decode cX12_entering 150 = .ok (.getfield 7, 3) := by decide +kernel
theorem dX12_entering_153 : decode cX12_entering 153 = .ok (.bipush 46, 2) := by decide +kernel
theorem dX12_entering_155 : decode cX12_entering 155 = .ok (.iload_n 2, 1) := by decide +kernel
theorem dX12_entering_156 : decode cX12_entering 156 = .ok (.iadd, 1) := by decide +kernel
theorem dX12_entering_157 : decode cX12_entering 157 = .ok (.iaload, 1) := by decide +kernel
theorem dX12_entering_158 : decode cX12_entering 158 = .ok (.iconst 2, 1) := by decide +kernel
theorem dX12_entering_159 : decode cX12_entering 159 = .ok (.if_icmp .ne 16, 3) := by decide +kernel
theorem dX12_entering_162 : decode cX12_entering 162 = .ok (.aload_n 0, 1) := by decide +kernel
theorem dX12_entering_163 : decode cX12_entering 163 = .ok (.iload_n 2, 1) := by decide +kernel
theorem dX12_entering_164 : decode cX12_entering 164 = .ok (.invokevirtual 84, 3) := by decide +kernel
theorem dX12_entering_167 : decode cX12_entering 167 = .ok (.ifCond .eq 8, 3) := by decide +kernel
theorem dX12_entering_170 : decode cX12_entering 170 = .ok (.aload_n 0, 1) := by decide +kernel
theorem dX12_entering_171 : decode cX12_entering 171 = .ok (.iload_n 2, 1) := by decide +kernel
theorem dX12_entering_172 : decode cX12_entering 172 = .ok (.invokevirtual 94, 3) := by decide +kernel
theorem dX12_entering_175 : decode cX12_entering 175 = .ok (.aload_n 0, 1) := by decide +kernel
theorem dX12_entering_176 : decode cX12_entering 176 = .ok (.iload_n 1, 1) := by decide +kernel
theorem dX12_entering_177 : decode cX12_entering 177 = .ok (.iload_n 2, 1) := by decide +kernel
theorem dX12_entering_178 : decode cX12_entering 178 = .ok (.invokevirtual 97, 3) := by decide +kernel
theorem dX12_entering_181 : decode cX12_entering 181 = .ok (.ireturn, 1) := by decide +kernel
theorem dX12_enter_0 : decode cX12_enter 0 = .ok (.aload_n 0, 1) := by decide +kernel
theorem dX12_enter_1 : decode cX12_enter 1 = .ok (.iload_n 1, 1) := by decide +kernel
theorem dX12_enter_2 : decode cX12_enter 2 = .ok (.invokevirtual 101, 3) := by decide +kernel
theorem dX12_enter_5 : decode cX12_enter 5 = .ok (.ifCond .ne 5, 3) := by decide +kernel
theorem dX12_enter_8 : decode cX12_enter 8 = .ok (.iconst (-1), 1) := by decide +kernel
theorem dX12_enter_9 : decode cX12_enter 9 = .ok (.ireturn, 1) := by decide +kernel
theorem dX12_enter_10 : decode cX12_enter 10 = .ok (.iload_n 2, 1) := by decide +kernel
theorem dX12_enter_11 : decode cX12_enter 11 = .ok (.invokestatic 104, 3) := by decide +kernel
theorem dX12_enter_14 : decode cX12_enter 14 = .ok (.ifCond .ne 6, 3) := by decide +kernel
theorem dX12_enter_17 : decode cX12_enter 17 = .ok (.bipush (-2), 2) := by decide +kernel
theorem dX12_enter_19 : decode cX12_enter 19 = .ok (.ireturn, 1) := by decide +kernel
theorem dX12_enter_20 : decode cX12_enter 20 = .ok (.aload_n 0, 1) := by decide +kernel
theorem dX12_enter_21 : decode cX12_enter 21 = .ok (.getfield 7, 3) := by decide +kernel
theorem dX12_enter_24 : decode cX12_enter 24 = .ok (.bipush 10, 2) := by decide +kernel
theorem dX12_enter_26 : decode cX12_enter 26 = .ok (.iload_n 1, 1) := by decide +kernel
theorem dX12_enter_27 : decode cX12_enter 27 = .ok (.iadd, 1) := by decide +kernel
theorem dX12_enter_28 : decode cX12_enter 28 = .ok (.iaload, 1) := by decide +kernel
theorem dX12_enter_29 : decode cX12_enter 29 = .ok (.ifCond .eq 6, 3) := by decide +kernel
theorem dX12_enter_32 : decode cX12_enter 32 = .ok (.bipush (-4), 2) := by decide +kernel
theorem dX12_enter_34 : decode cX12_enter 34 = .ok (.ireturn, 1) := by decide +kernel
theorem dX12_enter_35 : decode cX12_enter 35 = .ok (.iconst 0, 1) := by decide +kernel
theorem dX12_enter_36 : decode cX12_enter 36 = .ok (.istore_n 3, 1) := by decide +kernel
theorem dX12_enter_37 : decode cX12_enter 37 = .ok (.iload_n 3, 1) := by decide +kernel
theorem dX12_enter_38 : decode cX12_enter 38 = .ok (.sipush 482, 3) := by decide +kernel
theorem dX12_enter_41 : decode cX12_enter 41 = .ok (.if_icmp .ge 21, 3) := by decide +kernel
theorem dX12_enter_44 : decode cX12_enter 44 = .ok (.aload_n 0, 1) := by decide +kernel
theorem dX12_enter_45 : decode cX12_enter 45 = .ok (.getfield 13, 3) := by decide +kernel
theorem dX12_enter_48 : decode cX12_enter 48 = .ok (.iload_n 3, 1) := by decide +kernel
theorem dX12_enter_49 : decode cX12_enter 49 = .ok (.aload_n 0, 1) := by decide +kernel
theorem dX12_enter_50 : decode cX12_enter 50 = .ok (.getfield 7, 3) := by decide +kernel
theorem dX12_enter_53 : decode cX12_enter 53 = .ok (.iload_n 3, 1) := by decide +kernel
theorem dX12_enter_54 : decode cX12_enter 54 = .ok (.iaload, 1) := by decide +kernel
theorem dX12_enter_55 : decode cX12_enter 55 = .ok (.iastore, 1) := by decide +kernel
theorem dX12_enter_56 : decode cX12_enter 56 = .ok (.iinc 3 1, 3) := by decide +kernel
theorem dX12_enter_59 : decode cX12_enter 59 = .ok (.goto (-22), 3) := by decide +kernel
theorem dX12_enter_62 : decode cX12_enter 62 = .ok (.aload_n 0, 1) := by decide +kernel
theorem dX12_enter_63 : decode cX12_enter 63 = .ok (.getfield 7, 3) := by decide +kernel
theorem dX12_enter_66 : decode cX12_enter 66 = .ok (.sipush 239, 3) := by decide +kernel
theorem dX12_enter_69 : decode cX12_enter 69 = .ok (.iaload, 1) := by decide +kernel
theorem dX12_enter_70 : decode cX12_enter 70 = .ok (.istore_n 3, 1) := by decide +kernel
theorem dX12_enter_71 : decode cX12_enter 71 = .ok (.aload_n 0, 1) := by decide +kernel
theorem dX12_enter_72 : decode cX12_enter 72 = .ok (.iload_n 1, 1) := by decide +kernel
theorem dX12_enter_73 : decode cX12_enter 73 = .ok (.iload_n 2, 1) := by decide +kernel
theorem dX12_enter_74 : decode cX12_enter 74 = .ok (.invokevirtual 107, 3) := by decide +kernel
theorem dX12_enter_77 : decode cX12_enter 77 = .ok (.istore 4, 2) := by decide +kernel
theorem dX12_enter_79 : decode cX12_enter 79 = .ok (.iload 4, 2) := by decide +kernel
theorem dX12_enter_81 : decode cX12_enter 81 = .ok (.bipush (-6), 2) := by decide +kernel
theorem dX12_enter_83 : decode cX12_enter 83 = .ok (.if_icmp .ne 37, 3) := by decide +kernel
theorem dX12_enter_86 : decode cX12_enter 86 = .ok (.iconst 0, 1) := by decide +kernel
theorem dX12_enter_87 : decode cX12_enter 87 = .ok (.istore 5, 2) := by decide +kernel
theorem dX12_enter_89 : decode cX12_enter 89 = .ok (.iload 5, 2) := by decide +kernel
theorem dX12_enter_91 : decode cX12_enter 91 = .ok (.sipush 482, 3) := by decide +kernel
theorem dX12_enter_94 : decode cX12_enter 94 = .ok (.if_icmp .ge 23, 3) := by decide +kernel
theorem dX12_enter_97 : decode cX12_enter 97 = .ok (.aload_n 0, 1) := by decide +kernel
theorem dX12_enter_98 : decode cX12_enter 98 = .ok (.getfield 7, 3) := by decide +kernel
theorem dX12_enter_101 : decode cX12_enter 101 = .ok (.iload 5, 2) := by decide +kernel
theorem dX12_enter_103 : decode cX12_enter 103 = .ok (.aload_n 0, 1) := by decide +kernel
theorem dX12_enter_104 : decode cX12_enter 104 = .ok (.getfield 13, 3) := by decide +kernel
theorem dX12_enter_107 : decode cX12_enter 107 = .ok (.iload 5, 2) := by decide +kernel
theorem dX12_enter_109 : decode cX12_enter 109 = .ok (.iaload, 1) := by decide +kernel
theorem dX12_enter_110 : decode cX12_enter 110 = .ok (.iastore, 1) := by decide +kernel
theorem dX12_enter_111 : decode cX12_enter 111 = .ok (.iinc 5 1, 3) := by decide +kernel
theorem dX12_enter_114 : decode cX12_enter 114 = .ok (.goto (-25), 3) := by decide +kernel
theorem dX12_enter_117 : decode cX12_enter 117 = .ok (.bipush (-6), 2) := by decide +kernel
theorem dX12_enter_119 : decode cX12_enter 119 = .ok (.ireturn, 1) := by decide +kernel
theorem dX12_enter_120 : decode cX12_enter 120 = .ok (.aload_n 0, 1) := by decide +kernel
theorem dX12_enter_121 : decode cX12_enter 121 = .ok (.iconst 0, 1) := by decide +kernel
theorem dX12_enter_122 : decode cX12_enter 122 = .ok (.iload_n 1, 1) := by decide +kernel
theorem dX12_enter_123 : decode cX12_enter 123 = .ok (.iload_n 2, 1) := by decide +kernel
theorem dX12_enter_124 : decode cX12_enter 124 = .ok (.iconst 0, 1) := by decide +kernel
theorem dX12_enter_125 : decode cX12_enter 125 = .ok (.invokevirtual 110, 3) := by decide +kernel
theorem dX12_enter_128 : decode cX12_enter 128 = .ok (.iload 4, 2) := by decide +kernel
theorem dX12_enter_130 : decode cX12_enter 130 = .ok (.aload_n 0, 1) := by decide +kernel
theorem dX12_enter_131 : decode cX12_enter 131 = .ok (.getfield 7, 3) := by decide +kernel
theorem dX12_enter_134 : decode cX12_enter 134 = .ok (.sipush 239, 3) := by decide +kernel
theorem dX12_enter_137 : decode cX12_enter 137 = .ok (.iaload, 1) := by decide +kernel
theorem dX12_enter_138 : decode cX12_enter 138 = .ok (.iload_n 3, 1) := by decide +kernel
theorem dX12_enter_139 : decode cX12_enter 139 = .ok (.if_icmp .le 8, 3) := by decide +kernel
theorem dX12_enter_142 : decode cX12_enter 142 = .ok (.bipush 10, 2) := by decide +kernel
theorem dX12_enter_144 : decode cX12_enter 144 = .ok (.goto 4, 3) := by decide +kernel
theorem dX12_enter_147 : decode cX12_enter 147 = .ok (.iconst 0, 1) := by decide +kernel
theorem dX12_enter_148 : decode cX12_enter 148 = .ok (.iadd, 1) := by decide +kernel
theorem dX12_enter_149 : decode cX12_enter 149 = .ok (.ireturn, 1) := by decide +kernel
theorem dX12_forbidden_0 : decode cX12_forbidden 0 = .ok (.aload_n 0, 1) := by decide +kernel
theorem dX12_forbidden_1 : decode cX12_forbidden 1 = .ok (.iload_n 1, 1) := by decide +kernel
theorem dX12_forbidden_2 : decode cX12_forbidden 2 = .ok (.invokevirtual 101, 3) := by decide +kernel
theorem dX12_forbidden_5 : decode cX12_forbidden 5 = .ok (.ifCond .ne 5, 3) := by decide +kernel
theorem dX12_forbidden_8 : decode cX12_forbidden 8 = .ok (.iconst (-1), 1) := by decide +kernel
theorem dX12_forbidden_9 : decode cX12_forbidden 9 = .ok (.ireturn, 1) := by decide +kernel
theorem dX12_forbidden_10 : decode cX12_forbidden 10 = .ok (.iload_n 2, 1) := by decide +kernel
theorem dX12_forbidden_11 : decode cX12_forbidden 11 = .ok (.invokestatic 104, 3) := by decide +kernel
theorem dX12_forbidden_14 : decode cX12_forbidden 14 = .ok (.ifCond .ne 6, 3) := by decide +kernel
theorem dX12_forbidden_17 : decode cX12_forbidden 17 = .ok (.bipush (-2), 2) := by decide +kernel
theorem dX12_forbidden_19 : decode cX12_forbidden 19 = .ok (.ireturn, 1) := by decide +kernel
theorem dX12_forbidden_20 : decode cX12_forbidden 20 = .ok (.aload_n 0, 1) := by decide +kernel
theorem dX12_forbidden_21 : decode cX12_forbidden 21 = .ok (.getfield 7, 3) := by decide +kernel
theorem dX12_forbidden_24 : decode cX12_forbidden 24 = .ok (.bipush 10, 2) := by decide +kernel
theorem dX12_forbidden_26 : decode cX12_forbidden 26 = .ok (.iload_n 1, 1) := by decide +kernel
theorem dX12_forbidden_27 : decode cX12_forbidden 27 = .ok (.iadd, 1) := by decide +kernel
theorem dX12_forbidden_28 : decode cX12_forbidden 28 = .ok (.iaload, 1) := by decide +kernel
theorem dX12_forbidden_29 : decode cX12_forbidden 29 = .ok (.ifCond .eq 6, 3) := by decide +kernel
theorem dX12_forbidden_32 : decode cX12_forbidden 32 = .ok (.bipush (-4), 2) := by decide +kernel
theorem dX12_forbidden_34 : decode cX12_forbidden 34 = .ok (.ireturn, 1) := by decide +kernel
theorem dX12_forbidden_35 : decode cX12_forbidden 35 = .ok (.aload_n 0, 1) := by decide +kernel
theorem dX12_forbidden_36 : decode cX12_forbidden 36 = .ok (.iload_n 2, 1) := by decide +kernel
theorem dX12_forbidden_37 : decode cX12_forbidden 37 = .ok (.invokevirtual 54, 3) := by decide +kernel
theorem dX12_forbidden_40 : decode cX12_forbidden 40 = .ok (.ifCond .eq 20, 3) := by decide +kernel
theorem dX12_forbidden_43 : decode cX12_forbidden 43 = .ok (.aload_n 0, 1) := by decide +kernel
theorem dX12_forbidden_44 : decode cX12_forbidden 44 = .ok (.getfield 7, 3) := by decide +kernel
theorem dX12_forbidden_47 : decode cX12_forbidden 47 = .ok (.bipush 54, 2) := by decide +kernel
theorem dX12_forbidden_49 : decode cX12_forbidden 49 = .ok (.iload_n 2, 1) := by decide +kernel
theorem dX12_forbidden_50 : decode cX12_forbidden 50 = .ok (.iadd, 1) := by decide +kernel
theorem dX12_forbidden_51 : decode cX12_forbidden 51 = .ok (.iaload, 1) := by decide +kernel
theorem dX12_forbidden_52 : decode cX12_forbidden 52 = .ok (.iload_n 1, 1) := by decide +kernel
theorem dX12_forbidden_53 : decode cX12_forbidden 53 = .ok (.if_icmp .ne 7, 3) := by decide +kernel
theorem dX12_forbidden_56 : decode cX12_forbidden 56 = .ok (.iconst 0, 1) := by decide +kernel
theorem dX12_forbidden_57 : decode cX12_forbidden 57 = .ok (.goto 5, 3) := by decide +kernel
theorem dX12_forbidden_60 : decode cX12_forbidden 60 = .ok (.bipush (-5), 2) := by decide +kernel
theorem dX12_forbidden_62 : decode cX12_forbidden 62 = .ok (.ireturn, 1) := by decide +kernel
theorem dX12_exit_0 : decode cX12_exit 0 = .ok (.aload_n 0, 1) := by decide +kernel
theorem dX12_exit_1 : decode cX12_exit 1 = .ok (.iload_n 1, 1) := by decide +kernel
theorem dX12_exit_2 : decode cX12_exit 2 = .ok (.iload_n 2, 1) := by decide +kernel
theorem dX12_exit_3 : decode cX12_exit 3 = .ok (.invokevirtual 114, 3) := by decide +kernel
theorem dX12_exit_6 : decode cX12_exit 6 = .ok (.istore_n 3, 1) := by decide +kernel
theorem dX12_exit_7 : decode cX12_exit 7 = .ok (.iload_n 3, 1) := by decide +kernel
theorem dX12_exit_8 : decode cX12_exit 8 = .ok (.ifCond .ge 5, 3) := by decide +kernel
theorem dX12_exit_11 : decode cX12_exit 11 = .ok (.iload_n 3, 1) := by decide +kernel
theorem dX12_exit_12 : decode cX12_exit 12 = .ok (.ireturn, 1) := by decide +kernel
theorem dX12_exit_13 : decode cX12_exit 13 = .ok (.aload_n 0, 1) := by decide +kernel
theorem dX12_exit_14 : decode cX12_exit 14 = .ok (.getfield 7, 3) := by decide +kernel
theorem dX12_exit_17 : decode cX12_exit 17 = .ok (.bipush 62, 2) := by decide +kernel
theorem dX12_exit_19 : decode cX12_exit 19 = .ok (.iload_n 2, 1) := by decide +kernel
theorem dX12_exit_20 : decode cX12_exit 20 = .ok (.iadd, 1) := by decide +kernel
theorem dX12_exit_21 : decode cX12_exit 21 = .ok (.dup2, 1) := by decide +kernel
theorem dX12_exit_22 : decode cX12_exit 22 = .ok (.iaload, 1) := by decide +kernel
theorem dX12_exit_23 : decode cX12_exit 23 = .ok (.iconst 1, 1) := by decide +kernel
theorem dX12_exit_24 : decode cX12_exit 24 = .ok (.isub, 1) := by decide +kernel
theorem dX12_exit_25 : decode cX12_exit 25 = .ok (.iastore, 1) := by decide +kernel
theorem dX12_exit_26 : decode cX12_exit 26 = .ok (.aload_n 0, 1) := by decide +kernel
theorem dX12_exit_27 : decode cX12_exit 27 = .ok (.getfield 7, 3) := by decide +kernel
theorem dX12_exit_30 : decode cX12_exit 30 = .ok (.bipush 62, 2) := by decide +kernel
theorem dX12_exit_32 : decode cX12_exit 32 = .ok (.iload_n 2, 1) := by decide +kernel
theorem dX12_exit_33 : decode cX12_exit 33 = .ok (.iadd, 1) := by decide +kernel
theorem dX12_exit_34 : decode cX12_exit 34 = .ok (.iaload, 1) := by decide +kernel
theorem dX12_exit_35 : decode cX12_exit 35 = .ok (.istore 4, 2) := by decide +kernel
theorem dX12_exit_37 : decode cX12_exit 37 = .ok (.iload 4, 2) := by decide +kernel
theorem dX12_exit_39 : decode cX12_exit 39 = .ok (.ifCond .ne 8, 3) := by decide +kernel
theorem dX12_exit_42 : decode cX12_exit 42 = .ok (.aload_n 0, 1) := by decide +kernel
theorem dX12_exit_43 : decode cX12_exit 43 = .ok (.iload_n 2, 1) := by decide +kernel
theorem dX12_exit_44 : decode cX12_exit 44 = .ok (.invokevirtual 117, 3) := by decide +kernel
theorem dX12_exit_47 : decode cX12_exit 47 = .ok (.aload_n 0, 1) := by decide +kernel
theorem dX12_exit_48 : decode cX12_exit 48 = .ok (.iconst 1, 1) := by decide +kernel
theorem dX12_exit_49 : decode cX12_exit 49 = .ok (.iload_n 1, 1) := by decide +kernel
theorem dX12_exit_50 : decode cX12_exit 50 = .ok (.iload_n 2, 1) := by decide +kernel
theorem dX12_exit_51 : decode cX12_exit 51 = .ok (.iconst 0, 1) := by decide +kernel
theorem dX12_exit_52 : decode cX12_exit 52 = .ok (.invokevirtual 110, 3) := by decide +kernel
theorem dX12_exit_55 : decode cX12_exit 55 = .ok (.iload 4, 2) := by decide +kernel
theorem dX12_exit_57 : decode cX12_exit 57 = .ok (.ireturn, 1) := by decide +kernel
theorem dX12_await_0 : decode cX12_await 0 = .ok (.aload_n 0, 1) := by decide +kernel
theorem dX12_await_1 : decode cX12_await 1 = .ok (.iload_n 1, 1) := by decide +kernel
theorem dX12_await_2 : decode cX12_await 2 = .ok (.invokevirtual 101, 3) := by decide +kernel
theorem dX12_await_5 : decode cX12_await 5 = .ok (.ifCond .ne 5, 3) := by decide +kernel
theorem dX12_await_8 : decode cX12_await 8 = .ok (.iconst (-1), 1) := by decide +kernel
theorem dX12_await_9 : decode cX12_await 9 = .ok (.ireturn, 1) := by decide +kernel
theorem dX12_await_10 : decode cX12_await 10 = .ok (.iload_n 2, 1) := by decide +kernel
theorem dX12_await_11 : decode cX12_await 11 = .ok (.invokestatic 104, 3) := by decide +kernel
theorem dX12_await_14 : decode cX12_await 14 = .ok (.ifCond .ne 6, 3) := by decide +kernel
theorem dX12_await_17 : decode cX12_await 17 = .ok (.bipush (-2), 2) := by decide +kernel
theorem dX12_await_19 : decode cX12_await 19 = .ok (.ireturn, 1) := by decide +kernel
theorem dX12_await_20 : decode cX12_await 20 = .ok (.iload_n 3, 1) := by decide +kernel
theorem dX12_await_21 : decode cX12_await 21 = .ok (.iconst 0, 1) := by decide +kernel
theorem dX12_await_22 : decode cX12_await 22 = .ok (.bipush 50, 2) := by decide +kernel
theorem dX12_await_24 : decode cX12_await 24 = .ok (.invokestatic 35, 3) := by decide +kernel
theorem dX12_await_27 : decode cX12_await 27 = .ok (.ifCond .ne 6, 3) := by decide +kernel
theorem dX12_await_30 : decode cX12_await 30 = .ok (.bipush (-3), 2) := by decide +kernel
theorem dX12_await_32 : decode cX12_await 32 = .ok (.ireturn, 1) := by decide +kernel
theorem dX12_await_33 : decode cX12_await 33 = .ok (.aload_n 0, 1) := by decide +kernel
theorem dX12_await_34 : decode cX12_await 34 = .ok (.iload_n 1, 1) := by decide +kernel
theorem dX12_await_35 : decode cX12_await 35 = .ok (.iload_n 2, 1) := by decide +kernel
theorem dX12_await_36 : decode cX12_await 36 = .ok (.invokevirtual 114, 3) := by decide +kernel
theorem dX12_await_39 : decode cX12_await 39 = .ok (.istore 4, 2) := by decide +kernel
theorem dX12_await_41 : decode cX12_await 41 = .ok (.iload 4, 2) := by decide +kernel
theorem dX12_await_43 : decode cX12_await 43 = .ok (.ifCond .ge 6, 3) := by decide +kernel
theorem dX12_await_46 : decode cX12_await 46 = .ok (.iload 4, 2) := by decide +kernel
theorem dX12_await_48 : decode cX12_await 48 = .ok (.ireturn, 1) := by decide +kernel
theorem dX12_await_49 : decode cX12_await 49 = .ok (.aload_n 0, 1) := by decide +kernel
theorem dX12_await_50 : decode cX12_await 50 = .ok (.getfield 7, 3) := by decide +kernel
theorem dX12_await_53 : decode cX12_await 53 = .ok (.bipush 16, 2) := by decide +kernel
theorem dX12_await_55 : decode cX12_await 55 = .ok (.iload_n 1, 1) := by decide +kernel
theorem dX12_await_56 : decode cX12_await 56 = .ok (.iadd, 1) := by decide +kernel
theorem dX12_await_57 : decode cX12_await 57 = .ok (.iaload, 1) := by decide +kernel
theorem dX12_await_58 : decode cX12_await 58 = .ok (.iconst 1, 1) := by decide +kernel
theorem dX12_await_59 : decode cX12_await 59 = .ok (.if_icmp .ne 34, 3) := by decide +kernel
theorem dX12_await_62 : decode cX12_await 62 = .ok (.aload_n 0, 1) := by decide +kernel
theorem dX12_await_63 : decode cX12_await 63 = .ok (.getfield 7, 3) := by decide +kernel
theorem dX12_await_66 : decode cX12_await 66 = .ok (.bipush 16, 2) := by decide +kernel
theorem dX12_await_68 : decode cX12_await 68 = .ok (.iload_n 1, 1) := by decide +kernel
theorem dX12_await_69 : decode cX12_await 69 = .ok (.iadd, 1) := by decide +kernel
theorem dX12_await_70 : decode cX12_await 70 = .ok (.iconst 0, 1) := by decide +kernel
theorem dX12_await_71 : decode cX12_await 71 = .ok (.iastore, 1) := by decide +kernel
theorem dX12_await_72 : decode cX12_await 72 = .ok (.aload_n 0, 1) := by decide +kernel
theorem dX12_await_73 : decode cX12_await 73 = .ok (.getfield 7, 3) := by decide +kernel
theorem dX12_await_76 : decode cX12_await 76 = .ok (.bipush 22, 2) := by decide +kernel
theorem dX12_await_78 : decode cX12_await 78 = .ok (.iload_n 1, 1) := by decide +kernel
theorem dX12_await_79 : decode cX12_await 79 = .ok (.iadd, 1) := by decide +kernel
theorem dX12_await_80 : decode cX12_await 80 = .ok (.iconst 3, 1) := by decide +kernel
theorem dX12_await_81 : decode cX12_await 81 = .ok (.iastore, 1) := by decide +kernel
theorem dX12_await_82 : decode cX12_await 82 = .ok (.aload_n 0, 1) := by decide +kernel
theorem dX12_await_83 : decode cX12_await 83 = .ok (.iconst 2, 1) := by decide +kernel
theorem dX12_await_84 : decode cX12_await 84 = .ok (.iload_n 1, 1) := by decide +kernel
theorem dX12_await_85 : decode cX12_await 85 = .ok (.iload_n 2, 1) := by decide +kernel
theorem dX12_await_86 : decode cX12_await 86 = .ok (.iload_n 3, 1) := by decide +kernel
theorem dX12_await_87 : decode cX12_await 87 = .ok (.invokevirtual 110, 3) := by decide +kernel
theorem dX12_await_90 : decode cX12_await 90 = .ok (.bipush (-9), 2) := by decide +kernel
theorem dX12_await_92 : decode cX12_await 92 = .ok (.ireturn, 1) := by decide +kernel
theorem dX12_await_93 : decode cX12_await 93 = .ok (.aload_n 0, 1) := by decide +kernel
theorem dX12_await_94 : decode cX12_await 94 = .ok (.getfield 7, 3) := by decide +kernel
theorem dX12_await_97 : decode cX12_await 97 = .ok (.bipush 46, 2) := by decide +kernel
theorem dX12_await_99 : decode cX12_await 99 = .ok (.iload_n 2, 1) := by decide +kernel
theorem dX12_await_100 : decode cX12_await 100 = .ok (.iadd, 1) := by decide +kernel
theorem dX12_await_101 : decode cX12_await 101 = .ok (.iaload, 1) := by decide +kernel
theorem dX12_await_102 : decode cX12_await 102 = .ok (.iconst 4, 1) := by decide +kernel
theorem dX12_await_103 : decode cX12_await 103 = .ok (.if_icmp .eq 14, 3) := by decide +kernel
theorem dX12_await_106 : decode cX12_await 106 = .ok (.aload_n 0, 1) := by decide +kernel
theorem dX12_await_107 : decode cX12_await 107 = .ok (.iload_n 2, 1) := by decide +kernel
theorem dX12_await_108 : decode cX12_await 108 = .ok (.invokevirtual 91, 3) := by decide +kernel
theorem dX12_await_111 : decode cX12_await 111 = .ok (.ifCond .ne 6, 3) := by decide +kernel
theorem dX12_await_114 : decode cX12_await 114 = .ok (.bipush (-6), 2) := by decide +kernel
theorem dX12_await_116 : decode cX12_await 116 = .ok (.ireturn, 1) := by decide +kernel
theorem dX12_await_117 : decode cX12_await 117 = .ok (.aload_n 0, 1) := by decide +kernel
theorem dX12_await_118 : decode cX12_await 118 = .ok (.getfield 7, 3) := by decide +kernel
theorem dX12_await_121 : decode cX12_await 121 = .ok (.bipush 62, 2) := by decide +kernel
theorem dX12_await_123 : decode cX12_await 123 = .ok (.iload_n 2, 1) := by decide +kernel
theorem dX12_await_124 : decode cX12_await 124 = .ok (.iadd, 1) := by decide +kernel
theorem dX12_await_125 : decode cX12_await 125 = .ok (.iaload, 1) := by decide +kernel
theorem dX12_await_126 : decode cX12_await 126 = .ok (.istore 5, 2) := by decide +kernel
theorem dX12_await_128 : decode cX12_await 128 = .ok (.aload_n 0, 1) := by decide +kernel
theorem dX12_await_129 : decode cX12_await 129 = .ok (.getfield 7, 3) := by decide +kernel
theorem dX12_await_132 : decode cX12_await 132 = .ok (.bipush 40, 2) := by decide +kernel
theorem dX12_await_134 : decode cX12_await 134 = .ok (.iload_n 1, 1) := by decide +kernel
theorem dX12_await_135 : decode cX12_await 135 = .ok (.iadd, 1) := by decide +kernel
theorem dX12_await_136 : decode cX12_await 136 = .ok (.iload 5, 2) := by decide +kernel
theorem dX12_await_138 : decode cX12_await 138 = .ok (.iastore, 1) := by decide +kernel
theorem dX12_await_139 : decode cX12_await 139 = .ok (.aload_n 0, 1) := by decide +kernel
theorem dX12_await_140 : decode cX12_await 140 = .ok (.getfield 7, 3) := by decide +kernel
theorem dX12_await_143 : decode cX12_await 143 = .ok (.bipush 34, 2) := by decide +kernel
theorem dX12_await_145 : decode cX12_await 145 = .ok (.iload_n 1, 1) := by decide +kernel
theorem dX12_await_146 : decode cX12_await 146 = .ok (.iadd, 1) := by decide +kernel
theorem dX12_await_147 : decode cX12_await 147 = .ok (.iload_n 3, 1) := by decide +kernel
theorem dX12_await_148 : decode cX12_await 148 = .ok (.ifCond .ne 7, 3) := by decide +kernel
theorem dX12_await_151 : decode cX12_await 151 = .ok (.iconst 0, 1) := by decide +kernel
theorem dX12_await_152 : decode cX12_await 152 = .ok (.goto 12, 3) := by decide +kernel
theorem dX12_await_155 : decode cX12_await 155 = .ok (.aload_n 0, 1) := by decide +kernel
theorem dX12_await_156 : decode cX12_await 156 = .ok (.getfield 7, 3) := by decide +kernel
theorem dX12_await_159 : decode cX12_await 159 = .ok (.bipush 9, 2) := by decide +kernel
theorem dX12_await_161 : decode cX12_await 161 = .ok (.iaload, 1) := by decide +kernel
theorem dX12_await_162 : decode cX12_await 162 = .ok (.iload_n 3, 1) := by decide +kernel
theorem dX12_await_163 : decode cX12_await 163 = .ok (.iadd, 1) := by decide +kernel
theorem dX12_await_164 : decode cX12_await 164 = .ok (.iastore, 1) := by decide +kernel
theorem dX12_await_165 : decode cX12_await 165 = .ok (.aload_n 0, 1) := by decide +kernel
theorem dX12_await_166 : decode cX12_await 166 = .ok (.getfield 7, 3) := by decide +kernel
theorem dX12_await_169 : decode cX12_await 169 = .ok (.bipush 10, 2) := by decide +kernel
theorem dX12_await_171 : decode cX12_await 171 = .ok (.iload_n 1, 1) := by decide +kernel
theorem dX12_await_172 : decode cX12_await 172 = .ok (.iadd, 1) := by decide +kernel
theorem dX12_await_173 : decode cX12_await 173 = .ok (.iconst 2, 1) := by decide +kernel
theorem dX12_await_174 : decode cX12_await 174 = .ok (.iastore, 1) := by decide +kernel
theorem dX12_await_175 : decode cX12_await 175 = .ok (.aload_n 0, 1) := by decide +kernel
theorem dX12_await_176 : decode cX12_await 176 = .ok (.getfield 7, 3) := by decide +kernel
theorem dX12_await_179 : decode cX12_await 179 = .ok (.bipush 28, 2) := by decide +kernel
theorem dX12_await_181 : decode cX12_await 181 = .ok (.iload_n 1, 1) := by decide +kernel
theorem dX12_await_182 : decode cX12_await 182 = .ok (.iadd, 1) := by decide +kernel
theorem dX12_await_183 : decode cX12_await 183 = .ok (.iload_n 2, 1) := by decide +kernel
theorem dX12_await_184 : decode cX12_await 184 = .ok (.iastore, 1) := by decide +kernel
theorem dX12_await_185 : decode cX12_await 185 = .ok (.aload_n 0, 1) := by decide +kernel
theorem dX12_await_186 : decode cX12_await 186 = .ok (.getfield 7, 3) := by decide +kernel
theorem dX12_await_189 : decode cX12_await 189 = .ok (.sipush 174, 3) := by decide +kernel
theorem dX12_await_192 : decode cX12_await 192 = .ok (.bipush 6, 2) := by decide +kernel
theorem dX12_await_194 : decode cX12_await 194 = .ok (.iload_n 2, 1) := by decide +kernel
theorem dX12_await_195 : decode cX12_await 195 = .ok (.imul, 1) := by decide +kernel
theorem dX12_await_196 : decode cX12_await 196 = .ok (.iadd, 1) := by decide +kernel
theorem dX12_await_197 : decode cX12_await 197 = .ok (.aload_n 0, 1) := by decide +kernel
theorem dX12_await_198 : decode cX12_await 198 = .ok (.getfield 7, 3) := by decide +kernel
theorem dX12_await_201 : decode cX12_await 201 = .ok (.bipush 118, 2) := by decide +kernel
theorem dX12_await_203 : decode cX12_await 203 = .ok (.iload_n 2, 1) := by decide +kernel
theorem dX12_await_204 : decode cX12_await 204 = .ok (.iadd, 1) := by decide +kernel
theorem dX12_await_205 : decode cX12_await 205 = .ok (.iaload, 1) := by decide +kernel
theorem dX12_await_206 : decode cX12_await 206 = .ok (.iadd, 1) := by decide +kernel
theorem dX12_await_207 : decode cX12_await 207 = .ok (.iload_n 1, 1) := by decide +kernel
theorem dX12_await_208 : decode cX12_await 208 = .ok (.iastore, 1) := by decide +kernel
theorem dX12_await_209 : decode cX12_await 209 = .ok (.aload_n 0, 1) := by decide +kernel
theorem dX12_await_210 : decode cX12_await 210 = .ok (.getfield 7, 3) := by decide +kernel
theorem dX12_await_213 : decode cX12_await 213 = .ok (.bipush 118, 2) := by decide +kernel
theorem dX12_await_215 : decode cX12_await 215 = .ok (.iload_n 2, 1) := by decide +kernel
theorem dX12_await_216 : decode cX12_await 216 = .ok (.iadd, 1) := by decide +kernel
theorem dX12_await_217 : decode cX12_await 217 = .ok (.dup2, 1) := by decide +kernel
theorem dX12_await_218 : decode cX12_await 218 = .ok (.iaload, 1) := by decide +kernel
theorem dX12_await_219 : decode cX12_await 219 = .ok (.iconst 1, 1) := by decide +kernel
theorem dX12_await_220 : decode cX12_await 220 = .ok (.iadd, 1) := by decide +kernel
theorem dX12_await_221 : decode cX12_await 221 = .ok (.iastore, 1) := by decide +kernel
theorem dX12_await_222 : decode cX12_await 222 = .ok (.aload_n 0, 1) := by decide +kernel
theorem dX12_await_223 : decode cX12_await 223 = .ok (.iload_n 2, 1) := by decide +kernel
theorem dX12_await_224 : decode cX12_await 224 = .ok (.invokevirtual 117, 3) := by decide +kernel
theorem dX12_await_227 : decode cX12_await 227 = .ok (.aload_n 0, 1) := by decide +kernel
theorem dX12_await_228 : decode cX12_await 228 = .ok (.iconst 2, 1) := by decide +kernel
theorem dX12_await_229 : decode cX12_await 229 = .ok (.iload_n 1, 1) := by decide +kernel
theorem dX12_await_230 : decode cX12_await 230 = .ok (.iload_n 2, 1) := by decide +kernel
theorem dX12_await_231 : decode cX12_await 231 = .ok (.iload_n 3, 1) := by decide +kernel
theorem dX12_await_232 : decode cX12_await 232 = .ok (.invokevirtual 110, 3) := by decide +kernel
theorem dX12_await_235 : decode cX12_await 235 = .ok (.iload 5, 2) := by decide +kernel
theorem dX12_await_237 : decode cX12_await 237 = .ok (.ireturn, 1) := by decide +kernel
theorem dX12_signal_0 : decode cX12_signal 0 = .ok (.aload_n 0, 1) := by decide +kernel
theorem dX12_signal_1 : decode cX12_signal 1 = .ok (.iload_n 1, 1) := by decide +kernel
theorem dX12_signal_2 : decode cX12_signal 2 = .ok (.iload_n 2, 1) := by decide +kernel
theorem dX12_signal_3 : decode cX12_signal 3 = .ok (.invokevirtual 114, 3) := by decide +kernel
theorem dX12_signal_6 : decode cX12_signal 6 = .ok (.istore_n 3, 1) := by decide +kernel
theorem dX12_signal_7 : decode cX12_signal 7 = .ok (.iload_n 3, 1) := by decide +kernel
theorem dX12_signal_8 : decode cX12_signal 8 = .ok (.ifCond .ge 5, 3) := by decide +kernel
theorem dX12_signal_11 : decode cX12_signal 11 = .ok (.iload_n 3, 1) := by decide +kernel
theorem dX12_signal_12 : decode cX12_signal 12 = .ok (.ireturn, 1) := by decide +kernel
theorem dX12_signal_13 : decode cX12_signal 13 = .ok (.bipush (-8), 2) := by decide +kernel
theorem dX12_signal_15 : decode cX12_signal 15 = .ok (.istore 4, 2) := by decide +kernel
theorem dX12_signal_17 : decode cX12_signal 17 = .ok (.aload_n 0, 1) := by decide +kernel
theorem dX12_signal_18 : decode cX12_signal 18 = .ok (.getfield 7, 3) := by decide +kernel
theorem dX12_signal_21 : decode cX12_signal 21 = .ok (.bipush 46, 2) := by decide +kernel
theorem dX12_signal_23 : decode cX12_signal 23 = .ok (.iload_n 2, 1) := by decide +kernel
theorem dX12_signal_24 : decode cX12_signal 24 = .ok (.iadd, 1) := by decide +kernel
theorem dX12_signal_25 : decode cX12_signal 25 = .ok (.iaload, 1) := by decide +kernel
theorem dX12_signal_26 : decode cX12_signal 26 = .ok (.iconst 4, 1) := by decide +kernel
theorem dX12_signal_27 : decode cX12_signal 27 = .ok (.if_icmp .ne 53, 3) := by decide +kernel
theorem dX12_signal_30 : decode cX12_signal 30 = .ok (.aload_n 0, 1) := by decide +kernel
theorem dX12_signal_31 : decode cX12_signal 31 = .ok (.getfield 7, 3) := by decide +kernel
theorem dX12_signal_34 : decode cX12_signal 34 = .ok (.bipush 118, 2) := by decide +kernel
theorem dX12_signal_36 : decode cX12_signal 36 = .ok (.iload_n 2, 1) := by decide +kernel
theorem dX12_signal_37 : decode cX12_signal 37 = .ok (.iadd, 1) := by decide +kernel
theorem dX12_signal_38 : decode cX12_signal 38 = .ok (.iaload, 1) := by decide +kernel
theorem dX12_signal_39 : decode cX12_signal 39 = .ok (.ifCond .le 41, 3) := by decide +kernel
theorem dX12_signal_42 : decode cX12_signal 42 = .ok (.aload_n 0, 1) := by decide +kernel
theorem dX12_signal_43 : decode cX12_signal 43 = .ok (.getfield 7, 3) := by decide +kernel
theorem dX12_signal_46 : decode cX12_signal 46 = .ok (.sipush 174, 3) := by decide +kernel
theorem dX12_signal_49 : decode cX12_signal 49 = .ok (.bipush 6, 2) := by decide +kernel
theorem dX12_signal_51 : decode cX12_signal 51 = .ok (.iload_n 2, 1) := by decide +kernel
theorem dX12_signal_52 : decode cX12_signal 52 = .ok (.imul, 1) := by decide +kernel
theorem dX12_signal_53 : decode cX12_signal 53 = .ok (.iadd, 1) := by decide +kernel
theorem dX12_signal_54 : decode cX12_signal 54 = .ok (.iaload, 1) := by decide +kernel
theorem dX12_signal_55 : decode cX12_signal 55 = .ok (.istore 4, 2) := by decide +kernel
theorem dX12_signal_57 : decode cX12_signal 57 = .ok (.aload_n 0, 1) := by decide +kernel
theorem dX12_signal_58 : decode cX12_signal 58 = .ok (.iload 4, 2) := by decide +kernel
theorem dX12_signal_60 : decode cX12_signal 60 = .ok (.iconst 1, 1) := by decide +kernel
theorem dX12_signal_61 : decode cX12_signal 61 = .ok (.aload_n 0, 1) := by decide +kernel
theorem dX12_signal_62 : decode cX12_signal 62 = .ok (.getfield 7, 3) := by decide +kernel
theorem dX12_signal_65 : decode cX12_signal 65 = .ok (.bipush 8, 2) := by decide +kernel
theorem dX12_signal_67 : decode cX12_signal 67 = .ok (.iaload, 1) := by decide +kernel
theorem dX12_signal_68 : decode cX12_signal 68 = .ok (.iconst 1, 1) := by decide +kernel
theorem dX12_signal_69 : decode cX12_signal 69 = .ok (.if_icmp .ne 7, 3) := by decide +kernel
theorem dX12_signal_72 : decode cX12_signal 72 = .ok (.iconst 1, 1) := by decide +kernel
theorem dX12_signal_73 : decode cX12_signal 73 = .ok (.goto 4, 3) := by decide +kernel
theorem dX12_signal_76 : decode cX12_signal 76 = .ok (.iconst 0, 1) := by decide +kernel
theorem dX12_signal_77 : decode cX12_signal 77 = .ok (.invokevirtual 120, 3) := by decide +kernel
theorem dX12_signal_80 : decode cX12_signal 80 = .ok (.aload_n 0, 1) := by decide +kernel
theorem dX12_signal_81 : decode cX12_signal 81 = .ok (.iconst 3, 1) := by decide +kernel
theorem dX12_signal_82 : decode cX12_signal 82 = .ok (.iload_n 1, 1) := by decide +kernel
theorem dX12_signal_83 : decode cX12_signal 83 = .ok (.iload_n 2, 1) := by decide +kernel
theorem dX12_signal_84 : decode cX12_signal 84 = .ok (.iconst 0, 1) := by decide +kernel
theorem dX12_signal_85 : decode cX12_signal 85 = .ok (.invokevirtual 110, 3) := by decide +kernel
theorem dX12_signal_88 : decode cX12_signal 88 = .ok (.iload 4, 2) := by decide +kernel
theorem dX12_signal_90 : decode cX12_signal 90 = .ok (.ireturn, 1) := by decide +kernel
theorem dX12_signalAll_0 : decode cX12_signalAll 0 = .ok (.aload_n 0, 1) := by decide +kernel
theorem dX12_signalAll_1 : decode cX12_signalAll 1 = .ok (.iload_n 1, 1) := by decide +kernel
theorem dX12_signalAll_2 : decode cX12_signalAll 2 = .ok (.iload_n 2, 1) := by decide +kernel
theorem dX12_signalAll_3 : decode cX12_signalAll 3 = .ok (.invokevirtual 114, 3) := by decide +kernel
theorem dX12_signalAll_6 : decode cX12_signalAll 6 = .ok (.istore_n 3, 1) := by decide +kernel
theorem dX12_signalAll_7 : decode cX12_signalAll 7 = .ok (.iload_n 3, 1) := by decide +kernel
theorem dX12_signalAll_8 : decode cX12_signalAll 8 = .ok (.ifCond .ge 5, 3) := by decide +kernel
theorem dX12_signalAll_11 : decode cX12_signalAll 11 = .ok (.iload_n 3, 1) := by decide +kernel
theorem dX12_signalAll_12 : decode cX12_signalAll 12 = .ok (.ireturn, 1) := by decide +kernel
theorem dX12_signalAll_13 : decode cX12_signalAll 13 = .ok (.iconst 0, 1) := by decide +kernel
theorem dX12_signalAll_14 : decode cX12_signalAll 14 = .ok (.istore 4, 2) := by decide +kernel
theorem dX12_signalAll_16 : decode cX12_signalAll 16 = .ok (.aload_n 0, 1) := by decide +kernel
theorem dX12_signalAll_17 : decode cX12_signalAll 17 = .ok (.getfield 7, 3) := by decide +kernel
theorem dX12_signalAll_20 : decode cX12_signalAll 20 = .ok (.bipush 46, 2) := by decide +kernel
theorem dX12_signalAll_22 : decode cX12_signalAll 22 = .ok (.iload_n 2, 1) := by decide +kernel
theorem dX12_signalAll_23 : decode cX12_signalAll 23 = .ok (.iadd, 1) := by decide +kernel
theorem dX12_signalAll_24 : decode cX12_signalAll 24 = .ok (.iaload, 1) := by decide +kernel
theorem dX12_signalAll_25 : decode cX12_signalAll 25 = .ok (.iconst 4, 1) := by decide +kernel
theorem dX12_signalAll_26 : decode cX12_signalAll 26 = .ok (.if_icmp .ne 40, 3) := by decide +kernel
theorem dX12_signalAll_29 : decode cX12_signalAll 29 = .ok (.aload_n 0, 1) := by decide +kernel
theorem dX12_signalAll_30 : decode cX12_signalAll 30 = .ok (.getfield 7, 3) := by decide +kernel
theorem dX12_signalAll_33 : decode cX12_signalAll 33 = .ok (.bipush 118, 2) := by decide +kernel
theorem dX12_signalAll_35 : decode cX12_signalAll 35 = .ok (.iload_n 2, 1) := by decide +kernel
theorem dX12_signalAll_36 : decode cX12_signalAll 36 = .ok (.iadd, 1) := by decide +kernel
theorem dX12_signalAll_37 : decode cX12_signalAll 37 = .ok (.iaload, 1) := by decide +kernel
theorem dX12_signalAll_38 : decode cX12_signalAll 38 = .ok (.ifCond .le 28, 3) := by decide +kernel
theorem dX12_signalAll_41 : decode cX12_signalAll 41 = .ok (.aload_n 0, 1) := by decide +kernel
theorem dX12_signalAll_42 : decode cX12_signalAll 42 = .ok (.aload_n 0, 1) := by decide +kernel
theorem dX12_signalAll_43 : decode cX12_signalAll 43 = .ok (.getfield 7, 3) := by decide +kernel
theorem dX12_signalAll_46 : decode cX12_signalAll 46 = .ok (.sipush 174, 3) := by decide +kernel
theorem dX12_signalAll_49 : decode cX12_signalAll 49 = .ok (.bipush 6, 2) := by decide +kernel
theorem dX12_signalAll_51 : decode cX12_signalAll 51 = .ok (.iload_n 2, 1) := by decide +kernel
theorem dX12_signalAll_52 : decode cX12_signalAll 52 = .ok (.imul, 1) := by decide +kernel
theorem dX12_signalAll_53 : decode cX12_signalAll 53 = .ok (.iadd, 1) := by decide +kernel
theorem dX12_signalAll_54 : decode cX12_signalAll 54 = .ok (.iaload, 1) := by decide +kernel
theorem dX12_signalAll_55 : decode cX12_signalAll 55 = .ok (.iconst 1, 1) := by decide +kernel
theorem dX12_signalAll_56 : decode cX12_signalAll 56 = .ok (.iconst 0, 1) := by decide +kernel
theorem dX12_signalAll_57 : decode cX12_signalAll 57 = .ok (.invokevirtual 120, 3) := by decide +kernel
theorem dX12_signalAll_60 : decode cX12_signalAll 60 = .ok (.iinc 4 1, 3) := by decide +kernel
theorem dX12_signalAll_63 : decode cX12_signalAll 63 = .ok (.goto (-47), 3) := by decide +kernel
theorem dX12_signalAll_66 : decode cX12_signalAll 66 = .ok (.aload_n 0, 1) := by decide +kernel
theorem dX12_signalAll_67 : decode cX12_signalAll 67 = .ok (.iconst 4, 1) := by decide +kernel
theorem dX12_signalAll_68 : decode cX12_signalAll 68 = .ok (.iload_n 1, 1) := by decide +kernel
theorem dX12_signalAll_69 : decode cX12_signalAll 69 = .ok (.iload_n 2, 1) := by decide +kernel
theorem dX12_signalAll_70 : decode cX12_signalAll 70 = .ok (.iconst 0, 1) := by decide +kernel
theorem dX12_signalAll_71 : decode cX12_signalAll 71 = .ok (.invokevirtual 110, 3) := by decide +kernel
theorem dX12_signalAll_74 : decode cX12_signalAll 74 = .ok (.iload 4, 2) := by decide +kernel
theorem dX12_signalAll_76 : decode cX12_signalAll 76 = .ok (.ireturn, 1) := by decide +kernel
theorem dX12_interrupt_0 : decode cX12_interrupt 0 = .ok (.aload_n 0, 1) := by decide +kernel
theorem dX12_interrupt_1 : decode cX12_interrupt 1 = .ok (.iload_n 1, 1) := by decide +kernel
theorem dX12_interrupt_2 : decode cX12_interrupt 2 = .ok (.invokevirtual 101, 3) := by decide +kernel
theorem dX12_interrupt_5 : decode cX12_interrupt 5 = .ok (.ifCond .ne 5, 3) := by decide +kernel
theorem dX12_interrupt_8 : decode cX12_interrupt 8 = .ok (.iconst (-1), 1) := by decide +kernel
theorem dX12_interrupt_9 : decode cX12_interrupt 9 = .ok (.ireturn, 1) := by decide +kernel
theorem dX12_interrupt_10 : decode cX12_interrupt 10 = .ok (.aload_n 0, 1) := by decide +kernel
theorem dX12_interrupt_11 : decode cX12_interrupt 11 = .ok (.getfield 7, 3) := by decide +kernel
theorem dX12_interrupt_14 : decode cX12_interrupt 14 = .ok (.bipush 10, 2) := by decide +kernel
theorem dX12_interrupt_16 : decode cX12_interrupt 16 = .ok (.iload_n 1, 1) := by decide +kernel
theorem dX12_interrupt_17 : decode cX12_interrupt 17 = .ok (.iadd, 1) := by decide +kernel
theorem dX12_interrupt_18 : decode cX12_interrupt 18 = .ok (.iaload, 1) := by decide +kernel
theorem dX12_interrupt_19 : decode cX12_interrupt 19 = .ok (.iconst 3, 1) := by decide +kernel
theorem dX12_interrupt_20 : decode cX12_interrupt 20 = .ok (.if_icmp .ne 6, 3) := by decide +kernel
theorem dX12_interrupt_23 : decode cX12_interrupt 23 = .ok (.bipush (-7), 2) := by decide +kernel
theorem dX12_interrupt_25 : decode cX12_interrupt 25 = .ok (.ireturn, 1) := by decide +kernel
theorem dX12_interrupt_26 : decode cX12_interrupt 26 = .ok (.aload_n 0, 1) := by decide +kernel
theorem dX12_interrupt_27 : decode cX12_interrupt 27 = .ok (.iconst 5, 1) := by decide +kernel
theorem dX12_interrupt_28 : decode cX12_interrupt 28 = .ok (.iload_n 1, 1) := by decide +kernel
theorem dX12_interrupt_29 : decode cX12_interrupt 29 = .ok (.iconst 0, 1) := by decide +kernel
theorem dX12_interrupt_30 : decode cX12_interrupt 30 = .ok (.iconst 0, 1) := by decide +kernel
theorem dX12_interrupt_31 : decode cX12_interrupt 31 = .ok (.invokevirtual 110, 3) := by decide +kernel
theorem dX12_interrupt_34 : decode cX12_interrupt 34 = .ok (.aload_n 0, 1) := by decide +kernel
theorem dX12_interrupt_35 : decode cX12_interrupt 35 = .ok (.getfield 7, 3) := by decide +kernel
theorem dX12_interrupt_38 : decode cX12_interrupt 38 = .ok (.bipush 10, 2) := by decide +kernel
theorem dX12_interrupt_40 : decode cX12_interrupt 40 = .ok (.iload_n 1, 1) := by decide +kernel
theorem dX12_interrupt_41 : decode cX12_interrupt 41 = .ok (.iadd, 1) := by decide +kernel
theorem dX12_interrupt_42 : decode cX12_interrupt 42 = .ok (.iaload, 1) := by decide +kernel
theorem dX12_interrupt_43 : decode cX12_interrupt 43 = .ok (.iconst 2, 1) := by decide +kernel
theorem dX12_interrupt_44 : decode cX12_interrupt 44 = .ok (.if_icmp .ne 12, 3) := by decide +kernel
theorem dX12_interrupt_47 : decode cX12_interrupt 47 = .ok (.aload_n 0, 1) := by decide +kernel
theorem dX12_interrupt_48 : decode cX12_interrupt 48 = .ok (.iload_n 1, 1) := by decide +kernel
theorem dX12_interrupt_49 : decode cX12_interrupt 49 = .ok (.iconst 3, 1) := by decide +kernel
theorem dX12_interrupt_50 : decode cX12_interrupt 50 = .ok (.iconst 0, 1) := by decide +kernel
theorem dX12_interrupt_51 : decode cX12_interrupt 51 = .ok (.invokevirtual 120, 3) := by decide +kernel
theorem dX12_interrupt_54 : decode cX12_interrupt 54 = .ok (.iconst 1, 1) := by decide +kernel
theorem dX12_interrupt_55 : decode cX12_interrupt 55 = .ok (.ireturn, 1) := by decide +kernel
theorem dX12_interrupt_56 : decode cX12_interrupt 56 = .ok (.aload_n 0, 1) := by decide +kernel
theorem dX12_interrupt_57 : decode cX12_interrupt 57 = .ok (.getfield 7, 3) := by decide +kernel
theorem dX12_interrupt_60 : decode cX12_interrupt 60 = .ok (.bipush 16, 2) := by decide +kernel
theorem dX12_interrupt_62 : decode cX12_interrupt 62 = .ok (.iload_n 1, 1) := by decide +kernel
theorem dX12_interrupt_63 : decode cX12_interrupt 63 = .ok (.iadd, 1) := by decide +kernel
theorem dX12_interrupt_64 : decode cX12_interrupt 64 = .ok (.iconst 1, 1) := by decide +kernel
theorem dX12_interrupt_65 : decode cX12_interrupt 65 = .ok (.iastore, 1) := by decide +kernel
theorem dX12_interrupt_66 : decode cX12_interrupt 66 = .ok (.iconst 0, 1) := by decide +kernel
theorem dX12_interrupt_67 : decode cX12_interrupt 67 = .ok (.ireturn, 1) := by decide +kernel
theorem dX12_die_0 : decode cX12_die 0 = .ok (.aload_n 0, 1) := by decide +kernel
theorem dX12_die_1 : decode cX12_die 1 = .ok (.iload_n 1, 1) := by decide +kernel
theorem dX12_die_2 : decode cX12_die 2 = .ok (.invokevirtual 101, 3) := by decide +kernel
theorem dX12_die_5 : decode cX12_die 5 = .ok (.ifCond .ne 5, 3) := by decide +kernel
theorem dX12_die_8 : decode cX12_die 8 = .ok (.iconst (-1), 1) := by decide +kernel
theorem dX12_die_9 : decode cX12_die 9 = .ok (.ireturn, 1) := by decide +kernel
theorem dX12_die_10 : decode cX12_die 10 = .ok (.aload_n 0, 1) := by decide +kernel
theorem dX12_die_11 : decode cX12_die 11 = .ok (.getfield 7, 3) := by decide +kernel
theorem dX12_die_14 : decode cX12_die 14 = .ok (.bipush 10, 2) := by decide +kernel
theorem dX12_die_16 : decode cX12_die 16 = .ok (.iload_n 1, 1) := by decide +kernel
theorem dX12_die_17 : decode cX12_die 17 = .ok (.iadd, 1) := by decide +kernel
theorem dX12_die_18 : decode cX12_die 18 = .ok (.iaload, 1) := by decide +kernel
theorem dX12_die_19 : decode cX12_die 19 = .ok (.iconst 3, 1) := by decide +kernel
theorem dX12_die_20 : decode cX12_die 20 = .ok (.if_icmp .ne 6, 3) := by decide +kernel
theorem dX12_die_23 : decode cX12_die 23 = .ok (.bipush (-7), 2) := by decide +kernel
theorem dX12_die_25 : decode cX12_die 25 = .ok (.ireturn, 1) := by decide +kernel
theorem dX12_die_26 : decode cX12_die 26 = .ok (.aload_n 0, 1) := by decide +kernel
theorem dX12_die_27 : decode cX12_die 27 = .ok (.getfield 7, 3) := by decide +kernel
theorem dX12_die_30 : decode cX12_die 30 = .ok (.bipush 28, 2) := by decide +kernel
theorem dX12_die_32 : decode cX12_die 32 = .ok (.iload_n 1, 1) := by decide +kernel
theorem dX12_die_33 : decode cX12_die 33 = .ok (.iadd, 1) := by decide +kernel
theorem dX12_die_34 : decode cX12_die 34 = .ok (.iaload, 1) := by decide +kernel
theorem dX12_die_35 : decode cX12_die 35 = .ok (.istore_n 2, 1) := by decide +kernel
theorem dX12_die_36 : decode cX12_die 36 = .ok (.iload_n 2, 1) := by decide +kernel
theorem dX12_die_37 : decode cX12_die 37 = .ok (.bipush (-8), 2) := by decide +kernel
theorem dX12_die_39 : decode cX12_die 39 = .ok (.if_icmp .eq 36, 3) := by decide +kernel
theorem dX12_die_42 : decode cX12_die 42 = .ok (.aload_n 0, 1) := by decide +kernel
theorem dX12_die_43 : decode cX12_die 43 = .ok (.iload_n 1, 1) := by decide +kernel
theorem dX12_die_44 : decode cX12_die 44 = .ok (.bipush 126, 2) := by decide +kernel
theorem dX12_die_46 : decode cX12_die 46 = .ok (.bipush 6, 2) := by decide +kernel
theorem dX12_die_48 : decode cX12_die 48 = .ok (.iload_n 2, 1) := by decide +kernel
theorem dX12_die_49 : decode cX12_die 49 = .ok (.imul, 1) := by decide +kernel
theorem dX12_die_50 : decode cX12_die 50 = .ok (.iadd, 1) := by decide +kernel
theorem dX12_die_51 : decode cX12_die 51 = .ok (.bipush 110, 2) := by decide +kernel
theorem dX12_die_53 : decode cX12_die 53 = .ok (.iload_n 2, 1) := by decide +kernel
theorem dX12_die_54 : decode cX12_die 54 = .ok (.iadd, 1) := by decide +kernel
theorem dX12_die_55 : decode cX12_die 55 = .ok (.invokevirtual 64, 3) := by decide +kernel
theorem dX12_die_58 : decode cX12_die 58 = .ok (.aload_n 0, 1) := by decide +kernel
theorem dX12_die_59 : decode cX12_die 59 = .ok (.iload_n 1, 1) := by decide +kernel
theorem dX12_die_60 : decode cX12_die 60 = .ok (.sipush 174, 3) := by decide +kernel
theorem dX12_die_63 : decode cX12_die 63 = .ok (.bipush 6, 2) := by decide +kernel
theorem dX12_die_65 : decode cX12_die 65 = .ok (.iload_n 2, 1) := by decide +kernel
theorem dX12_die_66 : decode cX12_die 66 = .ok (.imul, 1) := by decide +kernel
theorem dX12_die_67 : decode cX12_die 67 = .ok (.iadd, 1) := by decide +kernel
theorem dX12_die_68 : decode cX12_die 68 = .ok (.bipush 118, 2) := by decide +kernel
theorem dX12_die_70 : decode cX12_die 70 = .ok (.iload_n 2, 1) := by decide +kernel
theorem dX12_die_71 : decode cX12_die 71 = .ok (.iadd, 1) := by decide +kernel
theorem dX12_die_72 : decode cX12_die 72 = .ok (.invokevirtual 64, 3) := by decide +kernel
theorem dX12_die_75 : decode cX12_die 75 = .ok (.aload_n 0, 1) := by decide +kernel
theorem dX12_die_76 : decode cX12_die 76 = .ok (.getfield 7, 3) := by decide +kernel
theorem dX12_die_79 : decode cX12_die 79 = .ok (.bipush 10, 2) := by decide +kernel
theorem dX12_die_81 : decode cX12_die 81 = .ok (.iload_n 1, 1) := by decide +kernel
theorem dX12_die_82 : decode cX12_die 82 = .ok (.iadd, 1) := by decide +kernel
theorem dX12_die_83 : decode cX12_die 83 = .ok (.iconst 3, 1) := by decide +kernel
theorem dX12_die_84 : decode cX12_die 84 = .ok (.iastore, 1) := by decide +kernel
theorem dX12_die_85 : decode cX12_die 85 = .ok (.aload_n 0, 1) := by decide +kernel
theorem dX12_die_86 : decode cX12_die 86 = .ok (.getfield 7, 3) := by decide +kernel
theorem dX12_die_89 : decode cX12_die 89 = .ok (.bipush 28, 2) := by decide +kernel
theorem dX12_die_91 : decode cX12_die 91 = .ok (.iload_n 1, 1) := by decide +kernel
theorem dX12_die_92 : decode cX12_die 92 = .ok (.iadd, 1) := by decide +kernel
theorem dX12_die_93 : decode cX12_die 93 = .ok (.bipush (-8), 2) := by decide +kernel
theorem dX12_die_95 : decode cX12_die 95 = .ok (.iastore, 1) := by decide +kernel
theorem dX12_die_96 : decode cX12_die 96 = .ok (.aload_n 0, 1) := by decide +kernel
theorem dX12_die_97 : decode cX12_die 97 = .ok (.getfield 7, 3) := by decide +kernel
theorem dX12_die_100 : decode cX12_die 100 = .ok (.bipush 16, 2) := by decide +kernel
theorem dX12_die_102 : decode cX12_die 102 = .ok (.iload_n 1, 1) := by decide +kernel
theorem dX12_die_103 : decode cX12_die 103 = .ok (.iadd, 1) := by decide +kernel
theorem dX12_die_104 : decode cX12_die 104 = .ok (.iconst 0, 1) := by decide +kernel
theorem dX12_die_105 : decode cX12_die 105 = .ok (.iastore, 1) := by decide +kernel
theorem dX12_die_106 : decode cX12_die 106 = .ok (.iconst 0, 1) := by decide +kernel
theorem dX12_die_107 : decode cX12_die 107 = .ok (.istore_n 3, 1) := by decide +kernel
theorem dX12_die_108 : decode cX12_die 108 = .ok (.iconst 0, 1) := by decide +kernel
theorem dX12_die_109 : decode cX12_die 109 = .ok (.istore 4, 2) := by decide +kernel
theorem dX12_die_111 : decode cX12_die 111 = .ok (.iload 4, 2) := by decide +kernel
theorem dX12_die_113 : decode cX12_die 113 = .ok (.bipush 8, 2) := by decide +kernel
theorem dX12_die_115 : decode cX12_die 115 = .ok (.if_icmp .ge 52, 3) := by decide +kernel
theorem dX12_die_118 : decode cX12_die 118 = .ok (.aload_n 0, 1) := by decide +kernel
theorem dX12_die_119 : decode cX12_die 119 = .ok (.iload 4, 2) := by decide +kernel
theorem dX12_die_121 : decode cX12_die 121 = .ok (.invokevirtual 54, 3) := by decide +kernel
theorem dX12_die_124 : decode cX12_die 124 = .ok (.ifCond .eq 37, 3) := by decide +kernel
theorem dX12_die_127 : decode cX12_die 127 = .ok (.aload_n 0, 1) := by decide +kernel
theorem dX12_die_128 : decode cX12_die 128 = .ok (.getfield 7, 3) := by decide +kernel
theorem dX12_die_131 : decode cX12_die 131 = .ok (.bipush 54, 2) := by decide +kernel
theorem dX12_die_133 : decode cX12_die 133 = .ok (.iload 4, 2) := by decide +kernel
theorem dX12_die_135 : decode cX12_die 135 = .ok (.iadd, 1) := by decide +kernel
theorem dX12_die_136 : decode cX12_die 136 = .ok (.iaload, 1) := by decide +kernel
theorem dX12_die_137 : decode cX12_die 137 = .ok (.iload_n 1, 1) := by decide +kernel
theorem dX12_die_138 : decode cX12_die 138 = .ok (.if_icmp .ne 23, 3) := by decide +kernel
theorem dX12_die_141 : decode cX12_die 141 = .ok (.iinc 3 1, 3) := by decide +kernel
theorem dX12_die_144 : decode cX12_die 144 = .ok (.aload_n 0, 1) := by decide +kernel
theorem dX12_die_145 : decode cX12_die 145 = .ok (.getfield 7, 3) := by decide +kernel
theorem dX12_die_148 : decode cX12_die 148 = .ok (.bipush 86, 2) := by decide +kernel
theorem dX12_die_150 : decode cX12_die 150 = .ok (.iload 4, 2) := by decide +kernel
theorem dX12_die_152 : decode cX12_die 152 = .ok (.iadd, 1) := by decide +kernel
theorem dX12_die_153 : decode cX12_die 153 = .ok (.iconst 1, 1) := by decide +kernel
theorem dX12_die_154 : decode cX12_die 154 = .ok (.iastore, 1) := by decide +kernel
theorem dX12_die_155 : decode cX12_die 155 = .ok (.aload_n 0, 1) := by decide +kernel
theorem dX12_die_156 : decode cX12_die 156 = .ok (.iload 4, 2) := by decide +kernel
theorem dX12_die_158 : decode cX12_die 158 = .ok (.invokevirtual 117, 3) := by decide +kernel
theorem dX12_die_161 : decode cX12_die 161 = .ok (.iinc 4 1, 3) := by decide +kernel
theorem dX12_die_164 : decode cX12_die 164 = .ok (.goto (-53), 3) := by decide +kernel
theorem dX12_die_167 : decode cX12_die 167 = .ok (.aload_n 0, 1) := by decide +kernel
theorem dX12_die_168 : decode cX12_die 168 = .ok (.bipush 6, 2) := by decide +kernel
theorem dX12_die_170 : decode cX12_die 170 = .ok (.iload_n 1, 1) := by decide +kernel
theorem dX12_die_171 : decode cX12_die 171 = .ok (.iconst 0, 1) := by decide +kernel
theorem dX12_die_172 : decode cX12_die 172 = .ok (.iconst 0, 1) := by decide +kernel
theorem dX12_die_173 : decode cX12_die 173 = .ok (.invokevirtual 110, 3) := by decide +kernel
theorem dX12_die_176 : decode cX12_die 176 = .ok (.iload_n 3, 1) := by decide +kernel
theorem dX12_die_177 : decode cX12_die 177 = .ok (.ireturn, 1) := by decide +kernel
theorem dX12_start_0 : decode cX12_start 0 = .ok (.aload_n 0, 1) := by decide +kernel
theorem dX12_start_1 : decode cX12_start 1 = .ok (.iload_n 1, 1) := by decide +kernel
theorem dX12_start_2 : decode cX12_start 2 = .ok (.invokevirtual 101, 3) := by decide +kernel
theorem dX12_start_5 : decode cX12_start 5 = .ok (.ifCond .ne 5, 3) := by decide +kernel
theorem dX12_start_8 : decode cX12_start 8 = .ok (.iconst (-1), 1) := by decide +kernel
theorem dX12_start_9 : decode cX12_start 9 = .ok (.ireturn, 1) := by decide +kernel
theorem dX12_start_10 : decode cX12_start 10 = .ok (.aload_n 0, 1) := by decide +kernel
theorem dX12_start_11 : decode cX12_start 11 = .ok (.getfield 7, 3) := by decide +kernel
theorem dX12_start_14 : decode cX12_start 14 = .ok (.bipush 10, 2) := by decide +kernel
theorem dX12_start_16 : decode cX12_start 16 = .ok (.iload_n 1, 1) := by decide +kernel
theorem dX12_start_17 : decode cX12_start 17 = .ok (.iadd, 1) := by decide +kernel
theorem dX12_start_18 : decode cX12_start 18 = .ok (.iaload, 1) := by decide +kernel
theorem dX12_start_19 : decode cX12_start 19 = .ok (.iconst 3, 1) := by decide +kernel
theorem dX12_start_20 : decode cX12_start 20 = .ok (.if_icmp .eq 6, 3) := by decide +kernel
theorem dX12_start_23 : decode cX12_start 23 = .ok (.bipush (-7), 2) := by decide +kernel
theorem dX12_start_25 : decode cX12_start 25 = .ok (.ireturn, 1) := by decide +kernel
theorem dX12_start_26 : decode cX12_start 26 = .ok (.aload_n 0, 1) := by decide +kernel
theorem dX12_start_27 : decode cX12_start 27 = .ok (.getfield 7, 3) := by decide +kernel
theorem dX12_start_30 : decode cX12_start 30 = .ok (.bipush 10, 2) := by decide +kernel
theorem dX12_start_32 : decode cX12_start 32 = .ok (.iload_n 1, 1) := by decide +kernel
theorem dX12_start_33 : decode cX12_start 33 = .ok (.iadd, 1) := by decide +kernel
theorem dX12_start_34 : decode cX12_start 34 = .ok (.iconst 0, 1) := by decide +kernel
theorem dX12_start_35 : decode cX12_start 35 = .ok (.iastore, 1) := by decide +kernel
theorem dX12_start_36 : decode cX12_start 36 = .ok (.aload_n 0, 1) := by decide +kernel
theorem dX12_start_37 : decode cX12_start 37 = .ok (.bipush 7, 2) := by decide +kernel
theorem dX12_start_39 : decode cX12_start 39 = .ok (.iload_n 1, 1) := by decide +kernel
theorem dX12_start_40 : decode cX12_start 40 = .ok (.iconst 0, 1) := by decide +kernel
theorem dX12_start_41 : decode cX12_start 41 = .ok (.iconst 0, 1) := by decide +kernel
theorem dX12_start_42 : decode cX12_start 42 = .ok (.invokevirtual 110, 3) := by decide +kernel
theorem dX12_start_45 : decode cX12_start 45 = .ok (.iconst 0, 1) := by decide +kernel
theorem dX12_start_46 : decode cX12_start 46 = .ok (.istore_n 2, 1) := by decide +kernel
theorem dX12_start_47 : decode cX12_start 47 = .ok (.iconst 0, 1) := by decide +kernel
theorem dX12_start_48 : decode cX12_start 48 = .ok (.istore_n 3, 1) := by decide +kernel
theorem dX12_start_49 : decode cX12_start 49 = .ok (.iload_n 3, 1) := by decide +kernel
theorem dX12_start_50 : decode cX12_start 50 = .ok (.aload_n 0, 1) := by decide +kernel
theorem dX12_start_51 : decode cX12_start 51 = .ok (.getfield 7, 3) := by decide +kernel
theorem dX12_start_54 : decode cX12_start 54 = .ok (.iconst 0, 1) := by decide +kernel
theorem dX12_start_55 : decode cX12_start 55 = .ok (.iaload, 1) := by decide +kernel
theorem dX12_start_56 : decode cX12_start 56 = .ok (.if_icmp .ge 30, 3) := by decide +kernel
theorem dX12_start_59 : decode cX12_start 59 = .ok (.iload_n 2, 1) := by decide +kernel
theorem dX12_start_60 : decode cX12_start 60 = .ok (.aload_n 0, 1) := by decide +kernel
theorem dX12_start_61 : decode cX12_start 61 = .ok (.getfield 7, 3) := by decide +kernel
theorem dX12_start_64 : decode cX12_start 64 = .ok (.bipush 10, 2) := by decide +kernel
theorem dX12_start_66 : decode cX12_start 66 = .ok (.iload_n 3, 1) := by decide +kernel
theorem dX12_start_67 : decode cX12_start 67 = .ok (.iadd, 1) := by decide +kernel
theorem dX12_start_68 : decode cX12_start 68 = .ok (.iaload, 1) := by decide +kernel
theorem dX12_start_69 : decode cX12_start 69 = .ok (.iconst 3, 1) := by decide +kernel
theorem dX12_start_70 : decode cX12_start 70 = .ok (.if_icmp .eq 7, 3) := by decide +kernel
theorem dX12_start_73 : decode cX12_start 73 = .ok (.iconst 1, 1) := by decide +kernel
theorem dX12_start_74 : decode cX12_start 74 = .ok (.goto 4, 3) := by decide +kernel
theorem dX12_start_77 : decode cX12_start 77 = .ok (.iconst 0, 1) := by decide +kernel
theorem dX12_start_78 : decode cX12_start 78 = .ok (.iadd, 1) := by decide +kernel
theorem dX12_start_79 : decode cX12_start 79 = .ok (.istore_n 2, 1) := by decide +kernel
theorem dX12_start_80 : decode cX12_start 80 = .ok (.iinc 3 1, 3) := by decide +kernel
theorem dX12_start_83 : decode cX12_start 83 = .ok (.goto (-34), 3) := by decide +kernel
theorem dX12_start_86 : decode cX12_start 86 = .ok (.iload_n 2, 1) := by decide +kernel
theorem dX12_start_87 : decode cX12_start 87 = .ok (.ireturn, 1) := by decide +kernel
theorem dX12_hash_0 : decode cX12_hash 0 = .ok (.iload_n 1, 1) := by decide +kernel
theorem dX12_hash_1 : decode cX12_hash 1 = .ok (.invokestatic 104, 3) := by decide +kernel
theorem dX12_hash_4 : decode cX12_hash 4 = .ok (.ifCond .ne 6, 3) := by decide +kernel
theorem dX12_hash_7 : decode cX12_hash 7 = .ok (.bipush (-2), 2) := by decide +kernel
theorem dX12_hash_9 : decode cX12_hash 9 = .ok (.ireturn, 1) := by decide +kernel
theorem dX12_hash_10 : decode cX12_hash 10 = .ok (.aload_n 0, 1) := by decide +kernel
theorem dX12_hash_11 : decode cX12_hash 11 = .ok (.getfield 7, 3) := by decide +kernel
theorem dX12_hash_14 : decode cX12_hash 14 = .ok (.bipush 94, 2) := by decide +kernel
theorem dX12_hash_16 : decode cX12_hash 16 = .ok (.iload_n 1, 1) := by decide +kernel
theorem dX12_hash_17 : decode cX12_hash 17 = .ok (.iadd, 1) := by decide +kernel
theorem dX12_hash_18 : decode cX12_hash 18 = .ok (.iaload, 1) := by decide +kernel
theorem dX12_hash_19 : decode cX12_hash 19 = .ok (.bipush (-8), 2) := by decide +kernel
theorem dX12_hash_21 : decode cX12_hash 21 = .ok (.if_icmp .ne 109, 3) := by decide +kernel
theorem dX12_hash_24 : decode cX12_hash 24 = .ok (.aload_n 0, 1) := by decide +kernel
theorem dX12_hash_25 : decode cX12_hash 25 = .ok (.getfield 7, 3) := by decide +kernel
theorem dX12_hash_28 : decode cX12_hash 28 = .ok (.bipush 46, 2) := by decide +kernel
theorem dX12_hash_30 : decode cX12_hash 30 = .ok (.iload_n 1, 1) := by decide +kernel
theorem dX12_hash_31 : decode cX12_hash 31 = .ok (.iadd, 1) := by decide +kernel
theorem dX12_hash_32 : decode cX12_hash 32 = .ok (.iaload, 1) := by decide +kernel
theorem dX12_hash_33 : decode cX12_hash 33 = .ok (.istore_n 2, 1) := by decide +kernel
theorem dX12_hash_34 : decode cX12_hash 34 = .ok (.iload_n 2, 1) := by decide +kernel
theorem dX12_hash_35 : decode cX12_hash 35 = .ok (.iconst 3, 1) := by decide +kernel
theorem dX12_hash_36 : decode cX12_hash 36 = .ok (.if_icmp .eq 16, 3) := by decide +kernel
theorem dX12_hash_39 : decode cX12_hash 39 = .ok (.iload_n 2, 1) := by decide +kernel
theorem dX12_hash_40 : decode cX12_hash 40 = .ok (.iconst 2, 1) := by decide +kernel
theorem dX12_hash_41 : decode cX12_hash 41 = .ok (.if_icmp .ne 22, 3) := by decide +kernel
theorem dX12_hash_44 : decode cX12_hash 44 = .ok (.aload_n 0, 1) := by decide +kernel
theorem dX12_hash_45 : decode cX12_hash 45 = .ok (.iload_n 1, 1) := by decide +kernel
theorem dX12_hash_46 : decode cX12_hash 46 = .ok (.invokevirtual 54, 3) := by decide +kernel
theorem dX12_hash_49 : decode cX12_hash 49 = .ok (.ifCond .eq 14, 3) := by decide +kernel
theorem dX12_hash_52 : decode cX12_hash 52 = .ok (.aload_n 0, 1) := by decide +kernel
theorem dX12_hash_53 : decode cX12_hash 53 = .ok (.iload_n 1, 1) := by decide +kernel
theorem dX12_hash_54 : decode cX12_hash 54 = .ok (.invokevirtual 91, 3) := by decide +kernel
theorem dX12_hash_57 : decode cX12_hash 57 = .ok (.ifCond .ne 6, 3) := by decide +kernel
theorem dX12_hash_60 : decode cX12_hash 60 = .ok (.bipush (-6), 2) := by decide +kernel
theorem dX12_hash_62 : decode cX12_hash 62 = .ok (.ireturn, 1) := by decide +kernel
theorem dX12_hash_63 : decode cX12_hash 63 = .ok (.iload_n 2, 1) := by decide +kernel
theorem dX12_hash_64 : decode cX12_hash 64 = .ok (.iconst 1, 1) := by decide +kernel
theorem dX12_hash_65 : decode cX12_hash 65 = .ok (.if_icmp .eq 16, 3) := by decide +kernel
theorem dX12_hash_68 : decode cX12_hash 68 = .ok (.iload_n 2, 1) := by decide +kernel
theorem dX12_hash_69 : decode cX12_hash 69 = .ok (.iconst 2, 1) := by decide +kernel
theorem dX12_hash_70 : decode cX12_hash 70 = .ok (.if_icmp .ne 16, 3) := by decide +kernel
theorem dX12_hash_73 : decode cX12_hash 73 = .ok (.aload_n 0, 1) := by decide +kernel
theorem dX12_hash_74 : decode cX12_hash 74 = .ok (.iload_n 1, 1) := by decide +kernel
theorem dX12_hash_75 : decode cX12_hash 75 = .ok (.invokevirtual 54, 3) := by decide +kernel
theorem dX12_hash_78 : decode cX12_hash 78 = .ok (.ifCond .ne 8, 3) := by decide +kernel
theorem dX12_hash_81 : decode cX12_hash 81 = .ok (.aload_n 0, 1) := by decide +kernel
theorem dX12_hash_82 : decode cX12_hash 82 = .ok (.iload_n 1, 1) := by decide +kernel
theorem dX12_hash_83 : decode cX12_hash 83 = .ok (.invokevirtual 81, 3) := by decide +kernel
theorem dX12_hash_86 : decode cX12_hash 86 = .ok (.aload_n 0, 1) := by decide +kernel
theorem dX12_hash_87 : decode cX12_hash 87 = .ok (.getfield 7, 3) := by decide +kernel
theorem dX12_hash_90 : decode cX12_hash 90 = .ok (.bipush 94, 2) := by decide +kernel
theorem dX12_hash_92 : decode cX12_hash 92 = .ok (.iload_n 1, 1) := by decide +kernel
theorem dX12_hash_93 : decode cX12_hash 93 = .ok (.iadd, 1) := by decide +kernel
theorem dX12_hash_94 : decode cX12_hash 94 = .ok (.sipush 7919, 3) := by decide +kernel
theorem dX12_hash_97 : decode cX12_hash 97 = .ok (.aload_n 0, 1) := by decide +kernel
theorem dX12_hash_98 : decode cX12_hash 98 = .ok (.getfield 7, 3) := by decide +kernel
theorem dX12_hash_101 : decode cX12_hash 101 = .ok (.sipush 240, 3) := by decide +kernel
theorem dX12_hash_104 : decode cX12_hash 104 = .ok (.iaload, 1) := by decide +kernel
theorem dX12_hash_105 : decode cX12_hash 105 = .ok (.iconst 1, 1) := by decide +kernel
theorem dX12_hash_106 : decode cX12_hash 106 = .ok (.iadd, 1) := by decide +kernel
theorem dX12_hash_107 : decode cX12_hash 107 = .ok (.imul, 1) := by decide +kernel
theorem dX12_hash_108 : decode cX12_hash 108 = .ok (.bipush 13, 2) := by decide +kernel
theorem dX12_hash_110 : decode cX12_hash 110 = .ok (.iload_n 1, 1) := by decide +kernel
theorem dX12_hash_111 : decode cX12_hash 111 = .ok (.imul, 1) := by decide +kernel
theorem dX12_hash_112 : decode cX12_hash 112 = .ok (.iadd, 1) := by decide +kernel
theorem dX12_hash_113 : decode cX12_hash 113 = .ok (.sipush 1000, 3) := by decide +kernel
theorem dX12_hash_116 : decode cX12_hash 116 = .ok (.irem, 1) := by decide +kernel
theorem dX12_hash_117 : decode cX12_hash 117 = .ok (.iastore, 1) := by decide +kernel
theorem dX12_hash_118 : decode cX12_hash 118 = .ok (.aload_n 0, 1) := by decide +kernel
theorem dX12_hash_119 : decode cX12_hash 119 = .ok (.getfield 7, 3) := by decide +kernel
theorem dX12_hash_122 : decode cX12_hash 122 = .ok (.sipush 240, 3) := by decide +kernel
theorem dX12_hash_125 : decode cX12_hash 125 = .ok (.dup2, 1) := by decide +kernel
theorem dX12_hash_126 : decode cX12_hash 126 = .ok (.iaload, 1) := by decide +kernel
theorem dX12_hash_127 : decode cX12_hash 127 = .ok (.iconst 1, 1) := by decide +kernel
theorem dX12_hash_128 : decode cX12_hash 128 = .ok (.iadd, 1) := by decide +kernel
theorem dX12_hash_129 : decode cX12_hash 129 = .ok (.iastore, 1) := by decide +kernel
theorem dX12_hash_130 : decode cX12_hash 130 = .ok (.aload_n 0, 1) := by decide +kernel
theorem dX12_hash_131 : decode cX12_hash 131 = .ok (.bipush 8, 2) := by decide +kernel
theorem dX12_hash_133 : decode cX12_hash 133 = .ok (.iload_n 1, 1) := by decide +kernel
theorem dX12_hash_134 : decode cX12_hash 134 = .ok (.iconst 0, 1) := by decide +kernel
theorem dX12_hash_135 : decode cX12_hash 135 = .ok (.iconst 0, 1) := by decide +kernel
theorem dX12_hash_136 : decode cX12_hash 136 = .ok (.invokevirtual 110, 3) := by decide +kernel
theorem dX12_hash_139 : decode cX12_hash 139 = .ok (.aload_n 0, 1) := by decide +kernel
theorem dX12_hash_140 : decode cX12_hash 140 = .ok (.getfield 7, 3) := by decide +kernel
theorem dX12_hash_143 : decode cX12_hash 143 = .ok (.bipush 94, 2) := by decide +kernel
theorem dX12_hash_145 : decode cX12_hash 145 = .ok (.iload_n 1, 1) := by decide +kernel
theorem dX12_hash_146 : decode cX12_hash 146 = .ok (.iadd, 1) := by decide +kernel
theorem dX12_hash_147 : decode cX12_hash 147 = .ok (.iaload, 1) := by decide +kernel
theorem dX12_hash_148 : decode cX12_hash 148 = .ok (.ireturn, 1) := by decide +kernel
theorem dX12_tickOnce_0 : decode cX12_tickOnce 0 = .ok (.aload_n 0, 1) := by decide +kernel
theorem dX12_tickOnce_1 : decode cX12_tickOnce 1 = .ok (.getfield 7, 3) := by decide +kernel
theorem dX12_tickOnce_4 : decode cX12_tickOnce 4 = .ok (.bipush 9, 2) := by decide +kernel
theorem dX12_tickOnce_6 : decode cX12_tickOnce 6 = .ok (.dup2, 1) := by decide +kernel
theorem dX12_tickOnce_7 : decode cX12_tickOnce 7 = .ok (.iaload, 1) := by decide +kernel
theorem dX12_tickOnce_8 : decode cX12_tickOnce 8 = .ok (.iconst 1, 1) := by decide +kernel
theorem dX12_tickOnce_9 : decode cX12_tickOnce 9 = .ok (.iadd, 1) := by decide +kernel
theorem dX12_tickOnce_10 : decode cX12_tickOnce 10 = .ok (.iastore, 1) := by decide +kernel
theorem dX12_tickOnce_11 : decode cX12_tickOnce 11 = .ok (.iconst 0, 1) := by decide +kernel
theorem dX12_tickOnce_12 : decode cX12_tickOnce 12 = .ok (.istore_n 1, 1) := by decide +kernel
theorem dX12_tickOnce_13 : decode cX12_tickOnce 13 = .ok (.iload_n 1, 1) := by decide +kernel
theorem dX12_tickOnce_14 : decode cX12_tickOnce 14 = .ok (.aload_n 0, 1) := by decide +kernel
theorem dX12_tickOnce_15 : decode cX12_tickOnce 15 = .ok (.getfield 7, 3) := by decide +kernel
theorem dX12_tickOnce_18 : decode cX12_tickOnce 18 = .ok (.iconst 0, 1) := by decide +kernel
theorem dX12_tickOnce_19 : decode cX12_tickOnce 19 = .ok (.iaload, 1) := by decide +kernel
theorem dX12_tickOnce_20 : decode cX12_tickOnce 20 = .ok (.if_icmp .ge 60, 3) := by decide +kernel
theorem dX12_tickOnce_23 : decode cX12_tickOnce 23 = .ok (.aload_n 0, 1) := by decide +kernel
theorem dX12_tickOnce_24 : decode cX12_tickOnce 24 = .ok (.getfield 7, 3) := by decide +kernel
theorem dX12_tickOnce_27 : decode cX12_tickOnce 27 = .ok (.bipush 10, 2) := by decide +kernel
theorem dX12_tickOnce_29 : decode cX12_tickOnce 29 = .ok (.iload_n 1, 1) := by decide +kernel
theorem dX12_tickOnce_30 : decode cX12_tickOnce 30 = .ok (.iadd, 1) := by decide +kernel
theorem dX12_tickOnce_31 : decode cX12_tickOnce 31 = .ok (.iaload, 1) := by decide +kernel
theorem dX12_tickOnce_32 : decode cX12_tickOnce 32 = .ok (.iconst 2, 1) := by decide +kernel
theorem dX12_tickOnce_33 : decode cX12_tickOnce 33 = .ok (.if_icmp .ne 41, 3) := by decide +kernel
theorem dX12_tickOnce_36 : decode cX12_tickOnce 36 = .ok (.aload_n 0, 1) := by decide +kernel
theorem dX12_tickOnce_37 : decode cX12_tickOnce 37 = .ok (.getfield 7, 3) := by decide +kernel
theorem dX12_tickOnce_40 : decode cX12_tickOnce 40 = .ok (.bipush 34, 2) := by decide +kernel
theorem dX12_tickOnce_42 : decode cX12_tickOnce 42 = .ok (.iload_n 1, 1) := by decide +kernel
theorem dX12_tickOnce_43 : decode cX12_tickOnce 43 = .ok (.iadd, 1) := by decide +kernel
theorem dX12_tickOnce_44 : decode cX12_tickOnce 44 = .ok (.iaload, 1) := by decide +kernel
theorem dX12_tickOnce_45 : decode cX12_tickOnce 45 = .ok (.ifCond .le 29, 3) := by decide +kernel
theorem dX12_tickOnce_48 : decode cX12_tickOnce 48 = .ok (.aload_n 0, 1) := by decide +kernel
theorem dX12_tickOnce_49 : decode cX12_tickOnce 49 = .ok (.getfield 7, 3) := by decide +kernel
theorem dX12_tickOnce_52 : decode cX12_tickOnce 52 = .ok (.bipush 34, 2) := by decide +kernel
theorem dX12_tickOnce_54 : decode cX12_tickOnce 54 = .ok (.iload_n 1, 1) := by decide +kernel
theorem dX12_tickOnce_55 : decode cX12_tickOnce 55 = .ok (.iadd, 1) := by decide +kernel
theorem dX12_tickOnce_56 : decode cX12_tickOnce 56 = .ok (.iaload, 1) := by decide +kernel
theorem dX12_tickOnce_57 : decode cX12_tickOnce 57 = .ok (.aload_n 0, 1) := by decide +kernel
theorem dX12_tickOnce_58 : decode cX12_tickOnce 58 = .ok (.getfield 7, 3) := by decide +kernel
theorem dX12_tickOnce_61 : decode cX12_tickOnce 61 = .ok (.bipush 9, 2) := by decide +kernel
theorem dX12_tickOnce_63 : decode cX12_tickOnce 63 = .ok (.iaload, 1) := by decide +kernel
theorem dX12_tickOnce_64 : decode cX12_tickOnce 64 = .ok (.if_icmp .gt 10, 3) := by decide +kernel
theorem dX12_tickOnce_67 : decode cX12_tickOnce 67 = .ok (.aload_n 0, 1) := by decide +kernel
theorem dX12_tickOnce_68 : decode cX12_tickOnce 68 = .ok (.iload_n 1, 1) := by decide +kernel
theorem dX12_tickOnce_69 : decode cX12_tickOnce 69 = .ok (.iconst 2, 1) := by decide +kernel
theorem dX12_tickOnce_70 : decode cX12_tickOnce 70 = .ok (.iconst 0, 1) := by decide +kernel
theorem dX12_tickOnce_71 : decode cX12_tickOnce 71 = .ok (.invokevirtual 120, 3) := by decide +kernel
theorem dX12_tickOnce_74 : decode cX12_tickOnce 74 = .ok (.iinc 1 1, 3) := by decide +kernel
theorem dX12_tickOnce_77 : decode cX12_tickOnce 77 = .ok (.goto (-64), 3) := by decide +kernel
theorem dX12_tickOnce_80 : decode cX12_tickOnce 80 = .ok (.iconst 0, 1) := by decide +kernel
theorem dX12_tickOnce_81 : decode cX12_tickOnce 81 = .ok (.istore_n 1, 1) := by decide +kernel
theorem dX12_tickOnce_82 : decode cX12_tickOnce 82 = .ok (.iload_n 1, 1) := by decide +kernel
theorem dX12_tickOnce_83 : decode cX12_tickOnce 83 = .ok (.bipush 8, 2) := by decide +kernel
theorem dX12_tickOnce_85 : decode cX12_tickOnce 85 = .ok (.if_icmp .ge 59, 3) := by decide +kernel
theorem dX12_tickOnce_88 : decode cX12_tickOnce 88 = .ok (.aload_n 0, 1) := by decide +kernel
theorem dX12_tickOnce_89 : decode cX12_tickOnce 89 = .ok (.getfield 7, 3) := by decide +kernel
theorem dX12_tickOnce_92 : decode cX12_tickOnce 92 = .ok (.bipush 46, 2) := by decide +kernel
theorem dX12_tickOnce_94 : decode cX12_tickOnce 94 = .ok (.iload_n 1, 1) := by decide +kernel
theorem dX12_tickOnce_95 : decode cX12_tickOnce 95 = .ok (.iadd, 1) := by decide +kernel
theorem dX12_tickOnce_96 : decode cX12_tickOnce 96 = .ok (.iaload, 1) := by decide +kernel
theorem dX12_tickOnce_97 : decode cX12_tickOnce 97 = .ok (.iconst 4, 1) := by decide +kernel
theorem dX12_tickOnce_98 : decode cX12_tickOnce 98 = .ok (.if_icmp .ne 40, 3) := by decide +kernel
theorem dX12_tickOnce_101 : decode cX12_tickOnce 101 = .ok (.aload_n 0, 1) := by decide +kernel
theorem dX12_tickOnce_102 : decode cX12_tickOnce 102 = .ok (.iload_n 1, 1) := by decide +kernel
theorem dX12_tickOnce_103 : decode cX12_tickOnce 103 = .ok (.invokevirtual 54, 3) := by decide +kernel
theorem dX12_tickOnce_106 : decode cX12_tickOnce 106 = .ok (.ifCond .ne 32, 3) := by decide +kernel
theorem dX12_tickOnce_109 : decode cX12_tickOnce 109 = .ok (.aload_n 0, 1) := by decide +kernel
theorem dX12_tickOnce_110 : decode cX12_tickOnce 110 = .ok (.getfield 7, 3) := by decide +kernel
theorem dX12_tickOnce_113 : decode cX12_tickOnce 113 = .ok (.bipush 110, 2) := by decide +kernel
theorem dX12_tickOnce_115 : decode cX12_tickOnce 115 = .ok (.iload_n 1, 1) := by decide +kernel
theorem dX12_tickOnce_116 : decode cX12_tickOnce 116 = .ok (.iadd, 1) := by decide +kernel
theorem dX12_tickOnce_117 : decode cX12_tickOnce 117 = .ok (.iaload, 1) := by decide +kernel
theorem dX12_tickOnce_118 : decode cX12_tickOnce 118 = .ok (.ifCond .le 20, 3) := by decide +kernel
theorem dX12_tickOnce_121 : decode cX12_tickOnce 121 = .ok (.aload_n 0, 1) := by decide +kernel
theorem dX12_tickOnce_122 : decode cX12_tickOnce 122 = .ok (.getfield 7, 3) := by decide +kernel
theorem dX12_tickOnce_125 : decode cX12_tickOnce 125 = .ok (.sipush 236, 3) := by decide +kernel
theorem dX12_tickOnce_128 : decode cX12_tickOnce 128 = .ok (.dup2, 1) := by decide +kernel
theorem dX12_tickOnce_129 : decode cX12_tickOnce 129 = .ok (.iaload, 1) := by decide +kernel
theorem dX12_tickOnce_130 : decode cX12_tickOnce 130 = .ok (.iconst 1, 1) := by decide +kernel
theorem dX12_tickOnce_131 : decode cX12_tickOnce 131 = .ok (.iadd, 1) := by decide +kernel
theorem dX12_tickOnce_132 : decode cX12_tickOnce 132 = .ok (.iastore, 1) := by decide +kernel
theorem dX12_tickOnce_133 : decode cX12_tickOnce 133 = .ok (.aload_n 0, 1) := by decide +kernel
theorem dX12_tickOnce_134 : decode cX12_tickOnce 134 = .ok (.iload_n 1, 1) := by decide +kernel
theorem dX12_tickOnce_135 : decode cX12_tickOnce 135 = .ok (.invokevirtual 78, 3) := by decide +kernel
theorem dX12_tickOnce_138 : decode cX12_tickOnce 138 = .ok (.iinc 1 1, 3) := by decide +kernel
theorem dX12_tickOnce_141 : decode cX12_tickOnce 141 = .ok (.goto (-59), 3) := by decide +kernel
theorem dX12_tickOnce_144 : decode cX12_tickOnce 144 = .ok (.iconst 0, 1) := by decide +kernel
theorem dX12_tickOnce_145 : decode cX12_tickOnce 145 = .ok (.istore_n 1, 1) := by decide +kernel
theorem dX12_tickOnce_146 : decode cX12_tickOnce 146 = .ok (.iload_n 1, 1) := by decide +kernel
theorem dX12_tickOnce_147 : decode cX12_tickOnce 147 = .ok (.bipush 8, 2) := by decide +kernel
theorem dX12_tickOnce_149 : decode cX12_tickOnce 149 = .ok (.if_icmp .ge 49, 3) := by decide +kernel
theorem dX12_tickOnce_152 : decode cX12_tickOnce 152 = .ok (.aload_n 0, 1) := by decide +kernel
theorem dX12_tickOnce_153 : decode cX12_tickOnce 153 = .ok (.iload_n 1, 1) := by decide +kernel
theorem dX12_tickOnce_154 : decode cX12_tickOnce 154 = .ok (.invokevirtual 58, 3) := by decide +kernel
theorem dX12_tickOnce_157 : decode cX12_tickOnce 157 = .ok (.ifCond .eq 35, 3) := by decide +kernel
theorem dX12_tickOnce_160 : decode cX12_tickOnce 160 = .ok (.aload_n 0, 1) := by decide +kernel
theorem dX12_tickOnce_161 : decode cX12_tickOnce 161 = .ok (.getfield 7, 3) := by decide +kernel
theorem dX12_tickOnce_164 : decode cX12_tickOnce 164 = .ok (.bipush 9, 2) := by decide +kernel
theorem dX12_tickOnce_166 : decode cX12_tickOnce 166 = .ok (.iaload, 1) := by decide +kernel
theorem dX12_tickOnce_167 : decode cX12_tickOnce 167 = .ok (.aload_n 0, 1) := by decide +kernel
theorem dX12_tickOnce_168 : decode cX12_tickOnce 168 = .ok (.getfield 7, 3) := by decide +kernel
theorem dX12_tickOnce_171 : decode cX12_tickOnce 171 = .ok (.bipush 102, 2) := by decide +kernel
theorem dX12_tickOnce_173 : decode cX12_tickOnce 173 = .ok (.iload_n 1, 1) := by decide +kernel
theorem dX12_tickOnce_174 : decode cX12_tickOnce 174 = .ok (.iadd, 1) := by decide +kernel
theorem dX12_tickOnce_175 : decode cX12_tickOnce 175 = .ok (.iaload, 1) := by decide +kernel
theorem dX12_tickOnce_176 : decode cX12_tickOnce 176 = .ok (.isub, 1) := by decide +kernel
theorem dX12_tickOnce_177 : decode cX12_tickOnce 177 = .ok (.aload_n 0, 1) := by decide +kernel
theorem dX12_tickOnce_178 : decode cX12_tickOnce 178 = .ok (.getfield 7, 3) := by decide +kernel
theorem dX12_tickOnce_181 : decode cX12_tickOnce 181 = .ok (.bipush 6, 2) := by decide +kernel
theorem dX12_tickOnce_183 : decode cX12_tickOnce 183 = .ok (.iaload, 1) := by decide +kernel
theorem dX12_tickOnce_184 : decode cX12_tickOnce 184 = .ok (.if_icmp .lt 8, 3) := by decide +kernel
theorem dX12_tickOnce_187 : decode cX12_tickOnce 187 = .ok (.aload_n 0, 1) := by decide +kernel
theorem dX12_tickOnce_188 : decode cX12_tickOnce 188 = .ok (.iload_n 1, 1) := by decide +kernel
theorem dX12_tickOnce_189 : decode cX12_tickOnce 189 = .ok (.invokevirtual 61, 3) := by decide +kernel
theorem dX12_tickOnce_192 : decode cX12_tickOnce 192 = .ok (.iinc 1 1, 3) := by decide +kernel
theorem dX12_tickOnce_195 : decode cX12_tickOnce 195 = .ok (.goto (-49), 3) := by decide +kernel
theorem dX12_tickOnce_198 : decode cX12_tickOnce 198 = .ok (.return_, 1) := by decide +kernel
theorem dX12_tick_0 : decode cX12_tick 0 = .ok (.iload_n 1, 1) := by decide +kernel
theorem dX12_tick_1 : decode cX12_tick 1 = .ok (.iconst 1, 1) := by decide +kernel
theorem dX12_tick_2 : decode cX12_tick 2 = .ok (.bipush 20, 2) := by decide +kernel
theorem dX12_tick_4 : decode cX12_tick 4 = .ok (.invokestatic 35, 3) := by decide +kernel
theorem dX12_tick_7 : decode cX12_tick 7 = .ok (.ifCond .ne 6, 3) := by decide +kernel
theorem dX12_tick_10 : decode cX12_tick 10 = .ok (.bipush (-3), 2) := by decide +kernel
theorem dX12_tick_12 : decode cX12_tick 12 = .ok (.ireturn, 1) := by decide +kernel
theorem dX12_tick_13 : decode cX12_tick 13 = .ok (.aload_n 0, 1) := by decide +kernel
theorem dX12_tick_14 : decode cX12_tick 14 = .ok (.getfield 7, 3) := by decide +kernel
theorem dX12_tick_17 : decode cX12_tick 17 = .ok (.sipush 236, 3) := by decide +kernel
theorem dX12_tick_20 : decode cX12_tick 20 = .ok (.iaload, 1) := by decide +kernel
theorem dX12_tick_21 : decode cX12_tick 21 = .ok (.istore_n 2, 1) := by decide +kernel
theorem dX12_tick_22 : decode cX12_tick 22 = .ok (.iconst 0, 1) := by decide +kernel
theorem dX12_tick_23 : decode cX12_tick 23 = .ok (.istore_n 3, 1) := by decide +kernel
theorem dX12_tick_24 : decode cX12_tick 24 = .ok (.iload_n 3, 1) := by decide +kernel
theorem dX12_tick_25 : decode cX12_tick 25 = .ok (.iload_n 1, 1) := by decide +kernel
theorem dX12_tick_26 : decode cX12_tick 26 = .ok (.if_icmp .ge 13, 3) := by decide +kernel
theorem dX12_tick_29 : decode cX12_tick 29 = .ok (.aload_n 0, 1) := by decide +kernel
theorem dX12_tick_30 : decode cX12_tick 30 = .ok (.invokevirtual 124, 3) := by decide +kernel
theorem dX12_tick_33 : decode cX12_tick 33 = .ok (.iinc 3 1, 3) := by decide +kernel
theorem dX12_tick_36 : decode cX12_tick 36 = .ok (.goto (-12), 3) := by decide +kernel
theorem dX12_tick_39 : decode cX12_tick 39 = .ok (.aload_n 0, 1) := by decide +kernel
theorem dX12_tick_40 : decode cX12_tick 40 = .ok (.bipush 9, 2) := by decide +kernel
theorem dX12_tick_42 : decode cX12_tick 42 = .ok (.iload_n 1, 1) := by decide +kernel
theorem dX12_tick_43 : decode cX12_tick 43 = .ok (.iconst 0, 1) := by decide +kernel
theorem dX12_tick_44 : decode cX12_tick 44 = .ok (.iconst 0, 1) := by decide +kernel
theorem dX12_tick_45 : decode cX12_tick 45 = .ok (.invokevirtual 110, 3) := by decide +kernel
theorem dX12_tick_48 : decode cX12_tick 48 = .ok (.aload_n 0, 1) := by decide +kernel
theorem dX12_tick_49 : decode cX12_tick 49 = .ok (.getfield 7, 3) := by decide +kernel
theorem dX12_tick_52 : decode cX12_tick 52 = .ok (.sipush 236, 3) := by decide +kernel
theorem dX12_tick_55 : decode cX12_tick 55 = .ok (.iaload, 1) := by decide +kernel
theorem dX12_tick_56 : decode cX12_tick 56 = .ok (.iload_n 2, 1) := by decide +kernel
theorem dX12_tick_57 : decode cX12_tick 57 = .ok (.isub, 1) := by decide +kernel
theorem dX12_tick_58 : decode cX12_tick 58 = .ok (.ireturn, 1) := by decide +kernel
theorem dX12_threads_0 : decode cX12_threads 0 = .ok (.aload_n 0, 1) := by decide +kernel
theorem dX12_threads_1 : decode cX12_threads 1 = .ok (.getfield 7, 3) := by decide +kernel
theorem dX12_threads_4 : decode cX12_threads 4 = .ok (.iconst 0, 1) := by decide +kernel
theorem dX12_threads_5 : decode cX12_threads 5 = .ok (.iaload, 1) := by decide +kernel
theorem dX12_threads_6 : decode cX12_threads 6 = .ok (.ireturn, 1) := by decide +kernel
theorem dX12_threadState_0 : decode cX12_threadState 0 = .ok (.aload_n 0, 1) := by decide +kernel
theorem dX12_threadState_1 : decode cX12_threadState 1 = .ok (.iload_n 1, 1) := by decide +kernel
theorem dX12_threadState_2 : decode cX12_threadState 2 = .ok (.invokevirtual 101, 3) := by decide +kernel
theorem dX12_threadState_5 : decode cX12_threadState 5 = .ok (.ifCond .eq 28, 3) := by decide +kernel
theorem dX12_threadState_8 : decode cX12_threadState 8 = .ok (.aload_n 0, 1) := by decide +kernel
theorem dX12_threadState_9 : decode cX12_threadState 9 = .ok (.getfield 7, 3) := by decide +kernel
theorem dX12_threadState_12 : decode cX12_threadState 12 = .ok (.bipush 10, 2) := by decide +kernel
theorem dX12_threadState_14 : decode cX12_threadState 14 = .ok (.iload_n 1, 1) := by decide +kernel
theorem dX12_threadState_15 : decode cX12_threadState 15 = .ok (.iadd, 1) := by decide +kernel
theorem dX12_threadState_16 : decode cX12_threadState 16 = .ok (.iaload, 1) := by decide +kernel
theorem dX12_threadState_17 : decode cX12_threadState 17 = .ok (.bipush 10, 2) := by decide +kernel
theorem dX12_threadState_19 : decode cX12_threadState 19 = .ok (.aload_n 0, 1) := by decide +kernel
theorem dX12_threadState_20 : decode cX12_threadState 20 = .ok (.getfield 7, 3) := by decide +kernel
theorem dX12_threadState_23 : decode cX12_threadState 23 = .ok (.bipush 16, 2) := by decide +kernel
theorem dX12_threadState_25 : decode cX12_threadState 25 = .ok (.iload_n 1, 1) := by decide +kernel
theorem dX12_threadState_26 : decode cX12_threadState 26 = .ok (.iadd, 1) := by decide +kernel
theorem dX12_threadState_27 : decode cX12_threadState 27 = .ok (.iaload, 1) := by decide +kernel
theorem dX12_threadState_28 : decode cX12_threadState 28 = .ok (.imul, 1) := by decide +kernel
theorem dX12_threadState_29 : decode cX12_threadState 29 = .ok (.iadd, 1) := by decide +kernel
theorem dX12_threadState_30 : decode cX12_threadState 30 = .ok (.goto 4, 3) := by decide +kernel
theorem dX12_threadState_33 : decode cX12_threadState 33 = .ok (.iconst (-1), 1) := by decide +kernel
theorem dX12_threadState_34 : decode cX12_threadState 34 = .ok (.ireturn, 1) := by decide +kernel
theorem dX12_threadAt_0 : decode cX12_threadAt 0 = .ok (.aload_n 0, 1) := by decide +kernel
theorem dX12_threadAt_1 : decode cX12_threadAt 1 = .ok (.iload_n 1, 1) := by decide +kernel
theorem dX12_threadAt_2 : decode cX12_threadAt 2 = .ok (.invokevirtual 101, 3) := by decide +kernel
theorem dX12_threadAt_5 : decode cX12_threadAt 5 = .ok (.ifCond .eq 15, 3) := by decide +kernel
theorem dX12_threadAt_8 : decode cX12_threadAt 8 = .ok (.aload_n 0, 1) := by decide +kernel
theorem dX12_threadAt_9 : decode cX12_threadAt 9 = .ok (.getfield 7, 3) := by decide +kernel
theorem dX12_threadAt_12 : decode cX12_threadAt 12 = .ok (.bipush 28, 2) := by decide +kernel
theorem dX12_threadAt_14 : decode cX12_threadAt 14 = .ok (.iload_n 1, 1) := by decide +kernel
theorem dX12_threadAt_15 : decode cX12_threadAt 15 = .ok (.iadd, 1) := by decide +kernel
theorem dX12_threadAt_16 : decode cX12_threadAt 16 = .ok (.iaload, 1) := by decide +kernel
theorem dX12_threadAt_17 : decode cX12_threadAt 17 = .ok (.goto 4, 3) := by decide +kernel
theorem dX12_threadAt_20 : decode cX12_threadAt 20 = .ok (.iconst (-1), 1) := by decide +kernel
theorem dX12_threadAt_21 : decode cX12_threadAt 21 = .ok (.ireturn, 1) := by decide +kernel
theorem dX12_held_0 : decode cX12_held 0 = .ok (.aload_n 0, 1) := by decide +kernel
theorem dX12_held_1 : decode cX12_held 1 = .ok (.iload_n 1, 1) := by decide +kernel
theorem dX12_held_2 : decode cX12_held 2 = .ok (.invokevirtual 101, 3) := by decide +kernel
theorem dX12_held_5 : decode cX12_held 5 = .ok (.ifCond .ne 5, 3) := by decide +kernel
theorem dX12_held_8 : decode cX12_held 8 = .ok (.iconst (-1), 1) := by decide +kernel
theorem dX12_held_9 : decode cX12_held 9 = .ok (.ireturn, 1) := by decide +kernel
theorem dX12_held_10 : decode cX12_held 10 = .ok (.iconst 0, 1) := by decide +kernel
theorem dX12_held_11 : decode cX12_held 11 = .ok (.istore_n 2, 1) := by decide +kernel
theorem dX12_held_12 : decode cX12_held 12 = .ok (.iconst 0, 1) := by decide +kernel
theorem dX12_held_13 : decode cX12_held 13 = .ok (.istore_n 3, 1) := by decide +kernel
theorem dX12_held_14 : decode cX12_held 14 = .ok (.iload_n 3, 1) := by decide +kernel
theorem dX12_held_15 : decode cX12_held 15 = .ok (.bipush 8, 2) := by decide +kernel
theorem dX12_held_17 : decode cX12_held 17 = .ok (.if_icmp .ge 40, 3) := by decide +kernel
theorem dX12_held_20 : decode cX12_held 20 = .ok (.iload_n 2, 1) := by decide +kernel
theorem dX12_held_21 : decode cX12_held 21 = .ok (.aload_n 0, 1) := by decide +kernel
theorem dX12_held_22 : decode cX12_held 22 = .ok (.iload_n 3, 1) := by decide +kernel
theorem dX12_held_23 : decode cX12_held 23 = .ok (.invokevirtual 54, 3) := by decide +kernel
theorem dX12_held_26 : decode cX12_held 26 = .ok (.ifCond .eq 22, 3) := by decide +kernel
theorem dX12_held_29 : decode cX12_held 29 = .ok (.aload_n 0, 1) := by decide +kernel
theorem dX12_held_30 : decode cX12_held 30 = .ok (.getfield 7, 3) := by decide +kernel
theorem dX12_held_33 : decode cX12_held 33 = .ok (.bipush 54, 2) := by decide +kernel
theorem dX12_held_35 : decode cX12_held 35 = .ok (.iload_n 3, 1) := by decide +kernel
theorem dX12_held_36 : decode cX12_held 36 = .ok (.iadd, 1) := by decide +kernel
theorem dX12_held_37 : decode cX12_held 37 = .ok (.iaload, 1) := by decide +kernel
theorem dX12_held_38 : decode cX12_held 38 = .ok (.iload_n 1, 1) := by decide +kernel
theorem dX12_held_39 : decode cX12_held 39 = .ok (.if_icmp .ne 9, 3) := by decide +kernel
theorem dX12_held_42 : decode cX12_held 42 = .ok (.iconst 1, 1) := by decide +kernel
theorem dX12_held_43 : decode cX12_held 43 = .ok (.iload_n 3, 1) := by decide +kernel
theorem dX12_held_44 : decode cX12_held 44 = .ok (.ishl, 1) := by decide +kernel
theorem dX12_held_45 : decode cX12_held 45 = .ok (.goto 4, 3) := by decide +kernel
theorem dX12_held_48 : decode cX12_held 48 = .ok (.iconst 0, 1) := by decide +kernel
theorem dX12_held_49 : decode cX12_held 49 = .ok (.ior, 1) := by decide +kernel
theorem dX12_held_50 : decode cX12_held 50 = .ok (.istore_n 2, 1) := by decide +kernel
theorem dX12_held_51 : decode cX12_held 51 = .ok (.iinc 3 1, 3) := by decide +kernel
theorem dX12_held_54 : decode cX12_held 54 = .ok (.goto (-40), 3) := by decide +kernel
theorem dX12_held_57 : decode cX12_held 57 = .ok (.iload_n 2, 1) := by decide +kernel
theorem dX12_held_58 : decode cX12_held 58 = .ok (.ireturn, 1) := by decide +kernel
theorem dX12_waitEnd_0 : decode cX12_waitEnd 0 = .ok (.aload_n 0, 1) := by decide +kernel
theorem dX12_waitEnd_1 : decode cX12_waitEnd 1 = .ok (.iload_n 1, 1) := by decide +kernel
theorem dX12_waitEnd_2 : decode cX12_waitEnd 2 = .ok (.invokevirtual 101, 3) := by decide +kernel
theorem dX12_waitEnd_5 : decode cX12_waitEnd 5 = .ok (.ifCond .eq 15, 3) := by decide +kernel
theorem dX12_waitEnd_8 : decode cX12_waitEnd 8 = .ok (.aload_n 0, 1) := by decide +kernel
theorem dX12_waitEnd_9 : decode cX12_waitEnd 9 = .ok (.getfield 7, 3) := by decide +kernel
theorem dX12_waitEnd_12 : decode cX12_waitEnd 12 = .ok (.bipush 22, 2) := by decide +kernel
theorem dX12_waitEnd_14 : decode cX12_waitEnd 14 = .ok (.iload_n 1, 1) := by decide +kernel
theorem dX12_waitEnd_15 : decode cX12_waitEnd 15 = .ok (.iadd, 1) := by decide +kernel
theorem dX12_waitEnd_16 : decode cX12_waitEnd 16 = .ok (.iaload, 1) := by decide +kernel
theorem dX12_waitEnd_17 : decode cX12_waitEnd 17 = .ok (.goto 4, 3) := by decide +kernel
theorem dX12_waitEnd_20 : decode cX12_waitEnd 20 = .ok (.iconst (-1), 1) := by decide +kernel
theorem dX12_waitEnd_21 : decode cX12_waitEnd 21 = .ok (.ireturn, 1) := by decide +kernel
theorem dX12_waitsFor_0 : decode cX12_waitsFor 0 = .ok (.aload_n 0, 1) := by decide +kernel
theorem dX12_waitsFor_1 : decode cX12_waitsFor 1 = .ok (.getfield 7, 3) := by decide +kernel
theorem dX12_waitsFor_4 : decode cX12_waitsFor 4 = .ok (.bipush 10, 2) := by decide +kernel
theorem dX12_waitsFor_6 : decode cX12_waitsFor 6 = .ok (.iload_n 1, 1) := by decide +kernel
theorem dX12_waitsFor_7 : decode cX12_waitsFor 7 = .ok (.iadd, 1) := by decide +kernel
theorem dX12_waitsFor_8 : decode cX12_waitsFor 8 = .ok (.iaload, 1) := by decide +kernel
theorem dX12_waitsFor_9 : decode cX12_waitsFor 9 = .ok (.iconst 1, 1) := by decide +kernel
theorem dX12_waitsFor_10 : decode cX12_waitsFor 10 = .ok (.if_icmp .ne 19, 3) := by decide +kernel
theorem dX12_waitsFor_13 : decode cX12_waitsFor 13 = .ok (.aload_n 0, 1) := by decide +kernel
theorem dX12_waitsFor_14 : decode cX12_waitsFor 14 = .ok (.aload_n 0, 1) := by decide +kernel
theorem dX12_waitsFor_15 : decode cX12_waitsFor 15 = .ok (.getfield 7, 3) := by decide +kernel
theorem dX12_waitsFor_18 : decode cX12_waitsFor 18 = .ok (.bipush 28, 2) := by decide +kernel
theorem dX12_waitsFor_20 : decode cX12_waitsFor 20 = .ok (.iload_n 1, 1) := by decide +kernel
theorem dX12_waitsFor_21 : decode cX12_waitsFor 21 = .ok (.iadd, 1) := by decide +kernel
theorem dX12_waitsFor_22 : decode cX12_waitsFor 22 = .ok (.iaload, 1) := by decide +kernel
theorem dX12_waitsFor_23 : decode cX12_waitsFor 23 = .ok (.invokevirtual 54, 3) := by decide +kernel
theorem dX12_waitsFor_26 : decode cX12_waitsFor 26 = .ok (.ifCond .ne 5, 3) := by decide +kernel
theorem dX12_waitsFor_29 : decode cX12_waitsFor 29 = .ok (.iconst (-1), 1) := by decide +kernel
theorem dX12_waitsFor_30 : decode cX12_waitsFor 30 = .ok (.ireturn, 1) := by decide +kernel
theorem dX12_waitsFor_31 : decode cX12_waitsFor 31 = .ok (.aload_n 0, 1) := by decide +kernel
theorem dX12_waitsFor_32 : decode cX12_waitsFor 32 = .ok (.getfield 7, 3) := by decide +kernel
theorem dX12_waitsFor_35 : decode cX12_waitsFor 35 = .ok (.bipush 54, 2) := by decide +kernel
theorem dX12_waitsFor_37 : decode cX12_waitsFor 37 = .ok (.aload_n 0, 1) := by decide +kernel
theorem dX12_waitsFor_38 : decode cX12_waitsFor 38 = .ok (.getfield 7, 3) := by decide +kernel
theorem dX12_waitsFor_41 : decode cX12_waitsFor 41 = .ok (.bipush 28, 2) := by decide +kernel
theorem dX12_waitsFor_43 : decode cX12_waitsFor 43 = .ok (.iload_n 1, 1) := by decide +kernel
theorem dX12_waitsFor_44 : decode cX12_waitsFor 44 = .ok (.iadd, 1) := by decide +kernel
theorem dX12_waitsFor_45 : decode cX12_waitsFor 45 = .ok (.iaload, 1) := by decide +kernel
theorem dX12_waitsFor_46 : decode cX12_waitsFor 46 = .ok (.iadd, 1) := by decide +kernel
theorem dX12_waitsFor_47 : decode cX12_waitsFor 47 = .ok (.iaload, 1) := by decide +kernel
theorem dX12_waitsFor_48 : decode cX12_waitsFor 48 = .ok (.ireturn, 1) := by decide +kernel
theorem dX12_deadlocked_0 : decode cX12_deadlocked 0 = .ok (.iconst 0, 1) := by decide +kernel
theorem dX12_deadlocked_1 : decode cX12_deadlocked 1 = .ok (.istore_n 1, 1) := by decide +kernel
theorem dX12_deadlocked_2 : decode cX12_deadlocked 2 = .ok (.iconst 0, 1) := by decide +kernel
theorem dX12_deadlocked_3 : decode cX12_deadlocked 3 = .ok (.istore_n 2, 1) := by decide +kernel
theorem dX12_deadlocked_4 : decode cX12_deadlocked 4 = .ok (.iload_n 2, 1) := by decide +kernel
theorem dX12_deadlocked_5 : decode cX12_deadlocked 5 = .ok (.aload_n 0, 1) := by decide +kernel
theorem dX12_deadlocked_6 : decode cX12_deadlocked 6 = .ok (.getfield 7, 3) := by decide +kernel
theorem dX12_deadlocked_9 : decode cX12_deadlocked 9 = .ok (.iconst 0, 1) := by decide +kernel
theorem dX12_deadlocked_10 : decode cX12_deadlocked 10 = .ok (.iaload, 1) := by decide +kernel
theorem dX12_deadlocked_11 : decode cX12_deadlocked 11 = .ok (.if_icmp .ge 61, 3) := by decide +kernel
theorem dX12_deadlocked_14 : decode cX12_deadlocked 14 = .ok (.aload_n 0, 1) := by decide +kernel
theorem dX12_deadlocked_15 : decode cX12_deadlocked 15 = .ok (.iload_n 2, 1) := by decide +kernel
theorem dX12_deadlocked_16 : decode cX12_deadlocked 16 = .ok (.invokevirtual 127, 3) := by decide +kernel
theorem dX12_deadlocked_19 : decode cX12_deadlocked 19 = .ok (.istore_n 3, 1) := by decide +kernel
theorem dX12_deadlocked_20 : decode cX12_deadlocked 20 = .ok (.iconst 0, 1) := by decide +kernel
theorem dX12_deadlocked_21 : decode cX12_deadlocked 21 = .ok (.istore 4, 2) := by decide +kernel
theorem dX12_deadlocked_23 : decode cX12_deadlocked 23 = .ok (.iload 4, 2) := by decide +kernel
theorem dX12_deadlocked_25 : decode cX12_deadlocked 25 = .ok (.bipush 6, 2) := by decide +kernel
theorem dX12_deadlocked_27 : decode cX12_deadlocked 27 = .ok (.if_icmp .ge 24, 3) := by decide +kernel
theorem dX12_deadlocked_30 : decode cX12_deadlocked 30 = .ok (.iload_n 3, 1) := by decide +kernel
theorem dX12_deadlocked_31 : decode cX12_deadlocked 31 = .ok (.ifCond .lt 20, 3) := by decide +kernel
theorem dX12_deadlocked_34 : decode cX12_deadlocked 34 = .ok (.iload_n 3, 1) := by decide +kernel
theorem dX12_deadlocked_35 : decode cX12_deadlocked 35 = .ok (.iload_n 2, 1) := by decide +kernel
theorem dX12_deadlocked_36 : decode cX12_deadlocked 36 = .ok (.if_icmp .eq 15, 3) := by decide +kernel
theorem dX12_deadlocked_39 : decode cX12_deadlocked 39 = .ok (.aload_n 0, 1) := by decide +kernel
theorem dX12_deadlocked_40 : decode cX12_deadlocked 40 = .ok (.iload_n 3, 1) := by decide +kernel
theorem dX12_deadlocked_41 : decode cX12_deadlocked 41 = .ok (.invokevirtual 127, 3) := by decide +kernel
theorem dX12_deadlocked_44 : decode cX12_deadlocked 44 = .ok (.istore_n 3, 1) := by decide +kernel
theorem dX12_deadlocked_45 : decode cX12_deadlocked 45 = .ok (.iinc 4 1, 3) := by decide +kernel
theorem dX12_deadlocked_48 : decode cX12_deadlocked 48 = .ok (.goto (-25), 3) := by decide +kernel
theorem dX12_deadlocked_51 : decode cX12_deadlocked 51 = .ok (.iload_n 1, 1) := by decide +kernel
theorem dX12_deadlocked_52 : decode cX12_deadlocked 52 = .ok (.iload_n 3, 1) := by decide +kernel
theorem dX12_deadlocked_53 : decode cX12_deadlocked 53 = .ok (.iload_n 2, 1) := by decide +kernel
theorem dX12_deadlocked_54 : decode cX12_deadlocked 54 = .ok (.if_icmp .ne 9, 3) := by decide +kernel
theorem dX12_deadlocked_57 : decode cX12_deadlocked 57 = .ok (.iconst 1, 1) := by decide +kernel
theorem dX12_deadlocked_58 : decode cX12_deadlocked 58 = .ok (.iload_n 2, 1) := by decide +kernel
theorem dX12_deadlocked_59 : decode cX12_deadlocked 59 = .ok (.ishl, 1) := by decide +kernel
theorem dX12_deadlocked_60 : decode cX12_deadlocked 60 = .ok (.goto 4, 3) := by decide +kernel
theorem dX12_deadlocked_63 : decode cX12_deadlocked 63 = .ok (.iconst 0, 1) := by decide +kernel
theorem dX12_deadlocked_64 : decode cX12_deadlocked 64 = .ok (.ior, 1) := by decide +kernel
theorem dX12_deadlocked_65 : decode cX12_deadlocked 65 = .ok (.istore_n 1, 1) := by decide +kernel
theorem dX12_deadlocked_66 : decode cX12_deadlocked 66 = .ok (.iinc 2 1, 3) := by decide +kernel
theorem dX12_deadlocked_69 : decode cX12_deadlocked 69 = .ok (.goto (-65), 3) := by decide +kernel
theorem dX12_deadlocked_72 : decode cX12_deadlocked 72 = .ok (.iload_n 1, 1) := by decide +kernel
theorem dX12_deadlocked_73 : decode cX12_deadlocked 73 = .ok (.ireturn, 1) := by decide +kernel
theorem dX12_lockState_0 : decode cX12_lockState 0 = .ok (.iload_n 1, 1) := by decide +kernel
theorem dX12_lockState_1 : decode cX12_lockState 1 = .ok (.invokestatic 104, 3) := by decide +kernel
theorem dX12_lockState_4 : decode cX12_lockState 4 = .ok (.ifCond .eq 28, 3) := by decide +kernel
theorem dX12_lockState_7 : decode cX12_lockState 7 = .ok (.aload_n 0, 1) := by decide +kernel
theorem dX12_lockState_8 : decode cX12_lockState 8 = .ok (.getfield 7, 3) := by decide +kernel
theorem dX12_lockState_11 : decode cX12_lockState 11 = .ok (.bipush 46, 2) := by decide +kernel
theorem dX12_lockState_13 : decode cX12_lockState 13 = .ok (.iload_n 1, 1) := by decide +kernel
theorem dX12_lockState_14 : decode cX12_lockState 14 = .ok (.iadd, 1) := by decide +kernel
theorem dX12_lockState_15 : decode cX12_lockState 15 = .ok (.iaload, 1) := by decide +kernel
theorem dX12_lockState_16 : decode cX12_lockState 16 = .ok (.bipush 10, 2) := by decide +kernel
theorem dX12_lockState_18 : decode cX12_lockState 18 = .ok (.aload_n 0, 1) := by decide +kernel
theorem dX12_lockState_19 : decode cX12_lockState 19 = .ok (.getfield 7, 3) := by decide +kernel
theorem dX12_lockState_22 : decode cX12_lockState 22 = .ok (.bipush 86, 2) := by decide +kernel
theorem dX12_lockState_24 : decode cX12_lockState 24 = .ok (.iload_n 1, 1) := by decide +kernel
theorem dX12_lockState_25 : decode cX12_lockState 25 = .ok (.iadd, 1) := by decide +kernel
theorem dX12_lockState_26 : decode cX12_lockState 26 = .ok (.iaload, 1) := by decide +kernel
theorem dX12_lockState_27 : decode cX12_lockState 27 = .ok (.imul, 1) := by decide +kernel
theorem dX12_lockState_28 : decode cX12_lockState 28 = .ok (.iadd, 1) := by decide +kernel
theorem dX12_lockState_29 : decode cX12_lockState 29 = .ok (.goto 5, 3) := by decide +kernel
theorem dX12_lockState_32 : decode cX12_lockState 32 = .ok (.bipush (-2), 2) := by decide +kernel
theorem dX12_lockState_34 : decode cX12_lockState 34 = .ok (.ireturn, 1) := by decide +kernel
theorem dX12_owner_0 : decode cX12_owner 0 = .ok (.iload_n 1, 1) := by decide +kernel
theorem dX12_owner_1 : decode cX12_owner 1 = .ok (.invokestatic 104, 3) := by decide +kernel
theorem dX12_owner_4 : decode cX12_owner 4 = .ok (.ifCond .ne 6, 3) := by decide +kernel
theorem dX12_owner_7 : decode cX12_owner 7 = .ok (.bipush (-2), 2) := by decide +kernel
theorem dX12_owner_9 : decode cX12_owner 9 = .ok (.ireturn, 1) := by decide +kernel
theorem dX12_owner_10 : decode cX12_owner 10 = .ok (.aload_n 0, 1) := by decide +kernel
theorem dX12_owner_11 : decode cX12_owner 11 = .ok (.iload_n 1, 1) := by decide +kernel
theorem dX12_owner_12 : decode cX12_owner 12 = .ok (.invokevirtual 54, 3) := by decide +kernel
theorem dX12_owner_15 : decode cX12_owner 15 = .ok (.ifCond .eq 15, 3) := by decide +kernel
theorem dX12_owner_18 : decode cX12_owner 18 = .ok (.aload_n 0, 1) := by decide +kernel
theorem dX12_owner_19 : decode cX12_owner 19 = .ok (.getfield 7, 3) := by decide +kernel
theorem dX12_owner_22 : decode cX12_owner 22 = .ok (.bipush 54, 2) := by decide +kernel
theorem dX12_owner_24 : decode cX12_owner 24 = .ok (.iload_n 1, 1) := by decide +kernel
theorem dX12_owner_25 : decode cX12_owner 25 = .ok (.iadd, 1) := by decide +kernel
theorem dX12_owner_26 : decode cX12_owner 26 = .ok (.iaload, 1) := by decide +kernel
theorem dX12_owner_27 : decode cX12_owner 27 = .ok (.goto 5, 3) := by decide +kernel
theorem dX12_owner_30 : decode cX12_owner 30 = .ok (.bipush (-8), 2) := by decide +kernel
theorem dX12_owner_32 : decode cX12_owner 32 = .ok (.ireturn, 1) := by decide +kernel
theorem dX12_count_0 : decode cX12_count 0 = .ok (.iload_n 1, 1) := by decide +kernel
theorem dX12_count_1 : decode cX12_count 1 = .ok (.invokestatic 104, 3) := by decide +kernel
theorem dX12_count_4 : decode cX12_count 4 = .ok (.ifCond .eq 15, 3) := by decide +kernel
theorem dX12_count_7 : decode cX12_count 7 = .ok (.aload_n 0, 1) := by decide +kernel
theorem dX12_count_8 : decode cX12_count 8 = .ok (.getfield 7, 3) := by decide +kernel
theorem dX12_count_11 : decode cX12_count 11 = .ok (.bipush 62, 2) := by decide +kernel
theorem dX12_count_13 : decode cX12_count 13 = .ok (.iload_n 1, 1) := by decide +kernel
theorem dX12_count_14 : decode cX12_count 14 = .ok (.iadd, 1) := by decide +kernel
theorem dX12_count_15 : decode cX12_count 15 = .ok (.iaload, 1) := by decide +kernel
theorem dX12_count_16 : decode cX12_count 16 = .ok (.goto 5, 3) := by decide +kernel
theorem dX12_count_19 : decode cX12_count 19 = .ok (.bipush (-2), 2) := by decide +kernel
theorem dX12_count_21 : decode cX12_count 21 = .ok (.ireturn, 1) := by decide +kernel
theorem dX12_bias_0 : decode cX12_bias 0 = .ok (.iload_n 1, 1) := by decide +kernel
theorem dX12_bias_1 : decode cX12_bias 1 = .ok (.invokestatic 104, 3) := by decide +kernel
theorem dX12_bias_4 : decode cX12_bias 4 = .ok (.ifCond .ne 6, 3) := by decide +kernel
theorem dX12_bias_7 : decode cX12_bias 7 = .ok (.bipush (-2), 2) := by decide +kernel
theorem dX12_bias_9 : decode cX12_bias 9 = .ok (.ireturn, 1) := by decide +kernel
theorem dX12_bias_10 : decode cX12_bias 10 = .ok (.aload_n 0, 1) := by decide +kernel
theorem dX12_bias_11 : decode cX12_bias 11 = .ok (.getfield 7, 3) := by decide +kernel
theorem dX12_bias_14 : decode cX12_bias 14 = .ok (.bipush 46, 2) := by decide +kernel
theorem dX12_bias_16 : decode cX12_bias 16 = .ok (.iload_n 1, 1) := by decide +kernel
theorem dX12_bias_17 : decode cX12_bias 17 = .ok (.iadd, 1) := by decide +kernel
theorem dX12_bias_18 : decode cX12_bias 18 = .ok (.iaload, 1) := by decide +kernel
theorem dX12_bias_19 : decode cX12_bias 19 = .ok (.iconst 2, 1) := by decide +kernel
theorem dX12_bias_20 : decode cX12_bias 20 = .ok (.if_icmp .eq 8, 3) := by decide +kernel
theorem dX12_bias_23 : decode cX12_bias 23 = .ok (.bipush (-8), 2) := by decide +kernel
theorem dX12_bias_25 : decode cX12_bias 25 = .ok (.goto 27, 3) := by decide +kernel
theorem dX12_bias_28 : decode cX12_bias 28 = .ok (.aload_n 0, 1) := by decide +kernel
theorem dX12_bias_29 : decode cX12_bias 29 = .ok (.getfield 7, 3) := by decide +kernel
theorem dX12_bias_32 : decode cX12_bias 32 = .ok (.bipush 70, 2) := by decide +kernel
theorem dX12_bias_34 : decode cX12_bias 34 = .ok (.iload_n 1, 1) := by decide +kernel
theorem dX12_bias_35 : decode cX12_bias 35 = .ok (.iadd, 1) := by decide +kernel
theorem dX12_bias_36 : decode cX12_bias 36 = .ok (.iaload, 1) := by decide +kernel
theorem dX12_bias_37 : decode cX12_bias 37 = .ok (.aload_n 0, 1) := by decide +kernel
theorem dX12_bias_38 : decode cX12_bias 38 = .ok (.iload_n 1, 1) := by decide +kernel
theorem dX12_bias_39 : decode cX12_bias 39 = .ok (.invokevirtual 84, 3) := by decide +kernel
theorem dX12_bias_42 : decode cX12_bias 42 = .ok (.ifCond .eq 7, 3) := by decide +kernel
theorem dX12_bias_45 : decode cX12_bias 45 = .ok (.iconst 0, 1) := by decide +kernel
theorem dX12_bias_46 : decode cX12_bias 46 = .ok (.goto 5, 3) := by decide +kernel
theorem dX12_bias_49 : decode cX12_bias 49 = .ok (.bipush 10, 2) := by decide +kernel
theorem dX12_bias_51 : decode cX12_bias 51 = .ok (.iadd, 1) := by decide +kernel
theorem dX12_bias_52 : decode cX12_bias 52 = .ok (.ireturn, 1) := by decide +kernel
theorem dX12_queued_0 : decode cX12_queued 0 = .ok (.iload_n 1, 1) := by decide +kernel
theorem dX12_queued_1 : decode cX12_queued 1 = .ok (.invokestatic 104, 3) := by decide +kernel
theorem dX12_queued_4 : decode cX12_queued 4 = .ok (.ifCond .ne 6, 3) := by decide +kernel
theorem dX12_queued_7 : decode cX12_queued 7 = .ok (.bipush (-2), 2) := by decide +kernel
theorem dX12_queued_9 : decode cX12_queued 9 = .ok (.ireturn, 1) := by decide +kernel
theorem dX12_queued_10 : decode cX12_queued 10 = .ok (.iload_n 2, 1) := by decide +kernel
theorem dX12_queued_11 : decode cX12_queued 11 = .ok (.ifCond .ge 6, 3) := by decide +kernel
theorem dX12_queued_14 : decode cX12_queued 14 = .ok (.bipush (-3), 2) := by decide +kernel
theorem dX12_queued_16 : decode cX12_queued 16 = .ok (.ireturn, 1) := by decide +kernel
theorem dX12_queued_17 : decode cX12_queued 17 = .ok (.aload_n 0, 1) := by decide +kernel
theorem dX12_queued_18 : decode cX12_queued 18 = .ok (.getfield 7, 3) := by decide +kernel
theorem dX12_queued_21 : decode cX12_queued 21 = .ok (.bipush 46, 2) := by decide +kernel
theorem dX12_queued_23 : decode cX12_queued 23 = .ok (.iload_n 1, 1) := by decide +kernel
theorem dX12_queued_24 : decode cX12_queued 24 = .ok (.iadd, 1) := by decide +kernel
theorem dX12_queued_25 : decode cX12_queued 25 = .ok (.iaload, 1) := by decide +kernel
theorem dX12_queued_26 : decode cX12_queued 26 = .ok (.iconst 4, 1) := by decide +kernel
theorem dX12_queued_27 : decode cX12_queued 27 = .ok (.if_icmp .ne 33, 3) := by decide +kernel
theorem dX12_queued_30 : decode cX12_queued 30 = .ok (.iload_n 2, 1) := by decide +kernel
theorem dX12_queued_31 : decode cX12_queued 31 = .ok (.aload_n 0, 1) := by decide +kernel
theorem dX12_queued_32 : decode cX12_queued 32 = .ok (.getfield 7, 3) := by decide +kernel
theorem dX12_queued_35 : decode cX12_queued 35 = .ok (.bipush 110, 2) := by decide +kernel
theorem dX12_queued_37 : decode cX12_queued 37 = .ok (.iload_n 1, 1) := by decide +kernel
theorem dX12_queued_38 : decode cX12_queued 38 = .ok (.iadd, 1) := by decide +kernel
theorem dX12_queued_39 : decode cX12_queued 39 = .ok (.iaload, 1) := by decide +kernel
theorem dX12_queued_40 : decode cX12_queued 40 = .ok (.if_icmp .ge 20, 3) := by decide +kernel
theorem dX12_queued_43 : decode cX12_queued 43 = .ok (.aload_n 0, 1) := by decide +kernel
theorem dX12_queued_44 : decode cX12_queued 44 = .ok (.getfield 7, 3) := by decide +kernel
theorem dX12_queued_47 : decode cX12_queued 47 = .ok (.bipush 126, 2) := by decide +kernel
theorem dX12_queued_49 : decode cX12_queued 49 = .ok (.bipush 6, 2) := by decide +kernel
theorem dX12_queued_51 : decode cX12_queued 51 = .ok (.iload_n 1, 1) := by decide +kernel
theorem dX12_queued_52 : decode cX12_queued 52 = .ok (.imul, 1) := by decide +kernel
theorem dX12_queued_53 : decode cX12_queued 53 = .ok (.iadd, 1) := by decide +kernel
theorem dX12_queued_54 : decode cX12_queued 54 = .ok (.iload_n 2, 1) := by decide +kernel
theorem dX12_queued_55 : decode cX12_queued 55 = .ok (.iadd, 1) := by decide +kernel
theorem dX12_queued_56 : decode cX12_queued 56 = .ok (.iaload, 1) := by decide +kernel
theorem dX12_queued_57 : decode cX12_queued 57 = .ok (.goto 5, 3) := by decide +kernel
theorem dX12_queued_60 : decode cX12_queued 60 = .ok (.bipush (-8), 2) := by decide +kernel
theorem dX12_queued_62 : decode cX12_queued 62 = .ok (.ireturn, 1) := by decide +kernel
theorem dX12_waiting_0 : decode cX12_waiting 0 = .ok (.iload_n 1, 1) := by decide +kernel
theorem dX12_waiting_1 : decode cX12_waiting 1 = .ok (.invokestatic 104, 3) := by decide +kernel
theorem dX12_waiting_4 : decode cX12_waiting 4 = .ok (.ifCond .ne 6, 3) := by decide +kernel
theorem dX12_waiting_7 : decode cX12_waiting 7 = .ok (.bipush (-2), 2) := by decide +kernel
theorem dX12_waiting_9 : decode cX12_waiting 9 = .ok (.ireturn, 1) := by decide +kernel
theorem dX12_waiting_10 : decode cX12_waiting 10 = .ok (.iload_n 2, 1) := by decide +kernel
theorem dX12_waiting_11 : decode cX12_waiting 11 = .ok (.ifCond .ge 6, 3) := by decide +kernel
theorem dX12_waiting_14 : decode cX12_waiting 14 = .ok (.bipush (-3), 2) := by decide +kernel
theorem dX12_waiting_16 : decode cX12_waiting 16 = .ok (.ireturn, 1) := by decide +kernel
theorem dX12_waiting_17 : decode cX12_waiting 17 = .ok (.aload_n 0, 1) := by decide +kernel
theorem dX12_waiting_18 : decode cX12_waiting 18 = .ok (.getfield 7, 3) := by decide +kernel
theorem dX12_waiting_21 : decode cX12_waiting 21 = .ok (.bipush 46, 2) := by decide +kernel
theorem dX12_waiting_23 : decode cX12_waiting 23 = .ok (.iload_n 1, 1) := by decide +kernel
theorem dX12_waiting_24 : decode cX12_waiting 24 = .ok (.iadd, 1) := by decide +kernel
theorem dX12_waiting_25 : decode cX12_waiting 25 = .ok (.iaload, 1) := by decide +kernel
theorem dX12_waiting_26 : decode cX12_waiting 26 = .ok (.iconst 4, 1) := by decide +kernel
theorem dX12_waiting_27 : decode cX12_waiting 27 = .ok (.if_icmp .ne 34, 3) := by decide +kernel
theorem dX12_waiting_30 : decode cX12_waiting 30 = .ok (.iload_n 2, 1) := by decide +kernel
theorem dX12_waiting_31 : decode cX12_waiting 31 = .ok (.aload_n 0, 1) := by decide +kernel
theorem dX12_waiting_32 : decode cX12_waiting 32 = .ok (.getfield 7, 3) := by decide +kernel
theorem dX12_waiting_35 : decode cX12_waiting 35 = .ok (.bipush 118, 2) := by decide +kernel
theorem dX12_waiting_37 : decode cX12_waiting 37 = .ok (.iload_n 1, 1) := by decide +kernel
theorem dX12_waiting_38 : decode cX12_waiting 38 = .ok (.iadd, 1) := by decide +kernel
theorem dX12_waiting_39 : decode cX12_waiting 39 = .ok (.iaload, 1) := by decide +kernel
theorem dX12_waiting_40 : decode cX12_waiting 40 = .ok (.if_icmp .ge 21, 3) := by decide +kernel
theorem dX12_waiting_43 : decode cX12_waiting 43 = .ok (.aload_n 0, 1) := by decide +kernel
theorem dX12_waiting_44 : decode cX12_waiting 44 = .ok (.getfield 7, 3) := by decide +kernel
theorem dX12_waiting_47 : decode cX12_waiting 47 = .ok (.sipush 174, 3) := by decide +kernel
theorem dX12_waiting_50 : decode cX12_waiting 50 = .ok (.bipush 6, 2) := by decide +kernel
theorem dX12_waiting_52 : decode cX12_waiting 52 = .ok (.iload_n 1, 1) := by decide +kernel
theorem dX12_waiting_53 : decode cX12_waiting 53 = .ok (.imul, 1) := by decide +kernel
theorem dX12_waiting_54 : decode cX12_waiting 54 = .ok (.iadd, 1) := by decide +kernel
theorem dX12_waiting_55 : decode cX12_waiting 55 = .ok (.iload_n 2, 1) := by decide +kernel
theorem dX12_waiting_56 : decode cX12_waiting 56 = .ok (.iadd, 1) := by decide +kernel
theorem dX12_waiting_57 : decode cX12_waiting 57 = .ok (.iaload, 1) := by decide +kernel
theorem dX12_waiting_58 : decode cX12_waiting 58 = .ok (.goto 5, 3) := by decide +kernel
theorem dX12_waiting_61 : decode cX12_waiting 61 = .ok (.bipush (-8), 2) := by decide +kernel
theorem dX12_waiting_63 : decode cX12_waiting 63 = .ok (.ireturn, 1) := by decide +kernel
theorem dX12_sign_0 : decode cX12_sign 0 = .ok (.aload_n 0, 1) := by decide +kernel
theorem dX12_sign_1 : decode cX12_sign 1 = .ok (.getfield 25, 3) := by decide +kernel
theorem dX12_sign_4 : decode cX12_sign 4 = .ok (.aload_n 0, 1) := by decide +kernel
theorem dX12_sign_5 : decode cX12_sign 5 = .ok (.getfield 130, 3) := by decide +kernel
theorem dX12_sign_8 : decode cX12_sign 8 = .ok (.iload_n 1, 1) := by decide +kernel
theorem dX12_sign_9 : decode cX12_sign 9 = .ok (.iastore, 1) := by decide +kernel
theorem dX12_sign_10 : decode cX12_sign 10 = .ok (.aload_n 0, 1) := by decide +kernel
theorem dX12_sign_11 : decode cX12_sign 11 = .ok (.dup, 1) := by decide +kernel
theorem dX12_sign_12 : decode cX12_sign 12 = .ok (.getfield 130, 3) := by decide +kernel
theorem dX12_sign_15 : decode cX12_sign 15 = .ok (.iconst 1, 1) := by decide +kernel
theorem dX12_sign_16 : decode cX12_sign 16 = .ok (.iadd, 1) := by decide +kernel
theorem dX12_sign_17 : decode cX12_sign 17 = .ok (.putfield 130, 3) := by decide +kernel
theorem dX12_sign_20 : decode cX12_sign 20 = .ok (.return_, 1) := by decide +kernel
theorem dX12_word_0 : decode cX12_word 0 = .ok (.bipush 7, 2) := by decide +kernel
theorem dX12_word_2 : decode cX12_word 2 = .ok (.istore_n 3, 1) := by decide +kernel
theorem dX12_word_3 : decode cX12_word 3 = .ok (.iload_n 3, 1) := by decide +kernel
theorem dX12_word_4 : decode cX12_word 4 = .ok (.ifCond .lt 35, 3) := by decide +kernel
theorem dX12_word_7 : decode cX12_word 7 = .ok (.lload_n 1, 1) := by decide +kernel
theorem dX12_word_8 : decode cX12_word 8 = .ok (.iconst 5, 1) := by decide +kernel
theorem dX12_word_9 : decode cX12_word 9 = .ok (.iload_n 3, 1) := by decide +kernel
theorem dX12_word_10 : decode cX12_word 10 = .ok (.imul, 1) := by decide +kernel
theorem dX12_word_11 : decode cX12_word 11 = .ok (.lshr, 1) := by decide +kernel
theorem dX12_word_12 : decode cX12_word 12 = .ok (.ldc2_w 134, 3) := by decide +kernel
theorem dX12_word_15 : decode cX12_word 15 = .ok (.land, 1) := by decide +kernel
theorem dX12_word_16 : decode cX12_word 16 = .ok (.l2i, 1) := by decide +kernel
theorem dX12_word_17 : decode cX12_word 17 = .ok (.istore 4, 2) := by decide +kernel
theorem dX12_word_19 : decode cX12_word 19 = .ok (.iload 4, 2) := by decide +kernel
theorem dX12_word_21 : decode cX12_word 21 = .ok (.ifCond .le 12, 3) := by decide +kernel
theorem dX12_word_24 : decode cX12_word 24 = .ok (.aload_n 0, 1) := by decide +kernel
theorem dX12_word_25 : decode cX12_word 25 = .ok (.bipush 96, 2) := by decide +kernel
theorem dX12_word_27 : decode cX12_word 27 = .ok (.iload 4, 2) := by decide +kernel
theorem dX12_word_29 : decode cX12_word 29 = .ok (.iadd, 1) := by decide +kernel
theorem dX12_word_30 : decode cX12_word 30 = .ok (.invokevirtual 136, 3) := by decide +kernel
theorem dX12_word_33 : decode cX12_word 33 = .ok (.iinc 3 (-1), 3) := by decide +kernel
theorem dX12_word_36 : decode cX12_word 36 = .ok (.goto (-33), 3) := by decide +kernel
theorem dX12_word_39 : decode cX12_word 39 = .ok (.return_, 1) := by decide +kernel
theorem dX12_number_0 : decode cX12_number 0 = .ok (.iconst 1, 1) := by decide +kernel
theorem dX12_number_1 : decode cX12_number 1 = .ok (.istore_n 2, 1) := by decide +kernel
theorem dX12_number_2 : decode cX12_number 2 = .ok (.iload_n 2, 1) := by decide +kernel
theorem dX12_number_3 : decode cX12_number 3 = .ok (.iload_n 1, 1) := by decide +kernel
theorem dX12_number_4 : decode cX12_number 4 = .ok (.bipush 10, 2) := by decide +kernel
theorem dX12_number_6 : decode cX12_number 6 = .ok (.idiv, 1) := by decide +kernel
theorem dX12_number_7 : decode cX12_number 7 = .ok (.if_icmp .gt 11, 3) := by decide +kernel
theorem dX12_number_10 : decode cX12_number 10 = .ok (.bipush 10, 2) := by decide +kernel
theorem dX12_number_12 : decode cX12_number 12 = .ok (.iload_n 2, 1) := by decide +kernel
theorem dX12_number_13 : decode cX12_number 13 = .ok (.imul, 1) := by decide +kernel
theorem dX12_number_14 : decode cX12_number 14 = .ok (.istore_n 2, 1) := by decide +kernel
theorem dX12_number_15 : decode cX12_number 15 = .ok (.goto (-13), 3) := by decide +kernel
theorem dX12_number_18 : decode cX12_number 18 = .ok (.iload_n 2, 1) := by decide +kernel
theorem dX12_number_19 : decode cX12_number 19 = .ok (.istore_n 3, 1) := by decide +kernel
theorem dX12_number_20 : decode cX12_number 20 = .ok (.iload_n 3, 1) := by decide +kernel
theorem dX12_number_21 : decode cX12_number 21 = .ok (.ifCond .le 24, 3) := by decide +kernel
theorem dX12_number_24 : decode cX12_number 24 = .ok (.aload_n 0, 1) := by decide +kernel
theorem dX12_number_25 : decode cX12_number 25 = .ok (.bipush 48, 2) := by decide +kernel
theorem dX12_number_27 : decode cX12_number 27 = .ok (.iload_n 1, 1) := by decide +kernel
theorem dX12_number_28 : decode cX12_number 28 = .ok (.iload_n 3, 1) := by decide +kernel
theorem dX12_number_29 : decode cX12_number 29 = .ok (.idiv, 1) := by decide +kernel
theorem dX12_number_30 : decode cX12_number 30 = .ok (.bipush 10, 2) := by decide +kernel
theorem dX12_number_32 : decode cX12_number 32 = .ok (.irem, 1) := by decide +kernel
theorem dX12_number_33 : decode cX12_number 33 = .ok (.iadd, 1) := by decide +kernel
theorem dX12_number_34 : decode cX12_number 34 = .ok (.invokevirtual 136, 3) := by decide +kernel
theorem dX12_number_37 : decode cX12_number 37 = .ok (.iload_n 3, 1) := by decide +kernel
theorem dX12_number_38 : decode cX12_number 38 = .ok (.bipush 10, 2) := by decide +kernel
theorem dX12_number_40 : decode cX12_number 40 = .ok (.idiv, 1) := by decide +kernel
theorem dX12_number_41 : decode cX12_number 41 = .ok (.istore_n 3, 1) := by decide +kernel
theorem dX12_number_42 : decode cX12_number 42 = .ok (.goto (-22), 3) := by decide +kernel
theorem dX12_number_45 : decode cX12_number 45 = .ok (.return_, 1) := by decide +kernel
theorem dX12_blank_0 : decode cX12_blank 0 = .ok (.aload_n 0, 1) := by decide +kernel
theorem dX12_blank_1 : decode cX12_blank 1 = .ok (.bipush 32, 2) := by decide +kernel
theorem dX12_blank_3 : decode cX12_blank 3 = .ok (.invokevirtual 136, 3) := by decide +kernel
theorem dX12_blank_6 : decode cX12_blank 6 = .ok (.return_, 1) := by decide +kernel
theorem dX12_lockWord_0 : decode cX12_lockWord 0 = .ok (.iload_n 0, 1) := by decide +kernel
theorem dX12_lockWord_1 : decode cX12_lockWord 1 = .ok (.tableswitch 47 0 3 #[31, 35, 39, 43], 31) := by decide +kernel
theorem dX12_lockWord_32 : decode cX12_lockWord 32 = .ok (.getstatic 139, 3) := by decide +kernel
theorem dX12_lockWord_35 : decode cX12_lockWord 35 = .ok (.lreturn, 1) := by decide +kernel
theorem dX12_lockWord_36 : decode cX12_lockWord 36 = .ok (.getstatic 143, 3) := by decide +kernel
theorem dX12_lockWord_39 : decode cX12_lockWord 39 = .ok (.lreturn, 1) := by decide +kernel
theorem dX12_lockWord_40 : decode cX12_lockWord 40 = .ok (.getstatic 146, 3) := by decide +kernel
theorem dX12_lockWord_43 : decode cX12_lockWord 43 = .ok (.lreturn, 1) := by decide +kernel
theorem dX12_lockWord_44 : decode cX12_lockWord 44 = .ok (.getstatic 149, 3) := by decide +kernel
theorem dX12_lockWord_47 : decode cX12_lockWord 47 = .ok (.lreturn, 1) := by decide +kernel
theorem dX12_lockWord_48 : decode cX12_lockWord 48 = .ok (.getstatic 152, 3) := by decide +kernel
theorem dX12_lockWord_51 : decode cX12_lockWord 51 = .ok (.lreturn, 1) := by decide +kernel
theorem dX12_list_0 : decode cX12_list 0 = .ok (.aload_n 0, 1) := by decide +kernel
theorem dX12_list_1 : decode cX12_list 1 = .ok (.getfield 7, 3) := by decide +kernel
theorem dX12_list_4 : decode cX12_list 4 = .ok (.iload 4, 2) := by decide +kernel
theorem dX12_list_6 : decode cX12_list 6 = .ok (.iaload, 1) := by decide +kernel
theorem dX12_list_7 : decode cX12_list 7 = .ok (.ifCond .le 50, 3) := by decide +kernel
theorem dX12_list_10 : decode cX12_list 10 = .ok (.aload_n 0, 1) := by decide +kernel
theorem dX12_list_11 : decode cX12_list 11 = .ok (.invokevirtual 155, 3) := by decide +kernel
theorem dX12_list_14 : decode cX12_list 14 = .ok (.aload_n 0, 1) := by decide +kernel
theorem dX12_list_15 : decode cX12_list 15 = .ok (.lload_n 1, 1) := by decide +kernel
theorem dX12_list_16 : decode cX12_list 16 = .ok (.invokevirtual 158, 3) := by decide +kernel
theorem dX12_list_19 : decode cX12_list 19 = .ok (.aload_n 0, 1) := by decide +kernel
theorem dX12_list_20 : decode cX12_list 20 = .ok (.invokevirtual 155, 3) := by decide +kernel
theorem dX12_list_23 : decode cX12_list 23 = .ok (.iconst 0, 1) := by decide +kernel
theorem dX12_list_24 : decode cX12_list 24 = .ok (.istore 5, 2) := by decide +kernel
theorem dX12_list_26 : decode cX12_list 26 = .ok (.iload 5, 2) := by decide +kernel
theorem dX12_list_28 : decode cX12_list 28 = .ok (.aload_n 0, 1) := by decide +kernel
theorem dX12_list_29 : decode cX12_list 29 = .ok (.getfield 7, 3) := by decide +kernel
theorem dX12_list_32 : decode cX12_list 32 = .ok (.iload 4, 2) := by decide +kernel
theorem dX12_list_34 : decode cX12_list 34 = .ok (.iaload, 1) := by decide +kernel
theorem dX12_list_35 : decode cX12_list 35 = .ok (.if_icmp .ge 22, 3) := by decide +kernel
theorem dX12_list_38 : decode cX12_list 38 = .ok (.aload_n 0, 1) := by decide +kernel
theorem dX12_list_39 : decode cX12_list 39 = .ok (.aload_n 0, 1) := by decide +kernel
theorem dX12_list_40 : decode cX12_list 40 = .ok (.getfield 7, 3) := by decide +kernel
theorem dX12_list_43 : decode cX12_list 43 = .ok (.iload_n 3, 1) := by decide +kernel
theorem dX12_list_44 : decode cX12_list 44 = .ok (.iload 5, 2) := by decide +kernel
theorem dX12_list_46 : decode cX12_list 46 = .ok (.iadd, 1) := by decide +kernel
theorem dX12_list_47 : decode cX12_list 47 = .ok (.iaload, 1) := by decide +kernel
theorem dX12_list_48 : decode cX12_list 48 = .ok (.invokevirtual 162, 3) := by decide +kernel
theorem dX12_list_51 : decode cX12_list 51 = .ok (.iinc 5 1, 3) := by decide +kernel
theorem dX12_list_54 : decode cX12_list 54 = .ok (.goto (-28), 3) := by decide +kernel
theorem dX12_list_57 : decode cX12_list 57 = .ok (.return_, 1) := by decide +kernel
theorem dX12_makeText_0 : decode cX12_makeText 0 = .ok (.aload_n 0, 1) := by decide +kernel
theorem dX12_makeText_1 : decode cX12_makeText 1 = .ok (.iconst 0, 1) := by decide +kernel
theorem dX12_makeText_2 : decode cX12_makeText 2 = .ok (.putfield 130, 3) := by decide +kernel
theorem dX12_makeText_5 : decode cX12_makeText 5 = .ok (.aload_n 0, 1) := by decide +kernel
theorem dX12_makeText_6 : decode cX12_makeText 6 = .ok (.aload_n 0, 1) := by decide +kernel
theorem dX12_makeText_7 : decode cX12_makeText 7 = .ok (.getfield 7, 3) := by decide +kernel
theorem dX12_makeText_10 : decode cX12_makeText 10 = .ok (.bipush 46, 2) := by decide +kernel
theorem dX12_makeText_12 : decode cX12_makeText 12 = .ok (.iload_n 1, 1) := by decide +kernel
theorem dX12_makeText_13 : decode cX12_makeText 13 = .ok (.iadd, 1) := by decide +kernel
theorem dX12_makeText_14 : decode cX12_makeText 14 = .ok (.iaload, 1) := by decide +kernel
theorem dX12_makeText_15 : decode cX12_makeText 15 = .ok (.invokestatic 165, 3) := by decide +kernel
theorem dX12_makeText_18 : decode cX12_makeText 18 = .ok (.invokevirtual 158, 3) := by decide +kernel
theorem dX12_makeText_21 : decode cX12_makeText 21 = .ok (.aload_n 0, 1) := by decide +kernel
theorem dX12_makeText_22 : decode cX12_makeText 22 = .ok (.getfield 7, 3) := by decide +kernel
theorem dX12_makeText_25 : decode cX12_makeText 25 = .ok (.bipush 46, 2) := by decide +kernel
theorem dX12_makeText_27 : decode cX12_makeText 27 = .ok (.iload_n 1, 1) := by decide +kernel
theorem dX12_makeText_28 : decode cX12_makeText 28 = .ok (.iadd, 1) := by decide +kernel
theorem dX12_makeText_29 : decode cX12_makeText 29 = .ok (.iaload, 1) := by decide +kernel
theorem dX12_makeText_30 : decode cX12_makeText 30 = .ok (.iconst 2, 1) := by decide +kernel
theorem dX12_makeText_31 : decode cX12_makeText 31 = .ok (.if_icmp .ne 50, 3) := by decide +kernel
theorem dX12_makeText_34 : decode cX12_makeText 34 = .ok (.aload_n 0, 1) := by decide +kernel
theorem dX12_makeText_35 : decode cX12_makeText 35 = .ok (.invokevirtual 155, 3) := by decide +kernel
theorem dX12_makeText_38 : decode cX12_makeText 38 = .ok (.aload_n 0, 1) := by decide +kernel
theorem dX12_makeText_39 : decode cX12_makeText 39 = .ok (.getstatic 169, 3) := by decide +kernel
theorem dX12_makeText_42 : decode cX12_makeText 42 = .ok (.invokevirtual 158, 3) := by decide +kernel
theorem dX12_makeText_45 : decode cX12_makeText 45 = .ok (.aload_n 0, 1) := by decide +kernel
theorem dX12_makeText_46 : decode cX12_makeText 46 = .ok (.invokevirtual 155, 3) := by decide +kernel
theorem dX12_makeText_49 : decode cX12_makeText 49 = .ok (.aload_n 0, 1) := by decide +kernel
theorem dX12_makeText_50 : decode cX12_makeText 50 = .ok (.aload_n 0, 1) := by decide +kernel
theorem dX12_makeText_51 : decode cX12_makeText 51 = .ok (.getfield 7, 3) := by decide +kernel
theorem dX12_makeText_54 : decode cX12_makeText 54 = .ok (.bipush 70, 2) := by decide +kernel
theorem dX12_makeText_56 : decode cX12_makeText 56 = .ok (.iload_n 1, 1) := by decide +kernel
theorem dX12_makeText_57 : decode cX12_makeText 57 = .ok (.iadd, 1) := by decide +kernel
theorem dX12_makeText_58 : decode cX12_makeText 58 = .ok (.iaload, 1) := by decide +kernel
theorem dX12_makeText_59 : decode cX12_makeText 59 = .ok (.invokevirtual 162, 3) := by decide +kernel
theorem dX12_makeText_62 : decode cX12_makeText 62 = .ok (.aload_n 0, 1) := by decide +kernel
theorem dX12_makeText_63 : decode cX12_makeText 63 = .ok (.iload_n 1, 1) := by decide +kernel
theorem dX12_makeText_64 : decode cX12_makeText 64 = .ok (.invokevirtual 84, 3) := by decide +kernel
theorem dX12_makeText_67 : decode cX12_makeText 67 = .ok (.ifCond .ne 14, 3) := by decide +kernel
theorem dX12_makeText_70 : decode cX12_makeText 70 = .ok (.aload_n 0, 1) := by decide +kernel
theorem dX12_makeText_71 : decode cX12_makeText 71 = .ok (.invokevirtual 155, 3) := by decide +kernel
theorem dX12_makeText_74 : decode cX12_makeText 74 = .ok (.aload_n 0, 1) := by decide +kernel
theorem dX12_makeText_75 : decode cX12_makeText 75 = .ok (.getstatic 172, 3) := by decide +kernel
theorem dX12_makeText_78 : decode cX12_makeText 78 = .ok (.invokevirtual 158, 3) := by decide +kernel
theorem dX12_makeText_81 : decode cX12_makeText 81 = .ok (.aload_n 0, 1) := by decide +kernel
theorem dX12_makeText_82 : decode cX12_makeText 82 = .ok (.iload_n 1, 1) := by decide +kernel
theorem dX12_makeText_83 : decode cX12_makeText 83 = .ok (.invokevirtual 54, 3) := by decide +kernel
theorem dX12_makeText_86 : decode cX12_makeText 86 = .ok (.ifCond .eq 54, 3) := by decide +kernel
theorem dX12_makeText_89 : decode cX12_makeText 89 = .ok (.aload_n 0, 1) := by decide +kernel
theorem dX12_makeText_90 : decode cX12_makeText 90 = .ok (.invokevirtual 155, 3) := by decide +kernel
theorem dX12_makeText_93 : decode cX12_makeText 93 = .ok (.aload_n 0, 1) := by decide +kernel
theorem dX12_makeText_94 : decode cX12_makeText 94 = .ok (.getstatic 175, 3) := by decide +kernel
theorem dX12_makeText_97 : decode cX12_makeText 97 = .ok (.invokevirtual 158, 3) := by decide +kernel
theorem dX12_makeText_100 : decode cX12_makeText 100 = .ok (.aload_n 0, 1) := by decide +kernel
theorem dX12_makeText_101 : decode cX12_makeText 101 = .ok (.invokevirtual 155, 3) := by decide +kernel
theorem dX12_makeText_104 : decode cX12_makeText 104 = .ok (.aload_n 0, 1) := by decide +kernel
theorem dX12_makeText_105 : decode cX12_makeText 105 = .ok (.aload_n 0, 1) := by decide +kernel
theorem dX12_makeText_106 : decode cX12_makeText 106 = .ok (.getfield 7, 3) := by decide +kernel
theorem dX12_makeText_109 : decode cX12_makeText 109 = .ok (.bipush 54, 2) := by decide +kernel
theorem dX12_makeText_111 : decode cX12_makeText 111 = .ok (.iload_n 1, 1) := by decide +kernel
theorem dX12_makeText_112 : decode cX12_makeText 112 = .ok (.iadd, 1) := by decide +kernel
theorem dX12_makeText_113 : decode cX12_makeText 113 = .ok (.iaload, 1) := by decide +kernel
theorem dX12_makeText_114 : decode cX12_makeText 114 = .ok (.invokevirtual 162, 3) := by decide +kernel
theorem dX12_makeText_117 : decode cX12_makeText 117 = .ok (.aload_n 0, 1) := by decide +kernel
theorem dX12_makeText_118 : decode cX12_makeText 118 = .ok (.invokevirtual 155, 3) := by decide +kernel
theorem dX12_makeText_121 : decode cX12_makeText 121 = .ok (.aload_n 0, 1) := by decide +kernel
theorem dX12_makeText_122 : decode cX12_makeText 122 = .ok (.bipush 120, 2) := by decide +kernel
theorem dX12_makeText_124 : decode cX12_makeText 124 = .ok (.invokevirtual 136, 3) := by decide +kernel
theorem dX12_makeText_127 : decode cX12_makeText 127 = .ok (.aload_n 0, 1) := by decide +kernel
theorem dX12_makeText_128 : decode cX12_makeText 128 = .ok (.aload_n 0, 1) := by decide +kernel
theorem dX12_makeText_129 : decode cX12_makeText 129 = .ok (.getfield 7, 3) := by decide +kernel
theorem dX12_makeText_132 : decode cX12_makeText 132 = .ok (.bipush 62, 2) := by decide +kernel
theorem dX12_makeText_134 : decode cX12_makeText 134 = .ok (.iload_n 1, 1) := by decide +kernel
theorem dX12_makeText_135 : decode cX12_makeText 135 = .ok (.iadd, 1) := by decide +kernel
theorem dX12_makeText_136 : decode cX12_makeText 136 = .ok (.iaload, 1) := by decide +kernel
theorem dX12_makeText_137 : decode cX12_makeText 137 = .ok (.invokevirtual 162, 3) := by decide +kernel
theorem dX12_makeText_140 : decode cX12_makeText 140 = .ok (.aload_n 0, 1) := by decide +kernel
theorem dX12_makeText_141 : decode cX12_makeText 141 = .ok (.getfield 7, 3) := by decide +kernel
theorem dX12_makeText_144 : decode cX12_makeText 144 = .ok (.bipush 46, 2) := by decide +kernel
theorem dX12_makeText_146 : decode cX12_makeText 146 = .ok (.iload_n 1, 1) := by decide +kernel
theorem dX12_makeText_147 : decode cX12_makeText 147 = .ok (.iadd, 1) := by decide +kernel
theorem dX12_makeText_148 : decode cX12_makeText 148 = .ok (.iaload, 1) := by decide +kernel
theorem dX12_makeText_149 : decode cX12_makeText 149 = .ok (.iconst 4, 1) := by decide +kernel
theorem dX12_makeText_150 : decode cX12_makeText 150 = .ok (.if_icmp .ne 40, 3) := by decide +kernel
theorem dX12_makeText_153 : decode cX12_makeText 153 = .ok (.aload_n 0, 1) := by decide +kernel
theorem dX12_makeText_154 : decode cX12_makeText 154 = .ok (.getstatic 178, 3) := by decide +kernel
theorem dX12_makeText_157 : decode cX12_makeText 157 = .ok (.bipush 126, 2) := by decide +kernel
theorem dX12_makeText_159 : decode cX12_makeText 159 = .ok (.bipush 6, 2) := by decide +kernel
theorem dX12_makeText_161 : decode cX12_makeText 161 = .ok (.iload_n 1, 1) := by decide +kernel
theorem dX12_makeText_162 : decode cX12_makeText 162 = .ok (.imul, 1) := by decide +kernel
theorem dX12_makeText_163 : decode cX12_makeText 163 = .ok (.iadd, 1) := by decide +kernel
theorem dX12_makeText_164 : decode cX12_makeText 164 = .ok (.bipush 110, 2) := by decide +kernel
theorem dX12_makeText_166 : decode cX12_makeText 166 = .ok (.iload_n 1, 1) := by decide +kernel
theorem dX12_makeText_167 : decode cX12_makeText 167 = .ok (.iadd, 1) := by decide +kernel
theorem dX12_makeText_168 : decode cX12_makeText 168 = .ok (.invokevirtual 181, 3) := by decide +kernel
theorem dX12_makeText_171 : decode cX12_makeText 171 = .ok (.aload_n 0, 1) := by decide +kernel
theorem dX12_makeText_172 : decode cX12_makeText 172 = .ok (.getstatic 185, 3) := by decide +kernel
theorem dX12_makeText_175 : decode cX12_makeText 175 = .ok (.sipush 174, 3) := by decide +kernel
theorem dX12_makeText_178 : decode cX12_makeText 178 = .ok (.bipush 6, 2) := by decide +kernel
theorem dX12_makeText_180 : decode cX12_makeText 180 = .ok (.iload_n 1, 1) := by decide +kernel
theorem dX12_makeText_181 : decode cX12_makeText 181 = .ok (.imul, 1) := by decide +kernel
theorem dX12_makeText_182 : decode cX12_makeText 182 = .ok (.iadd, 1) := by decide +kernel
theorem dX12_makeText_183 : decode cX12_makeText 183 = .ok (.bipush 118, 2) := by decide +kernel
theorem dX12_makeText_185 : decode cX12_makeText 185 = .ok (.iload_n 1, 1) := by decide +kernel
theorem dX12_makeText_186 : decode cX12_makeText 186 = .ok (.iadd, 1) := by decide +kernel
theorem dX12_makeText_187 : decode cX12_makeText 187 = .ok (.invokevirtual 181, 3) := by decide +kernel
theorem dX12_makeText_190 : decode cX12_makeText 190 = .ok (.aload_n 0, 1) := by decide +kernel
theorem dX12_makeText_191 : decode cX12_makeText 191 = .ok (.getfield 7, 3) := by decide +kernel
theorem dX12_makeText_194 : decode cX12_makeText 194 = .ok (.bipush 94, 2) := by decide +kernel
theorem dX12_makeText_196 : decode cX12_makeText 196 = .ok (.iload_n 1, 1) := by decide +kernel
theorem dX12_makeText_197 : decode cX12_makeText 197 = .ok (.iadd, 1) := by decide +kernel
theorem dX12_makeText_198 : decode cX12_makeText 198 = .ok (.iaload, 1) := by decide +kernel
theorem dX12_makeText_199 : decode cX12_makeText 199 = .ok (.bipush (-8), 2) := by decide +kernel
theorem dX12_makeText_201 : decode cX12_makeText 201 = .ok (.if_icmp .eq 26, 3) := by decide +kernel
theorem dX12_makeText_204 : decode cX12_makeText 204 = .ok (.aload_n 0, 1) := by decide +kernel
theorem dX12_makeText_205 : decode cX12_makeText 205 = .ok (.invokevirtual 155, 3) := by decide +kernel
theorem dX12_makeText_208 : decode cX12_makeText 208 = .ok (.aload_n 0, 1) := by decide +kernel
theorem dX12_makeText_209 : decode cX12_makeText 209 = .ok (.bipush 35, 2) := by decide +kernel
theorem dX12_makeText_211 : decode cX12_makeText 211 = .ok (.invokevirtual 136, 3) := by decide +kernel
theorem dX12_makeText_214 : decode cX12_makeText 214 = .ok (.aload_n 0, 1) := by decide +kernel
theorem dX12_makeText_215 : decode cX12_makeText 215 = .ok (.aload_n 0, 1) := by decide +kernel
theorem dX12_makeText_216 : decode cX12_makeText 216 = .ok (.getfield 7, 3) := by decide +kernel
theorem dX12_makeText_219 : decode cX12_makeText 219 = .ok (.bipush 94, 2) := by decide +kernel
theorem dX12_makeText_221 : decode cX12_makeText 221 = .ok (.iload_n 1, 1) := by decide +kernel
theorem dX12_makeText_222 : decode cX12_makeText 222 = .ok (.iadd, 1) := by decide +kernel
theorem dX12_makeText_223 : decode cX12_makeText 223 = .ok (.iaload, 1) := by decide +kernel
theorem dX12_makeText_224 : decode cX12_makeText 224 = .ok (.invokevirtual 162, 3) := by decide +kernel
theorem dX12_makeText_227 : decode cX12_makeText 227 = .ok (.aload_n 0, 1) := by decide +kernel
theorem dX12_makeText_228 : decode cX12_makeText 228 = .ok (.getfield 7, 3) := by decide +kernel
theorem dX12_makeText_231 : decode cX12_makeText 231 = .ok (.bipush 86, 2) := by decide +kernel
theorem dX12_makeText_233 : decode cX12_makeText 233 = .ok (.iload_n 1, 1) := by decide +kernel
theorem dX12_makeText_234 : decode cX12_makeText 234 = .ok (.iadd, 1) := by decide +kernel
theorem dX12_makeText_235 : decode cX12_makeText 235 = .ok (.iaload, 1) := by decide +kernel
theorem dX12_makeText_236 : decode cX12_makeText 236 = .ok (.iconst 1, 1) := by decide +kernel
theorem dX12_makeText_237 : decode cX12_makeText 237 = .ok (.if_icmp .ne 20, 3) := by decide +kernel
theorem dX12_makeText_240 : decode cX12_makeText 240 = .ok (.aload_n 0, 1) := by decide +kernel
theorem dX12_makeText_241 : decode cX12_makeText 241 = .ok (.invokevirtual 155, 3) := by decide +kernel
theorem dX12_makeText_244 : decode cX12_makeText 244 = .ok (.aload_n 0, 1) := by decide +kernel
theorem dX12_makeText_245 : decode cX12_makeText 245 = .ok (.getstatic 188, 3) := by decide +kernel
theorem dX12_makeText_248 : decode cX12_makeText 248 = .ok (.invokevirtual 158, 3) := by decide +kernel
theorem dX12_makeText_251 : decode cX12_makeText 251 = .ok (.aload_n 0, 1) := by decide +kernel
theorem dX12_makeText_252 : decode cX12_makeText 252 = .ok (.bipush 100, 2) := by decide +kernel
theorem dX12_makeText_254 : decode cX12_makeText 254 = .ok (.invokevirtual 136, 3) := by decide +kernel
theorem dX12_makeText_257 : decode cX12_makeText 257 = .ok (.return_, 1) := by decide +kernel
theorem dX12_describe_0 : decode cX12_describe 0 = .ok (.iload_n 1, 1) := by decide +kernel
theorem dX12_describe_1 : decode cX12_describe 1 = .ok (.invokestatic 104, 3) := by decide +kernel
theorem dX12_describe_4 : decode cX12_describe 4 = .ok (.ifCond .ne 6, 3) := by decide +kernel
theorem dX12_describe_7 : decode cX12_describe 7 = .ok (.bipush (-2), 2) := by decide +kernel
theorem dX12_describe_9 : decode cX12_describe 9 = .ok (.ireturn, 1) := by decide +kernel
theorem dX12_describe_10 : decode cX12_describe 10 = .ok (.iload_n 2, 1) := by decide +kernel
theorem dX12_describe_11 : decode cX12_describe 11 = .ok (.ifCond .ge 6, 3) := by decide +kernel
theorem dX12_describe_14 : decode cX12_describe 14 = .ok (.bipush (-3), 2) := by decide +kernel
theorem dX12_describe_16 : decode cX12_describe 16 = .ok (.ireturn, 1) := by decide +kernel
theorem dX12_describe_17 : decode cX12_describe 17 = .ok (.aload_n 0, 1) := by decide +kernel
theorem dX12_describe_18 : decode cX12_describe 18 = .ok (.iload_n 1, 1) := by decide +kernel
theorem dX12_describe_19 : decode cX12_describe 19 = .ok (.invokevirtual 191, 3) := by decide +kernel
theorem dX12_describe_22 : decode cX12_describe 22 = .ok (.iload_n 2, 1) := by decide +kernel
theorem dX12_describe_23 : decode cX12_describe 23 = .ok (.aload_n 0, 1) := by decide +kernel
theorem dX12_describe_24 : decode cX12_describe 24 = .ok (.getfield 130, 3) := by decide +kernel
theorem dX12_describe_27 : decode cX12_describe 27 = .ok (.if_icmp .ge 12, 3) := by decide +kernel
theorem dX12_describe_30 : decode cX12_describe 30 = .ok (.aload_n 0, 1) := by decide +kernel
theorem dX12_describe_31 : decode cX12_describe 31 = .ok (.getfield 25, 3) := by decide +kernel
theorem dX12_describe_34 : decode cX12_describe 34 = .ok (.iload_n 2, 1) := by decide +kernel
theorem dX12_describe_35 : decode cX12_describe 35 = .ok (.iaload, 1) := by decide +kernel
theorem dX12_describe_36 : decode cX12_describe 36 = .ok (.goto 5, 3) := by decide +kernel
theorem dX12_describe_39 : decode cX12_describe 39 = .ok (.bipush (-8), 2) := by decide +kernel
theorem dX12_describe_41 : decode cX12_describe 41 = .ok (.ireturn, 1) := by decide +kernel
theorem dX12_type_0 : decode cX12_type 0 = .ok (.iload_n 1, 1) := by decide +kernel
theorem dX12_type_1 : decode cX12_type 1 = .ok (.iconst 0, 1) := by decide +kernel
theorem dX12_type_2 : decode cX12_type 2 = .ok (.iconst 2, 1) := by decide +kernel
theorem dX12_type_3 : decode cX12_type 3 = .ok (.invokestatic 35, 3) := by decide +kernel
theorem dX12_type_6 : decode cX12_type 6 = .ok (.ifCond .eq 12, 3) := by decide +kernel
theorem dX12_type_9 : decode cX12_type 9 = .ok (.iload_n 2, 1) := by decide +kernel
theorem dX12_type_10 : decode cX12_type 10 = .ok (.iconst 0, 1) := by decide +kernel
theorem dX12_type_11 : decode cX12_type 11 = .ok (.iconst 2, 1) := by decide +kernel
theorem dX12_type_12 : decode cX12_type 12 = .ok (.invokestatic 35, 3) := by decide +kernel
theorem dX12_type_15 : decode cX12_type 15 = .ok (.ifCond .ne 6, 3) := by decide +kernel
theorem dX12_type_18 : decode cX12_type 18 = .ok (.bipush (-3), 2) := by decide +kernel
theorem dX12_type_20 : decode cX12_type 20 = .ok (.ireturn, 1) := by decide +kernel
theorem dX12_type_21 : decode cX12_type 21 = .ok (.iload_n 2, 1) := by decide +kernel
theorem dX12_type_22 : decode cX12_type 22 = .ok (.ifCond .ne 16, 3) := by decide +kernel
theorem dX12_type_25 : decode cX12_type 25 = .ok (.aload_n 0, 1) := by decide +kernel
theorem dX12_type_26 : decode cX12_type 26 = .ok (.getfield 7, 3) := by decide +kernel
theorem dX12_type_29 : decode cX12_type 29 = .ok (.sipush 222, 3) := by decide +kernel
theorem dX12_type_32 : decode cX12_type 32 = .ok (.iload_n 1, 1) := by decide +kernel
theorem dX12_type_33 : decode cX12_type 33 = .ok (.iadd, 1) := by decide +kernel
theorem dX12_type_34 : decode cX12_type 34 = .ok (.iaload, 1) := by decide +kernel
theorem dX12_type_35 : decode cX12_type 35 = .ok (.goto 31, 3) := by decide +kernel
theorem dX12_type_38 : decode cX12_type 38 = .ok (.iload_n 2, 1) := by decide +kernel
theorem dX12_type_39 : decode cX12_type 39 = .ok (.iconst 1, 1) := by decide +kernel
theorem dX12_type_40 : decode cX12_type 40 = .ok (.if_icmp .ne 16, 3) := by decide +kernel
theorem dX12_type_43 : decode cX12_type 43 = .ok (.aload_n 0, 1) := by decide +kernel
theorem dX12_type_44 : decode cX12_type 44 = .ok (.getfield 7, 3) := by decide +kernel
theorem dX12_type_47 : decode cX12_type 47 = .ok (.sipush 225, 3) := by decide +kernel
theorem dX12_type_50 : decode cX12_type 50 = .ok (.iload_n 1, 1) := by decide +kernel
theorem dX12_type_51 : decode cX12_type 51 = .ok (.iadd, 1) := by decide +kernel
theorem dX12_type_52 : decode cX12_type 52 = .ok (.iaload, 1) := by decide +kernel
theorem dX12_type_53 : decode cX12_type 53 = .ok (.goto 13, 3) := by decide +kernel
theorem dX12_type_56 : decode cX12_type 56 = .ok (.aload_n 0, 1) := by decide +kernel
theorem dX12_type_57 : decode cX12_type 57 = .ok (.getfield 7, 3) := by decide +kernel
theorem dX12_type_60 : decode cX12_type 60 = .ok (.sipush 228, 3) := by decide +kernel
theorem dX12_type_63 : decode cX12_type 63 = .ok (.iload_n 1, 1) := by decide +kernel
theorem dX12_type_64 : decode cX12_type 64 = .ok (.iadd, 1) := by decide +kernel
theorem dX12_type_65 : decode cX12_type 65 = .ok (.iaload, 1) := by decide +kernel
theorem dX12_type_66 : decode cX12_type 66 = .ok (.ireturn, 1) := by decide +kernel
theorem dX12_time_0 : decode cX12_time 0 = .ok (.aload_n 0, 1) := by decide +kernel
theorem dX12_time_1 : decode cX12_time 1 = .ok (.getfield 7, 3) := by decide +kernel
theorem dX12_time_4 : decode cX12_time 4 = .ok (.bipush 9, 2) := by decide +kernel
theorem dX12_time_6 : decode cX12_time 6 = .ok (.iaload, 1) := by decide +kernel
theorem dX12_time_7 : decode cX12_time 7 = .ok (.ireturn, 1) := by decide +kernel
theorem dX12_counted_0 : decode cX12_counted 0 = .ok (.iload_n 1, 1) := by decide +kernel
theorem dX12_counted_1 : decode cX12_counted 1 = .ok (.iconst 0, 1) := by decide +kernel
theorem dX12_counted_2 : decode cX12_counted 2 = .ok (.bipush 8, 2) := by decide +kernel
theorem dX12_counted_4 : decode cX12_counted 4 = .ok (.invokestatic 35, 3) := by decide +kernel
theorem dX12_counted_7 : decode cX12_counted 7 = .ok (.ifCond .eq 16, 3) := by decide +kernel
theorem dX12_counted_10 : decode cX12_counted 10 = .ok (.aload_n 0, 1) := by decide +kernel
theorem dX12_counted_11 : decode cX12_counted 11 = .ok (.getfield 7, 3) := by decide +kernel
theorem dX12_counted_14 : decode cX12_counted 14 = .ok (.sipush 231, 3) := by decide +kernel
theorem dX12_counted_17 : decode cX12_counted 17 = .ok (.iload_n 1, 1) := by decide +kernel
theorem dX12_counted_18 : decode cX12_counted 18 = .ok (.iadd, 1) := by decide +kernel
theorem dX12_counted_19 : decode cX12_counted 19 = .ok (.iaload, 1) := by decide +kernel
theorem dX12_counted_20 : decode cX12_counted 20 = .ok (.goto 5, 3) := by decide +kernel
theorem dX12_counted_23 : decode cX12_counted 23 = .ok (.bipush (-3), 2) := by decide +kernel
theorem dX12_counted_25 : decode cX12_counted 25 = .ok (.ireturn, 1) := by decide +kernel
theorem dX12_cost_0 : decode cX12_cost 0 = .ok (.iconst 2, 1) := by decide +kernel
theorem dX12_cost_1 : decode cX12_cost 1 = .ok (.aload_n 0, 1) := by decide +kernel
theorem dX12_cost_2 : decode cX12_cost 2 = .ok (.getfield 7, 3) := by decide +kernel
theorem dX12_cost_5 : decode cX12_cost 5 = .ok (.sipush 231, 3) := by decide +kernel
theorem dX12_cost_8 : decode cX12_cost 8 = .ok (.iaload, 1) := by decide +kernel
theorem dX12_cost_9 : decode cX12_cost 9 = .ok (.imul, 1) := by decide +kernel
theorem dX12_cost_10 : decode cX12_cost 10 = .ok (.bipush 20, 2) := by decide +kernel
theorem dX12_cost_12 : decode cX12_cost 12 = .ok (.aload_n 0, 1) := by decide +kernel
theorem dX12_cost_13 : decode cX12_cost 13 = .ok (.getfield 7, 3) := by decide +kernel
theorem dX12_cost_16 : decode cX12_cost 16 = .ok (.sipush 232, 3) := by decide +kernel
theorem dX12_cost_19 : decode cX12_cost 19 = .ok (.iaload, 1) := by decide +kernel
theorem dX12_cost_20 : decode cX12_cost 20 = .ok (.imul, 1) := by decide +kernel
theorem dX12_cost_21 : decode cX12_cost 21 = .ok (.iadd, 1) := by decide +kernel
theorem dX12_cost_22 : decode cX12_cost 22 = .ok (.bipush 10, 2) := by decide +kernel
theorem dX12_cost_24 : decode cX12_cost 24 = .ok (.aload_n 0, 1) := by decide +kernel
theorem dX12_cost_25 : decode cX12_cost 25 = .ok (.getfield 7, 3) := by decide +kernel
theorem dX12_cost_28 : decode cX12_cost 28 = .ok (.sipush 233, 3) := by decide +kernel
theorem dX12_cost_31 : decode cX12_cost 31 = .ok (.iaload, 1) := by decide +kernel
theorem dX12_cost_32 : decode cX12_cost 32 = .ok (.imul, 1) := by decide +kernel
theorem dX12_cost_33 : decode cX12_cost 33 = .ok (.iadd, 1) := by decide +kernel
theorem dX12_cost_34 : decode cX12_cost 34 = .ok (.iconst 5, 1) := by decide +kernel
theorem dX12_cost_35 : decode cX12_cost 35 = .ok (.aload_n 0, 1) := by decide +kernel
theorem dX12_cost_36 : decode cX12_cost 36 = .ok (.getfield 7, 3) := by decide +kernel
theorem dX12_cost_39 : decode cX12_cost 39 = .ok (.sipush 234, 3) := by decide +kernel
theorem dX12_cost_42 : decode cX12_cost 42 = .ok (.iaload, 1) := by decide +kernel
theorem dX12_cost_43 : decode cX12_cost 43 = .ok (.imul, 1) := by decide +kernel
theorem dX12_cost_44 : decode cX12_cost 44 = .ok (.iadd, 1) := by decide +kernel
theorem dX12_cost_45 : decode cX12_cost 45 = .ok (.bipush 30, 2) := by decide +kernel
theorem dX12_cost_47 : decode cX12_cost 47 = .ok (.aload_n 0, 1) := by decide +kernel
theorem dX12_cost_48 : decode cX12_cost 48 = .ok (.getfield 7, 3) := by decide +kernel
theorem dX12_cost_51 : decode cX12_cost 51 = .ok (.sipush 235, 3) := by decide +kernel
theorem dX12_cost_54 : decode cX12_cost 54 = .ok (.iaload, 1) := by decide +kernel
theorem dX12_cost_55 : decode cX12_cost 55 = .ok (.imul, 1) := by decide +kernel
theorem dX12_cost_56 : decode cX12_cost 56 = .ok (.iadd, 1) := by decide +kernel
theorem dX12_cost_57 : decode cX12_cost 57 = .ok (.iconst 5, 1) := by decide +kernel
theorem dX12_cost_58 : decode cX12_cost 58 = .ok (.aload_n 0, 1) := by decide +kernel
theorem dX12_cost_59 : decode cX12_cost 59 = .ok (.getfield 7, 3) := by decide +kernel
theorem dX12_cost_62 : decode cX12_cost 62 = .ok (.sipush 236, 3) := by decide +kernel
theorem dX12_cost_65 : decode cX12_cost 65 = .ok (.iaload, 1) := by decide +kernel
theorem dX12_cost_66 : decode cX12_cost 66 = .ok (.imul, 1) := by decide +kernel
theorem dX12_cost_67 : decode cX12_cost 67 = .ok (.iadd, 1) := by decide +kernel
theorem dX12_cost_68 : decode cX12_cost 68 = .ok (.iconst 3, 1) := by decide +kernel
theorem dX12_cost_69 : decode cX12_cost 69 = .ok (.aload_n 0, 1) := by decide +kernel
theorem dX12_cost_70 : decode cX12_cost 70 = .ok (.getfield 7, 3) := by decide +kernel
theorem dX12_cost_73 : decode cX12_cost 73 = .ok (.sipush 237, 3) := by decide +kernel
theorem dX12_cost_76 : decode cX12_cost 76 = .ok (.iaload, 1) := by decide +kernel
theorem dX12_cost_77 : decode cX12_cost 77 = .ok (.imul, 1) := by decide +kernel
theorem dX12_cost_78 : decode cX12_cost 78 = .ok (.iadd, 1) := by decide +kernel
theorem dX12_cost_79 : decode cX12_cost 79 = .ok (.ireturn, 1) := by decide +kernel
theorem dX12_recorded_0 : decode cX12_recorded 0 = .ok (.aload_n 0, 1) := by decide +kernel
theorem dX12_recorded_1 : decode cX12_recorded 1 = .ok (.getfield 7, 3) := by decide +kernel
theorem dX12_recorded_4 : decode cX12_recorded 4 = .ok (.sipush 241, 3) := by decide +kernel
theorem dX12_recorded_7 : decode cX12_recorded 7 = .ok (.iaload, 1) := by decide +kernel
theorem dX12_recorded_8 : decode cX12_recorded 8 = .ok (.ireturn, 1) := by decide +kernel
theorem dX12_operate_0 : decode cX12_operate 0 = .ok (.iload_n 1, 1) := by decide +kernel
theorem dX12_operate_1 : decode cX12_operate 1 = .ok (.tableswitch 112 0 8 #[51, 58, 65, 74, 81, 88, 94, 100, 106], 51) := by decide +kernel
theorem dX12_operate_52 : decode cX12_operate 52 = .ok (.aload_n 0, 1) := by decide +kernel
theorem dX12_operate_53 : decode cX12_operate 53 = .ok (.iload_n 2, 1) := by decide +kernel
theorem dX12_operate_54 : decode cX12_operate 54 = .ok (.iload_n 3, 1) := by decide +kernel
theorem dX12_operate_55 : decode cX12_operate 55 = .ok (.invokevirtual 194, 3) := by decide +kernel
theorem dX12_operate_58 : decode cX12_operate 58 = .ok (.ireturn, 1) := by decide +kernel
theorem dX12_operate_59 : decode cX12_operate 59 = .ok (.aload_n 0, 1) := by decide +kernel
theorem dX12_operate_60 : decode cX12_operate 60 = .ok (.iload_n 2, 1) := by decide +kernel
theorem dX12_operate_61 : decode cX12_operate 61 = .ok (.iload_n 3, 1) := by decide +kernel
theorem dX12_operate_62 : decode cX12_operate 62 = .ok (.invokevirtual 197, 3) := by decide +kernel
theorem dX12_operate_65 : decode cX12_operate 65 = .ok (.ireturn, 1) := by decide +kernel
theorem dX12_operate_66 : decode cX12_operate 66 = .ok (.aload_n 0, 1) := by decide +kernel
theorem dX12_operate_67 : decode cX12_operate 67 = .ok (.iload_n 2, 1) := by decide +kernel
theorem dX12_operate_68 : decode cX12_operate 68 = .ok (.iload_n 3, 1) := by decide +kernel
theorem dX12_operate_69 : decode cX12_operate 69 = .ok (.iload 4, 2) := by decide +kernel
theorem dX12_operate_71 : decode cX12_operate 71 = .ok (.invokevirtual 200, 3) := by decide +kernel
theorem dX12_operate_74 : decode cX12_operate 74 = .ok (.ireturn, 1) := by decide +kernel
theorem dX12_operate_75 : decode cX12_operate 75 = .ok (.aload_n 0, 1) := by decide +kernel
theorem dX12_operate_76 : decode cX12_operate 76 = .ok (.iload_n 2, 1) := by decide +kernel
theorem dX12_operate_77 : decode cX12_operate 77 = .ok (.iload_n 3, 1) := by decide +kernel
theorem dX12_operate_78 : decode cX12_operate 78 = .ok (.invokevirtual 204, 3) := by decide +kernel
theorem dX12_operate_81 : decode cX12_operate 81 = .ok (.ireturn, 1) := by decide +kernel
theorem dX12_operate_82 : decode cX12_operate 82 = .ok (.aload_n 0, 1) := by decide +kernel
theorem dX12_operate_83 : decode cX12_operate 83 = .ok (.iload_n 2, 1) := by decide +kernel
theorem dX12_operate_84 : decode cX12_operate 84 = .ok (.iload_n 3, 1) := by decide +kernel
theorem dX12_operate_85 : decode cX12_operate 85 = .ok (.invokevirtual 207, 3) := by decide +kernel
theorem dX12_operate_88 : decode cX12_operate 88 = .ok (.ireturn, 1) := by decide +kernel
theorem dX12_operate_89 : decode cX12_operate 89 = .ok (.aload_n 0, 1) := by decide +kernel
theorem dX12_operate_90 : decode cX12_operate 90 = .ok (.iload_n 2, 1) := by decide +kernel
theorem dX12_operate_91 : decode cX12_operate 91 = .ok (.invokevirtual 210, 3) := by decide +kernel
theorem dX12_operate_94 : decode cX12_operate 94 = .ok (.ireturn, 1) := by decide +kernel
theorem dX12_operate_95 : decode cX12_operate 95 = .ok (.aload_n 0, 1) := by decide +kernel
theorem dX12_operate_96 : decode cX12_operate 96 = .ok (.iload_n 2, 1) := by decide +kernel
theorem dX12_operate_97 : decode cX12_operate 97 = .ok (.invokevirtual 213, 3) := by decide +kernel
theorem dX12_operate_100 : decode cX12_operate 100 = .ok (.ireturn, 1) := by decide +kernel
theorem dX12_operate_101 : decode cX12_operate 101 = .ok (.aload_n 0, 1) := by decide +kernel
theorem dX12_operate_102 : decode cX12_operate 102 = .ok (.iload_n 2, 1) := by decide +kernel
theorem dX12_operate_103 : decode cX12_operate 103 = .ok (.invokevirtual 216, 3) := by decide +kernel
theorem dX12_operate_106 : decode cX12_operate 106 = .ok (.ireturn, 1) := by decide +kernel
theorem dX12_operate_107 : decode cX12_operate 107 = .ok (.aload_n 0, 1) := by decide +kernel
theorem dX12_operate_108 : decode cX12_operate 108 = .ok (.iload_n 2, 1) := by decide +kernel
theorem dX12_operate_109 : decode cX12_operate 109 = .ok (.invokevirtual 219, 3) := by decide +kernel
theorem dX12_operate_112 : decode cX12_operate 112 = .ok (.ireturn, 1) := by decide +kernel
theorem dX12_operate_113 : decode cX12_operate 113 = .ok (.aload_n 0, 1) := by decide +kernel
theorem dX12_operate_114 : decode cX12_operate 114 = .ok (.iload_n 2, 1) := by decide +kernel
theorem dX12_operate_115 : decode cX12_operate 115 = .ok (.invokevirtual 222, 3) := by decide +kernel
theorem dX12_operate_118 : decode cX12_operate 118 = .ok (.ireturn, 1) := by decide +kernel
theorem dX12_replayed_0 : decode cX12_replayed 0 = .ok (.iconst 0, 1) := by decide +kernel
theorem dX12_replayed_1 : decode cX12_replayed 1 = .ok (.istore_n 3, 1) := by decide +kernel
theorem dX12_replayed_2 : decode cX12_replayed 2 = .ok (.iload_n 3, 1) := by decide +kernel
theorem dX12_replayed_3 : decode cX12_replayed 3 = .ok (.sipush 482, 3) := by decide +kernel
theorem dX12_replayed_6 : decode cX12_replayed 6 = .ok (.if_icmp .ge 21, 3) := by decide +kernel
theorem dX12_replayed_9 : decode cX12_replayed 9 = .ok (.aload_n 0, 1) := by decide +kernel
theorem dX12_replayed_10 : decode cX12_replayed 10 = .ok (.getfield 16, 3) := by decide +kernel
theorem dX12_replayed_13 : decode cX12_replayed 13 = .ok (.iload_n 3, 1) := by decide +kernel
theorem dX12_replayed_14 : decode cX12_replayed 14 = .ok (.aload_n 0, 1) := by decide +kernel
theorem dX12_replayed_15 : decode cX12_replayed 15 = .ok (.getfield 7, 3) := by decide +kernel
theorem dX12_replayed_18 : decode cX12_replayed 18 = .ok (.iload_n 3, 1) := by decide +kernel
theorem dX12_replayed_19 : decode cX12_replayed 19 = .ok (.iaload, 1) := by decide +kernel
theorem dX12_replayed_20 : decode cX12_replayed 20 = .ok (.iastore, 1) := by decide +kernel
theorem dX12_replayed_21 : decode cX12_replayed 21 = .ok (.iinc 3 1, 3) := by decide +kernel
theorem dX12_replayed_24 : decode cX12_replayed 24 = .ok (.goto (-22), 3) := by decide +kernel
theorem dX12_replayed_27 : decode cX12_replayed 27 = .ok (.aload_n 0, 1) := by decide +kernel
theorem dX12_replayed_28 : decode cX12_replayed 28 = .ok (.getfield 7, 3) := by decide +kernel
theorem dX12_replayed_31 : decode cX12_replayed 31 = .ok (.iconst 1, 1) := by decide +kernel
theorem dX12_replayed_32 : decode cX12_replayed 32 = .ok (.iload_n 1, 1) := by decide +kernel
theorem dX12_replayed_33 : decode cX12_replayed 33 = .ok (.iadd, 1) := by decide +kernel
theorem dX12_replayed_34 : decode cX12_replayed 34 = .ok (.iload_n 2, 1) := by decide +kernel
theorem dX12_replayed_35 : decode cX12_replayed 35 = .ok (.iastore, 1) := by decide +kernel
theorem dX12_replayed_36 : decode cX12_replayed 36 = .ok (.aload_n 0, 1) := by decide +kernel
theorem dX12_replayed_37 : decode cX12_replayed 37 = .ok (.aload_n 0, 1) := by decide +kernel
theorem dX12_replayed_38 : decode cX12_replayed 38 = .ok (.getfield 7, 3) := by decide +kernel
theorem dX12_replayed_41 : decode cX12_replayed 41 = .ok (.iconst 0, 1) := by decide +kernel
theorem dX12_replayed_42 : decode cX12_replayed 42 = .ok (.iaload, 1) := by decide +kernel
theorem dX12_replayed_43 : decode cX12_replayed 43 = .ok (.invokevirtual 31, 3) := by decide +kernel
theorem dX12_replayed_46 : decode cX12_replayed 46 = .ok (.iconst 0, 1) := by decide +kernel
theorem dX12_replayed_47 : decode cX12_replayed 47 = .ok (.istore_n 3, 1) := by decide +kernel
theorem dX12_replayed_48 : decode cX12_replayed 48 = .ok (.iload_n 3, 1) := by decide +kernel
theorem dX12_replayed_49 : decode cX12_replayed 49 = .ok (.aload_n 0, 1) := by decide +kernel
theorem dX12_replayed_50 : decode cX12_replayed 50 = .ok (.getfield 16, 3) := by decide +kernel
theorem dX12_replayed_53 : decode cX12_replayed 53 = .ok (.sipush 241, 3) := by decide +kernel
theorem dX12_replayed_56 : decode cX12_replayed 56 = .ok (.iaload, 1) := by decide +kernel
theorem dX12_replayed_57 : decode cX12_replayed 57 = .ok (.if_icmp .ge 58, 3) := by decide +kernel
theorem dX12_replayed_60 : decode cX12_replayed 60 = .ok (.sipush 242, 3) := by decide +kernel
theorem dX12_replayed_63 : decode cX12_replayed 63 = .ok (.iconst 4, 1) := by decide +kernel
theorem dX12_replayed_64 : decode cX12_replayed 64 = .ok (.iload_n 3, 1) := by decide +kernel
theorem dX12_replayed_65 : decode cX12_replayed 65 = .ok (.imul, 1) := by decide +kernel
theorem dX12_replayed_66 : decode cX12_replayed 66 = .ok (.iadd, 1) := by decide +kernel
theorem dX12_replayed_67 : decode cX12_replayed 67 = .ok (.istore 4, 2) := by decide +kernel
theorem dX12_replayed_69 : decode cX12_replayed 69 = .ok (.aload_n 0, 1) := by decide +kernel
theorem dX12_replayed_70 : decode cX12_replayed 70 = .ok (.aload_n 0, 1) := by decide +kernel
theorem dX12_replayed_71 : decode cX12_replayed 71 = .ok (.getfield 16, 3) := by decide +kernel
theorem dX12_replayed_74 : decode cX12_replayed 74 = .ok (.iload 4, 2) := by decide +kernel
theorem dX12_replayed_76 : decode cX12_replayed 76 = .ok (.iaload, 1) := by decide +kernel
theorem dX12_replayed_77 : decode cX12_replayed 77 = .ok (.aload_n 0, 1) := by decide +kernel
theorem dX12_replayed_78 : decode cX12_replayed 78 = .ok (.getfield 16, 3) := by decide +kernel
theorem dX12_replayed_81 : decode cX12_replayed 81 = .ok (.iload 4, 2) := by decide +kernel
theorem dX12_replayed_83 : decode cX12_replayed 83 = .ok (.iconst 1, 1) := by decide +kernel
theorem dX12_replayed_84 : decode cX12_replayed 84 = .ok (.iadd, 1) := by decide +kernel
theorem dX12_replayed_85 : decode cX12_replayed 85 = .ok (.iaload, 1) := by decide +kernel
theorem dX12_replayed_86 : decode cX12_replayed 86 = .ok (.aload_n 0, 1) := by decide +kernel
theorem dX12_replayed_87 : decode cX12_replayed 87 = .ok (.getfield 16, 3) := by decide +kernel
theorem dX12_replayed_90 : decode cX12_replayed 90 = .ok (.iload 4, 2) := by decide +kernel
theorem dX12_replayed_92 : decode cX12_replayed 92 = .ok (.iconst 2, 1) := by decide +kernel
theorem dX12_replayed_93 : decode cX12_replayed 93 = .ok (.iadd, 1) := by decide +kernel
theorem dX12_replayed_94 : decode cX12_replayed 94 = .ok (.iaload, 1) := by decide +kernel
theorem dX12_replayed_95 : decode cX12_replayed 95 = .ok (.aload_n 0, 1) := by decide +kernel
theorem dX12_replayed_96 : decode cX12_replayed 96 = .ok (.getfield 16, 3) := by decide +kernel
theorem dX12_replayed_99 : decode cX12_replayed 99 = .ok (.iload 4, 2) := by decide +kernel
theorem dX12_replayed_101 : decode cX12_replayed 101 = .ok (.iconst 3, 1) := by decide +kernel
theorem dX12_replayed_102 : decode cX12_replayed 102 = .ok (.iadd, 1) := by decide +kernel
theorem dX12_replayed_103 : decode cX12_replayed 103 = .ok (.iaload, 1) := by decide +kernel
theorem dX12_replayed_104 : decode cX12_replayed 104 = .ok (.invokevirtual 225, 3) := by decide +kernel
theorem dX12_replayed_107 : decode cX12_replayed 107 = .ok (.istore 5, 2) := by decide +kernel
theorem dX12_replayed_109 : decode cX12_replayed 109 = .ok (.iinc 3 1, 3) := by decide +kernel
theorem dX12_replayed_112 : decode cX12_replayed 112 = .ok (.goto (-64), 3) := by decide +kernel
theorem dX12_replayed_115 : decode cX12_replayed 115 = .ok (.aload_n 0, 1) := by decide +kernel
theorem dX12_replayed_116 : decode cX12_replayed 116 = .ok (.invokevirtual 229, 3) := by decide +kernel
theorem dX12_replayed_119 : decode cX12_replayed 119 = .ok (.istore_n 3, 1) := by decide +kernel
theorem dX12_replayed_120 : decode cX12_replayed 120 = .ok (.iconst 0, 1) := by decide +kernel
theorem dX12_replayed_121 : decode cX12_replayed 121 = .ok (.istore 4, 2) := by decide +kernel
theorem dX12_replayed_123 : decode cX12_replayed 123 = .ok (.iload 4, 2) := by decide +kernel
theorem dX12_replayed_125 : decode cX12_replayed 125 = .ok (.sipush 482, 3) := by decide +kernel
theorem dX12_replayed_128 : decode cX12_replayed 128 = .ok (.if_icmp .ge 23, 3) := by decide +kernel
theorem dX12_replayed_131 : decode cX12_replayed 131 = .ok (.aload_n 0, 1) := by decide +kernel
theorem dX12_replayed_132 : decode cX12_replayed 132 = .ok (.getfield 7, 3) := by decide +kernel
theorem dX12_replayed_135 : decode cX12_replayed 135 = .ok (.iload 4, 2) := by decide +kernel
theorem dX12_replayed_137 : decode cX12_replayed 137 = .ok (.aload_n 0, 1) := by decide +kernel
theorem dX12_replayed_138 : decode cX12_replayed 138 = .ok (.getfield 16, 3) := by decide +kernel
theorem dX12_replayed_141 : decode cX12_replayed 141 = .ok (.iload 4, 2) := by decide +kernel
theorem dX12_replayed_143 : decode cX12_replayed 143 = .ok (.iaload, 1) := by decide +kernel
theorem dX12_replayed_144 : decode cX12_replayed 144 = .ok (.iastore, 1) := by decide +kernel
theorem dX12_replayed_145 : decode cX12_replayed 145 = .ok (.iinc 4 1, 3) := by decide +kernel
theorem dX12_replayed_148 : decode cX12_replayed 148 = .ok (.goto (-25), 3) := by decide +kernel
theorem dX12_replayed_151 : decode cX12_replayed 151 = .ok (.iload_n 3, 1) := by decide +kernel
theorem dX12_replayed_152 : decode cX12_replayed 152 = .ok (.ireturn, 1) := by decide +kernel
theorem dX12_replayCost_0 : decode cX12_replayCost 0 = .ok (.iload_n 1, 1) := by decide +kernel
theorem dX12_replayCost_1 : decode cX12_replayCost 1 = .ok (.iload_n 2, 1) := by decide +kernel
theorem dX12_replayCost_2 : decode cX12_replayCost 2 = .ok (.invokestatic 46, 3) := by decide +kernel
theorem dX12_replayCost_5 : decode cX12_replayCost 5 = .ok (.ifCond .eq 12, 3) := by decide +kernel
theorem dX12_replayCost_8 : decode cX12_replayCost 8 = .ok (.aload_n 0, 1) := by decide +kernel
theorem dX12_replayCost_9 : decode cX12_replayCost 9 = .ok (.iload_n 1, 1) := by decide +kernel
theorem dX12_replayCost_10 : decode cX12_replayCost 10 = .ok (.iload_n 2, 1) := by decide +kernel
theorem dX12_replayCost_11 : decode cX12_replayCost 11 = .ok (.invokevirtual 232, 3) := by decide +kernel
theorem dX12_replayCost_14 : decode cX12_replayCost 14 = .ok (.goto 5, 3) := by decide +kernel
theorem dX12_replayCost_17 : decode cX12_replayCost 17 = .ok (.bipush (-3), 2) := by decide +kernel
theorem dX12_replayCost_19 : decode cX12_replayCost 19 = .ok (.ireturn, 1) := by decide +kernel
theorem dX12_bestValue_0 : decode cX12_bestValue 0 = .ok (.iload_n 1, 1) := by decide +kernel
theorem dX12_bestValue_1 : decode cX12_bestValue 1 = .ok (.iconst 0, 1) := by decide +kernel
theorem dX12_bestValue_2 : decode cX12_bestValue 2 = .ok (.bipush 7, 2) := by decide +kernel
theorem dX12_bestValue_4 : decode cX12_bestValue 4 = .ok (.invokestatic 35, 3) := by decide +kernel
theorem dX12_bestValue_7 : decode cX12_bestValue 7 = .ok (.ifCond .ne 6, 3) := by decide +kernel
theorem dX12_bestValue_10 : decode cX12_bestValue 10 = .ok (.bipush (-3), 2) := by decide +kernel
theorem dX12_bestValue_12 : decode cX12_bestValue 12 = .ok (.ireturn, 1) := by decide +kernel
theorem dX12_bestValue_13 : decode cX12_bestValue 13 = .ok (.iload_n 1, 1) := by decide +kernel
theorem dX12_bestValue_14 : decode cX12_bestValue 14 = .ok (.invokestatic 39, 3) := by decide +kernel
theorem dX12_bestValue_17 : decode cX12_bestValue 17 = .ok (.istore_n 2, 1) := by decide +kernel
theorem dX12_bestValue_18 : decode cX12_bestValue 18 = .ok (.aload_n 0, 1) := by decide +kernel
theorem dX12_bestValue_19 : decode cX12_bestValue 19 = .ok (.iload_n 1, 1) := by decide +kernel
theorem dX12_bestValue_20 : decode cX12_bestValue 20 = .ok (.iload_n 2, 1) := by decide +kernel
theorem dX12_bestValue_21 : decode cX12_bestValue 21 = .ok (.invokevirtual 232, 3) := by decide +kernel
theorem dX12_bestValue_24 : decode cX12_bestValue 24 = .ok (.istore_n 3, 1) := by decide +kernel
theorem dX12_bestValue_25 : decode cX12_bestValue 25 = .ok (.iload_n 2, 1) := by decide +kernel
theorem dX12_bestValue_26 : decode cX12_bestValue 26 = .ok (.iconst 1, 1) := by decide +kernel
theorem dX12_bestValue_27 : decode cX12_bestValue 27 = .ok (.iadd, 1) := by decide +kernel
theorem dX12_bestValue_28 : decode cX12_bestValue 28 = .ok (.istore 4, 2) := by decide +kernel
theorem dX12_bestValue_30 : decode cX12_bestValue 30 = .ok (.iload 4, 2) := by decide +kernel
theorem dX12_bestValue_32 : decode cX12_bestValue 32 = .ok (.iload_n 1, 1) := by decide +kernel
theorem dX12_bestValue_33 : decode cX12_bestValue 33 = .ok (.invokestatic 43, 3) := by decide +kernel
theorem dX12_bestValue_36 : decode cX12_bestValue 36 = .ok (.if_icmp .gt 30, 3) := by decide +kernel
theorem dX12_bestValue_39 : decode cX12_bestValue 39 = .ok (.aload_n 0, 1) := by decide +kernel
theorem dX12_bestValue_40 : decode cX12_bestValue 40 = .ok (.iload_n 1, 1) := by decide +kernel
theorem dX12_bestValue_41 : decode cX12_bestValue 41 = .ok (.iload 4, 2) := by decide +kernel
theorem dX12_bestValue_43 : decode cX12_bestValue 43 = .ok (.invokevirtual 232, 3) := by decide +kernel
theorem dX12_bestValue_46 : decode cX12_bestValue 46 = .ok (.istore 5, 2) := by decide +kernel
theorem dX12_bestValue_48 : decode cX12_bestValue 48 = .ok (.iload 5, 2) := by decide +kernel
theorem dX12_bestValue_50 : decode cX12_bestValue 50 = .ok (.iload_n 3, 1) := by decide +kernel
theorem dX12_bestValue_51 : decode cX12_bestValue 51 = .ok (.if_icmp .ge 9, 3) := by decide +kernel
theorem dX12_bestValue_54 : decode cX12_bestValue 54 = .ok (.iload 4, 2) := by decide +kernel
theorem dX12_bestValue_56 : decode cX12_bestValue 56 = .ok (.istore_n 2, 1) := by decide +kernel
theorem dX12_bestValue_57 : decode cX12_bestValue 57 = .ok (.iload 5, 2) := by decide +kernel
theorem dX12_bestValue_59 : decode cX12_bestValue 59 = .ok (.istore_n 3, 1) := by decide +kernel
theorem dX12_bestValue_60 : decode cX12_bestValue 60 = .ok (.iinc 4 1, 3) := by decide +kernel
theorem dX12_bestValue_63 : decode cX12_bestValue 63 = .ok (.goto (-33), 3) := by decide +kernel
theorem dX12_bestValue_66 : decode cX12_bestValue 66 = .ok (.iload_n 2, 1) := by decide +kernel
theorem dX12_bestValue_67 : decode cX12_bestValue 67 = .ok (.ireturn, 1) := by decide +kernel
theorem dX12_write_0 : decode cX12_write 0 = .ok (.iload_n 1, 1) := by decide +kernel
theorem dX12_write_1 : decode cX12_write 1 = .ok (.bipush 32, 2) := by decide +kernel
theorem dX12_write_3 : decode cX12_write 3 = .ok (.bipush 126, 2) := by decide +kernel
theorem dX12_write_5 : decode cX12_write 5 = .ok (.invokestatic 35, 3) := by decide +kernel
theorem dX12_write_8 : decode cX12_write 8 = .ok (.ifCond .ne 6, 3) := by decide +kernel
theorem dX12_write_11 : decode cX12_write 11 = .ok (.bipush (-3), 2) := by decide +kernel
theorem dX12_write_13 : decode cX12_write 13 = .ok (.ireturn, 1) := by decide +kernel
theorem dX12_write_14 : decode cX12_write 14 = .ok (.aload_n 0, 1) := by decide +kernel
theorem dX12_write_15 : decode cX12_write 15 = .ok (.getfield 235, 3) := by decide +kernel
theorem dX12_write_18 : decode cX12_write 18 = .ok (.sipush 200, 3) := by decide +kernel
theorem dX12_write_21 : decode cX12_write 21 = .ok (.if_icmp .ne 6, 3) := by decide +kernel
theorem dX12_write_24 : decode cX12_write 24 = .ok (.bipush (-6), 2) := by decide +kernel
theorem dX12_write_26 : decode cX12_write 26 = .ok (.ireturn, 1) := by decide +kernel
theorem dX12_write_27 : decode cX12_write 27 = .ok (.aload_n 0, 1) := by decide +kernel
theorem dX12_write_28 : decode cX12_write 28 = .ok (.getfield 22, 3) := by decide +kernel
theorem dX12_write_31 : decode cX12_write 31 = .ok (.aload_n 0, 1) := by decide +kernel
theorem dX12_write_32 : decode cX12_write 32 = .ok (.getfield 235, 3) := by decide +kernel
theorem dX12_write_35 : decode cX12_write 35 = .ok (.iload_n 1, 1) := by decide +kernel
theorem dX12_write_36 : decode cX12_write 36 = .ok (.iastore, 1) := by decide +kernel
theorem dX12_write_37 : decode cX12_write 37 = .ok (.aload_n 0, 1) := by decide +kernel
theorem dX12_write_38 : decode cX12_write 38 = .ok (.dup, 1) := by decide +kernel
theorem dX12_write_39 : decode cX12_write 39 = .ok (.getfield 235, 3) := by decide +kernel
theorem dX12_write_42 : decode cX12_write 42 = .ok (.iconst 1, 1) := by decide +kernel
theorem dX12_write_43 : decode cX12_write 43 = .ok (.iadd, 1) := by decide +kernel
theorem dX12_write_44 : decode cX12_write 44 = .ok (.putfield 235, 3) := by decide +kernel
theorem dX12_write_47 : decode cX12_write 47 = .ok (.aload_n 0, 1) := by decide +kernel
theorem dX12_write_48 : decode cX12_write 48 = .ok (.getfield 235, 3) := by decide +kernel
theorem dX12_write_51 : decode cX12_write 51 = .ok (.ireturn, 1) := by decide +kernel
theorem dX12_wipe_0 : decode cX12_wipe 0 = .ok (.aload_n 0, 1) := by decide +kernel
theorem dX12_wipe_1 : decode cX12_wipe 1 = .ok (.getfield 235, 3) := by decide +kernel
theorem dX12_wipe_4 : decode cX12_wipe 4 = .ok (.istore_n 1, 1) := by decide +kernel
theorem dX12_wipe_5 : decode cX12_wipe 5 = .ok (.aload_n 0, 1) := by decide +kernel
theorem dX12_wipe_6 : decode cX12_wipe 6 = .ok (.iconst 0, 1) := by decide +kernel
theorem dX12_wipe_7 : decode cX12_wipe 7 = .ok (.putfield 235, 3) := by decide +kernel
theorem dX12_wipe_10 : decode cX12_wipe 10 = .ok (.iload_n 1, 1) := by decide +kernel
theorem dX12_wipe_11 : decode cX12_wipe 11 = .ok (.ireturn, 1) := by decide +kernel
theorem dX12_operationWord_0 : decode cX12_operationWord 0 = .ok (.iload_n 0, 1) := by decide +kernel
theorem dX12_operationWord_1 : decode cX12_operationWord 1 = .ok (.tableswitch 83 0 8 #[51, 55, 59, 63, 63, 67, 71, 75, 79], 51) := by decide +kernel
theorem dX12_operationWord_52 : decode cX12_operationWord 52 = .ok (.getstatic 238, 3) := by decide +kernel
theorem dX12_operationWord_55 : decode cX12_operationWord 55 = .ok (.lreturn, 1) := by decide +kernel
theorem dX12_operationWord_56 : decode cX12_operationWord 56 = .ok (.getstatic 241, 3) := by decide +kernel
theorem dX12_operationWord_59 : decode cX12_operationWord 59 = .ok (.lreturn, 1) := by decide +kernel
theorem dX12_operationWord_60 : decode cX12_operationWord 60 = .ok (.getstatic 244, 3) := by decide +kernel
theorem dX12_operationWord_63 : decode cX12_operationWord 63 = .ok (.lreturn, 1) := by decide +kernel
theorem dX12_operationWord_64 : decode cX12_operationWord 64 = .ok (.getstatic 247, 3) := by decide +kernel
theorem dX12_operationWord_67 : decode cX12_operationWord 67 = .ok (.lreturn, 1) := by decide +kernel
theorem dX12_operationWord_68 : decode cX12_operationWord 68 = .ok (.getstatic 250, 3) := by decide +kernel
theorem dX12_operationWord_71 : decode cX12_operationWord 71 = .ok (.lreturn, 1) := by decide +kernel
theorem dX12_operationWord_72 : decode cX12_operationWord 72 = .ok (.getstatic 253, 3) := by decide +kernel
theorem dX12_operationWord_75 : decode cX12_operationWord 75 = .ok (.lreturn, 1) := by decide +kernel
theorem dX12_operationWord_76 : decode cX12_operationWord 76 = .ok (.getstatic 256, 3) := by decide +kernel
theorem dX12_operationWord_79 : decode cX12_operationWord 79 = .ok (.lreturn, 1) := by decide +kernel
theorem dX12_operationWord_80 : decode cX12_operationWord 80 = .ok (.getstatic 259, 3) := by decide +kernel
theorem dX12_operationWord_83 : decode cX12_operationWord 83 = .ok (.lreturn, 1) := by decide +kernel
theorem dX12_operationWord_84 : decode cX12_operationWord 84 = .ok (.getstatic 262, 3) := by decide +kernel
theorem dX12_operationWord_87 : decode cX12_operationWord 87 = .ok (.lreturn, 1) := by decide +kernel
theorem dX12_passes_0 : decode cX12_passes 0 = .ok (.aload_n 0, 1) := by decide +kernel
theorem dX12_passes_1 : decode cX12_passes 1 = .ok (.iconst 0, 1) := by decide +kernel
theorem dX12_passes_2 : decode cX12_passes 2 = .ok (.putfield 130, 3) := by decide +kernel
theorem dX12_passes_5 : decode cX12_passes 5 = .ok (.aload_n 0, 1) := by decide +kernel
theorem dX12_passes_6 : decode cX12_passes 6 = .ok (.iload_n 1, 1) := by decide +kernel
theorem dX12_passes_7 : decode cX12_passes 7 = .ok (.invokestatic 265, 3) := by decide +kernel
theorem dX12_passes_10 : decode cX12_passes 10 = .ok (.invokevirtual 158, 3) := by decide +kernel
theorem dX12_passes_13 : decode cX12_passes 13 = .ok (.iload_n 1, 1) := by decide +kernel
theorem dX12_passes_14 : decode cX12_passes 14 = .ok (.iconst 4, 1) := by decide +kernel
theorem dX12_passes_15 : decode cX12_passes 15 = .ok (.if_icmp .ne 21, 3) := by decide +kernel
theorem dX12_passes_18 : decode cX12_passes 18 = .ok (.aload_n 0, 1) := by decide +kernel
theorem dX12_passes_19 : decode cX12_passes 19 = .ok (.bipush 65, 2) := by decide +kernel
theorem dX12_passes_21 : decode cX12_passes 21 = .ok (.invokevirtual 136, 3) := by decide +kernel
theorem dX12_passes_24 : decode cX12_passes 24 = .ok (.aload_n 0, 1) := by decide +kernel
theorem dX12_passes_25 : decode cX12_passes 25 = .ok (.bipush 108, 2) := by decide +kernel
theorem dX12_passes_27 : decode cX12_passes 27 = .ok (.invokevirtual 136, 3) := by decide +kernel
theorem dX12_passes_30 : decode cX12_passes 30 = .ok (.aload_n 0, 1) := by decide +kernel
theorem dX12_passes_31 : decode cX12_passes 31 = .ok (.bipush 108, 2) := by decide +kernel
theorem dX12_passes_33 : decode cX12_passes 33 = .ok (.invokevirtual 136, 3) := by decide +kernel
theorem dX12_passes_36 : decode cX12_passes 36 = .ok (.iload_n 1, 1) := by decide +kernel
theorem dX12_passes_37 : decode cX12_passes 37 = .ok (.iconst 5, 1) := by decide +kernel
theorem dX12_passes_38 : decode cX12_passes 38 = .ok (.if_icmp .ne 9, 3) := by decide +kernel
theorem dX12_passes_41 : decode cX12_passes 41 = .ok (.aload_n 0, 1) := by decide +kernel
theorem dX12_passes_42 : decode cX12_passes 42 = .ok (.bipush 116, 2) := by decide +kernel
theorem dX12_passes_44 : decode cX12_passes 44 = .ok (.invokevirtual 136, 3) := by decide +kernel
theorem dX12_passes_47 : decode cX12_passes 47 = .ok (.aload_n 0, 1) := by decide +kernel
theorem dX12_passes_48 : decode cX12_passes 48 = .ok (.getfield 268, 3) := by decide +kernel
theorem dX12_passes_51 : decode cX12_passes 51 = .ok (.aload_n 0, 1) := by decide +kernel
theorem dX12_passes_52 : decode cX12_passes 52 = .ok (.getfield 130, 3) := by decide +kernel
theorem dX12_passes_55 : decode cX12_passes 55 = .ok (.iadd, 1) := by decide +kernel
theorem dX12_passes_56 : decode cX12_passes 56 = .ok (.aload_n 0, 1) := by decide +kernel
theorem dX12_passes_57 : decode cX12_passes 57 = .ok (.getfield 235, 3) := by decide +kernel
theorem dX12_passes_60 : decode cX12_passes 60 = .ok (.if_icmp .ge 26, 3) := by decide +kernel
theorem dX12_passes_63 : decode cX12_passes 63 = .ok (.aload_n 0, 1) := by decide +kernel
theorem dX12_passes_64 : decode cX12_passes 64 = .ok (.getfield 22, 3) := by decide +kernel
theorem dX12_passes_67 : decode cX12_passes 67 = .ok (.aload_n 0, 1) := by decide +kernel
theorem dX12_passes_68 : decode cX12_passes 68 = .ok (.getfield 268, 3) := by decide +kernel
theorem dX12_passes_71 : decode cX12_passes 71 = .ok (.aload_n 0, 1) := by decide +kernel
theorem dX12_passes_72 : decode cX12_passes 72 = .ok (.getfield 130, 3) := by decide +kernel
theorem dX12_passes_75 : decode cX12_passes 75 = .ok (.iadd, 1) := by decide +kernel
theorem dX12_passes_76 : decode cX12_passes 76 = .ok (.iaload, 1) := by decide +kernel
theorem dX12_passes_77 : decode cX12_passes 77 = .ok (.bipush 32, 2) := by decide +kernel
theorem dX12_passes_79 : decode cX12_passes 79 = .ok (.if_icmp .ne 7, 3) := by decide +kernel
theorem dX12_passes_82 : decode cX12_passes 82 = .ok (.iconst 1, 1) := by decide +kernel
theorem dX12_passes_83 : decode cX12_passes 83 = .ok (.goto 4, 3) := by decide +kernel
theorem dX12_passes_86 : decode cX12_passes 86 = .ok (.iconst 0, 1) := by decide +kernel
theorem dX12_passes_87 : decode cX12_passes 87 = .ok (.istore_n 2, 1) := by decide +kernel
theorem dX12_passes_88 : decode cX12_passes 88 = .ok (.iconst 0, 1) := by decide +kernel
theorem dX12_passes_89 : decode cX12_passes 89 = .ok (.istore_n 3, 1) := by decide +kernel
theorem dX12_passes_90 : decode cX12_passes 90 = .ok (.iload_n 3, 1) := by decide +kernel
theorem dX12_passes_91 : decode cX12_passes 91 = .ok (.aload_n 0, 1) := by decide +kernel
theorem dX12_passes_92 : decode cX12_passes 92 = .ok (.getfield 130, 3) := by decide +kernel
theorem dX12_passes_95 : decode cX12_passes 95 = .ok (.if_icmp .ge 39, 3) := by decide +kernel
theorem dX12_passes_98 : decode cX12_passes 98 = .ok (.iload_n 2, 1) := by decide +kernel
theorem dX12_passes_99 : decode cX12_passes 99 = .ok (.ifCond .eq 35, 3) := by decide +kernel
theorem dX12_passes_102 : decode cX12_passes 102 = .ok (.aload_n 0, 1) := by decide +kernel
theorem dX12_passes_103 : decode cX12_passes 103 = .ok (.getfield 22, 3) := by decide +kernel
theorem dX12_passes_106 : decode cX12_passes 106 = .ok (.aload_n 0, 1) := by decide +kernel
theorem dX12_passes_107 : decode cX12_passes 107 = .ok (.getfield 268, 3) := by decide +kernel
theorem dX12_passes_110 : decode cX12_passes 110 = .ok (.iload_n 3, 1) := by decide +kernel
theorem dX12_passes_111 : decode cX12_passes 111 = .ok (.iadd, 1) := by decide +kernel
theorem dX12_passes_112 : decode cX12_passes 112 = .ok (.iaload, 1) := by decide +kernel
theorem dX12_passes_113 : decode cX12_passes 113 = .ok (.aload_n 0, 1) := by decide +kernel
theorem dX12_passes_114 : decode cX12_passes 114 = .ok (.getfield 25, 3) := by decide +kernel
theorem dX12_passes_117 : decode cX12_passes 117 = .ok (.iload_n 3, 1) := by decide +kernel
theorem dX12_passes_118 : decode cX12_passes 118 = .ok (.iaload, 1) := by decide +kernel
theorem dX12_passes_119 : decode cX12_passes 119 = .ok (.if_icmp .ne 7, 3) := by decide +kernel
theorem dX12_passes_122 : decode cX12_passes 122 = .ok (.iconst 1, 1) := by decide +kernel
theorem dX12_passes_123 : decode cX12_passes 123 = .ok (.goto 4, 3) := by decide +kernel
theorem dX12_passes_126 : decode cX12_passes 126 = .ok (.iconst 0, 1) := by decide +kernel
theorem dX12_passes_127 : decode cX12_passes 127 = .ok (.istore_n 2, 1) := by decide +kernel
theorem dX12_passes_128 : decode cX12_passes 128 = .ok (.iinc 3 1, 3) := by decide +kernel
theorem dX12_passes_131 : decode cX12_passes 131 = .ok (.goto (-41), 3) := by decide +kernel
theorem dX12_passes_134 : decode cX12_passes 134 = .ok (.aload_n 0, 1) := by decide +kernel
theorem dX12_passes_135 : decode cX12_passes 135 = .ok (.dup, 1) := by decide +kernel
theorem dX12_passes_136 : decode cX12_passes 136 = .ok (.getfield 268, 3) := by decide +kernel
theorem dX12_passes_139 : decode cX12_passes 139 = .ok (.iload_n 2, 1) := by decide +kernel
theorem dX12_passes_140 : decode cX12_passes 140 = .ok (.ifCond .eq 10, 3) := by decide +kernel
theorem dX12_passes_143 : decode cX12_passes 143 = .ok (.aload_n 0, 1) := by decide +kernel
theorem dX12_passes_144 : decode cX12_passes 144 = .ok (.getfield 130, 3) := by decide +kernel
theorem dX12_passes_147 : decode cX12_passes 147 = .ok (.goto 4, 3) := by decide +kernel
theorem dX12_passes_150 : decode cX12_passes 150 = .ok (.iconst 0, 1) := by decide +kernel
theorem dX12_passes_151 : decode cX12_passes 151 = .ok (.iadd, 1) := by decide +kernel
theorem dX12_passes_152 : decode cX12_passes 152 = .ok (.putfield 268, 3) := by decide +kernel
theorem dX12_passes_155 : decode cX12_passes 155 = .ok (.iload_n 2, 1) := by decide +kernel
theorem dX12_passes_156 : decode cX12_passes 156 = .ok (.ireturn, 1) := by decide +kernel
theorem dX12_isDigit_0 : decode cX12_isDigit 0 = .ok (.iload_n 1, 1) := by decide +kernel
theorem dX12_isDigit_1 : decode cX12_isDigit 1 = .ok (.aload_n 0, 1) := by decide +kernel
theorem dX12_isDigit_2 : decode cX12_isDigit 2 = .ok (.getfield 235, 3) := by decide +kernel
theorem dX12_isDigit_5 : decode cX12_isDigit 5 = .ok (.if_icmp .ge 23, 3) := by decide +kernel
theorem dX12_isDigit_8 : decode cX12_isDigit 8 = .ok (.aload_n 0, 1) := by decide +kernel
theorem dX12_isDigit_9 : decode cX12_isDigit 9 = .ok (.getfield 22, 3) := by decide +kernel
theorem dX12_isDigit_12 : decode cX12_isDigit 12 = .ok (.iload_n 1, 1) := by decide +kernel
theorem dX12_isDigit_13 : decode cX12_isDigit 13 = .ok (.iaload, 1) := by decide +kernel
theorem dX12_isDigit_14 : decode cX12_isDigit 14 = .ok (.bipush 48, 2) := by decide +kernel
theorem dX12_isDigit_16 : decode cX12_isDigit 16 = .ok (.bipush 57, 2) := by decide +kernel
theorem dX12_isDigit_18 : decode cX12_isDigit 18 = .ok (.invokestatic 35, 3) := by decide +kernel
theorem dX12_isDigit_21 : decode cX12_isDigit 21 = .ok (.ifCond .eq 7, 3) := by decide +kernel
theorem dX12_isDigit_24 : decode cX12_isDigit 24 = .ok (.iconst 1, 1) := by decide +kernel
theorem dX12_isDigit_25 : decode cX12_isDigit 25 = .ok (.goto 4, 3) := by decide +kernel
theorem dX12_isDigit_28 : decode cX12_isDigit 28 = .ok (.iconst 0, 1) := by decide +kernel
theorem dX12_isDigit_29 : decode cX12_isDigit 29 = .ok (.ireturn, 1) := by decide +kernel
theorem dX12_argument_0 : decode cX12_argument 0 = .ok (.aload_n 0, 1) := by decide +kernel
theorem dX12_argument_1 : decode cX12_argument 1 = .ok (.getfield 268, 3) := by decide +kernel
theorem dX12_argument_4 : decode cX12_argument 4 = .ok (.aload_n 0, 1) := by decide +kernel
theorem dX12_argument_5 : decode cX12_argument 5 = .ok (.getfield 235, 3) := by decide +kernel
theorem dX12_argument_8 : decode cX12_argument 8 = .ok (.if_icmp .ge 30, 3) := by decide +kernel
theorem dX12_argument_11 : decode cX12_argument 11 = .ok (.aload_n 0, 1) := by decide +kernel
theorem dX12_argument_12 : decode cX12_argument 12 = .ok (.getfield 22, 3) := by decide +kernel
theorem dX12_argument_15 : decode cX12_argument 15 = .ok (.aload_n 0, 1) := by decide +kernel
theorem dX12_argument_16 : decode cX12_argument 16 = .ok (.getfield 268, 3) := by decide +kernel
theorem dX12_argument_19 : decode cX12_argument 19 = .ok (.iaload, 1) := by decide +kernel
theorem dX12_argument_20 : decode cX12_argument 20 = .ok (.bipush 32, 2) := by decide +kernel
theorem dX12_argument_22 : decode cX12_argument 22 = .ok (.if_icmp .ne 16, 3) := by decide +kernel
theorem dX12_argument_25 : decode cX12_argument 25 = .ok (.aload_n 0, 1) := by decide +kernel
theorem dX12_argument_26 : decode cX12_argument 26 = .ok (.aload_n 0, 1) := by decide +kernel
theorem dX12_argument_27 : decode cX12_argument 27 = .ok (.getfield 268, 3) := by decide +kernel
theorem dX12_argument_30 : decode cX12_argument 30 = .ok (.iconst 1, 1) := by decide +kernel
theorem dX12_argument_31 : decode cX12_argument 31 = .ok (.iadd, 1) := by decide +kernel
theorem dX12_argument_32 : decode cX12_argument 32 = .ok (.invokevirtual 271, 3) := by decide +kernel
theorem dX12_argument_35 : decode cX12_argument 35 = .ok (.ifCond .ne 5, 3) := by decide +kernel
theorem dX12_argument_38 : decode cX12_argument 38 = .ok (.iconst (-1), 1) := by decide +kernel
theorem dX12_argument_39 : decode cX12_argument 39 = .ok (.ireturn, 1) := by decide +kernel
theorem dX12_argument_40 : decode cX12_argument 40 = .ok (.aload_n 0, 1) := by decide +kernel
theorem dX12_argument_41 : decode cX12_argument 41 = .ok (.getfield 22, 3) := by decide +kernel
theorem dX12_argument_44 : decode cX12_argument 44 = .ok (.aload_n 0, 1) := by decide +kernel
theorem dX12_argument_45 : decode cX12_argument 45 = .ok (.getfield 268, 3) := by decide +kernel
theorem dX12_argument_48 : decode cX12_argument 48 = .ok (.iconst 1, 1) := by decide +kernel
theorem dX12_argument_49 : decode cX12_argument 49 = .ok (.iadd, 1) := by decide +kernel
theorem dX12_argument_50 : decode cX12_argument 50 = .ok (.iaload, 1) := by decide +kernel
theorem dX12_argument_51 : decode cX12_argument 51 = .ok (.bipush 48, 2) := by decide +kernel
theorem dX12_argument_53 : decode cX12_argument 53 = .ok (.isub, 1) := by decide +kernel
theorem dX12_argument_54 : decode cX12_argument 54 = .ok (.istore_n 2, 1) := by decide +kernel
theorem dX12_argument_55 : decode cX12_argument 55 = .ok (.aload_n 0, 1) := by decide +kernel
theorem dX12_argument_56 : decode cX12_argument 56 = .ok (.dup, 1) := by decide +kernel
theorem dX12_argument_57 : decode cX12_argument 57 = .ok (.getfield 268, 3) := by decide +kernel
theorem dX12_argument_60 : decode cX12_argument 60 = .ok (.iconst 2, 1) := by decide +kernel
theorem dX12_argument_61 : decode cX12_argument 61 = .ok (.iadd, 1) := by decide +kernel
theorem dX12_argument_62 : decode cX12_argument 62 = .ok (.putfield 268, 3) := by decide +kernel
theorem dX12_argument_65 : decode cX12_argument 65 = .ok (.iload_n 1, 1) := by decide +kernel
theorem dX12_argument_66 : decode cX12_argument 66 = .ok (.iconst 2, 1) := by decide +kernel
theorem dX12_argument_67 : decode cX12_argument 67 = .ok (.if_icmp .ne 46, 3) := by decide +kernel
theorem dX12_argument_70 : decode cX12_argument 70 = .ok (.iload_n 2, 1) := by decide +kernel
theorem dX12_argument_71 : decode cX12_argument 71 = .ok (.ifCond .le 42, 3) := by decide +kernel
theorem dX12_argument_74 : decode cX12_argument 74 = .ok (.aload_n 0, 1) := by decide +kernel
theorem dX12_argument_75 : decode cX12_argument 75 = .ok (.aload_n 0, 1) := by decide +kernel
theorem dX12_argument_76 : decode cX12_argument 76 = .ok (.getfield 268, 3) := by decide +kernel
theorem dX12_argument_79 : decode cX12_argument 79 = .ok (.invokevirtual 271, 3) := by decide +kernel
theorem dX12_argument_82 : decode cX12_argument 82 = .ok (.ifCond .eq 31, 3) := by decide +kernel
theorem dX12_argument_85 : decode cX12_argument 85 = .ok (.bipush 10, 2) := by decide +kernel
theorem dX12_argument_87 : decode cX12_argument 87 = .ok (.iload_n 2, 1) := by decide +kernel
theorem dX12_argument_88 : decode cX12_argument 88 = .ok (.imul, 1) := by decide +kernel
theorem dX12_argument_89 : decode cX12_argument 89 = .ok (.aload_n 0, 1) := by decide +kernel
theorem dX12_argument_90 : decode cX12_argument 90 = .ok (.getfield 22, 3) := by decide +kernel
theorem dX12_argument_93 : decode cX12_argument 93 = .ok (.aload_n 0, 1) := by decide +kernel
theorem dX12_argument_94 : decode cX12_argument 94 = .ok (.getfield 268, 3) := by decide +kernel
theorem dX12_argument_97 : decode cX12_argument 97 = .ok (.iaload, 1) := by decide +kernel
theorem dX12_argument_98 : decode cX12_argument 98 = .ok (.iadd, 1) := by decide +kernel
theorem dX12_argument_99 : decode cX12_argument 99 = .ok (.bipush 48, 2) := by decide +kernel
theorem dX12_argument_101 : decode cX12_argument 101 = .ok (.isub, 1) := by decide +kernel
theorem dX12_argument_102 : decode cX12_argument 102 = .ok (.istore_n 2, 1) := by decide +kernel
theorem dX12_argument_103 : decode cX12_argument 103 = .ok (.aload_n 0, 1) := by decide +kernel
theorem dX12_argument_104 : decode cX12_argument 104 = .ok (.dup, 1) := by decide +kernel
theorem dX12_argument_105 : decode cX12_argument 105 = .ok (.getfield 268, 3) := by decide +kernel
theorem dX12_argument_108 : decode cX12_argument 108 = .ok (.iconst 1, 1) := by decide +kernel
theorem dX12_argument_109 : decode cX12_argument 109 = .ok (.iadd, 1) := by decide +kernel
theorem dX12_argument_110 : decode cX12_argument 110 = .ok (.putfield 268, 3) := by decide +kernel
theorem dX12_argument_113 : decode cX12_argument 113 = .ok (.iload_n 1, 1) := by decide +kernel
theorem dX12_argument_114 : decode cX12_argument 114 = .ok (.ifCond .ne 8, 3) := by decide +kernel
theorem dX12_argument_117 : decode cX12_argument 117 = .ok (.iload_n 2, 1) := by decide +kernel
theorem dX12_argument_118 : decode cX12_argument 118 = .ok (.iconst 5, 1) := by decide +kernel
theorem dX12_argument_119 : decode cX12_argument 119 = .ok (.if_icmp .gt 14, 3) := by decide +kernel
theorem dX12_argument_122 : decode cX12_argument 122 = .ok (.iload_n 1, 1) := by decide +kernel
theorem dX12_argument_123 : decode cX12_argument 123 = .ok (.iconst 1, 1) := by decide +kernel
theorem dX12_argument_124 : decode cX12_argument 124 = .ok (.if_icmp .ne 13, 3) := by decide +kernel
theorem dX12_argument_127 : decode cX12_argument 127 = .ok (.iload_n 2, 1) := by decide +kernel
theorem dX12_argument_128 : decode cX12_argument 128 = .ok (.bipush 7, 2) := by decide +kernel
theorem dX12_argument_130 : decode cX12_argument 130 = .ok (.if_icmp .le 7, 3) := by decide +kernel
theorem dX12_argument_133 : decode cX12_argument 133 = .ok (.iconst (-1), 1) := by decide +kernel
theorem dX12_argument_134 : decode cX12_argument 134 = .ok (.goto 4, 3) := by decide +kernel
theorem dX12_argument_137 : decode cX12_argument 137 = .ok (.iload_n 2, 1) := by decide +kernel
theorem dX12_argument_138 : decode cX12_argument 138 = .ok (.ireturn, 1) := by decide +kernel
theorem dX12_sortOf_0 : decode cX12_sortOf 0 = .ok (.iload_n 1, 1) := by decide +kernel
theorem dX12_sortOf_1 : decode cX12_sortOf 1 = .ok (.ifCond .ne 25, 3) := by decide +kernel
theorem dX12_sortOf_4 : decode cX12_sortOf 4 = .ok (.iload_n 0, 1) := by decide +kernel
theorem dX12_sortOf_5 : decode cX12_sortOf 5 = .ok (.bipush 8, 2) := by decide +kernel
theorem dX12_sortOf_7 : decode cX12_sortOf 7 = .ok (.if_icmp .ne 7, 3) := by decide +kernel
theorem dX12_sortOf_10 : decode cX12_sortOf 10 = .ok (.iconst 1, 1) := by decide +kernel
theorem dX12_sortOf_11 : decode cX12_sortOf 11 = .ok (.goto 14, 3) := by decide +kernel
theorem dX12_sortOf_14 : decode cX12_sortOf 14 = .ok (.iload_n 0, 1) := by decide +kernel
theorem dX12_sortOf_15 : decode cX12_sortOf 15 = .ok (.bipush 9, 2) := by decide +kernel
theorem dX12_sortOf_17 : decode cX12_sortOf 17 = .ok (.if_icmp .ne 7, 3) := by decide +kernel
theorem dX12_sortOf_20 : decode cX12_sortOf 20 = .ok (.iconst 2, 1) := by decide +kernel
theorem dX12_sortOf_21 : decode cX12_sortOf 21 = .ok (.goto 4, 3) := by decide +kernel
theorem dX12_sortOf_24 : decode cX12_sortOf 24 = .ok (.iconst 0, 1) := by decide +kernel
theorem dX12_sortOf_25 : decode cX12_sortOf 25 = .ok (.ireturn, 1) := by decide +kernel
theorem dX12_sortOf_26 : decode cX12_sortOf 26 = .ok (.iload_n 1, 1) := by decide +kernel
theorem dX12_sortOf_27 : decode cX12_sortOf 27 = .ok (.iconst 1, 1) := by decide +kernel
theorem dX12_sortOf_28 : decode cX12_sortOf 28 = .ok (.if_icmp .ne 14, 3) := by decide +kernel
theorem dX12_sortOf_31 : decode cX12_sortOf 31 = .ok (.iload_n 0, 1) := by decide +kernel
theorem dX12_sortOf_32 : decode cX12_sortOf 32 = .ok (.iconst 4, 1) := by decide +kernel
theorem dX12_sortOf_33 : decode cX12_sortOf 33 = .ok (.if_icmp .gt 7, 3) := by decide +kernel
theorem dX12_sortOf_36 : decode cX12_sortOf 36 = .ok (.iconst 1, 1) := by decide +kernel
theorem dX12_sortOf_37 : decode cX12_sortOf 37 = .ok (.goto 4, 3) := by decide +kernel
theorem dX12_sortOf_40 : decode cX12_sortOf 40 = .ok (.iconst (-1), 1) := by decide +kernel
theorem dX12_sortOf_41 : decode cX12_sortOf 41 = .ok (.ireturn, 1) := by decide +kernel
theorem dX12_sortOf_42 : decode cX12_sortOf 42 = .ok (.iload_n 0, 1) := by decide +kernel
theorem dX12_sortOf_43 : decode cX12_sortOf 43 = .ok (.iconst 2, 1) := by decide +kernel
theorem dX12_sortOf_44 : decode cX12_sortOf 44 = .ok (.if_icmp .ne 7, 3) := by decide +kernel
theorem dX12_sortOf_47 : decode cX12_sortOf 47 = .ok (.iconst 2, 1) := by decide +kernel
theorem dX12_sortOf_48 : decode cX12_sortOf 48 = .ok (.goto 4, 3) := by decide +kernel
theorem dX12_sortOf_51 : decode cX12_sortOf 51 = .ok (.iconst (-1), 1) := by decide +kernel
theorem dX12_sortOf_52 : decode cX12_sortOf 52 = .ok (.ireturn, 1) := by decide +kernel
theorem dX12_readsItem_0 : decode cX12_readsItem 0 = .ok (.iconst (-1), 1) := by decide +kernel
theorem dX12_readsItem_1 : decode cX12_readsItem 1 = .ok (.istore_n 1, 1) := by decide +kernel
theorem dX12_readsItem_2 : decode cX12_readsItem 2 = .ok (.iconst 0, 1) := by decide +kernel
theorem dX12_readsItem_3 : decode cX12_readsItem 3 = .ok (.istore_n 2, 1) := by decide +kernel
theorem dX12_readsItem_4 : decode cX12_readsItem 4 = .ok (.iload_n 2, 1) := by decide +kernel
theorem dX12_readsItem_5 : decode cX12_readsItem 5 = .ok (.bipush 9, 2) := by decide +kernel
theorem dX12_readsItem_7 : decode cX12_readsItem 7 = .ok (.if_icmp .gt 27, 3) := by decide +kernel
theorem dX12_readsItem_10 : decode cX12_readsItem 10 = .ok (.iload_n 1, 1) := by decide +kernel
theorem dX12_readsItem_11 : decode cX12_readsItem 11 = .ok (.ifCond .ge 23, 3) := by decide +kernel
theorem dX12_readsItem_14 : decode cX12_readsItem 14 = .ok (.aload_n 0, 1) := by decide +kernel
theorem dX12_readsItem_15 : decode cX12_readsItem 15 = .ok (.iload_n 2, 1) := by decide +kernel
theorem dX12_readsItem_16 : decode cX12_readsItem 16 = .ok (.invokevirtual 274, 3) := by decide +kernel
theorem dX12_readsItem_19 : decode cX12_readsItem 19 = .ok (.ifCond .eq 7, 3) := by decide +kernel
theorem dX12_readsItem_22 : decode cX12_readsItem 22 = .ok (.iload_n 2, 1) := by decide +kernel
theorem dX12_readsItem_23 : decode cX12_readsItem 23 = .ok (.goto 4, 3) := by decide +kernel
theorem dX12_readsItem_26 : decode cX12_readsItem 26 = .ok (.iconst (-1), 1) := by decide +kernel
theorem dX12_readsItem_27 : decode cX12_readsItem 27 = .ok (.istore_n 1, 1) := by decide +kernel
theorem dX12_readsItem_28 : decode cX12_readsItem 28 = .ok (.iinc 2 1, 3) := by decide +kernel
theorem dX12_readsItem_31 : decode cX12_readsItem 31 = .ok (.goto (-27), 3) := by decide +kernel
theorem dX12_readsItem_34 : decode cX12_readsItem 34 = .ok (.iload_n 1, 1) := by decide +kernel
theorem dX12_readsItem_35 : decode cX12_readsItem 35 = .ok (.ifCond .ge 5, 3) := by decide +kernel
theorem dX12_readsItem_38 : decode cX12_readsItem 38 = .ok (.iconst 0, 1) := by decide +kernel
theorem dX12_readsItem_39 : decode cX12_readsItem 39 = .ok (.ireturn, 1) := by decide +kernel
theorem dX12_readsItem_40 : decode cX12_readsItem 40 = .ok (.aload_n 0, 1) := by decide +kernel
theorem dX12_readsItem_41 : decode cX12_readsItem 41 = .ok (.getfield 28, 3) := by decide +kernel
theorem dX12_readsItem_44 : decode cX12_readsItem 44 = .ok (.iconst 4, 1) := by decide +kernel
theorem dX12_readsItem_45 : decode cX12_readsItem 45 = .ok (.aload_n 0, 1) := by decide +kernel
theorem dX12_readsItem_46 : decode cX12_readsItem 46 = .ok (.getfield 277, 3) := by decide +kernel
theorem dX12_readsItem_49 : decode cX12_readsItem 49 = .ok (.imul, 1) := by decide +kernel
theorem dX12_readsItem_50 : decode cX12_readsItem 50 = .ok (.iload_n 1, 1) := by decide +kernel
theorem dX12_readsItem_51 : decode cX12_readsItem 51 = .ok (.iastore, 1) := by decide +kernel
theorem dX12_readsItem_52 : decode cX12_readsItem 52 = .ok (.iconst 0, 1) := by decide +kernel
theorem dX12_readsItem_53 : decode cX12_readsItem 53 = .ok (.istore_n 2, 1) := by decide +kernel
theorem dX12_readsItem_54 : decode cX12_readsItem 54 = .ok (.iload_n 2, 1) := by decide +kernel
theorem dX12_readsItem_55 : decode cX12_readsItem 55 = .ok (.iconst 3, 1) := by decide +kernel
theorem dX12_readsItem_56 : decode cX12_readsItem 56 = .ok (.if_icmp .ge 54, 3) := by decide +kernel
theorem dX12_readsItem_59 : decode cX12_readsItem 59 = .ok (.iload_n 1, 1) := by decide +kernel
theorem dX12_readsItem_60 : decode cX12_readsItem 60 = .ok (.iload_n 2, 1) := by decide +kernel
theorem dX12_readsItem_61 : decode cX12_readsItem 61 = .ok (.invokestatic 280, 3) := by decide +kernel
theorem dX12_readsItem_64 : decode cX12_readsItem 64 = .ok (.istore_n 3, 1) := by decide +kernel
theorem dX12_readsItem_65 : decode cX12_readsItem 65 = .ok (.iload_n 3, 1) := by decide +kernel
theorem dX12_readsItem_66 : decode cX12_readsItem 66 = .ok (.ifCond .ge 7, 3) := by decide +kernel
theorem dX12_readsItem_69 : decode cX12_readsItem 69 = .ok (.iconst 0, 1) := by decide +kernel
theorem dX12_readsItem_70 : decode cX12_readsItem 70 = .ok (.goto 8, 3) := by decide +kernel
theorem dX12_readsItem_73 : decode cX12_readsItem 73 = .ok (.aload_n 0, 1) := by decide +kernel
theorem dX12_readsItem_74 : decode cX12_readsItem 74 = .ok (.iload_n 3, 1) := by decide +kernel
theorem dX12_readsItem_75 : decode cX12_readsItem 75 = .ok (.invokevirtual 283, 3) := by decide +kernel
theorem dX12_readsItem_78 : decode cX12_readsItem 78 = .ok (.istore 4, 2) := by decide +kernel
theorem dX12_readsItem_80 : decode cX12_readsItem 80 = .ok (.iload 4, 2) := by decide +kernel
theorem dX12_readsItem_82 : decode cX12_readsItem 82 = .ok (.ifCond .ge 5, 3) := by decide +kernel
theorem dX12_readsItem_85 : decode cX12_readsItem 85 = .ok (.iconst 0, 1) := by decide +kernel
theorem dX12_readsItem_86 : decode cX12_readsItem 86 = .ok (.ireturn, 1) := by decide +kernel
theorem dX12_readsItem_87 : decode cX12_readsItem 87 = .ok (.aload_n 0, 1) := by decide +kernel
theorem dX12_readsItem_88 : decode cX12_readsItem 88 = .ok (.getfield 28, 3) := by decide +kernel
theorem dX12_readsItem_91 : decode cX12_readsItem 91 = .ok (.iconst 4, 1) := by decide +kernel
theorem dX12_readsItem_92 : decode cX12_readsItem 92 = .ok (.aload_n 0, 1) := by decide +kernel
theorem dX12_readsItem_93 : decode cX12_readsItem 93 = .ok (.getfield 277, 3) := by decide +kernel
theorem dX12_readsItem_96 : decode cX12_readsItem 96 = .ok (.imul, 1) := by decide +kernel
theorem dX12_readsItem_97 : decode cX12_readsItem 97 = .ok (.iconst 1, 1) := by decide +kernel
theorem dX12_readsItem_98 : decode cX12_readsItem 98 = .ok (.iadd, 1) := by decide +kernel
theorem dX12_readsItem_99 : decode cX12_readsItem 99 = .ok (.iload_n 2, 1) := by decide +kernel
theorem dX12_readsItem_100 : decode cX12_readsItem 100 = .ok (.iadd, 1) := by decide +kernel
theorem dX12_readsItem_101 : decode cX12_readsItem 101 = .ok (.iload 4, 2) := by decide +kernel
theorem dX12_readsItem_103 : decode cX12_readsItem 103 = .ok (.iastore, 1) := by decide +kernel
theorem dX12_readsItem_104 : decode cX12_readsItem 104 = .ok (.iinc 2 1, 3) := by decide +kernel
theorem dX12_readsItem_107 : decode cX12_readsItem 107 = .ok (.goto (-53), 3) := by decide +kernel
theorem dX12_readsItem_110 : decode cX12_readsItem 110 = .ok (.aload_n 0, 1) := by decide +kernel
theorem dX12_readsItem_111 : decode cX12_readsItem 111 = .ok (.getfield 268, 3) := by decide +kernel
theorem dX12_readsItem_114 : decode cX12_readsItem 114 = .ok (.aload_n 0, 1) := by decide +kernel
theorem dX12_readsItem_115 : decode cX12_readsItem 115 = .ok (.getfield 235, 3) := by decide +kernel
theorem dX12_readsItem_118 : decode cX12_readsItem 118 = .ok (.if_icmp .ge 21, 3) := by decide +kernel
theorem dX12_readsItem_121 : decode cX12_readsItem 121 = .ok (.aload_n 0, 1) := by decide +kernel
theorem dX12_readsItem_122 : decode cX12_readsItem 122 = .ok (.getfield 22, 3) := by decide +kernel
theorem dX12_readsItem_125 : decode cX12_readsItem 125 = .ok (.aload_n 0, 1) := by decide +kernel
theorem dX12_readsItem_126 : decode cX12_readsItem 126 = .ok (.getfield 268, 3) := by decide +kernel
theorem dX12_readsItem_129 : decode cX12_readsItem 129 = .ok (.iaload, 1) := by decide +kernel
theorem dX12_readsItem_130 : decode cX12_readsItem 130 = .ok (.bipush 59, 2) := by decide +kernel
theorem dX12_readsItem_132 : decode cX12_readsItem 132 = .ok (.if_icmp .ne 7, 3) := by decide +kernel
theorem dX12_readsItem_135 : decode cX12_readsItem 135 = .ok (.iconst 1, 1) := by decide +kernel
theorem dX12_readsItem_136 : decode cX12_readsItem 136 = .ok (.goto 4, 3) := by decide +kernel
theorem dX12_readsItem_139 : decode cX12_readsItem 139 = .ok (.iconst 0, 1) := by decide +kernel
theorem dX12_readsItem_140 : decode cX12_readsItem 140 = .ok (.istore_n 2, 1) := by decide +kernel
theorem dX12_readsItem_141 : decode cX12_readsItem 141 = .ok (.aload_n 0, 1) := by decide +kernel
theorem dX12_readsItem_142 : decode cX12_readsItem 142 = .ok (.dup, 1) := by decide +kernel
theorem dX12_readsItem_143 : decode cX12_readsItem 143 = .ok (.getfield 268, 3) := by decide +kernel
theorem dX12_readsItem_146 : decode cX12_readsItem 146 = .ok (.iload_n 2, 1) := by decide +kernel
theorem dX12_readsItem_147 : decode cX12_readsItem 147 = .ok (.ifCond .eq 7, 3) := by decide +kernel
theorem dX12_readsItem_150 : decode cX12_readsItem 150 = .ok (.iconst 1, 1) := by decide +kernel
theorem dX12_readsItem_151 : decode cX12_readsItem 151 = .ok (.goto 4, 3) := by decide +kernel
theorem dX12_readsItem_154 : decode cX12_readsItem 154 = .ok (.iconst 0, 1) := by decide +kernel
theorem dX12_readsItem_155 : decode cX12_readsItem 155 = .ok (.iadd, 1) := by decide +kernel
theorem dX12_readsItem_156 : decode cX12_readsItem 156 = .ok (.putfield 268, 3) := by decide +kernel
theorem dX12_readsItem_159 : decode cX12_readsItem 159 = .ok (.aload_n 0, 1) := by decide +kernel
theorem dX12_readsItem_160 : decode cX12_readsItem 160 = .ok (.dup, 1) := by decide +kernel
theorem dX12_readsItem_161 : decode cX12_readsItem 161 = .ok (.getfield 277, 3) := by decide +kernel
theorem dX12_readsItem_164 : decode cX12_readsItem 164 = .ok (.iload_n 2, 1) := by decide +kernel
theorem dX12_readsItem_165 : decode cX12_readsItem 165 = .ok (.ifCond .eq 7, 3) := by decide +kernel
theorem dX12_readsItem_168 : decode cX12_readsItem 168 = .ok (.iconst 1, 1) := by decide +kernel
theorem dX12_readsItem_169 : decode cX12_readsItem 169 = .ok (.goto 4, 3) := by decide +kernel
theorem dX12_readsItem_172 : decode cX12_readsItem 172 = .ok (.iconst 0, 1) := by decide +kernel
theorem dX12_readsItem_173 : decode cX12_readsItem 173 = .ok (.iadd, 1) := by decide +kernel
theorem dX12_readsItem_174 : decode cX12_readsItem 174 = .ok (.putfield 277, 3) := by decide +kernel
theorem dX12_readsItem_177 : decode cX12_readsItem 177 = .ok (.iload_n 2, 1) := by decide +kernel
theorem dX12_readsItem_178 : decode cX12_readsItem 178 = .ok (.ireturn, 1) := by decide +kernel
theorem dX12_fault_0 : decode cX12_fault 0 = .ok (.aload_n 0, 1) := by decide +kernel
theorem dX12_fault_1 : decode cX12_fault 1 = .ok (.iconst 0, 1) := by decide +kernel
theorem dX12_fault_2 : decode cX12_fault 2 = .ok (.putfield 268, 3) := by decide +kernel
theorem dX12_fault_5 : decode cX12_fault 5 = .ok (.aload_n 0, 1) := by decide +kernel
theorem dX12_fault_6 : decode cX12_fault 6 = .ok (.iconst 0, 1) := by decide +kernel
theorem dX12_fault_7 : decode cX12_fault 7 = .ok (.putfield 277, 3) := by decide +kernel
theorem dX12_fault_10 : decode cX12_fault 10 = .ok (.aload_n 0, 1) := by decide +kernel
theorem dX12_fault_11 : decode cX12_fault 11 = .ok (.getfield 268, 3) := by decide +kernel
theorem dX12_fault_14 : decode cX12_fault 14 = .ok (.aload_n 0, 1) := by decide +kernel
theorem dX12_fault_15 : decode cX12_fault 15 = .ok (.getfield 235, 3) := by decide +kernel
theorem dX12_fault_18 : decode cX12_fault 18 = .ok (.if_icmp .ge 15, 3) := by decide +kernel
theorem dX12_fault_21 : decode cX12_fault 21 = .ok (.aload_n 0, 1) := by decide +kernel
theorem dX12_fault_22 : decode cX12_fault 22 = .ok (.invokevirtual 286, 3) := by decide +kernel
theorem dX12_fault_25 : decode cX12_fault 25 = .ok (.ifCond .ne (-15), 3) := by decide +kernel
theorem dX12_fault_28 : decode cX12_fault 28 = .ok (.aload_n 0, 1) := by decide +kernel
theorem dX12_fault_29 : decode cX12_fault 29 = .ok (.getfield 277, 3) := by decide +kernel
theorem dX12_fault_32 : decode cX12_fault 32 = .ok (.ireturn, 1) := by decide +kernel
theorem dX12_fault_33 : decode cX12_fault 33 = .ok (.bipush (-8), 2) := by decide +kernel
theorem dX12_fault_35 : decode cX12_fault 35 = .ok (.ireturn, 1) := by decide +kernel
theorem dX12_run_0 : decode cX12_run 0 = .ok (.aload_n 0, 1) := by decide +kernel
theorem dX12_run_1 : decode cX12_run 1 = .ok (.invokevirtual 290, 3) := by decide +kernel
theorem dX12_run_4 : decode cX12_run 4 = .ok (.bipush (-8), 2) := by decide +kernel
theorem dX12_run_6 : decode cX12_run 6 = .ok (.if_icmp .eq 6, 3) := by decide +kernel
theorem dX12_run_9 : decode cX12_run 9 = .ok (.bipush (-7), 2) := by decide +kernel
theorem dX12_run_11 : decode cX12_run 11 = .ok (.ireturn, 1) := by decide +kernel
theorem dX12_run_12 : decode cX12_run 12 = .ok (.iconst 0, 1) := by decide +kernel
theorem dX12_run_13 : decode cX12_run 13 = .ok (.istore_n 1, 1) := by decide +kernel
theorem dX12_run_14 : decode cX12_run 14 = .ok (.iconst 0, 1) := by decide +kernel
theorem dX12_run_15 : decode cX12_run 15 = .ok (.istore_n 2, 1) := by decide +kernel
theorem dX12_run_16 : decode cX12_run 16 = .ok (.iload_n 2, 1) := by decide +kernel
theorem dX12_run_17 : decode cX12_run 17 = .ok (.aload_n 0, 1) := by decide +kernel
theorem dX12_run_18 : decode cX12_run 18 = .ok (.getfield 277, 3) := by decide +kernel
theorem dX12_run_21 : decode cX12_run 21 = .ok (.if_icmp .ge 70, 3) := by decide +kernel
theorem dX12_run_24 : decode cX12_run 24 = .ok (.aload_n 0, 1) := by decide +kernel
theorem dX12_run_25 : decode cX12_run 25 = .ok (.aload_n 0, 1) := by decide +kernel
theorem dX12_run_26 : decode cX12_run 26 = .ok (.getfield 28, 3) := by decide +kernel
theorem dX12_run_29 : decode cX12_run 29 = .ok (.iconst 4, 1) := by decide +kernel
theorem dX12_run_30 : decode cX12_run 30 = .ok (.iload_n 2, 1) := by decide +kernel
theorem dX12_run_31 : decode cX12_run 31 = .ok (.imul, 1) := by decide +kernel
theorem dX12_run_32 : decode cX12_run 32 = .ok (.iaload, 1) := by decide +kernel
theorem dX12_run_33 : decode cX12_run 33 = .ok (.aload_n 0, 1) := by decide +kernel
theorem dX12_run_34 : decode cX12_run 34 = .ok (.getfield 28, 3) := by decide +kernel
theorem dX12_run_37 : decode cX12_run 37 = .ok (.iconst 4, 1) := by decide +kernel
theorem dX12_run_38 : decode cX12_run 38 = .ok (.iload_n 2, 1) := by decide +kernel
theorem dX12_run_39 : decode cX12_run 39 = .ok (.imul, 1) := by decide +kernel
theorem dX12_run_40 : decode cX12_run 40 = .ok (.iconst 1, 1) := by decide +kernel
theorem dX12_run_41 : decode cX12_run 41 = .ok (.iadd, 1) := by decide +kernel
theorem dX12_run_42 : decode cX12_run 42 = .ok (.iaload, 1) := by decide +kernel
theorem dX12_run_43 : decode cX12_run 43 = .ok (.aload_n 0, 1) := by decide +kernel
theorem dX12_run_44 : decode cX12_run 44 = .ok (.getfield 28, 3) := by decide +kernel
theorem dX12_run_47 : decode cX12_run 47 = .ok (.iconst 4, 1) := by decide +kernel
theorem dX12_run_48 : decode cX12_run 48 = .ok (.iload_n 2, 1) := by decide +kernel
theorem dX12_run_49 : decode cX12_run 49 = .ok (.imul, 1) := by decide +kernel
theorem dX12_run_50 : decode cX12_run 50 = .ok (.iconst 2, 1) := by decide +kernel
theorem dX12_run_51 : decode cX12_run 51 = .ok (.iadd, 1) := by decide +kernel
theorem dX12_run_52 : decode cX12_run 52 = .ok (.iaload, 1) := by decide +kernel
theorem dX12_run_53 : decode cX12_run 53 = .ok (.aload_n 0, 1) := by decide +kernel
theorem dX12_run_54 : decode cX12_run 54 = .ok (.getfield 28, 3) := by decide +kernel
theorem dX12_run_57 : decode cX12_run 57 = .ok (.iconst 4, 1) := by decide +kernel
theorem dX12_run_58 : decode cX12_run 58 = .ok (.iload_n 2, 1) := by decide +kernel
theorem dX12_run_59 : decode cX12_run 59 = .ok (.imul, 1) := by decide +kernel
theorem dX12_run_60 : decode cX12_run 60 = .ok (.iconst 3, 1) := by decide +kernel
theorem dX12_run_61 : decode cX12_run 61 = .ok (.iadd, 1) := by decide +kernel
theorem dX12_run_62 : decode cX12_run 62 = .ok (.iaload, 1) := by decide +kernel
theorem dX12_run_63 : decode cX12_run 63 = .ok (.invokevirtual 225, 3) := by decide +kernel
theorem dX12_run_66 : decode cX12_run 66 = .ok (.istore_n 3, 1) := by decide +kernel
theorem dX12_run_67 : decode cX12_run 67 = .ok (.iload_n 1, 1) := by decide +kernel
theorem dX12_run_68 : decode cX12_run 68 = .ok (.iload_n 3, 1) := by decide +kernel
theorem dX12_run_69 : decode cX12_run 69 = .ok (.bipush (-7), 2) := by decide +kernel
theorem dX12_run_71 : decode cX12_run 71 = .ok (.iconst (-1), 1) := by decide +kernel
theorem dX12_run_72 : decode cX12_run 72 = .ok (.invokestatic 35, 3) := by decide +kernel
theorem dX12_run_75 : decode cX12_run 75 = .ok (.ifCond .eq 7, 3) := by decide +kernel
theorem dX12_run_78 : decode cX12_run 78 = .ok (.iconst 1, 1) := by decide +kernel
theorem dX12_run_79 : decode cX12_run 79 = .ok (.goto 4, 3) := by decide +kernel
theorem dX12_run_82 : decode cX12_run 82 = .ok (.iconst 0, 1) := by decide +kernel
theorem dX12_run_83 : decode cX12_run 83 = .ok (.iadd, 1) := by decide +kernel
theorem dX12_run_84 : decode cX12_run 84 = .ok (.istore_n 1, 1) := by decide +kernel
theorem dX12_run_85 : decode cX12_run 85 = .ok (.iinc 2 1, 3) := by decide +kernel
theorem dX12_run_88 : decode cX12_run 88 = .ok (.goto (-72), 3) := by decide +kernel
theorem dX12_run_91 : decode cX12_run 91 = .ok (.iload_n 1, 1) := by decide +kernel
theorem dX12_run_92 : decode cX12_run 92 = .ok (.ireturn, 1) := by decide +kernel
theorem dX12_save_0 : decode cX12_save 0 = .ok (.iload_n 1, 1) := by decide +kernel
theorem dX12_save_1 : decode cX12_save 1 = .ok (.iconst 0, 1) := by decide +kernel
theorem dX12_save_2 : decode cX12_save 2 = .ok (.iconst 1, 1) := by decide +kernel
theorem dX12_save_3 : decode cX12_save 3 = .ok (.invokestatic 35, 3) := by decide +kernel
theorem dX12_save_6 : decode cX12_save 6 = .ok (.ifCond .ne 6, 3) := by decide +kernel
theorem dX12_save_9 : decode cX12_save 9 = .ok (.bipush (-3), 2) := by decide +kernel
theorem dX12_save_11 : decode cX12_save 11 = .ok (.ireturn, 1) := by decide +kernel
theorem dX12_save_12 : decode cX12_save 12 = .ok (.iconst 0, 1) := by decide +kernel
theorem dX12_save_13 : decode cX12_save 13 = .ok (.istore_n 2, 1) := by decide +kernel
theorem dX12_save_14 : decode cX12_save 14 = .ok (.iload_n 2, 1) := by decide +kernel
theorem dX12_save_15 : decode cX12_save 15 = .ok (.sipush 482, 3) := by decide +kernel
theorem dX12_save_18 : decode cX12_save 18 = .ok (.if_icmp .ge 27, 3) := by decide +kernel
theorem dX12_save_21 : decode cX12_save 21 = .ok (.aload_n 0, 1) := by decide +kernel
theorem dX12_save_22 : decode cX12_save 22 = .ok (.getfield 19, 3) := by decide +kernel
theorem dX12_save_25 : decode cX12_save 25 = .ok (.sipush 482, 3) := by decide +kernel
theorem dX12_save_28 : decode cX12_save 28 = .ok (.iload_n 1, 1) := by decide +kernel
theorem dX12_save_29 : decode cX12_save 29 = .ok (.imul, 1) := by decide +kernel
theorem dX12_save_30 : decode cX12_save 30 = .ok (.iload_n 2, 1) := by decide +kernel
theorem dX12_save_31 : decode cX12_save 31 = .ok (.iadd, 1) := by decide +kernel
theorem dX12_save_32 : decode cX12_save 32 = .ok (.aload_n 0, 1) := by decide +kernel
theorem dX12_save_33 : decode cX12_save 33 = .ok (.getfield 7, 3) := by decide +kernel
theorem dX12_save_36 : decode cX12_save 36 = .ok (.iload_n 2, 1) := by decide +kernel
theorem dX12_save_37 : decode cX12_save 37 = .ok (.iaload, 1) := by decide +kernel
theorem dX12_save_38 : decode cX12_save 38 = .ok (.iastore, 1) := by decide +kernel
theorem dX12_save_39 : decode cX12_save 39 = .ok (.iinc 2 1, 3) := by decide +kernel
theorem dX12_save_42 : decode cX12_save 42 = .ok (.goto (-28), 3) := by decide +kernel
theorem dX12_save_45 : decode cX12_save 45 = .ok (.aload_n 0, 1) := by decide +kernel
theorem dX12_save_46 : decode cX12_save 46 = .ok (.dup, 1) := by decide +kernel
theorem dX12_save_47 : decode cX12_save 47 = .ok (.getfield 293, 3) := by decide +kernel
theorem dX12_save_50 : decode cX12_save 50 = .ok (.iconst 1, 1) := by decide +kernel
theorem dX12_save_51 : decode cX12_save 51 = .ok (.iload_n 1, 1) := by decide +kernel
theorem dX12_save_52 : decode cX12_save 52 = .ok (.ishl, 1) := by decide +kernel
theorem dX12_save_53 : decode cX12_save 53 = .ok (.ior, 1) := by decide +kernel
theorem dX12_save_54 : decode cX12_save 54 = .ok (.putfield 293, 3) := by decide +kernel
theorem dX12_save_57 : decode cX12_save 57 = .ok (.aload_n 0, 1) := by decide +kernel
theorem dX12_save_58 : decode cX12_save 58 = .ok (.getfield 7, 3) := by decide +kernel
theorem dX12_save_61 : decode cX12_save 61 = .ok (.bipush 9, 2) := by decide +kernel
theorem dX12_save_63 : decode cX12_save 63 = .ok (.iaload, 1) := by decide +kernel
theorem dX12_save_64 : decode cX12_save 64 = .ok (.ireturn, 1) := by decide +kernel
theorem dX12_restore_0 : decode cX12_restore 0 = .ok (.iload_n 1, 1) := by decide +kernel
theorem dX12_restore_1 : decode cX12_restore 1 = .ok (.iconst 0, 1) := by decide +kernel
theorem dX12_restore_2 : decode cX12_restore 2 = .ok (.iconst 1, 1) := by decide +kernel
theorem dX12_restore_3 : decode cX12_restore 3 = .ok (.invokestatic 35, 3) := by decide +kernel
theorem dX12_restore_6 : decode cX12_restore 6 = .ok (.ifCond .ne 6, 3) := by decide +kernel
theorem dX12_restore_9 : decode cX12_restore 9 = .ok (.bipush (-3), 2) := by decide +kernel
theorem dX12_restore_11 : decode cX12_restore 11 = .ok (.ireturn, 1) := by decide +kernel
theorem dX12_restore_12 : decode cX12_restore 12 = .ok (.aload_n 0, 1) := by decide +kernel
theorem dX12_restore_13 : decode cX12_restore 13 = .ok (.getfield 293, 3) := by decide +kernel
theorem dX12_restore_16 : decode cX12_restore 16 = .ok (.iload_n 1, 1) := by decide +kernel
theorem dX12_restore_17 : decode cX12_restore 17 = .ok (.ishr, 1) := by decide +kernel
theorem dX12_restore_18 : decode cX12_restore 18 = .ok (.iconst 1, 1) := by decide +kernel
theorem dX12_restore_19 : decode cX12_restore 19 = .ok (.iand, 1) := by decide +kernel
theorem dX12_restore_20 : decode cX12_restore 20 = .ok (.ifCond .ne 6, 3) := by decide +kernel
theorem dX12_restore_23 : decode cX12_restore 23 = .ok (.bipush (-7), 2) := by decide +kernel
theorem dX12_restore_25 : decode cX12_restore 25 = .ok (.ireturn, 1) := by decide +kernel
theorem dX12_restore_26 : decode cX12_restore 26 = .ok (.iconst 0, 1) := by decide +kernel
theorem dX12_restore_27 : decode cX12_restore 27 = .ok (.istore_n 2, 1) := by decide +kernel
theorem dX12_restore_28 : decode cX12_restore 28 = .ok (.iload_n 2, 1) := by decide +kernel
theorem dX12_restore_29 : decode cX12_restore 29 = .ok (.sipush 482, 3) := by decide +kernel
theorem dX12_restore_32 : decode cX12_restore 32 = .ok (.if_icmp .ge 27, 3) := by decide +kernel
theorem dX12_restore_35 : decode cX12_restore 35 = .ok (.aload_n 0, 1) := by decide +kernel
theorem dX12_restore_36 : decode cX12_restore 36 = .ok (.getfield 7, 3) := by decide +kernel
theorem dX12_restore_39 : decode cX12_restore 39 = .ok (.iload_n 2, 1) := by decide +kernel
theorem dX12_restore_40 : decode cX12_restore 40 = .ok (.aload_n 0, 1) := by decide +kernel
theorem dX12_restore_41 : decode cX12_restore 41 = .ok (.getfield 19, 3) := by decide +kernel
theorem dX12_restore_44 : decode cX12_restore 44 = .ok (.sipush 482, 3) := by decide +kernel
theorem dX12_restore_47 : decode cX12_restore 47 = .ok (.iload_n 1, 1) := by decide +kernel
theorem dX12_restore_48 : decode cX12_restore 48 = .ok (.imul, 1) := by decide +kernel
theorem dX12_restore_49 : decode cX12_restore 49 = .ok (.iload_n 2, 1) := by decide +kernel
theorem dX12_restore_50 : decode cX12_restore 50 = .ok (.iadd, 1) := by decide +kernel
theorem dX12_restore_51 : decode cX12_restore 51 = .ok (.iaload, 1) := by decide +kernel
theorem dX12_restore_52 : decode cX12_restore 52 = .ok (.iastore, 1) := by decide +kernel
theorem dX12_restore_53 : decode cX12_restore 53 = .ok (.iinc 2 1, 3) := by decide +kernel
theorem dX12_restore_56 : decode cX12_restore 56 = .ok (.goto (-28), 3) := by decide +kernel
theorem dX12_restore_59 : decode cX12_restore 59 = .ok (.aload_n 0, 1) := by decide +kernel
theorem dX12_restore_60 : decode cX12_restore 60 = .ok (.getfield 7, 3) := by decide +kernel
theorem dX12_restore_63 : decode cX12_restore 63 = .ok (.bipush 9, 2) := by decide +kernel
theorem dX12_restore_65 : decode cX12_restore 65 = .ok (.iaload, 1) := by decide +kernel
theorem dX12_restore_66 : decode cX12_restore 66 = .ok (.ireturn, 1) := by decide +kernel
