/-! DECODED instructions (own program gendec.py) -/
theorem D0_init_0 : decode m0_init.2.1 0 = .ok (.aload_n 0, 1) := by decide +kernel
theorem D0_init_1 : decode m0_init.2.1 1 = .ok (.invokespecial 3, 3) := by decide +kernel
theorem D0_init_4 : decode m0_init.2.1 4 = .ok (.aload_n 0, 1) := by decide +kernel
theorem D0_init_5 : decode m0_init.2.1 5 = .ok (.bipush 10, 2) := by decide +kernel
theorem D0_init_7 : decode m0_init.2.1 7 = .ok (.newarray .int, 2) := by decide +kernel
theorem D0_init_9 : decode m0_init.2.1 9 = .ok (.putfield 9, 3) := by decide +kernel
theorem D0_init_12 : decode m0_init.2.1 12 = .ok (.aload_n 0, 1) := by decide +kernel
theorem D0_init_13 : decode m0_init.2.1 13 = .ok (.bipush 10, 2) := by decide +kernel
theorem D0_init_15 : decode m0_init.2.1 15 = .ok (.newarray .int, 2) := by decide +kernel
theorem D0_init_17 : decode m0_init.2.1 17 = .ok (.putfield 15, 3) := by decide +kernel
theorem D0_init_20 : decode m0_init.2.1 20 = .ok (.aload_n 0, 1) := by decide +kernel
theorem D0_init_21 : decode m0_init.2.1 21 = .ok (.bipush 10, 2) := by decide +kernel
theorem D0_init_23 : decode m0_init.2.1 23 = .ok (.newarray .int, 2) := by decide +kernel
theorem D0_init_25 : decode m0_init.2.1 25 = .ok (.putfield 18, 3) := by decide +kernel
theorem D0_init_28 : decode m0_init.2.1 28 = .ok (.aload_n 0, 1) := by decide +kernel
theorem D0_init_29 : decode m0_init.2.1 29 = .ok (.bipush 10, 2) := by decide +kernel
theorem D0_init_31 : decode m0_init.2.1 31 = .ok (.newarray .int, 2) := by decide +kernel
theorem D0_init_33 : decode m0_init.2.1 33 = .ok (.putfield 21, 3) := by decide +kernel
theorem D0_init_36 : decode m0_init.2.1 36 = .ok (.aload_n 0, 1) := by decide +kernel
theorem D0_init_37 : decode m0_init.2.1 37 = .ok (.bipush 10, 2) := by decide +kernel
theorem D0_init_39 : decode m0_init.2.1 39 = .ok (.newarray .int, 2) := by decide +kernel
theorem D0_init_41 : decode m0_init.2.1 41 = .ok (.putfield 24, 3) := by decide +kernel
theorem D0_init_44 : decode m0_init.2.1 44 = .ok (.aload_n 0, 1) := by decide +kernel
theorem D0_init_45 : decode m0_init.2.1 45 = .ok (.bipush 8, 2) := by decide +kernel
theorem D0_init_47 : decode m0_init.2.1 47 = .ok (.newarray .int, 2) := by decide +kernel
theorem D0_init_49 : decode m0_init.2.1 49 = .ok (.putfield 27, 3) := by decide +kernel
theorem D0_init_52 : decode m0_init.2.1 52 = .ok (.aload_n 0, 1) := by decide +kernel
theorem D0_init_53 : decode m0_init.2.1 53 = .ok (.iconst 5, 1) := by decide +kernel
theorem D0_init_54 : decode m0_init.2.1 54 = .ok (.newarray .int, 2) := by decide +kernel
theorem D0_init_56 : decode m0_init.2.1 56 = .ok (.putfield 30, 3) := by decide +kernel
theorem D0_init_59 : decode m0_init.2.1 59 = .ok (.aload_n 0, 1) := by decide +kernel
theorem D0_init_60 : decode m0_init.2.1 60 = .ok (.iconst 5, 1) := by decide +kernel
theorem D0_init_61 : decode m0_init.2.1 61 = .ok (.newarray .int, 2) := by decide +kernel
theorem D0_init_63 : decode m0_init.2.1 63 = .ok (.putfield 33, 3) := by decide +kernel
theorem D0_init_66 : decode m0_init.2.1 66 = .ok (.aload_n 0, 1) := by decide +kernel
theorem D0_init_67 : decode m0_init.2.1 67 = .ok (.bipush 6, 2) := by decide +kernel
theorem D0_init_69 : decode m0_init.2.1 69 = .ok (.newarray .int, 2) := by decide +kernel
theorem D0_init_71 : decode m0_init.2.1 71 = .ok (.putfield 36, 3) := by decide +kernel
theorem D0_init_74 : decode m0_init.2.1 74 = .ok (.return_, 1) := by decide +kernel
theorem D0_layDown_0 : decode m0_layDown.2.1 0 = .ok (.aload_n 0, 1) := by decide +kernel
theorem D0_layDown_1 : decode m0_layDown.2.1 1 = .ok (.iconst 0, 1) := by decide +kernel
theorem D0_layDown_2 : decode m0_layDown.2.1 2 = .ok (.putfield 39, 3) := by decide +kernel
theorem D0_layDown_5 : decode m0_layDown.2.1 5 = .ok (.aload_n 0, 1) := by decide +kernel
theorem D0_layDown_6 : decode m0_layDown.2.1 6 = .ok (.aload_n 1, 1) := by decide +kernel
theorem D0_layDown_7 : decode m0_layDown.2.1 7 = .ok (.getfield 43, 3) := by decide +kernel
theorem D0_layDown_10 : decode m0_layDown.2.1 10 = .ok (.i2l, 1) := by decide +kernel
theorem D0_layDown_11 : decode m0_layDown.2.1 11 = .ok (.putfield 48, 3) := by decide +kernel
theorem D0_layDown_14 : decode m0_layDown.2.1 14 = .ok (.aload_n 0, 1) := by decide +kernel
theorem D0_layDown_15 : decode m0_layDown.2.1 15 = .ok (.iconst 0, 1) := by decide +kernel
theorem D0_layDown_16 : decode m0_layDown.2.1 16 = .ok (.putfield 52, 3) := by decide +kernel
theorem D0_layDown_19 : decode m0_layDown.2.1 19 = .ok (.aload_n 0, 1) := by decide +kernel
theorem D0_layDown_20 : decode m0_layDown.2.1 20 = .ok (.getfield 21, 3) := by decide +kernel
theorem D0_layDown_23 : decode m0_layDown.2.1 23 = .ok (.iconst 3, 1) := by decide +kernel
theorem D0_layDown_24 : decode m0_layDown.2.1 24 = .ok (.invokestatic 55, 3) := by decide +kernel
theorem D0_layDown_27 : decode m0_layDown.2.1 27 = .ok (.aload_n 0, 1) := by decide +kernel
theorem D0_layDown_28 : decode m0_layDown.2.1 28 = .ok (.getfield 24, 3) := by decide +kernel
theorem D0_layDown_31 : decode m0_layDown.2.1 31 = .ok (.iconst (-1), 1) := by decide +kernel
theorem D0_layDown_32 : decode m0_layDown.2.1 32 = .ok (.invokestatic 55, 3) := by decide +kernel
theorem D0_layDown_35 : decode m0_layDown.2.1 35 = .ok (.aload_n 0, 1) := by decide +kernel
theorem D0_layDown_36 : decode m0_layDown.2.1 36 = .ok (.getfield 27, 3) := by decide +kernel
theorem D0_layDown_39 : decode m0_layDown.2.1 39 = .ok (.iconst (-1), 1) := by decide +kernel
theorem D0_layDown_40 : decode m0_layDown.2.1 40 = .ok (.invokestatic 55, 3) := by decide +kernel
theorem D0_layDown_43 : decode m0_layDown.2.1 43 = .ok (.aload_n 0, 1) := by decide +kernel
theorem D0_layDown_44 : decode m0_layDown.2.1 44 = .ok (.getfield 30, 3) := by decide +kernel
theorem D0_layDown_47 : decode m0_layDown.2.1 47 = .ok (.iconst 0, 1) := by decide +kernel
theorem D0_layDown_48 : decode m0_layDown.2.1 48 = .ok (.invokestatic 55, 3) := by decide +kernel
theorem D0_layDown_51 : decode m0_layDown.2.1 51 = .ok (.aload_n 0, 1) := by decide +kernel
theorem D0_layDown_52 : decode m0_layDown.2.1 52 = .ok (.getfield 33, 3) := by decide +kernel
theorem D0_layDown_55 : decode m0_layDown.2.1 55 = .ok (.iconst 0, 1) := by decide +kernel
theorem D0_layDown_56 : decode m0_layDown.2.1 56 = .ok (.invokestatic 55, 3) := by decide +kernel
theorem D0_layDown_59 : decode m0_layDown.2.1 59 = .ok (.aload_n 0, 1) := by decide +kernel
theorem D0_layDown_60 : decode m0_layDown.2.1 60 = .ok (.getfield 36, 3) := by decide +kernel
theorem D0_layDown_63 : decode m0_layDown.2.1 63 = .ok (.iconst 0, 1) := by decide +kernel
theorem D0_layDown_64 : decode m0_layDown.2.1 64 = .ok (.invokestatic 55, 3) := by decide +kernel
theorem D0_layDown_67 : decode m0_layDown.2.1 67 = .ok (.iconst 0, 1) := by decide +kernel
theorem D0_layDown_68 : decode m0_layDown.2.1 68 = .ok (.istore_n 2, 1) := by decide +kernel
theorem D0_layDown_69 : decode m0_layDown.2.1 69 = .ok (.iload_n 2, 1) := by decide +kernel
theorem D0_layDown_70 : decode m0_layDown.2.1 70 = .ok (.aload_n 1, 1) := by decide +kernel
theorem D0_layDown_71 : decode m0_layDown.2.1 71 = .ok (.getfield 61, 3) := by decide +kernel
theorem D0_layDown_74 : decode m0_layDown.2.1 74 = .ok (.if_icmp .ge 50, 3) := by decide +kernel
theorem D0_layDown_77 : decode m0_layDown.2.1 77 = .ok (.aload_n 0, 1) := by decide +kernel
theorem D0_layDown_78 : decode m0_layDown.2.1 78 = .ok (.getfield 9, 3) := by decide +kernel
theorem D0_layDown_81 : decode m0_layDown.2.1 81 = .ok (.iload_n 2, 1) := by decide +kernel
theorem D0_layDown_82 : decode m0_layDown.2.1 82 = .ok (.aload_n 1, 1) := by decide +kernel
theorem D0_layDown_83 : decode m0_layDown.2.1 83 = .ok (.getfield 64, 3) := by decide +kernel
theorem D0_layDown_86 : decode m0_layDown.2.1 86 = .ok (.iload_n 2, 1) := by decide +kernel
theorem D0_layDown_87 : decode m0_layDown.2.1 87 = .ok (.iaload, 1) := by decide +kernel
theorem D0_layDown_88 : decode m0_layDown.2.1 88 = .ok (.iastore, 1) := by decide +kernel
theorem D0_layDown_89 : decode m0_layDown.2.1 89 = .ok (.aload_n 0, 1) := by decide +kernel
theorem D0_layDown_90 : decode m0_layDown.2.1 90 = .ok (.getfield 15, 3) := by decide +kernel
theorem D0_layDown_93 : decode m0_layDown.2.1 93 = .ok (.iload_n 2, 1) := by decide +kernel
theorem D0_layDown_94 : decode m0_layDown.2.1 94 = .ok (.aload_n 1, 1) := by decide +kernel
theorem D0_layDown_95 : decode m0_layDown.2.1 95 = .ok (.getfield 65, 3) := by decide +kernel
theorem D0_layDown_98 : decode m0_layDown.2.1 98 = .ok (.iload_n 2, 1) := by decide +kernel
theorem D0_layDown_99 : decode m0_layDown.2.1 99 = .ok (.iaload, 1) := by decide +kernel
theorem D0_layDown_100 : decode m0_layDown.2.1 100 = .ok (.iastore, 1) := by decide +kernel
theorem D0_layDown_101 : decode m0_layDown.2.1 101 = .ok (.aload_n 0, 1) := by decide +kernel
theorem D0_layDown_102 : decode m0_layDown.2.1 102 = .ok (.getfield 18, 3) := by decide +kernel
theorem D0_layDown_105 : decode m0_layDown.2.1 105 = .ok (.iload_n 2, 1) := by decide +kernel
theorem D0_layDown_106 : decode m0_layDown.2.1 106 = .ok (.aload_n 1, 1) := by decide +kernel
theorem D0_layDown_107 : decode m0_layDown.2.1 107 = .ok (.getfield 66, 3) := by decide +kernel
theorem D0_layDown_110 : decode m0_layDown.2.1 110 = .ok (.iload_n 2, 1) := by decide +kernel
theorem D0_layDown_111 : decode m0_layDown.2.1 111 = .ok (.iaload, 1) := by decide +kernel
theorem D0_layDown_112 : decode m0_layDown.2.1 112 = .ok (.iastore, 1) := by decide +kernel
theorem D0_layDown_113 : decode m0_layDown.2.1 113 = .ok (.aload_n 0, 1) := by decide +kernel
theorem D0_layDown_114 : decode m0_layDown.2.1 114 = .ok (.iload_n 2, 1) := by decide +kernel
theorem D0_layDown_115 : decode m0_layDown.2.1 115 = .ok (.invokevirtual 67, 3) := by decide +kernel
theorem D0_layDown_118 : decode m0_layDown.2.1 118 = .ok (.iinc 2 1, 3) := by decide +kernel
theorem D0_layDown_121 : decode m0_layDown.2.1 121 = .ok (.goto (-52), 3) := by decide +kernel
theorem D0_layDown_124 : decode m0_layDown.2.1 124 = .ok (.return_, 1) := by decide +kernel
theorem D0_copyFrom_0 : decode m0_copyFrom.2.1 0 = .ok (.aload_n 0, 1) := by decide +kernel
theorem D0_copyFrom_1 : decode m0_copyFrom.2.1 1 = .ok (.aload_n 1, 1) := by decide +kernel
theorem D0_copyFrom_2 : decode m0_copyFrom.2.1 2 = .ok (.getfield 39, 3) := by decide +kernel
theorem D0_copyFrom_5 : decode m0_copyFrom.2.1 5 = .ok (.putfield 39, 3) := by decide +kernel
theorem D0_copyFrom_8 : decode m0_copyFrom.2.1 8 = .ok (.aload_n 0, 1) := by decide +kernel
theorem D0_copyFrom_9 : decode m0_copyFrom.2.1 9 = .ok (.aload_n 1, 1) := by decide +kernel
theorem D0_copyFrom_10 : decode m0_copyFrom.2.1 10 = .ok (.getfield 48, 3) := by decide +kernel
theorem D0_copyFrom_13 : decode m0_copyFrom.2.1 13 = .ok (.putfield 48, 3) := by decide +kernel
theorem D0_copyFrom_16 : decode m0_copyFrom.2.1 16 = .ok (.aload_n 0, 1) := by decide +kernel
theorem D0_copyFrom_17 : decode m0_copyFrom.2.1 17 = .ok (.aload_n 1, 1) := by decide +kernel
theorem D0_copyFrom_18 : decode m0_copyFrom.2.1 18 = .ok (.getfield 52, 3) := by decide +kernel
theorem D0_copyFrom_21 : decode m0_copyFrom.2.1 21 = .ok (.putfield 52, 3) := by decide +kernel
theorem D0_copyFrom_24 : decode m0_copyFrom.2.1 24 = .ok (.aload_n 1, 1) := by decide +kernel
theorem D0_copyFrom_25 : decode m0_copyFrom.2.1 25 = .ok (.getfield 9, 3) := by decide +kernel
theorem D0_copyFrom_28 : decode m0_copyFrom.2.1 28 = .ok (.iconst 0, 1) := by decide +kernel
theorem D0_copyFrom_29 : decode m0_copyFrom.2.1 29 = .ok (.aload_n 0, 1) := by decide +kernel
theorem D0_copyFrom_30 : decode m0_copyFrom.2.1 30 = .ok (.getfield 9, 3) := by decide +kernel
theorem D0_copyFrom_33 : decode m0_copyFrom.2.1 33 = .ok (.iconst 0, 1) := by decide +kernel
theorem D0_copyFrom_34 : decode m0_copyFrom.2.1 34 = .ok (.bipush 10, 2) := by decide +kernel
theorem D0_copyFrom_36 : decode m0_copyFrom.2.1 36 = .ok (.invokestatic 71, 3) := by decide +kernel
theorem D0_copyFrom_39 : decode m0_copyFrom.2.1 39 = .ok (.aload_n 1, 1) := by decide +kernel
theorem D0_copyFrom_40 : decode m0_copyFrom.2.1 40 = .ok (.getfield 15, 3) := by decide +kernel
theorem D0_copyFrom_43 : decode m0_copyFrom.2.1 43 = .ok (.iconst 0, 1) := by decide +kernel
theorem D0_copyFrom_44 : decode m0_copyFrom.2.1 44 = .ok (.aload_n 0, 1) := by decide +kernel
theorem D0_copyFrom_45 : decode m0_copyFrom.2.1 45 = .ok (.getfield 15, 3) := by decide +kernel
theorem D0_copyFrom_48 : decode m0_copyFrom.2.1 48 = .ok (.iconst 0, 1) := by decide +kernel
theorem D0_copyFrom_49 : decode m0_copyFrom.2.1 49 = .ok (.bipush 10, 2) := by decide +kernel
theorem D0_copyFrom_51 : decode m0_copyFrom.2.1 51 = .ok (.invokestatic 71, 3) := by decide +kernel
theorem D0_copyFrom_54 : decode m0_copyFrom.2.1 54 = .ok (.aload_n 1, 1) := by decide +kernel
theorem D0_copyFrom_55 : decode m0_copyFrom.2.1 55 = .ok (.getfield 18, 3) := by decide +kernel
theorem D0_copyFrom_58 : decode m0_copyFrom.2.1 58 = .ok (.iconst 0, 1) := by decide +kernel
theorem D0_copyFrom_59 : decode m0_copyFrom.2.1 59 = .ok (.aload_n 0, 1) := by decide +kernel
theorem D0_copyFrom_60 : decode m0_copyFrom.2.1 60 = .ok (.getfield 18, 3) := by decide +kernel
theorem D0_copyFrom_63 : decode m0_copyFrom.2.1 63 = .ok (.iconst 0, 1) := by decide +kernel
theorem D0_copyFrom_64 : decode m0_copyFrom.2.1 64 = .ok (.bipush 10, 2) := by decide +kernel
theorem D0_copyFrom_66 : decode m0_copyFrom.2.1 66 = .ok (.invokestatic 71, 3) := by decide +kernel
theorem D0_copyFrom_69 : decode m0_copyFrom.2.1 69 = .ok (.aload_n 1, 1) := by decide +kernel
theorem D0_copyFrom_70 : decode m0_copyFrom.2.1 70 = .ok (.getfield 21, 3) := by decide +kernel
theorem D0_copyFrom_73 : decode m0_copyFrom.2.1 73 = .ok (.iconst 0, 1) := by decide +kernel
theorem D0_copyFrom_74 : decode m0_copyFrom.2.1 74 = .ok (.aload_n 0, 1) := by decide +kernel
theorem D0_copyFrom_75 : decode m0_copyFrom.2.1 75 = .ok (.getfield 21, 3) := by decide +kernel
theorem D0_copyFrom_78 : decode m0_copyFrom.2.1 78 = .ok (.iconst 0, 1) := by decide +kernel
theorem D0_copyFrom_79 : decode m0_copyFrom.2.1 79 = .ok (.bipush 10, 2) := by decide +kernel
theorem D0_copyFrom_81 : decode m0_copyFrom.2.1 81 = .ok (.invokestatic 71, 3) := by decide +kernel
theorem D0_copyFrom_84 : decode m0_copyFrom.2.1 84 = .ok (.aload_n 1, 1) := by decide +kernel
theorem D0_copyFrom_85 : decode m0_copyFrom.2.1 85 = .ok (.getfield 24, 3) := by decide +kernel
theorem D0_copyFrom_88 : decode m0_copyFrom.2.1 88 = .ok (.iconst 0, 1) := by decide +kernel
theorem D0_copyFrom_89 : decode m0_copyFrom.2.1 89 = .ok (.aload_n 0, 1) := by decide +kernel
theorem D0_copyFrom_90 : decode m0_copyFrom.2.1 90 = .ok (.getfield 24, 3) := by decide +kernel
theorem D0_copyFrom_93 : decode m0_copyFrom.2.1 93 = .ok (.iconst 0, 1) := by decide +kernel
theorem D0_copyFrom_94 : decode m0_copyFrom.2.1 94 = .ok (.bipush 10, 2) := by decide +kernel
theorem D0_copyFrom_96 : decode m0_copyFrom.2.1 96 = .ok (.invokestatic 71, 3) := by decide +kernel
theorem D0_copyFrom_99 : decode m0_copyFrom.2.1 99 = .ok (.aload_n 1, 1) := by decide +kernel
theorem D0_copyFrom_100 : decode m0_copyFrom.2.1 100 = .ok (.getfield 27, 3) := by decide +kernel
theorem D0_copyFrom_103 : decode m0_copyFrom.2.1 103 = .ok (.iconst 0, 1) := by decide +kernel
theorem D0_copyFrom_104 : decode m0_copyFrom.2.1 104 = .ok (.aload_n 0, 1) := by decide +kernel
theorem D0_copyFrom_105 : decode m0_copyFrom.2.1 105 = .ok (.getfield 27, 3) := by decide +kernel
theorem D0_copyFrom_108 : decode m0_copyFrom.2.1 108 = .ok (.iconst 0, 1) := by decide +kernel
theorem D0_copyFrom_109 : decode m0_copyFrom.2.1 109 = .ok (.bipush 8, 2) := by decide +kernel
theorem D0_copyFrom_111 : decode m0_copyFrom.2.1 111 = .ok (.invokestatic 71, 3) := by decide +kernel
theorem D0_copyFrom_114 : decode m0_copyFrom.2.1 114 = .ok (.aload_n 1, 1) := by decide +kernel
theorem D0_copyFrom_115 : decode m0_copyFrom.2.1 115 = .ok (.getfield 30, 3) := by decide +kernel
theorem D0_copyFrom_118 : decode m0_copyFrom.2.1 118 = .ok (.iconst 0, 1) := by decide +kernel
theorem D0_copyFrom_119 : decode m0_copyFrom.2.1 119 = .ok (.aload_n 0, 1) := by decide +kernel
theorem D0_copyFrom_120 : decode m0_copyFrom.2.1 120 = .ok (.getfield 30, 3) := by decide +kernel
theorem D0_copyFrom_123 : decode m0_copyFrom.2.1 123 = .ok (.iconst 0, 1) := by decide +kernel
theorem D0_copyFrom_124 : decode m0_copyFrom.2.1 124 = .ok (.iconst 5, 1) := by decide +kernel
theorem D0_copyFrom_125 : decode m0_copyFrom.2.1 125 = .ok (.invokestatic 71, 3) := by decide +kernel
theorem D0_copyFrom_128 : decode m0_copyFrom.2.1 128 = .ok (.aload_n 1, 1) := by decide +kernel
theorem D0_copyFrom_129 : decode m0_copyFrom.2.1 129 = .ok (.getfield 33, 3) := by decide +kernel
theorem D0_copyFrom_132 : decode m0_copyFrom.2.1 132 = .ok (.iconst 0, 1) := by decide +kernel
theorem D0_copyFrom_133 : decode m0_copyFrom.2.1 133 = .ok (.aload_n 0, 1) := by decide +kernel
theorem D0_copyFrom_134 : decode m0_copyFrom.2.1 134 = .ok (.getfield 33, 3) := by decide +kernel
theorem D0_copyFrom_137 : decode m0_copyFrom.2.1 137 = .ok (.iconst 0, 1) := by decide +kernel
theorem D0_copyFrom_138 : decode m0_copyFrom.2.1 138 = .ok (.iconst 5, 1) := by decide +kernel
theorem D0_copyFrom_139 : decode m0_copyFrom.2.1 139 = .ok (.invokestatic 71, 3) := by decide +kernel
theorem D0_copyFrom_142 : decode m0_copyFrom.2.1 142 = .ok (.aload_n 1, 1) := by decide +kernel
theorem D0_copyFrom_143 : decode m0_copyFrom.2.1 143 = .ok (.getfield 36, 3) := by decide +kernel
theorem D0_copyFrom_146 : decode m0_copyFrom.2.1 146 = .ok (.iconst 0, 1) := by decide +kernel
theorem D0_copyFrom_147 : decode m0_copyFrom.2.1 147 = .ok (.aload_n 0, 1) := by decide +kernel
theorem D0_copyFrom_148 : decode m0_copyFrom.2.1 148 = .ok (.getfield 36, 3) := by decide +kernel
theorem D0_copyFrom_151 : decode m0_copyFrom.2.1 151 = .ok (.iconst 0, 1) := by decide +kernel
theorem D0_copyFrom_152 : decode m0_copyFrom.2.1 152 = .ok (.bipush 6, 2) := by decide +kernel
theorem D0_copyFrom_154 : decode m0_copyFrom.2.1 154 = .ok (.invokestatic 71, 3) := by decide +kernel
theorem D0_copyFrom_157 : decode m0_copyFrom.2.1 157 = .ok (.return_, 1) := by decide +kernel
theorem D0_isLying_0 : decode m0_isLying.2.1 0 = .ok (.aload_n 0, 1) := by decide +kernel
theorem D0_isLying_1 : decode m0_isLying.2.1 1 = .ok (.getfield 21, 3) := by decide +kernel
theorem D0_isLying_4 : decode m0_isLying.2.1 4 = .ok (.iload_n 1, 1) := by decide +kernel
theorem D0_isLying_5 : decode m0_isLying.2.1 5 = .ok (.iaload, 1) := by decide +kernel
theorem D0_isLying_6 : decode m0_isLying.2.1 6 = .ok (.ifCond .ne 7, 3) := by decide +kernel
theorem D0_isLying_9 : decode m0_isLying.2.1 9 = .ok (.iconst 1, 1) := by decide +kernel
theorem D0_isLying_10 : decode m0_isLying.2.1 10 = .ok (.goto 4, 3) := by decide +kernel
theorem D0_isLying_13 : decode m0_isLying.2.1 13 = .ok (.iconst 0, 1) := by decide +kernel
theorem D0_isLying_14 : decode m0_isLying.2.1 14 = .ok (.ireturn, 1) := by decide +kernel
theorem D0_lie_0 : decode m0_lie.2.1 0 = .ok (.aload_n 0, 1) := by decide +kernel
theorem D0_lie_1 : decode m0_lie.2.1 1 = .ok (.getfield 21, 3) := by decide +kernel
theorem D0_lie_4 : decode m0_lie.2.1 4 = .ok (.iload_n 1, 1) := by decide +kernel
theorem D0_lie_5 : decode m0_lie.2.1 5 = .ok (.iconst 0, 1) := by decide +kernel
theorem D0_lie_6 : decode m0_lie.2.1 6 = .ok (.iastore, 1) := by decide +kernel
theorem D0_lie_7 : decode m0_lie.2.1 7 = .ok (.aload_n 0, 1) := by decide +kernel
theorem D0_lie_8 : decode m0_lie.2.1 8 = .ok (.getfield 36, 3) := by decide +kernel
theorem D0_lie_11 : decode m0_lie.2.1 11 = .ok (.aload_n 0, 1) := by decide +kernel
theorem D0_lie_12 : decode m0_lie.2.1 12 = .ok (.getfield 9, 3) := by decide +kernel
theorem D0_lie_15 : decode m0_lie.2.1 15 = .ok (.iload_n 1, 1) := by decide +kernel
theorem D0_lie_16 : decode m0_lie.2.1 16 = .ok (.iaload, 1) := by decide +kernel
theorem D0_lie_17 : decode m0_lie.2.1 17 = .ok (.dup2, 1) := by decide +kernel
theorem D0_lie_18 : decode m0_lie.2.1 18 = .ok (.iaload, 1) := by decide +kernel
theorem D0_lie_19 : decode m0_lie.2.1 19 = .ok (.iconst 1, 1) := by decide +kernel
theorem D0_lie_20 : decode m0_lie.2.1 20 = .ok (.iadd, 1) := by decide +kernel
theorem D0_lie_21 : decode m0_lie.2.1 21 = .ok (.iastore, 1) := by decide +kernel
theorem D0_lie_22 : decode m0_lie.2.1 22 = .ok (.return_, 1) := by decide +kernel
theorem D0_leave_0 : decode m0_leave.2.1 0 = .ok (.aload_n 0, 1) := by decide +kernel
theorem D0_leave_1 : decode m0_leave.2.1 1 = .ok (.getfield 21, 3) := by decide +kernel
theorem D0_leave_4 : decode m0_leave.2.1 4 = .ok (.iload_n 1, 1) := by decide +kernel
theorem D0_leave_5 : decode m0_leave.2.1 5 = .ok (.iload_n 2, 1) := by decide +kernel
theorem D0_leave_6 : decode m0_leave.2.1 6 = .ok (.iastore, 1) := by decide +kernel
theorem D0_leave_7 : decode m0_leave.2.1 7 = .ok (.aload_n 0, 1) := by decide +kernel
theorem D0_leave_8 : decode m0_leave.2.1 8 = .ok (.getfield 36, 3) := by decide +kernel
theorem D0_leave_11 : decode m0_leave.2.1 11 = .ok (.aload_n 0, 1) := by decide +kernel
theorem D0_leave_12 : decode m0_leave.2.1 12 = .ok (.getfield 9, 3) := by decide +kernel
theorem D0_leave_15 : decode m0_leave.2.1 15 = .ok (.iload_n 1, 1) := by decide +kernel
theorem D0_leave_16 : decode m0_leave.2.1 16 = .ok (.iaload, 1) := by decide +kernel
theorem D0_leave_17 : decode m0_leave.2.1 17 = .ok (.dup2, 1) := by decide +kernel
theorem D0_leave_18 : decode m0_leave.2.1 18 = .ok (.iaload, 1) := by decide +kernel
theorem D0_leave_19 : decode m0_leave.2.1 19 = .ok (.iconst 1, 1) := by decide +kernel
theorem D0_leave_20 : decode m0_leave.2.1 20 = .ok (.isub, 1) := by decide +kernel
theorem D0_leave_21 : decode m0_leave.2.1 21 = .ok (.iastore, 1) := by decide +kernel
theorem D0_leave_22 : decode m0_leave.2.1 22 = .ok (.return_, 1) := by decide +kernel
theorem D0_move_0 : decode m0_move.2.1 0 = .ok (.aload_n 0, 1) := by decide +kernel
theorem D0_move_1 : decode m0_move.2.1 1 = .ok (.getfield 36, 3) := by decide +kernel
theorem D0_move_4 : decode m0_move.2.1 4 = .ok (.aload_n 0, 1) := by decide +kernel
theorem D0_move_5 : decode m0_move.2.1 5 = .ok (.getfield 9, 3) := by decide +kernel
theorem D0_move_8 : decode m0_move.2.1 8 = .ok (.iload_n 1, 1) := by decide +kernel
theorem D0_move_9 : decode m0_move.2.1 9 = .ok (.iaload, 1) := by decide +kernel
theorem D0_move_10 : decode m0_move.2.1 10 = .ok (.dup2, 1) := by decide +kernel
theorem D0_move_11 : decode m0_move.2.1 11 = .ok (.iaload, 1) := by decide +kernel
theorem D0_move_12 : decode m0_move.2.1 12 = .ok (.iconst 1, 1) := by decide +kernel
theorem D0_move_13 : decode m0_move.2.1 13 = .ok (.isub, 1) := by decide +kernel
theorem D0_move_14 : decode m0_move.2.1 14 = .ok (.iastore, 1) := by decide +kernel
theorem D0_move_15 : decode m0_move.2.1 15 = .ok (.aload_n 0, 1) := by decide +kernel
theorem D0_move_16 : decode m0_move.2.1 16 = .ok (.getfield 9, 3) := by decide +kernel
theorem D0_move_19 : decode m0_move.2.1 19 = .ok (.iload_n 1, 1) := by decide +kernel
theorem D0_move_20 : decode m0_move.2.1 20 = .ok (.iload_n 2, 1) := by decide +kernel
theorem D0_move_21 : decode m0_move.2.1 21 = .ok (.iastore, 1) := by decide +kernel
theorem D0_move_22 : decode m0_move.2.1 22 = .ok (.aload_n 0, 1) := by decide +kernel
theorem D0_move_23 : decode m0_move.2.1 23 = .ok (.getfield 36, 3) := by decide +kernel
theorem D0_move_26 : decode m0_move.2.1 26 = .ok (.iload_n 2, 1) := by decide +kernel
theorem D0_move_27 : decode m0_move.2.1 27 = .ok (.dup2, 1) := by decide +kernel
theorem D0_move_28 : decode m0_move.2.1 28 = .ok (.iaload, 1) := by decide +kernel
theorem D0_move_29 : decode m0_move.2.1 29 = .ok (.iconst 1, 1) := by decide +kernel
theorem D0_move_30 : decode m0_move.2.1 30 = .ok (.iadd, 1) := by decide +kernel
theorem D0_move_31 : decode m0_move.2.1 31 = .ok (.iastore, 1) := by decide +kernel
theorem D0_move_32 : decode m0_move.2.1 32 = .ok (.return_, 1) := by decide +kernel
theorem D0_hate_0 : decode m0_hate.2.1 0 = .ok (.aload_n 0, 1) := by decide +kernel
theorem D0_hate_1 : decode m0_hate.2.1 1 = .ok (.getfield 30, 3) := by decide +kernel
theorem D0_hate_4 : decode m0_hate.2.1 4 = .ok (.iload_n 1, 1) := by decide +kernel
theorem D0_hate_5 : decode m0_hate.2.1 5 = .ok (.iaload, 1) := by decide +kernel
theorem D0_hate_6 : decode m0_hate.2.1 6 = .ok (.iload_n 2, 1) := by decide +kernel
theorem D0_hate_7 : decode m0_hate.2.1 7 = .ok (.ishr, 1) := by decide +kernel
theorem D0_hate_8 : decode m0_hate.2.1 8 = .ok (.iconst 1, 1) := by decide +kernel
theorem D0_hate_9 : decode m0_hate.2.1 9 = .ok (.iand, 1) := by decide +kernel
theorem D0_hate_10 : decode m0_hate.2.1 10 = .ok (.ifCond .ne 25, 3) := by decide +kernel
theorem D0_hate_13 : decode m0_hate.2.1 13 = .ok (.aload_n 0, 1) := by decide +kernel
theorem D0_hate_14 : decode m0_hate.2.1 14 = .ok (.getfield 30, 3) := by decide +kernel
theorem D0_hate_17 : decode m0_hate.2.1 17 = .ok (.iload_n 1, 1) := by decide +kernel
theorem D0_hate_18 : decode m0_hate.2.1 18 = .ok (.dup2, 1) := by decide +kernel
theorem D0_hate_19 : decode m0_hate.2.1 19 = .ok (.iaload, 1) := by decide +kernel
theorem D0_hate_20 : decode m0_hate.2.1 20 = .ok (.iconst 1, 1) := by decide +kernel
theorem D0_hate_21 : decode m0_hate.2.1 21 = .ok (.iload_n 2, 1) := by decide +kernel
theorem D0_hate_22 : decode m0_hate.2.1 22 = .ok (.ishl, 1) := by decide +kernel
theorem D0_hate_23 : decode m0_hate.2.1 23 = .ok (.ior, 1) := by decide +kernel
theorem D0_hate_24 : decode m0_hate.2.1 24 = .ok (.iastore, 1) := by decide +kernel
theorem D0_hate_25 : decode m0_hate.2.1 25 = .ok (.aload_n 0, 1) := by decide +kernel
theorem D0_hate_26 : decode m0_hate.2.1 26 = .ok (.getfield 33, 3) := by decide +kernel
theorem D0_hate_29 : decode m0_hate.2.1 29 = .ok (.iload_n 2, 1) := by decide +kernel
theorem D0_hate_30 : decode m0_hate.2.1 30 = .ok (.dup2, 1) := by decide +kernel
theorem D0_hate_31 : decode m0_hate.2.1 31 = .ok (.iaload, 1) := by decide +kernel
theorem D0_hate_32 : decode m0_hate.2.1 32 = .ok (.iconst 1, 1) := by decide +kernel
theorem D0_hate_33 : decode m0_hate.2.1 33 = .ok (.iadd, 1) := by decide +kernel
theorem D0_hate_34 : decode m0_hate.2.1 34 = .ok (.iastore, 1) := by decide +kernel
theorem D0_hate_35 : decode m0_hate.2.1 35 = .ok (.return_, 1) := by decide +kernel
theorem D0_bits_0 : decode m0_bits.2.1 0 = .ok (.iconst 0, 1) := by decide +kernel
theorem D0_bits_1 : decode m0_bits.2.1 1 = .ok (.istore_n 2, 1) := by decide +kernel
theorem D0_bits_2 : decode m0_bits.2.1 2 = .ok (.iconst 0, 1) := by decide +kernel
theorem D0_bits_3 : decode m0_bits.2.1 3 = .ok (.istore_n 3, 1) := by decide +kernel
theorem D0_bits_4 : decode m0_bits.2.1 4 = .ok (.iload_n 3, 1) := by decide +kernel
theorem D0_bits_5 : decode m0_bits.2.1 5 = .ok (.bipush 10, 2) := by decide +kernel
theorem D0_bits_7 : decode m0_bits.2.1 7 = .ok (.if_icmp .ge 25, 3) := by decide +kernel
theorem D0_bits_10 : decode m0_bits.2.1 10 = .ok (.aload_n 0, 1) := by decide +kernel
theorem D0_bits_11 : decode m0_bits.2.1 11 = .ok (.getfield 21, 3) := by decide +kernel
theorem D0_bits_14 : decode m0_bits.2.1 14 = .ok (.iload_n 3, 1) := by decide +kernel
theorem D0_bits_15 : decode m0_bits.2.1 15 = .ok (.iaload, 1) := by decide +kernel
theorem D0_bits_16 : decode m0_bits.2.1 16 = .ok (.iload_n 1, 1) := by decide +kernel
theorem D0_bits_17 : decode m0_bits.2.1 17 = .ok (.if_icmp .ne 9, 3) := by decide +kernel
theorem D0_bits_20 : decode m0_bits.2.1 20 = .ok (.iload_n 2, 1) := by decide +kernel
theorem D0_bits_21 : decode m0_bits.2.1 21 = .ok (.iconst 1, 1) := by decide +kernel
theorem D0_bits_22 : decode m0_bits.2.1 22 = .ok (.iload_n 3, 1) := by decide +kernel
theorem D0_bits_23 : decode m0_bits.2.1 23 = .ok (.ishl, 1) := by decide +kernel
theorem D0_bits_24 : decode m0_bits.2.1 24 = .ok (.ior, 1) := by decide +kernel
theorem D0_bits_25 : decode m0_bits.2.1 25 = .ok (.istore_n 2, 1) := by decide +kernel
theorem D0_bits_26 : decode m0_bits.2.1 26 = .ok (.iinc 3 1, 3) := by decide +kernel
theorem D0_bits_29 : decode m0_bits.2.1 29 = .ok (.goto (-25), 3) := by decide +kernel
theorem D0_bits_32 : decode m0_bits.2.1 32 = .ok (.iload_n 2, 1) := by decide +kernel
theorem D0_bits_33 : decode m0_bits.2.1 33 = .ok (.ireturn, 1) := by decide +kernel
theorem D0_howMany_0 : decode m0_howMany.2.1 0 = .ok (.aload_n 0, 1) := by decide +kernel
theorem D0_howMany_1 : decode m0_howMany.2.1 1 = .ok (.iload_n 1, 1) := by decide +kernel
theorem D0_howMany_2 : decode m0_howMany.2.1 2 = .ok (.invokevirtual 77, 3) := by decide +kernel
theorem D0_howMany_5 : decode m0_howMany.2.1 5 = .ok (.invokestatic 81, 3) := by decide +kernel
theorem D0_howMany_8 : decode m0_howMany.2.1 8 = .ok (.ireturn, 1) := by decide +kernel
theorem D0_metNeeds_0 : decode m0_metNeeds.2.1 0 = .ok (.aload_n 0, 1) := by decide +kernel
theorem D0_metNeeds_1 : decode m0_metNeeds.2.1 1 = .ok (.iconst 1, 1) := by decide +kernel
theorem D0_metNeeds_2 : decode m0_metNeeds.2.1 2 = .ok (.invokevirtual 86, 3) := by decide +kernel
theorem D0_metNeeds_5 : decode m0_metNeeds.2.1 5 = .ok (.aload_n 0, 1) := by decide +kernel
theorem D0_metNeeds_6 : decode m0_metNeeds.2.1 6 = .ok (.iconst 2, 1) := by decide +kernel
theorem D0_metNeeds_7 : decode m0_metNeeds.2.1 7 = .ok (.invokevirtual 86, 3) := by decide +kernel
theorem D0_metNeeds_10 : decode m0_metNeeds.2.1 10 = .ok (.iadd, 1) := by decide +kernel
theorem D0_metNeeds_11 : decode m0_metNeeds.2.1 11 = .ok (.ireturn, 1) := by decide +kernel
theorem D0_unmetNeeds_0 : decode m0_unmetNeeds.2.1 0 = .ok (.aload_n 0, 1) := by decide +kernel
theorem D0_unmetNeeds_1 : decode m0_unmetNeeds.2.1 1 = .ok (.iconst 0, 1) := by decide +kernel
theorem D0_unmetNeeds_2 : decode m0_unmetNeeds.2.1 2 = .ok (.invokevirtual 86, 3) := by decide +kernel
theorem D0_unmetNeeds_5 : decode m0_unmetNeeds.2.1 5 = .ok (.ireturn, 1) := by decide +kernel
theorem D0_needsWith_0 : decode m0_needsWith.2.1 0 = .ok (.iconst 0, 1) := by decide +kernel
theorem D0_needsWith_1 : decode m0_needsWith.2.1 1 = .ok (.istore_n 2, 1) := by decide +kernel
theorem D0_needsWith_2 : decode m0_needsWith.2.1 2 = .ok (.iconst 0, 1) := by decide +kernel
theorem D0_needsWith_3 : decode m0_needsWith.2.1 3 = .ok (.istore_n 3, 1) := by decide +kernel
theorem D0_needsWith_4 : decode m0_needsWith.2.1 4 = .ok (.iload_n 3, 1) := by decide +kernel
theorem D0_needsWith_5 : decode m0_needsWith.2.1 5 = .ok (.bipush 8, 2) := by decide +kernel
theorem D0_needsWith_7 : decode m0_needsWith.2.1 7 = .ok (.if_icmp .ge 22, 3) := by decide +kernel
theorem D0_needsWith_10 : decode m0_needsWith.2.1 10 = .ok (.aload_n 0, 1) := by decide +kernel
theorem D0_needsWith_11 : decode m0_needsWith.2.1 11 = .ok (.getfield 27, 3) := by decide +kernel
theorem D0_needsWith_14 : decode m0_needsWith.2.1 14 = .ok (.iload_n 3, 1) := by decide +kernel
theorem D0_needsWith_15 : decode m0_needsWith.2.1 15 = .ok (.iaload, 1) := by decide +kernel
theorem D0_needsWith_16 : decode m0_needsWith.2.1 16 = .ok (.iload_n 1, 1) := by decide +kernel
theorem D0_needsWith_17 : decode m0_needsWith.2.1 17 = .ok (.if_icmp .ne 6, 3) := by decide +kernel
theorem D0_needsWith_20 : decode m0_needsWith.2.1 20 = .ok (.iinc 2 1, 3) := by decide +kernel
theorem D0_needsWith_23 : decode m0_needsWith.2.1 23 = .ok (.iinc 3 1, 3) := by decide +kernel
theorem D0_needsWith_26 : decode m0_needsWith.2.1 26 = .ok (.goto (-22), 3) := by decide +kernel
theorem D0_needsWith_29 : decode m0_needsWith.2.1 29 = .ok (.iload_n 2, 1) := by decide +kernel
theorem D0_needsWith_30 : decode m0_needsWith.2.1 30 = .ok (.ireturn, 1) := by decide +kernel
theorem D0_hatingPairs_0 : decode m0_hatingPairs.2.1 0 = .ok (.iconst 0, 1) := by decide +kernel
theorem D0_hatingPairs_1 : decode m0_hatingPairs.2.1 1 = .ok (.istore_n 1, 1) := by decide +kernel
theorem D0_hatingPairs_2 : decode m0_hatingPairs.2.1 2 = .ok (.iconst 0, 1) := by decide +kernel
theorem D0_hatingPairs_3 : decode m0_hatingPairs.2.1 3 = .ok (.istore_n 2, 1) := by decide +kernel
theorem D0_hatingPairs_4 : decode m0_hatingPairs.2.1 4 = .ok (.iload_n 2, 1) := by decide +kernel
theorem D0_hatingPairs_5 : decode m0_hatingPairs.2.1 5 = .ok (.iconst 5, 1) := by decide +kernel
theorem D0_hatingPairs_6 : decode m0_hatingPairs.2.1 6 = .ok (.if_icmp .ge 18, 3) := by decide +kernel
theorem D0_hatingPairs_9 : decode m0_hatingPairs.2.1 9 = .ok (.iload_n 1, 1) := by decide +kernel
theorem D0_hatingPairs_10 : decode m0_hatingPairs.2.1 10 = .ok (.aload_n 0, 1) := by decide +kernel
theorem D0_hatingPairs_11 : decode m0_hatingPairs.2.1 11 = .ok (.getfield 33, 3) := by decide +kernel
theorem D0_hatingPairs_14 : decode m0_hatingPairs.2.1 14 = .ok (.iload_n 2, 1) := by decide +kernel
theorem D0_hatingPairs_15 : decode m0_hatingPairs.2.1 15 = .ok (.iaload, 1) := by decide +kernel
theorem D0_hatingPairs_16 : decode m0_hatingPairs.2.1 16 = .ok (.iadd, 1) := by decide +kernel
theorem D0_hatingPairs_17 : decode m0_hatingPairs.2.1 17 = .ok (.istore_n 1, 1) := by decide +kernel
theorem D0_hatingPairs_18 : decode m0_hatingPairs.2.1 18 = .ok (.iinc 2 1, 3) := by decide +kernel
theorem D0_hatingPairs_21 : decode m0_hatingPairs.2.1 21 = .ok (.goto (-17), 3) := by decide +kernel
theorem D0_hatingPairs_24 : decode m0_hatingPairs.2.1 24 = .ok (.iload_n 1, 1) := by decide +kernel
theorem D0_hatingPairs_25 : decode m0_hatingPairs.2.1 25 = .ok (.ireturn, 1) := by decide +kernel
theorem D1_init_0 : decode m1_init.2.1 0 = .ok (.aload_n 0, 1) := by decide +kernel
theorem D1_init_1 : decode m1_init.2.1 1 = .ok (.invokespecial 3, 3) := by decide +kernel
theorem D1_init_4 : decode m1_init.2.1 4 = .ok (.aload_n 0, 1) := by decide +kernel
theorem D1_init_5 : decode m1_init.2.1 5 = .ok (.iconst 3, 1) := by decide +kernel
theorem D1_init_6 : decode m1_init.2.1 6 = .ok (.newarray .int, 2) := by decide +kernel
theorem D1_init_8 : decode m1_init.2.1 8 = .ok (.putfield 9, 3) := by decide +kernel
theorem D1_init_11 : decode m1_init.2.1 11 = .ok (.aload_n 0, 1) := by decide +kernel
theorem D1_init_12 : decode m1_init.2.1 12 = .ok (.iconst 3, 1) := by decide +kernel
theorem D1_init_13 : decode m1_init.2.1 13 = .ok (.newarray .int, 2) := by decide +kernel
theorem D1_init_15 : decode m1_init.2.1 15 = .ok (.putfield 15, 3) := by decide +kernel
theorem D1_init_18 : decode m1_init.2.1 18 = .ok (.aload_n 0, 1) := by decide +kernel
theorem D1_init_19 : decode m1_init.2.1 19 = .ok (.bipush 64, 2) := by decide +kernel
theorem D1_init_21 : decode m1_init.2.1 21 = .ok (.newarray .int, 2) := by decide +kernel
theorem D1_init_23 : decode m1_init.2.1 23 = .ok (.putfield 18, 3) := by decide +kernel
theorem D1_init_26 : decode m1_init.2.1 26 = .ok (.aload_n 0, 1) := by decide +kernel
theorem D1_init_27 : decode m1_init.2.1 27 = .ok (.bipush 64, 2) := by decide +kernel
theorem D1_init_29 : decode m1_init.2.1 29 = .ok (.newarray .int, 2) := by decide +kernel
theorem D1_init_31 : decode m1_init.2.1 31 = .ok (.putfield 21, 3) := by decide +kernel
theorem D1_init_34 : decode m1_init.2.1 34 = .ok (.aload_n 0, 1) := by decide +kernel
theorem D1_init_35 : decode m1_init.2.1 35 = .ok (.invokevirtual 24, 3) := by decide +kernel
theorem D1_init_38 : decode m1_init.2.1 38 = .ok (.return_, 1) := by decide +kernel
theorem D1_clear_0 : decode m1_clear.2.1 0 = .ok (.aload_n 0, 1) := by decide +kernel
theorem D1_clear_1 : decode m1_clear.2.1 1 = .ok (.getfield 9, 3) := by decide +kernel
theorem D1_clear_4 : decode m1_clear.2.1 4 = .ok (.iconst (-1), 1) := by decide +kernel
theorem D1_clear_5 : decode m1_clear.2.1 5 = .ok (.invokestatic 27, 3) := by decide +kernel
theorem D1_clear_8 : decode m1_clear.2.1 8 = .ok (.aload_n 0, 1) := by decide +kernel
theorem D1_clear_9 : decode m1_clear.2.1 9 = .ok (.getfield 15, 3) := by decide +kernel
theorem D1_clear_12 : decode m1_clear.2.1 12 = .ok (.iconst (-1), 1) := by decide +kernel
theorem D1_clear_13 : decode m1_clear.2.1 13 = .ok (.invokestatic 27, 3) := by decide +kernel
theorem D1_clear_16 : decode m1_clear.2.1 16 = .ok (.aload_n 0, 1) := by decide +kernel
theorem D1_clear_17 : decode m1_clear.2.1 17 = .ok (.iconst 0, 1) := by decide +kernel
theorem D1_clear_18 : decode m1_clear.2.1 18 = .ok (.putfield 33, 3) := by decide +kernel
theorem D1_clear_21 : decode m1_clear.2.1 21 = .ok (.aload_n 0, 1) := by decide +kernel
theorem D1_clear_22 : decode m1_clear.2.1 22 = .ok (.iconst 0, 1) := by decide +kernel
theorem D1_clear_23 : decode m1_clear.2.1 23 = .ok (.putfield 37, 3) := by decide +kernel
theorem D1_clear_26 : decode m1_clear.2.1 26 = .ok (.return_, 1) := by decide +kernel
theorem D1_isTold_0 : decode m1_isTold.2.1 0 = .ok (.aload_n 0, 1) := by decide +kernel
theorem D1_isTold_1 : decode m1_isTold.2.1 1 = .ok (.getfield 9, 3) := by decide +kernel
theorem D1_isTold_4 : decode m1_isTold.2.1 4 = .ok (.iload_n 1, 1) := by decide +kernel
theorem D1_isTold_5 : decode m1_isTold.2.1 5 = .ok (.iaload, 1) := by decide +kernel
theorem D1_isTold_6 : decode m1_isTold.2.1 6 = .ok (.iconst (-1), 1) := by decide +kernel
theorem D1_isTold_7 : decode m1_isTold.2.1 7 = .ok (.if_icmp .eq 7, 3) := by decide +kernel
theorem D1_isTold_10 : decode m1_isTold.2.1 10 = .ok (.iconst 1, 1) := by decide +kernel
theorem D1_isTold_11 : decode m1_isTold.2.1 11 = .ok (.goto 4, 3) := by decide +kernel
theorem D1_isTold_14 : decode m1_isTold.2.1 14 = .ok (.iconst 0, 1) := by decide +kernel
theorem D1_isTold_15 : decode m1_isTold.2.1 15 = .ok (.ireturn, 1) := by decide +kernel
theorem D1_put_0 : decode m1_put.2.1 0 = .ok (.aload_n 0, 1) := by decide +kernel
theorem D1_put_1 : decode m1_put.2.1 1 = .ok (.getfield 33, 3) := by decide +kernel
theorem D1_put_4 : decode m1_put.2.1 4 = .ok (.bipush 64, 2) := by decide +kernel
theorem D1_put_6 : decode m1_put.2.1 6 = .ok (.if_icmp .ge 33, 3) := by decide +kernel
theorem D1_put_9 : decode m1_put.2.1 9 = .ok (.aload_n 0, 1) := by decide +kernel
theorem D1_put_10 : decode m1_put.2.1 10 = .ok (.getfield 18, 3) := by decide +kernel
theorem D1_put_13 : decode m1_put.2.1 13 = .ok (.aload_n 0, 1) := by decide +kernel
theorem D1_put_14 : decode m1_put.2.1 14 = .ok (.getfield 33, 3) := by decide +kernel
theorem D1_put_17 : decode m1_put.2.1 17 = .ok (.iload_n 1, 1) := by decide +kernel
theorem D1_put_18 : decode m1_put.2.1 18 = .ok (.iastore, 1) := by decide +kernel
theorem D1_put_19 : decode m1_put.2.1 19 = .ok (.aload_n 0, 1) := by decide +kernel
theorem D1_put_20 : decode m1_put.2.1 20 = .ok (.getfield 21, 3) := by decide +kernel
theorem D1_put_23 : decode m1_put.2.1 23 = .ok (.aload_n 0, 1) := by decide +kernel
theorem D1_put_24 : decode m1_put.2.1 24 = .ok (.getfield 33, 3) := by decide +kernel
theorem D1_put_27 : decode m1_put.2.1 27 = .ok (.iload_n 2, 1) := by decide +kernel
theorem D1_put_28 : decode m1_put.2.1 28 = .ok (.iastore, 1) := by decide +kernel
theorem D1_put_29 : decode m1_put.2.1 29 = .ok (.aload_n 0, 1) := by decide +kernel
theorem D1_put_30 : decode m1_put.2.1 30 = .ok (.dup, 1) := by decide +kernel
theorem D1_put_31 : decode m1_put.2.1 31 = .ok (.getfield 33, 3) := by decide +kernel
theorem D1_put_34 : decode m1_put.2.1 34 = .ok (.iconst 1, 1) := by decide +kernel
theorem D1_put_35 : decode m1_put.2.1 35 = .ok (.iadd, 1) := by decide +kernel
theorem D1_put_36 : decode m1_put.2.1 36 = .ok (.putfield 33, 3) := by decide +kernel
theorem D1_put_39 : decode m1_put.2.1 39 = .ok (.return_, 1) := by decide +kernel
theorem D2_init_0 : decode m2_init.2.1 0 = .ok (.aload_n 0, 1) := by decide +kernel
theorem D2_init_1 : decode m2_init.2.1 1 = .ok (.invokespecial 3, 3) := by decide +kernel
theorem D2_init_4 : decode m2_init.2.1 4 = .ok (.aload_n 0, 1) := by decide +kernel
theorem D2_init_5 : decode m2_init.2.1 5 = .ok (.iconst (-1), 1) := by decide +kernel
theorem D2_init_6 : decode m2_init.2.1 6 = .ok (.putfield 9, 3) := by decide +kernel
theorem D2_init_9 : decode m2_init.2.1 9 = .ok (.aload_n 0, 1) := by decide +kernel
theorem D2_init_10 : decode m2_init.2.1 10 = .ok (.aload_n 1, 1) := by decide +kernel
theorem D2_init_11 : decode m2_init.2.1 11 = .ok (.putfield 15, 3) := by decide +kernel
theorem D2_init_14 : decode m2_init.2.1 14 = .ok (.aload_n 0, 1) := by decide +kernel
theorem D2_init_15 : decode m2_init.2.1 15 = .ok (.aload_n 2, 1) := by decide +kernel
theorem D2_init_16 : decode m2_init.2.1 16 = .ok (.putfield 19, 3) := by decide +kernel
theorem D2_init_19 : decode m2_init.2.1 19 = .ok (.return_, 1) := by decide +kernel
theorem D2_read_0 : decode m2_read.2.1 0 = .ok (.aload_n 0, 1) := by decide +kernel
theorem D2_read_1 : decode m2_read.2.1 1 = .ok (.aload_n 1, 1) := by decide +kernel
theorem D2_read_2 : decode m2_read.2.1 2 = .ok (.putfield 19, 3) := by decide +kernel
theorem D2_read_5 : decode m2_read.2.1 5 = .ok (.aload_n 0, 1) := by decide +kernel
theorem D2_read_6 : decode m2_read.2.1 6 = .ok (.getfield 19, 3) := by decide +kernel
theorem D2_read_9 : decode m2_read.2.1 9 = .ok (.invokevirtual 23, 3) := by decide +kernel
theorem D2_read_12 : decode m2_read.2.1 12 = .ok (.aload_n 0, 1) := by decide +kernel
theorem D2_read_13 : decode m2_read.2.1 13 = .ok (.iconst 0, 1) := by decide +kernel
theorem D2_read_14 : decode m2_read.2.1 14 = .ok (.putfield 28, 3) := by decide +kernel
theorem D2_read_17 : decode m2_read.2.1 17 = .ok (.aload_n 0, 1) := by decide +kernel
theorem D2_read_18 : decode m2_read.2.1 18 = .ok (.iconst 0, 1) := by decide +kernel
theorem D2_read_19 : decode m2_read.2.1 19 = .ok (.putfield 32, 3) := by decide +kernel
theorem D2_read_22 : decode m2_read.2.1 22 = .ok (.aload_n 0, 1) := by decide +kernel
theorem D2_read_23 : decode m2_read.2.1 23 = .ok (.iconst 0, 1) := by decide +kernel
theorem D2_read_24 : decode m2_read.2.1 24 = .ok (.putfield 35, 3) := by decide +kernel
theorem D2_read_27 : decode m2_read.2.1 27 = .ok (.aload_n 0, 1) := by decide +kernel
theorem D2_read_28 : decode m2_read.2.1 28 = .ok (.iconst (-1), 1) := by decide +kernel
theorem D2_read_29 : decode m2_read.2.1 29 = .ok (.putfield 9, 3) := by decide +kernel
theorem D2_read_32 : decode m2_read.2.1 32 = .ok (.aload_n 0, 1) := by decide +kernel
theorem D2_read_33 : decode m2_read.2.1 33 = .ok (.iconst 0, 1) := by decide +kernel
theorem D2_read_34 : decode m2_read.2.1 34 = .ok (.putfield 38, 3) := by decide +kernel
theorem D2_read_37 : decode m2_read.2.1 37 = .ok (.iconst 0, 1) := by decide +kernel
theorem D2_read_38 : decode m2_read.2.1 38 = .ok (.istore_n 2, 1) := by decide +kernel
theorem D2_read_39 : decode m2_read.2.1 39 = .ok (.iload_n 2, 1) := by decide +kernel
theorem D2_read_40 : decode m2_read.2.1 40 = .ok (.sipush 700, 3) := by decide +kernel
theorem D2_read_43 : decode m2_read.2.1 43 = .ok (.if_icmp .ge 29, 3) := by decide +kernel
theorem D2_read_46 : decode m2_read.2.1 46 = .ok (.aload_n 0, 1) := by decide +kernel
theorem D2_read_47 : decode m2_read.2.1 47 = .ok (.getfield 35, 3) := by decide +kernel
theorem D2_read_50 : decode m2_read.2.1 50 = .ok (.ifCond .ne 22, 3) := by decide +kernel
theorem D2_read_53 : decode m2_read.2.1 53 = .ok (.aload_n 0, 1) := by decide +kernel
theorem D2_read_54 : decode m2_read.2.1 54 = .ok (.invokevirtual 41, 3) := by decide +kernel
theorem D2_read_57 : decode m2_read.2.1 57 = .ok (.bipush 34, 2) := by decide +kernel
theorem D2_read_59 : decode m2_read.2.1 59 = .ok (.if_icmp .eq 13, 3) := by decide +kernel
theorem D2_read_62 : decode m2_read.2.1 62 = .ok (.aload_n 0, 1) := by decide +kernel
theorem D2_read_63 : decode m2_read.2.1 63 = .ok (.invokevirtual 45, 3) := by decide +kernel
theorem D2_read_66 : decode m2_read.2.1 66 = .ok (.iinc 2 1, 3) := by decide +kernel
theorem D2_read_69 : decode m2_read.2.1 69 = .ok (.goto (-30), 3) := by decide +kernel
theorem D2_read_72 : decode m2_read.2.1 72 = .ok (.aload_n 0, 1) := by decide +kernel
theorem D2_read_73 : decode m2_read.2.1 73 = .ok (.getfield 35, 3) := by decide +kernel
theorem D2_read_76 : decode m2_read.2.1 76 = .ok (.ifCond .ne 7, 3) := by decide +kernel
theorem D2_read_79 : decode m2_read.2.1 79 = .ok (.iload_n 2, 1) := by decide +kernel
theorem D2_read_80 : decode m2_read.2.1 80 = .ok (.goto 4, 3) := by decide +kernel
theorem D2_read_83 : decode m2_read.2.1 83 = .ok (.iconst (-1), 1) := by decide +kernel
theorem D2_read_84 : decode m2_read.2.1 84 = .ok (.ireturn, 1) := by decide +kernel
theorem D2_kind_0 : decode m2_kind.2.1 0 = .ok (.aload_n 0, 1) := by decide +kernel
theorem D2_kind_1 : decode m2_kind.2.1 1 = .ok (.getfield 15, 3) := by decide +kernel
theorem D2_kind_4 : decode m2_kind.2.1 4 = .ok (.getfield 48, 3) := by decide +kernel
theorem D2_kind_7 : decode m2_kind.2.1 7 = .ok (.aload_n 0, 1) := by decide +kernel
theorem D2_kind_8 : decode m2_kind.2.1 8 = .ok (.getfield 38, 3) := by decide +kernel
theorem D2_kind_11 : decode m2_kind.2.1 11 = .ok (.iaload, 1) := by decide +kernel
theorem D2_kind_12 : decode m2_kind.2.1 12 = .ok (.ireturn, 1) := by decide +kernel
theorem D2_value_0 : decode m2_value.2.1 0 = .ok (.aload_n 0, 1) := by decide +kernel
theorem D2_value_1 : decode m2_value.2.1 1 = .ok (.getfield 15, 3) := by decide +kernel
theorem D2_value_4 : decode m2_value.2.1 4 = .ok (.getfield 53, 3) := by decide +kernel
theorem D2_value_7 : decode m2_value.2.1 7 = .ok (.aload_n 0, 1) := by decide +kernel
theorem D2_value_8 : decode m2_value.2.1 8 = .ok (.getfield 38, 3) := by decide +kernel
theorem D2_value_11 : decode m2_value.2.1 11 = .ok (.iaload, 1) := by decide +kernel
theorem D2_value_12 : decode m2_value.2.1 12 = .ok (.ireturn, 1) := by decide +kernel
theorem D2_step_0 : decode m2_step.2.1 0 = .ok (.aload_n 0, 1) := by decide +kernel
theorem D2_step_1 : decode m2_step.2.1 1 = .ok (.invokevirtual 41, 3) := by decide +kernel
theorem D2_step_4 : decode m2_step.2.1 4 = .ok (.bipush 34, 2) := by decide +kernel
theorem D2_step_6 : decode m2_step.2.1 6 = .ok (.if_icmp .eq 13, 3) := by decide +kernel
theorem D2_step_9 : decode m2_step.2.1 9 = .ok (.aload_n 0, 1) := by decide +kernel
theorem D2_step_10 : decode m2_step.2.1 10 = .ok (.dup, 1) := by decide +kernel
theorem D2_step_11 : decode m2_step.2.1 11 = .ok (.getfield 38, 3) := by decide +kernel
theorem D2_step_14 : decode m2_step.2.1 14 = .ok (.iconst 1, 1) := by decide +kernel
theorem D2_step_15 : decode m2_step.2.1 15 = .ok (.iadd, 1) := by decide +kernel
theorem D2_step_16 : decode m2_step.2.1 16 = .ok (.putfield 38, 3) := by decide +kernel
theorem D2_step_19 : decode m2_step.2.1 19 = .ok (.return_, 1) := by decide +kernel
theorem D2_refuse_0 : decode m2_refuse.2.1 0 = .ok (.aload_n 0, 1) := by decide +kernel
theorem D2_refuse_1 : decode m2_refuse.2.1 1 = .ok (.getfield 35, 3) := by decide +kernel
theorem D2_refuse_4 : decode m2_refuse.2.1 4 = .ok (.ifCond .ne 24, 3) := by decide +kernel
theorem D2_refuse_7 : decode m2_refuse.2.1 7 = .ok (.aload_n 0, 1) := by decide +kernel
theorem D2_refuse_8 : decode m2_refuse.2.1 8 = .ok (.iload_n 1, 1) := by decide +kernel
theorem D2_refuse_9 : decode m2_refuse.2.1 9 = .ok (.putfield 35, 3) := by decide +kernel
theorem D2_refuse_12 : decode m2_refuse.2.1 12 = .ok (.aload_n 0, 1) := by decide +kernel
theorem D2_refuse_13 : decode m2_refuse.2.1 13 = .ok (.aload_n 0, 1) := by decide +kernel
theorem D2_refuse_14 : decode m2_refuse.2.1 14 = .ok (.getfield 15, 3) := by decide +kernel
theorem D2_refuse_17 : decode m2_refuse.2.1 17 = .ok (.getfield 56, 3) := by decide +kernel
theorem D2_refuse_20 : decode m2_refuse.2.1 20 = .ok (.aload_n 0, 1) := by decide +kernel
theorem D2_refuse_21 : decode m2_refuse.2.1 21 = .ok (.getfield 38, 3) := by decide +kernel
theorem D2_refuse_24 : decode m2_refuse.2.1 24 = .ok (.iaload, 1) := by decide +kernel
theorem D2_refuse_25 : decode m2_refuse.2.1 25 = .ok (.putfield 9, 3) := by decide +kernel
theorem D2_refuse_28 : decode m2_refuse.2.1 28 = .ok (.return_, 1) := by decide +kernel
theorem D2_readLine_0 : decode m2_readLine.2.1 0 = .ok (.aload_n 0, 1) := by decide +kernel
theorem D2_readLine_1 : decode m2_readLine.2.1 1 = .ok (.invokevirtual 41, 3) := by decide +kernel
theorem D2_readLine_4 : decode m2_readLine.2.1 4 = .ok (.tableswitch 82 0 5 #[40, 47, 54, 61, 68, 75], 40) := by decide +kernel
theorem D2_readLine_44 : decode m2_readLine.2.1 44 = .ok (.aload_n 0, 1) := by decide +kernel
theorem D2_readLine_45 : decode m2_readLine.2.1 45 = .ok (.invokevirtual 59, 3) := by decide +kernel
theorem D2_readLine_48 : decode m2_readLine.2.1 48 = .ok (.goto 43, 3) := by decide +kernel
theorem D2_readLine_51 : decode m2_readLine.2.1 51 = .ok (.aload_n 0, 1) := by decide +kernel
theorem D2_readLine_52 : decode m2_readLine.2.1 52 = .ok (.invokevirtual 62, 3) := by decide +kernel
theorem D2_readLine_55 : decode m2_readLine.2.1 55 = .ok (.goto 36, 3) := by decide +kernel
theorem D2_readLine_58 : decode m2_readLine.2.1 58 = .ok (.aload_n 0, 1) := by decide +kernel
theorem D2_readLine_59 : decode m2_readLine.2.1 59 = .ok (.invokevirtual 65, 3) := by decide +kernel
theorem D2_readLine_62 : decode m2_readLine.2.1 62 = .ok (.goto 29, 3) := by decide +kernel
theorem D2_readLine_65 : decode m2_readLine.2.1 65 = .ok (.aload_n 0, 1) := by decide +kernel
theorem D2_readLine_66 : decode m2_readLine.2.1 66 = .ok (.invokevirtual 68, 3) := by decide +kernel
theorem D2_readLine_69 : decode m2_readLine.2.1 69 = .ok (.goto 22, 3) := by decide +kernel
theorem D2_readLine_72 : decode m2_readLine.2.1 72 = .ok (.aload_n 0, 1) := by decide +kernel
theorem D2_readLine_73 : decode m2_readLine.2.1 73 = .ok (.invokevirtual 71, 3) := by decide +kernel
theorem D2_readLine_76 : decode m2_readLine.2.1 76 = .ok (.goto 15, 3) := by decide +kernel
theorem D2_readLine_79 : decode m2_readLine.2.1 79 = .ok (.aload_n 0, 1) := by decide +kernel
theorem D2_readLine_80 : decode m2_readLine.2.1 80 = .ok (.invokevirtual 74, 3) := by decide +kernel
theorem D2_readLine_83 : decode m2_readLine.2.1 83 = .ok (.goto 8, 3) := by decide +kernel
theorem D2_readLine_86 : decode m2_readLine.2.1 86 = .ok (.aload_n 0, 1) := by decide +kernel
theorem D2_readLine_87 : decode m2_readLine.2.1 87 = .ok (.iconst 1, 1) := by decide +kernel
theorem D2_readLine_88 : decode m2_readLine.2.1 88 = .ok (.invokevirtual 77, 3) := by decide +kernel
theorem D2_readLine_91 : decode m2_readLine.2.1 91 = .ok (.aload_n 0, 1) := by decide +kernel
theorem D2_readLine_92 : decode m2_readLine.2.1 92 = .ok (.bipush 31, 2) := by decide +kernel
theorem D2_readLine_94 : decode m2_readLine.2.1 94 = .ok (.invokevirtual 81, 3) := by decide +kernel
theorem D2_readLine_97 : decode m2_readLine.2.1 97 = .ok (.return_, 1) := by decide +kernel
theorem D2_readMan_0 : decode m2_readMan.2.1 0 = .ok (.aload_n 0, 1) := by decide +kernel
theorem D2_readMan_1 : decode m2_readMan.2.1 1 = .ok (.getfield 19, 3) := by decide +kernel
theorem D2_readMan_4 : decode m2_readMan.2.1 4 = .ok (.getfield 84, 3) := by decide +kernel
theorem D2_readMan_7 : decode m2_readMan.2.1 7 = .ok (.istore_n 1, 1) := by decide +kernel
theorem D2_readMan_8 : decode m2_readMan.2.1 8 = .ok (.iload_n 1, 1) := by decide +kernel
theorem D2_readMan_9 : decode m2_readMan.2.1 9 = .ok (.iconst 5, 1) := by decide +kernel
theorem D2_readMan_10 : decode m2_readMan.2.1 10 = .ok (.if_icmp .lt 9, 3) := by decide +kernel
theorem D2_readMan_13 : decode m2_readMan.2.1 13 = .ok (.aload_n 0, 1) := by decide +kernel
theorem D2_readMan_14 : decode m2_readMan.2.1 14 = .ok (.iconst 2, 1) := by decide +kernel
theorem D2_readMan_15 : decode m2_readMan.2.1 15 = .ok (.invokevirtual 77, 3) := by decide +kernel
theorem D2_readMan_18 : decode m2_readMan.2.1 18 = .ok (.return_, 1) := by decide +kernel
theorem D2_readMan_19 : decode m2_readMan.2.1 19 = .ok (.aload_n 0, 1) := by decide +kernel
theorem D2_readMan_20 : decode m2_readMan.2.1 20 = .ok (.invokevirtual 87, 3) := by decide +kernel
theorem D2_readMan_23 : decode m2_readMan.2.1 23 = .ok (.aload_n 0, 1) := by decide +kernel
theorem D2_readMan_24 : decode m2_readMan.2.1 24 = .ok (.getfield 19, 3) := by decide +kernel
theorem D2_readMan_27 : decode m2_readMan.2.1 27 = .ok (.getfield 90, 3) := by decide +kernel
theorem D2_readMan_30 : decode m2_readMan.2.1 30 = .ok (.iload_n 1, 1) := by decide +kernel
theorem D2_readMan_31 : decode m2_readMan.2.1 31 = .ok (.aload_n 0, 1) := by decide +kernel
theorem D2_readMan_32 : decode m2_readMan.2.1 32 = .ok (.aload_n 0, 1) := by decide +kernel
theorem D2_readMan_33 : decode m2_readMan.2.1 33 = .ok (.getfield 19, 3) := by decide +kernel
theorem D2_readMan_36 : decode m2_readMan.2.1 36 = .ok (.aload_n 0, 1) := by decide +kernel
theorem D2_readMan_37 : decode m2_readMan.2.1 37 = .ok (.invokevirtual 93, 3) := by decide +kernel
theorem D2_readMan_40 : decode m2_readMan.2.1 40 = .ok (.invokevirtual 95, 3) := by decide +kernel
theorem D2_readMan_43 : decode m2_readMan.2.1 43 = .ok (.invokevirtual 99, 3) := by decide +kernel
theorem D2_readMan_46 : decode m2_readMan.2.1 46 = .ok (.iastore, 1) := by decide +kernel
theorem D2_readMan_47 : decode m2_readMan.2.1 47 = .ok (.aload_n 0, 1) := by decide +kernel
theorem D2_readMan_48 : decode m2_readMan.2.1 48 = .ok (.getfield 19, 3) := by decide +kernel
theorem D2_readMan_51 : decode m2_readMan.2.1 51 = .ok (.getfield 102, 3) := by decide +kernel
theorem D2_readMan_54 : decode m2_readMan.2.1 54 = .ok (.iload_n 1, 1) := by decide +kernel
theorem D2_readMan_55 : decode m2_readMan.2.1 55 = .ok (.aload_n 0, 1) := by decide +kernel
theorem D2_readMan_56 : decode m2_readMan.2.1 56 = .ok (.iconst 0, 1) := by decide +kernel
theorem D2_readMan_57 : decode m2_readMan.2.1 57 = .ok (.bipush 9, 2) := by decide +kernel
theorem D2_readMan_59 : decode m2_readMan.2.1 59 = .ok (.invokevirtual 105, 3) := by decide +kernel
theorem D2_readMan_62 : decode m2_readMan.2.1 62 = .ok (.iastore, 1) := by decide +kernel
theorem D2_readMan_63 : decode m2_readMan.2.1 63 = .ok (.aload_n 0, 1) := by decide +kernel
theorem D2_readMan_64 : decode m2_readMan.2.1 64 = .ok (.getfield 19, 3) := by decide +kernel
theorem D2_readMan_67 : decode m2_readMan.2.1 67 = .ok (.dup, 1) := by decide +kernel
theorem D2_readMan_68 : decode m2_readMan.2.1 68 = .ok (.getfield 84, 3) := by decide +kernel
theorem D2_readMan_71 : decode m2_readMan.2.1 71 = .ok (.iconst 1, 1) := by decide +kernel
theorem D2_readMan_72 : decode m2_readMan.2.1 72 = .ok (.iadd, 1) := by decide +kernel
theorem D2_readMan_73 : decode m2_readMan.2.1 73 = .ok (.putfield 84, 3) := by decide +kernel
theorem D2_readMan_76 : decode m2_readMan.2.1 76 = .ok (.return_, 1) := by decide +kernel
theorem D2_readBottle_0 : decode m2_readBottle.2.1 0 = .ok (.aload_n 0, 1) := by decide +kernel
theorem D2_readBottle_1 : decode m2_readBottle.2.1 1 = .ok (.getfield 19, 3) := by decide +kernel
theorem D2_readBottle_4 : decode m2_readBottle.2.1 4 = .ok (.getfield 109, 3) := by decide +kernel
theorem D2_readBottle_7 : decode m2_readBottle.2.1 7 = .ok (.istore_n 1, 1) := by decide +kernel
theorem D2_readBottle_8 : decode m2_readBottle.2.1 8 = .ok (.iload_n 1, 1) := by decide +kernel
theorem D2_readBottle_9 : decode m2_readBottle.2.1 9 = .ok (.bipush 10, 2) := by decide +kernel
theorem D2_readBottle_11 : decode m2_readBottle.2.1 11 = .ok (.if_icmp .lt 9, 3) := by decide +kernel
theorem D2_readBottle_14 : decode m2_readBottle.2.1 14 = .ok (.aload_n 0, 1) := by decide +kernel
theorem D2_readBottle_15 : decode m2_readBottle.2.1 15 = .ok (.iconst 2, 1) := by decide +kernel
theorem D2_readBottle_16 : decode m2_readBottle.2.1 16 = .ok (.invokevirtual 77, 3) := by decide +kernel
theorem D2_readBottle_19 : decode m2_readBottle.2.1 19 = .ok (.return_, 1) := by decide +kernel
theorem D2_readBottle_20 : decode m2_readBottle.2.1 20 = .ok (.aload_n 0, 1) := by decide +kernel
theorem D2_readBottle_21 : decode m2_readBottle.2.1 21 = .ok (.invokevirtual 87, 3) := by decide +kernel
theorem D2_readBottle_24 : decode m2_readBottle.2.1 24 = .ok (.aload_n 0, 1) := by decide +kernel
theorem D2_readBottle_25 : decode m2_readBottle.2.1 25 = .ok (.getfield 19, 3) := by decide +kernel
theorem D2_readBottle_28 : decode m2_readBottle.2.1 28 = .ok (.getfield 112, 3) := by decide +kernel
theorem D2_readBottle_31 : decode m2_readBottle.2.1 31 = .ok (.iload_n 1, 1) := by decide +kernel
theorem D2_readBottle_32 : decode m2_readBottle.2.1 32 = .ok (.aload_n 0, 1) := by decide +kernel
theorem D2_readBottle_33 : decode m2_readBottle.2.1 33 = .ok (.aload_n 0, 1) := by decide +kernel
theorem D2_readBottle_34 : decode m2_readBottle.2.1 34 = .ok (.getfield 19, 3) := by decide +kernel
theorem D2_readBottle_37 : decode m2_readBottle.2.1 37 = .ok (.aload_n 0, 1) := by decide +kernel
theorem D2_readBottle_38 : decode m2_readBottle.2.1 38 = .ok (.invokevirtual 93, 3) := by decide +kernel
theorem D2_readBottle_41 : decode m2_readBottle.2.1 41 = .ok (.invokevirtual 115, 3) := by decide +kernel
theorem D2_readBottle_44 : decode m2_readBottle.2.1 44 = .ok (.invokevirtual 99, 3) := by decide +kernel
theorem D2_readBottle_47 : decode m2_readBottle.2.1 47 = .ok (.iastore, 1) := by decide +kernel
theorem D2_readBottle_48 : decode m2_readBottle.2.1 48 = .ok (.aload_n 0, 1) := by decide +kernel
theorem D2_readBottle_49 : decode m2_readBottle.2.1 49 = .ok (.getfield 19, 3) := by decide +kernel
theorem D2_readBottle_52 : decode m2_readBottle.2.1 52 = .ok (.getfield 118, 3) := by decide +kernel
theorem D2_readBottle_55 : decode m2_readBottle.2.1 55 = .ok (.iload_n 1, 1) := by decide +kernel
theorem D2_readBottle_56 : decode m2_readBottle.2.1 56 = .ok (.aload_n 0, 1) := by decide +kernel
theorem D2_readBottle_57 : decode m2_readBottle.2.1 57 = .ok (.iconst (-1), 1) := by decide +kernel
theorem D2_readBottle_58 : decode m2_readBottle.2.1 58 = .ok (.invokevirtual 121, 3) := by decide +kernel
theorem D2_readBottle_61 : decode m2_readBottle.2.1 61 = .ok (.iastore, 1) := by decide +kernel
theorem D2_readBottle_62 : decode m2_readBottle.2.1 62 = .ok (.aload_n 0, 1) := by decide +kernel
theorem D2_readBottle_63 : decode m2_readBottle.2.1 63 = .ok (.getfield 19, 3) := by decide +kernel
theorem D2_readBottle_66 : decode m2_readBottle.2.1 66 = .ok (.getfield 124, 3) := by decide +kernel
theorem D2_readBottle_69 : decode m2_readBottle.2.1 69 = .ok (.iload_n 1, 1) := by decide +kernel
theorem D2_readBottle_70 : decode m2_readBottle.2.1 70 = .ok (.aload_n 0, 1) := by decide +kernel
theorem D2_readBottle_71 : decode m2_readBottle.2.1 71 = .ok (.aload_n 0, 1) := by decide +kernel
theorem D2_readBottle_72 : decode m2_readBottle.2.1 72 = .ok (.getfield 19, 3) := by decide +kernel
theorem D2_readBottle_75 : decode m2_readBottle.2.1 75 = .ok (.getfield 118, 3) := by decide +kernel
theorem D2_readBottle_78 : decode m2_readBottle.2.1 78 = .ok (.iload_n 1, 1) := by decide +kernel
theorem D2_readBottle_79 : decode m2_readBottle.2.1 79 = .ok (.iaload, 1) := by decide +kernel
theorem D2_readBottle_80 : decode m2_readBottle.2.1 80 = .ok (.invokevirtual 121, 3) := by decide +kernel
theorem D2_readBottle_83 : decode m2_readBottle.2.1 83 = .ok (.iastore, 1) := by decide +kernel
theorem D2_readBottle_84 : decode m2_readBottle.2.1 84 = .ok (.aload_n 0, 1) := by decide +kernel
theorem D2_readBottle_85 : decode m2_readBottle.2.1 85 = .ok (.getfield 19, 3) := by decide +kernel
theorem D2_readBottle_88 : decode m2_readBottle.2.1 88 = .ok (.getfield 127, 3) := by decide +kernel
theorem D2_readBottle_91 : decode m2_readBottle.2.1 91 = .ok (.iload_n 1, 1) := by decide +kernel
theorem D2_readBottle_92 : decode m2_readBottle.2.1 92 = .ok (.aload_n 0, 1) := by decide +kernel
theorem D2_readBottle_93 : decode m2_readBottle.2.1 93 = .ok (.iconst 0, 1) := by decide +kernel
theorem D2_readBottle_94 : decode m2_readBottle.2.1 94 = .ok (.iconst 5, 1) := by decide +kernel
theorem D2_readBottle_95 : decode m2_readBottle.2.1 95 = .ok (.invokevirtual 105, 3) := by decide +kernel
theorem D2_readBottle_98 : decode m2_readBottle.2.1 98 = .ok (.iastore, 1) := by decide +kernel
theorem D2_readBottle_99 : decode m2_readBottle.2.1 99 = .ok (.aload_n 0, 1) := by decide +kernel
theorem D2_readBottle_100 : decode m2_readBottle.2.1 100 = .ok (.getfield 19, 3) := by decide +kernel
theorem D2_readBottle_103 : decode m2_readBottle.2.1 103 = .ok (.getfield 130, 3) := by decide +kernel
theorem D2_readBottle_106 : decode m2_readBottle.2.1 106 = .ok (.iload_n 1, 1) := by decide +kernel
theorem D2_readBottle_107 : decode m2_readBottle.2.1 107 = .ok (.aload_n 0, 1) := by decide +kernel
theorem D2_readBottle_108 : decode m2_readBottle.2.1 108 = .ok (.iconst 1, 1) := by decide +kernel
theorem D2_readBottle_109 : decode m2_readBottle.2.1 109 = .ok (.bipush 99, 2) := by decide +kernel
theorem D2_readBottle_111 : decode m2_readBottle.2.1 111 = .ok (.invokevirtual 105, 3) := by decide +kernel
theorem D2_readBottle_114 : decode m2_readBottle.2.1 114 = .ok (.iastore, 1) := by decide +kernel
theorem D2_readBottle_115 : decode m2_readBottle.2.1 115 = .ok (.aload_n 0, 1) := by decide +kernel
theorem D2_readBottle_116 : decode m2_readBottle.2.1 116 = .ok (.getfield 19, 3) := by decide +kernel
theorem D2_readBottle_119 : decode m2_readBottle.2.1 119 = .ok (.getfield 133, 3) := by decide +kernel
theorem D2_readBottle_122 : decode m2_readBottle.2.1 122 = .ok (.iload_n 1, 1) := by decide +kernel
theorem D2_readBottle_123 : decode m2_readBottle.2.1 123 = .ok (.aload_n 0, 1) := by decide +kernel
theorem D2_readBottle_124 : decode m2_readBottle.2.1 124 = .ok (.iconst 1, 1) := by decide +kernel
theorem D2_readBottle_125 : decode m2_readBottle.2.1 125 = .ok (.bipush 9, 2) := by decide +kernel
theorem D2_readBottle_127 : decode m2_readBottle.2.1 127 = .ok (.invokevirtual 105, 3) := by decide +kernel
theorem D2_readBottle_130 : decode m2_readBottle.2.1 130 = .ok (.iastore, 1) := by decide +kernel
theorem D2_readBottle_131 : decode m2_readBottle.2.1 131 = .ok (.aload_n 0, 1) := by decide +kernel
theorem D2_readBottle_132 : decode m2_readBottle.2.1 132 = .ok (.getfield 19, 3) := by decide +kernel
theorem D2_readBottle_135 : decode m2_readBottle.2.1 135 = .ok (.dup, 1) := by decide +kernel
theorem D2_readBottle_136 : decode m2_readBottle.2.1 136 = .ok (.getfield 109, 3) := by decide +kernel
theorem D2_readBottle_139 : decode m2_readBottle.2.1 139 = .ok (.iconst 1, 1) := by decide +kernel
theorem D2_readBottle_140 : decode m2_readBottle.2.1 140 = .ok (.iadd, 1) := by decide +kernel
theorem D2_readBottle_141 : decode m2_readBottle.2.1 141 = .ok (.putfield 109, 3) := by decide +kernel
theorem D2_readBottle_144 : decode m2_readBottle.2.1 144 = .ok (.return_, 1) := by decide +kernel
theorem D2_readNeed_0 : decode m2_readNeed.2.1 0 = .ok (.aload_n 0, 1) := by decide +kernel
theorem D2_readNeed_1 : decode m2_readNeed.2.1 1 = .ok (.getfield 19, 3) := by decide +kernel
theorem D2_readNeed_4 : decode m2_readNeed.2.1 4 = .ok (.getfield 136, 3) := by decide +kernel
theorem D2_readNeed_7 : decode m2_readNeed.2.1 7 = .ok (.istore_n 1, 1) := by decide +kernel
theorem D2_readNeed_8 : decode m2_readNeed.2.1 8 = .ok (.iload_n 1, 1) := by decide +kernel
theorem D2_readNeed_9 : decode m2_readNeed.2.1 9 = .ok (.bipush 8, 2) := by decide +kernel
theorem D2_readNeed_11 : decode m2_readNeed.2.1 11 = .ok (.if_icmp .lt 9, 3) := by decide +kernel
theorem D2_readNeed_14 : decode m2_readNeed.2.1 14 = .ok (.aload_n 0, 1) := by decide +kernel
theorem D2_readNeed_15 : decode m2_readNeed.2.1 15 = .ok (.iconst 2, 1) := by decide +kernel
theorem D2_readNeed_16 : decode m2_readNeed.2.1 16 = .ok (.invokevirtual 77, 3) := by decide +kernel
theorem D2_readNeed_19 : decode m2_readNeed.2.1 19 = .ok (.return_, 1) := by decide +kernel
theorem D2_readNeed_20 : decode m2_readNeed.2.1 20 = .ok (.aload_n 0, 1) := by decide +kernel
theorem D2_readNeed_21 : decode m2_readNeed.2.1 21 = .ok (.invokevirtual 87, 3) := by decide +kernel
theorem D2_readNeed_24 : decode m2_readNeed.2.1 24 = .ok (.aload_n 0, 1) := by decide +kernel
theorem D2_readNeed_25 : decode m2_readNeed.2.1 25 = .ok (.getfield 19, 3) := by decide +kernel
theorem D2_readNeed_28 : decode m2_readNeed.2.1 28 = .ok (.getfield 139, 3) := by decide +kernel
theorem D2_readNeed_31 : decode m2_readNeed.2.1 31 = .ok (.iload_n 1, 1) := by decide +kernel
theorem D2_readNeed_32 : decode m2_readNeed.2.1 32 = .ok (.aload_n 0, 1) := by decide +kernel
theorem D2_readNeed_33 : decode m2_readNeed.2.1 33 = .ok (.iconst (-1), 1) := by decide +kernel
theorem D2_readNeed_34 : decode m2_readNeed.2.1 34 = .ok (.invokevirtual 121, 3) := by decide +kernel
theorem D2_readNeed_37 : decode m2_readNeed.2.1 37 = .ok (.iastore, 1) := by decide +kernel
theorem D2_readNeed_38 : decode m2_readNeed.2.1 38 = .ok (.aload_n 0, 1) := by decide +kernel
theorem D2_readNeed_39 : decode m2_readNeed.2.1 39 = .ok (.getfield 19, 3) := by decide +kernel
theorem D2_readNeed_42 : decode m2_readNeed.2.1 42 = .ok (.getfield 142, 3) := by decide +kernel
theorem D2_readNeed_45 : decode m2_readNeed.2.1 45 = .ok (.iload_n 1, 1) := by decide +kernel
theorem D2_readNeed_46 : decode m2_readNeed.2.1 46 = .ok (.aload_n 0, 1) := by decide +kernel
theorem D2_readNeed_47 : decode m2_readNeed.2.1 47 = .ok (.iconst 0, 1) := by decide +kernel
theorem D2_readNeed_48 : decode m2_readNeed.2.1 48 = .ok (.bipush 99, 2) := by decide +kernel
theorem D2_readNeed_50 : decode m2_readNeed.2.1 50 = .ok (.invokevirtual 105, 3) := by decide +kernel
theorem D2_readNeed_53 : decode m2_readNeed.2.1 53 = .ok (.iastore, 1) := by decide +kernel
theorem D2_readNeed_54 : decode m2_readNeed.2.1 54 = .ok (.aload_n 0, 1) := by decide +kernel
theorem D2_readNeed_55 : decode m2_readNeed.2.1 55 = .ok (.getfield 19, 3) := by decide +kernel
theorem D2_readNeed_58 : decode m2_readNeed.2.1 58 = .ok (.getfield 145, 3) := by decide +kernel
theorem D2_readNeed_61 : decode m2_readNeed.2.1 61 = .ok (.iload_n 1, 1) := by decide +kernel
theorem D2_readNeed_62 : decode m2_readNeed.2.1 62 = .ok (.aload_n 0, 1) := by decide +kernel
theorem D2_readNeed_63 : decode m2_readNeed.2.1 63 = .ok (.iconst 0, 1) := by decide +kernel
theorem D2_readNeed_64 : decode m2_readNeed.2.1 64 = .ok (.sipush 199, 3) := by decide +kernel
theorem D2_readNeed_67 : decode m2_readNeed.2.1 67 = .ok (.invokevirtual 105, 3) := by decide +kernel
theorem D2_readNeed_70 : decode m2_readNeed.2.1 70 = .ok (.iastore, 1) := by decide +kernel
theorem D2_readNeed_71 : decode m2_readNeed.2.1 71 = .ok (.aload_n 0, 1) := by decide +kernel
theorem D2_readNeed_72 : decode m2_readNeed.2.1 72 = .ok (.getfield 19, 3) := by decide +kernel
theorem D2_readNeed_75 : decode m2_readNeed.2.1 75 = .ok (.getfield 148, 3) := by decide +kernel
theorem D2_readNeed_78 : decode m2_readNeed.2.1 78 = .ok (.iload_n 1, 1) := by decide +kernel
theorem D2_readNeed_79 : decode m2_readNeed.2.1 79 = .ok (.aload_n 0, 1) := by decide +kernel
theorem D2_readNeed_80 : decode m2_readNeed.2.1 80 = .ok (.aload_n 0, 1) := by decide +kernel
theorem D2_readNeed_81 : decode m2_readNeed.2.1 81 = .ok (.getfield 19, 3) := by decide +kernel
theorem D2_readNeed_84 : decode m2_readNeed.2.1 84 = .ok (.getfield 145, 3) := by decide +kernel
theorem D2_readNeed_87 : decode m2_readNeed.2.1 87 = .ok (.iload_n 1, 1) := by decide +kernel
theorem D2_readNeed_88 : decode m2_readNeed.2.1 88 = .ok (.iaload, 1) := by decide +kernel
theorem D2_readNeed_89 : decode m2_readNeed.2.1 89 = .ok (.sipush 199, 3) := by decide +kernel
theorem D2_readNeed_92 : decode m2_readNeed.2.1 92 = .ok (.invokevirtual 105, 3) := by decide +kernel
theorem D2_readNeed_95 : decode m2_readNeed.2.1 95 = .ok (.iastore, 1) := by decide +kernel
theorem D2_readNeed_96 : decode m2_readNeed.2.1 96 = .ok (.aload_n 0, 1) := by decide +kernel
theorem D2_readNeed_97 : decode m2_readNeed.2.1 97 = .ok (.getfield 19, 3) := by decide +kernel
theorem D2_readNeed_100 : decode m2_readNeed.2.1 100 = .ok (.dup, 1) := by decide +kernel
theorem D2_readNeed_101 : decode m2_readNeed.2.1 101 = .ok (.getfield 136, 3) := by decide +kernel
theorem D2_readNeed_104 : decode m2_readNeed.2.1 104 = .ok (.iconst 1, 1) := by decide +kernel
theorem D2_readNeed_105 : decode m2_readNeed.2.1 105 = .ok (.iadd, 1) := by decide +kernel
theorem D2_readNeed_106 : decode m2_readNeed.2.1 106 = .ok (.putfield 136, 3) := by decide +kernel
theorem D2_readNeed_109 : decode m2_readNeed.2.1 109 = .ok (.return_, 1) := by decide +kernel
theorem D2_readThunder_0 : decode m2_readThunder.2.1 0 = .ok (.aload_n 0, 1) := by decide +kernel
theorem D2_readThunder_1 : decode m2_readThunder.2.1 1 = .ok (.getfield 28, 3) := by decide +kernel
theorem D2_readThunder_4 : decode m2_readThunder.2.1 4 = .ok (.ifCond .eq 9, 3) := by decide +kernel
theorem D2_readThunder_7 : decode m2_readThunder.2.1 7 = .ok (.aload_n 0, 1) := by decide +kernel
theorem D2_readThunder_8 : decode m2_readThunder.2.1 8 = .ok (.iconst 3, 1) := by decide +kernel
theorem D2_readThunder_9 : decode m2_readThunder.2.1 9 = .ok (.invokevirtual 77, 3) := by decide +kernel
theorem D2_readThunder_12 : decode m2_readThunder.2.1 12 = .ok (.return_, 1) := by decide +kernel
theorem D2_readThunder_13 : decode m2_readThunder.2.1 13 = .ok (.aload_n 0, 1) := by decide +kernel
theorem D2_readThunder_14 : decode m2_readThunder.2.1 14 = .ok (.iconst 1, 1) := by decide +kernel
theorem D2_readThunder_15 : decode m2_readThunder.2.1 15 = .ok (.putfield 28, 3) := by decide +kernel
theorem D2_readThunder_18 : decode m2_readThunder.2.1 18 = .ok (.aload_n 0, 1) := by decide +kernel
theorem D2_readThunder_19 : decode m2_readThunder.2.1 19 = .ok (.invokevirtual 87, 3) := by decide +kernel
theorem D2_readThunder_22 : decode m2_readThunder.2.1 22 = .ok (.aload_n 0, 1) := by decide +kernel
theorem D2_readThunder_23 : decode m2_readThunder.2.1 23 = .ok (.getfield 19, 3) := by decide +kernel
theorem D2_readThunder_26 : decode m2_readThunder.2.1 26 = .ok (.aload_n 0, 1) := by decide +kernel
theorem D2_readThunder_27 : decode m2_readThunder.2.1 27 = .ok (.iconst 0, 1) := by decide +kernel
theorem D2_readThunder_28 : decode m2_readThunder.2.1 28 = .ok (.bipush 100, 2) := by decide +kernel
theorem D2_readThunder_30 : decode m2_readThunder.2.1 30 = .ok (.invokevirtual 105, 3) := by decide +kernel
theorem D2_readThunder_33 : decode m2_readThunder.2.1 33 = .ok (.putfield 151, 3) := by decide +kernel
theorem D2_readThunder_36 : decode m2_readThunder.2.1 36 = .ok (.return_, 1) := by decide +kernel
theorem D2_readSeed_0 : decode m2_readSeed.2.1 0 = .ok (.aload_n 0, 1) := by decide +kernel
theorem D2_readSeed_1 : decode m2_readSeed.2.1 1 = .ok (.getfield 32, 3) := by decide +kernel
theorem D2_readSeed_4 : decode m2_readSeed.2.1 4 = .ok (.ifCond .eq 9, 3) := by decide +kernel
theorem D2_readSeed_7 : decode m2_readSeed.2.1 7 = .ok (.aload_n 0, 1) := by decide +kernel
theorem D2_readSeed_8 : decode m2_readSeed.2.1 8 = .ok (.iconst 3, 1) := by decide +kernel
theorem D2_readSeed_9 : decode m2_readSeed.2.1 9 = .ok (.invokevirtual 77, 3) := by decide +kernel
theorem D2_readSeed_12 : decode m2_readSeed.2.1 12 = .ok (.return_, 1) := by decide +kernel
theorem D2_readSeed_13 : decode m2_readSeed.2.1 13 = .ok (.aload_n 0, 1) := by decide +kernel
theorem D2_readSeed_14 : decode m2_readSeed.2.1 14 = .ok (.iconst 1, 1) := by decide +kernel
theorem D2_readSeed_15 : decode m2_readSeed.2.1 15 = .ok (.putfield 32, 3) := by decide +kernel
theorem D2_readSeed_18 : decode m2_readSeed.2.1 18 = .ok (.aload_n 0, 1) := by decide +kernel
theorem D2_readSeed_19 : decode m2_readSeed.2.1 19 = .ok (.invokevirtual 87, 3) := by decide +kernel
theorem D2_readSeed_22 : decode m2_readSeed.2.1 22 = .ok (.aload_n 0, 1) := by decide +kernel
theorem D2_readSeed_23 : decode m2_readSeed.2.1 23 = .ok (.getfield 19, 3) := by decide +kernel
theorem D2_readSeed_26 : decode m2_readSeed.2.1 26 = .ok (.aload_n 0, 1) := by decide +kernel
theorem D2_readSeed_27 : decode m2_readSeed.2.1 27 = .ok (.iconst 0, 1) := by decide +kernel
theorem D2_readSeed_28 : decode m2_readSeed.2.1 28 = .ok (.ldc 154, 2) := by decide +kernel
theorem D2_readSeed_30 : decode m2_readSeed.2.1 30 = .ok (.invokevirtual 105, 3) := by decide +kernel
theorem D2_readSeed_33 : decode m2_readSeed.2.1 33 = .ok (.putfield 155, 3) := by decide +kernel
theorem D2_readSeed_36 : decode m2_readSeed.2.1 36 = .ok (.return_, 1) := by decide +kernel
theorem D2_readLaw_0 : decode m2_readLaw.2.1 0 = .ok (.aload_n 0, 1) := by decide +kernel
theorem D2_readLaw_1 : decode m2_readLaw.2.1 1 = .ok (.invokevirtual 87, 3) := by decide +kernel
theorem D2_readLaw_4 : decode m2_readLaw.2.1 4 = .ok (.aload_n 0, 1) := by decide +kernel
theorem D2_readLaw_5 : decode m2_readLaw.2.1 5 = .ok (.invokevirtual 41, 3) := by decide +kernel
theorem D2_readLaw_8 : decode m2_readLaw.2.1 8 = .ok (.bipush 6, 2) := by decide +kernel
theorem D2_readLaw_10 : decode m2_readLaw.2.1 10 = .ok (.bipush 8, 2) := by decide +kernel
theorem D2_readLaw_12 : decode m2_readLaw.2.1 12 = .ok (.invokestatic 158, 3) := by decide +kernel
theorem D2_readLaw_15 : decode m2_readLaw.2.1 15 = .ok (.ifCond .ne 9, 3) := by decide +kernel
theorem D2_readLaw_18 : decode m2_readLaw.2.1 18 = .ok (.aload_n 0, 1) := by decide +kernel
theorem D2_readLaw_19 : decode m2_readLaw.2.1 19 = .ok (.iconst 1, 1) := by decide +kernel
theorem D2_readLaw_20 : decode m2_readLaw.2.1 20 = .ok (.invokevirtual 77, 3) := by decide +kernel
theorem D2_readLaw_23 : decode m2_readLaw.2.1 23 = .ok (.return_, 1) := by decide +kernel
theorem D2_readLaw_24 : decode m2_readLaw.2.1 24 = .ok (.aload_n 0, 1) := by decide +kernel
theorem D2_readLaw_25 : decode m2_readLaw.2.1 25 = .ok (.invokevirtual 41, 3) := by decide +kernel
theorem D2_readLaw_28 : decode m2_readLaw.2.1 28 = .ok (.bipush 6, 2) := by decide +kernel
theorem D2_readLaw_30 : decode m2_readLaw.2.1 30 = .ok (.isub, 1) := by decide +kernel
theorem D2_readLaw_31 : decode m2_readLaw.2.1 31 = .ok (.istore_n 1, 1) := by decide +kernel
theorem D2_readLaw_32 : decode m2_readLaw.2.1 32 = .ok (.aload_n 0, 1) := by decide +kernel
theorem D2_readLaw_33 : decode m2_readLaw.2.1 33 = .ok (.getfield 19, 3) := by decide +kernel
theorem D2_readLaw_36 : decode m2_readLaw.2.1 36 = .ok (.getfield 162, 3) := by decide +kernel
theorem D2_readLaw_39 : decode m2_readLaw.2.1 39 = .ok (.iload_n 1, 1) := by decide +kernel
theorem D2_readLaw_40 : decode m2_readLaw.2.1 40 = .ok (.invokevirtual 166, 3) := by decide +kernel
theorem D2_readLaw_43 : decode m2_readLaw.2.1 43 = .ok (.ifCond .eq 9, 3) := by decide +kernel
theorem D2_readLaw_46 : decode m2_readLaw.2.1 46 = .ok (.aload_n 0, 1) := by decide +kernel
theorem D2_readLaw_47 : decode m2_readLaw.2.1 47 = .ok (.iconst 3, 1) := by decide +kernel
theorem D2_readLaw_48 : decode m2_readLaw.2.1 48 = .ok (.invokevirtual 77, 3) := by decide +kernel
theorem D2_readLaw_51 : decode m2_readLaw.2.1 51 = .ok (.return_, 1) := by decide +kernel
theorem D2_readLaw_52 : decode m2_readLaw.2.1 52 = .ok (.aload_n 0, 1) := by decide +kernel
theorem D2_readLaw_53 : decode m2_readLaw.2.1 53 = .ok (.invokevirtual 87, 3) := by decide +kernel
theorem D2_readLaw_56 : decode m2_readLaw.2.1 56 = .ok (.aload_n 0, 1) := by decide +kernel
theorem D2_readLaw_57 : decode m2_readLaw.2.1 57 = .ok (.getfield 19, 3) := by decide +kernel
theorem D2_readLaw_60 : decode m2_readLaw.2.1 60 = .ok (.getfield 162, 3) := by decide +kernel
theorem D2_readLaw_63 : decode m2_readLaw.2.1 63 = .ok (.getfield 172, 3) := by decide +kernel
theorem D2_readLaw_66 : decode m2_readLaw.2.1 66 = .ok (.iload_n 1, 1) := by decide +kernel
theorem D2_readLaw_67 : decode m2_readLaw.2.1 67 = .ok (.aload_n 0, 1) := by decide +kernel
theorem D2_readLaw_68 : decode m2_readLaw.2.1 68 = .ok (.getfield 19, 3) := by decide +kernel
theorem D2_readLaw_71 : decode m2_readLaw.2.1 71 = .ok (.getfield 162, 3) := by decide +kernel
theorem D2_readLaw_74 : decode m2_readLaw.2.1 74 = .ok (.getfield 175, 3) := by decide +kernel
theorem D2_readLaw_77 : decode m2_readLaw.2.1 77 = .ok (.iastore, 1) := by decide +kernel
theorem D2_readLaw_78 : decode m2_readLaw.2.1 78 = .ok (.aload_n 0, 1) := by decide +kernel
theorem D2_readLaw_79 : decode m2_readLaw.2.1 79 = .ok (.iconst 0, 1) := by decide +kernel
theorem D2_readLaw_80 : decode m2_readLaw.2.1 80 = .ok (.iconst 0, 1) := by decide +kernel
theorem D2_readLaw_81 : decode m2_readLaw.2.1 81 = .ok (.invokevirtual 178, 3) := by decide +kernel
theorem D2_readLaw_84 : decode m2_readLaw.2.1 84 = .ok (.aload_n 0, 1) := by decide +kernel
theorem D2_readLaw_85 : decode m2_readLaw.2.1 85 = .ok (.getfield 19, 3) := by decide +kernel
theorem D2_readLaw_88 : decode m2_readLaw.2.1 88 = .ok (.getfield 162, 3) := by decide +kernel
theorem D2_readLaw_91 : decode m2_readLaw.2.1 91 = .ok (.getfield 182, 3) := by decide +kernel
theorem D2_readLaw_94 : decode m2_readLaw.2.1 94 = .ok (.iload_n 1, 1) := by decide +kernel
theorem D2_readLaw_95 : decode m2_readLaw.2.1 95 = .ok (.aload_n 0, 1) := by decide +kernel
theorem D2_readLaw_96 : decode m2_readLaw.2.1 96 = .ok (.getfield 19, 3) := by decide +kernel
theorem D2_readLaw_99 : decode m2_readLaw.2.1 99 = .ok (.getfield 162, 3) := by decide +kernel
theorem D2_readLaw_102 : decode m2_readLaw.2.1 102 = .ok (.getfield 175, 3) := by decide +kernel
theorem D2_readLaw_105 : decode m2_readLaw.2.1 105 = .ok (.iastore, 1) := by decide +kernel
theorem D2_readLaw_106 : decode m2_readLaw.2.1 106 = .ok (.return_, 1) := by decide +kernel
theorem D2_take_0 : decode m2_take.2.1 0 = .ok (.aload_n 0, 1) := by decide +kernel
theorem D2_take_1 : decode m2_take.2.1 1 = .ok (.getfield 35, 3) := by decide +kernel
theorem D2_take_4 : decode m2_take.2.1 4 = .ok (.ifCond .eq 4, 3) := by decide +kernel
theorem D2_take_7 : decode m2_take.2.1 7 = .ok (.return_, 1) := by decide +kernel
theorem D2_take_8 : decode m2_take.2.1 8 = .ok (.aload_n 0, 1) := by decide +kernel
theorem D2_take_9 : decode m2_take.2.1 9 = .ok (.invokevirtual 41, 3) := by decide +kernel
theorem D2_take_12 : decode m2_take.2.1 12 = .ok (.iload_n 1, 1) := by decide +kernel
theorem D2_take_13 : decode m2_take.2.1 13 = .ok (.if_icmp .eq 9, 3) := by decide +kernel
theorem D2_take_16 : decode m2_take.2.1 16 = .ok (.aload_n 0, 1) := by decide +kernel
theorem D2_take_17 : decode m2_take.2.1 17 = .ok (.iconst 1, 1) := by decide +kernel
theorem D2_take_18 : decode m2_take.2.1 18 = .ok (.invokevirtual 77, 3) := by decide +kernel
theorem D2_take_21 : decode m2_take.2.1 21 = .ok (.return_, 1) := by decide +kernel
theorem D2_take_22 : decode m2_take.2.1 22 = .ok (.aload_n 0, 1) := by decide +kernel
theorem D2_take_23 : decode m2_take.2.1 23 = .ok (.invokevirtual 87, 3) := by decide +kernel
theorem D2_take_26 : decode m2_take.2.1 26 = .ok (.return_, 1) := by decide +kernel
theorem D2_takeNumber_0 : decode m2_takeNumber.2.1 0 = .ok (.aload_n 0, 1) := by decide +kernel
theorem D2_takeNumber_1 : decode m2_takeNumber.2.1 1 = .ok (.invokevirtual 93, 3) := by decide +kernel
theorem D2_takeNumber_4 : decode m2_takeNumber.2.1 4 = .ok (.istore_n 3, 1) := by decide +kernel
theorem D2_takeNumber_5 : decode m2_takeNumber.2.1 5 = .ok (.aload_n 0, 1) := by decide +kernel
theorem D2_takeNumber_6 : decode m2_takeNumber.2.1 6 = .ok (.getfield 35, 3) := by decide +kernel
theorem D2_takeNumber_9 : decode m2_takeNumber.2.1 9 = .ok (.ifCond .ne 26, 3) := by decide +kernel
theorem D2_takeNumber_12 : decode m2_takeNumber.2.1 12 = .ok (.aload_n 0, 1) := by decide +kernel
theorem D2_takeNumber_13 : decode m2_takeNumber.2.1 13 = .ok (.invokevirtual 41, 3) := by decide +kernel
theorem D2_takeNumber_16 : decode m2_takeNumber.2.1 16 = .ok (.bipush 29, 2) := by decide +kernel
theorem D2_takeNumber_18 : decode m2_takeNumber.2.1 18 = .ok (.if_icmp .ne 17, 3) := by decide +kernel
theorem D2_takeNumber_21 : decode m2_takeNumber.2.1 21 = .ok (.iload_n 3, 1) := by decide +kernel
theorem D2_takeNumber_22 : decode m2_takeNumber.2.1 22 = .ok (.iload_n 1, 1) := by decide +kernel
theorem D2_takeNumber_23 : decode m2_takeNumber.2.1 23 = .ok (.iload_n 2, 1) := by decide +kernel
theorem D2_takeNumber_24 : decode m2_takeNumber.2.1 24 = .ok (.invokestatic 158, 3) := by decide +kernel
theorem D2_takeNumber_27 : decode m2_takeNumber.2.1 27 = .ok (.ifCond .ne 8, 3) := by decide +kernel
theorem D2_takeNumber_30 : decode m2_takeNumber.2.1 30 = .ok (.aload_n 0, 1) := by decide +kernel
theorem D2_takeNumber_31 : decode m2_takeNumber.2.1 31 = .ok (.iconst 2, 1) := by decide +kernel
theorem D2_takeNumber_32 : decode m2_takeNumber.2.1 32 = .ok (.invokevirtual 77, 3) := by decide +kernel
theorem D2_takeNumber_35 : decode m2_takeNumber.2.1 35 = .ok (.aload_n 0, 1) := by decide +kernel
theorem D2_takeNumber_36 : decode m2_takeNumber.2.1 36 = .ok (.bipush 29, 2) := by decide +kernel
theorem D2_takeNumber_38 : decode m2_takeNumber.2.1 38 = .ok (.invokevirtual 81, 3) := by decide +kernel
theorem D2_takeNumber_41 : decode m2_takeNumber.2.1 41 = .ok (.aload_n 0, 1) := by decide +kernel
theorem D2_takeNumber_42 : decode m2_takeNumber.2.1 42 = .ok (.getfield 35, 3) := by decide +kernel
theorem D2_takeNumber_45 : decode m2_takeNumber.2.1 45 = .ok (.ifCond .ne 7, 3) := by decide +kernel
theorem D2_takeNumber_48 : decode m2_takeNumber.2.1 48 = .ok (.iload_n 3, 1) := by decide +kernel
theorem D2_takeNumber_49 : decode m2_takeNumber.2.1 49 = .ok (.goto 4, 3) := by decide +kernel
theorem D2_takeNumber_52 : decode m2_takeNumber.2.1 52 = .ok (.iconst 0, 1) := by decide +kernel
theorem D2_takeNumber_53 : decode m2_takeNumber.2.1 53 = .ok (.ireturn, 1) := by decide +kernel
theorem D2_takeNewName_0 : decode m2_takeNewName.2.1 0 = .ok (.aload_n 0, 1) := by decide +kernel
theorem D2_takeNewName_1 : decode m2_takeNewName.2.1 1 = .ok (.invokevirtual 93, 3) := by decide +kernel
theorem D2_takeNewName_4 : decode m2_takeNewName.2.1 4 = .ok (.istore_n 2, 1) := by decide +kernel
theorem D2_takeNewName_5 : decode m2_takeNewName.2.1 5 = .ok (.aload_n 0, 1) := by decide +kernel
theorem D2_takeNewName_6 : decode m2_takeNewName.2.1 6 = .ok (.getfield 35, 3) := by decide +kernel
theorem D2_takeNewName_9 : decode m2_takeNewName.2.1 9 = .ok (.ifCond .ne 22, 3) := by decide +kernel
theorem D2_takeNewName_12 : decode m2_takeNewName.2.1 12 = .ok (.aload_n 0, 1) := by decide +kernel
theorem D2_takeNewName_13 : decode m2_takeNewName.2.1 13 = .ok (.invokevirtual 41, 3) := by decide +kernel
theorem D2_takeNewName_16 : decode m2_takeNewName.2.1 16 = .ok (.bipush 30, 2) := by decide +kernel
theorem D2_takeNewName_18 : decode m2_takeNewName.2.1 18 = .ok (.if_icmp .ne 13, 3) := by decide +kernel
theorem D2_takeNewName_21 : decode m2_takeNewName.2.1 21 = .ok (.iload_n 1, 1) := by decide +kernel
theorem D2_takeNewName_22 : decode m2_takeNewName.2.1 22 = .ok (.iconst (-1), 1) := by decide +kernel
theorem D2_takeNewName_23 : decode m2_takeNewName.2.1 23 = .ok (.if_icmp .eq 8, 3) := by decide +kernel
theorem D2_takeNewName_26 : decode m2_takeNewName.2.1 26 = .ok (.aload_n 0, 1) := by decide +kernel
theorem D2_takeNewName_27 : decode m2_takeNewName.2.1 27 = .ok (.iconst 3, 1) := by decide +kernel
theorem D2_takeNewName_28 : decode m2_takeNewName.2.1 28 = .ok (.invokevirtual 77, 3) := by decide +kernel
theorem D2_takeNewName_31 : decode m2_takeNewName.2.1 31 = .ok (.aload_n 0, 1) := by decide +kernel
theorem D2_takeNewName_32 : decode m2_takeNewName.2.1 32 = .ok (.bipush 30, 2) := by decide +kernel
theorem D2_takeNewName_34 : decode m2_takeNewName.2.1 34 = .ok (.invokevirtual 81, 3) := by decide +kernel
theorem D2_takeNewName_37 : decode m2_takeNewName.2.1 37 = .ok (.iload_n 2, 1) := by decide +kernel
theorem D2_takeNewName_38 : decode m2_takeNewName.2.1 38 = .ok (.ireturn, 1) := by decide +kernel
theorem D2_takePerson_0 : decode m2_takePerson.2.1 0 = .ok (.aload_n 0, 1) := by decide +kernel
theorem D2_takePerson_1 : decode m2_takePerson.2.1 1 = .ok (.getfield 19, 3) := by decide +kernel
theorem D2_takePerson_4 : decode m2_takePerson.2.1 4 = .ok (.aload_n 0, 1) := by decide +kernel
theorem D2_takePerson_5 : decode m2_takePerson.2.1 5 = .ok (.invokevirtual 93, 3) := by decide +kernel
theorem D2_takePerson_8 : decode m2_takePerson.2.1 8 = .ok (.invokevirtual 95, 3) := by decide +kernel
theorem D2_takePerson_11 : decode m2_takePerson.2.1 11 = .ok (.istore_n 2, 1) := by decide +kernel
theorem D2_takePerson_12 : decode m2_takePerson.2.1 12 = .ok (.aload_n 0, 1) := by decide +kernel
theorem D2_takePerson_13 : decode m2_takePerson.2.1 13 = .ok (.getfield 35, 3) := by decide +kernel
theorem D2_takePerson_16 : decode m2_takePerson.2.1 16 = .ok (.ifCond .ne 22, 3) := by decide +kernel
theorem D2_takePerson_19 : decode m2_takePerson.2.1 19 = .ok (.aload_n 0, 1) := by decide +kernel
theorem D2_takePerson_20 : decode m2_takePerson.2.1 20 = .ok (.invokevirtual 41, 3) := by decide +kernel
theorem D2_takePerson_23 : decode m2_takePerson.2.1 23 = .ok (.bipush 30, 2) := by decide +kernel
theorem D2_takePerson_25 : decode m2_takePerson.2.1 25 = .ok (.if_icmp .ne 13, 3) := by decide +kernel
theorem D2_takePerson_28 : decode m2_takePerson.2.1 28 = .ok (.iload_n 2, 1) := by decide +kernel
theorem D2_takePerson_29 : decode m2_takePerson.2.1 29 = .ok (.iconst (-1), 1) := by decide +kernel
theorem D2_takePerson_30 : decode m2_takePerson.2.1 30 = .ok (.if_icmp .ne 8, 3) := by decide +kernel
theorem D2_takePerson_33 : decode m2_takePerson.2.1 33 = .ok (.aload_n 0, 1) := by decide +kernel
theorem D2_takePerson_34 : decode m2_takePerson.2.1 34 = .ok (.iconst 4, 1) := by decide +kernel
theorem D2_takePerson_35 : decode m2_takePerson.2.1 35 = .ok (.invokevirtual 77, 3) := by decide +kernel
theorem D2_takePerson_38 : decode m2_takePerson.2.1 38 = .ok (.aload_n 0, 1) := by decide +kernel
theorem D2_takePerson_39 : decode m2_takePerson.2.1 39 = .ok (.getfield 35, 3) := by decide +kernel
theorem D2_takePerson_42 : decode m2_takePerson.2.1 42 = .ok (.ifCond .ne 22, 3) := by decide +kernel
theorem D2_takePerson_45 : decode m2_takePerson.2.1 45 = .ok (.aload_n 0, 1) := by decide +kernel
theorem D2_takePerson_46 : decode m2_takePerson.2.1 46 = .ok (.invokevirtual 41, 3) := by decide +kernel
theorem D2_takePerson_49 : decode m2_takePerson.2.1 49 = .ok (.bipush 30, 2) := by decide +kernel
theorem D2_takePerson_51 : decode m2_takePerson.2.1 51 = .ok (.if_icmp .ne 13, 3) := by decide +kernel
theorem D2_takePerson_54 : decode m2_takePerson.2.1 54 = .ok (.iload_n 2, 1) := by decide +kernel
theorem D2_takePerson_55 : decode m2_takePerson.2.1 55 = .ok (.iload_n 1, 1) := by decide +kernel
theorem D2_takePerson_56 : decode m2_takePerson.2.1 56 = .ok (.if_icmp .ne 8, 3) := by decide +kernel
theorem D2_takePerson_59 : decode m2_takePerson.2.1 59 = .ok (.aload_n 0, 1) := by decide +kernel
theorem D2_takePerson_60 : decode m2_takePerson.2.1 60 = .ok (.iconst 5, 1) := by decide +kernel
theorem D2_takePerson_61 : decode m2_takePerson.2.1 61 = .ok (.invokevirtual 77, 3) := by decide +kernel
theorem D2_takePerson_64 : decode m2_takePerson.2.1 64 = .ok (.aload_n 0, 1) := by decide +kernel
theorem D2_takePerson_65 : decode m2_takePerson.2.1 65 = .ok (.bipush 30, 2) := by decide +kernel
theorem D2_takePerson_67 : decode m2_takePerson.2.1 67 = .ok (.invokevirtual 81, 3) := by decide +kernel
theorem D2_takePerson_70 : decode m2_takePerson.2.1 70 = .ok (.aload_n 0, 1) := by decide +kernel
theorem D2_takePerson_71 : decode m2_takePerson.2.1 71 = .ok (.getfield 35, 3) := by decide +kernel
theorem D2_takePerson_74 : decode m2_takePerson.2.1 74 = .ok (.ifCond .ne 7, 3) := by decide +kernel
theorem D2_takePerson_77 : decode m2_takePerson.2.1 77 = .ok (.iload_n 2, 1) := by decide +kernel
theorem D2_takePerson_78 : decode m2_takePerson.2.1 78 = .ok (.goto 4, 3) := by decide +kernel
theorem D2_takePerson_81 : decode m2_takePerson.2.1 81 = .ok (.iconst (-1), 1) := by decide +kernel
theorem D2_takePerson_82 : decode m2_takePerson.2.1 82 = .ok (.ireturn, 1) := by decide +kernel
theorem D2_readLevel_0 : decode m2_readLevel.2.1 0 = .ok (.aload_n 0, 1) := by decide +kernel
theorem D2_readLevel_1 : decode m2_readLevel.2.1 1 = .ok (.getfield 35, 3) := by decide +kernel
theorem D2_readLevel_4 : decode m2_readLevel.2.1 4 = .ok (.ifCond .eq 4, 3) := by decide +kernel
theorem D2_readLevel_7 : decode m2_readLevel.2.1 7 = .ok (.return_, 1) := by decide +kernel
theorem D2_readLevel_8 : decode m2_readLevel.2.1 8 = .ok (.iload_n 1, 1) := by decide +kernel
theorem D2_readLevel_9 : decode m2_readLevel.2.1 9 = .ok (.iconst 2, 1) := by decide +kernel
theorem D2_readLevel_10 : decode m2_readLevel.2.1 10 = .ok (.if_icmp .ne 9, 3) := by decide +kernel
theorem D2_readLevel_13 : decode m2_readLevel.2.1 13 = .ok (.aload_n 0, 1) := by decide +kernel
theorem D2_readLevel_14 : decode m2_readLevel.2.1 14 = .ok (.iload_n 2, 1) := by decide +kernel
theorem D2_readLevel_15 : decode m2_readLevel.2.1 15 = .ok (.invokevirtual 185, 3) := by decide +kernel
theorem D2_readLevel_18 : decode m2_readLevel.2.1 18 = .ok (.return_, 1) := by decide +kernel
theorem D2_readLevel_19 : decode m2_readLevel.2.1 19 = .ok (.iload_n 1, 1) := by decide +kernel
theorem D2_readLevel_20 : decode m2_readLevel.2.1 20 = .ok (.bipush 6, 2) := by decide +kernel
theorem D2_readLevel_22 : decode m2_readLevel.2.1 22 = .ok (.if_icmp .lt 9, 3) := by decide +kernel
theorem D2_readLevel_25 : decode m2_readLevel.2.1 25 = .ok (.aload_n 0, 1) := by decide +kernel
theorem D2_readLevel_26 : decode m2_readLevel.2.1 26 = .ok (.iload_n 2, 1) := by decide +kernel
theorem D2_readLevel_27 : decode m2_readLevel.2.1 27 = .ok (.invokevirtual 188, 3) := by decide +kernel
theorem D2_readLevel_30 : decode m2_readLevel.2.1 30 = .ok (.return_, 1) := by decide +kernel
theorem D2_readLevel_31 : decode m2_readLevel.2.1 31 = .ok (.aload_n 0, 1) := by decide +kernel
theorem D2_readLevel_32 : decode m2_readLevel.2.1 32 = .ok (.iload_n 1, 1) := by decide +kernel
theorem D2_readLevel_33 : decode m2_readLevel.2.1 33 = .ok (.iconst 1, 1) := by decide +kernel
theorem D2_readLevel_34 : decode m2_readLevel.2.1 34 = .ok (.iadd, 1) := by decide +kernel
theorem D2_readLevel_35 : decode m2_readLevel.2.1 35 = .ok (.iload_n 2, 1) := by decide +kernel
theorem D2_readLevel_36 : decode m2_readLevel.2.1 36 = .ok (.invokevirtual 178, 3) := by decide +kernel
theorem D2_readLevel_39 : decode m2_readLevel.2.1 39 = .ok (.iload_n 1, 1) := by decide +kernel
theorem D2_readLevel_40 : decode m2_readLevel.2.1 40 = .ok (.iconst 3, 1) := by decide +kernel
theorem D2_readLevel_41 : decode m2_readLevel.2.1 41 = .ok (.if_icmp .ne 7, 3) := by decide +kernel
theorem D2_readLevel_44 : decode m2_readLevel.2.1 44 = .ok (.iconst 1, 1) := by decide +kernel
theorem D2_readLevel_45 : decode m2_readLevel.2.1 45 = .ok (.goto 5, 3) := by decide +kernel
theorem D2_readLevel_48 : decode m2_readLevel.2.1 48 = .ok (.bipush 64, 2) := by decide +kernel
theorem D2_readLevel_50 : decode m2_readLevel.2.1 50 = .ok (.istore_n 3, 1) := by decide +kernel
theorem D2_readLevel_51 : decode m2_readLevel.2.1 51 = .ok (.iconst 0, 1) := by decide +kernel
theorem D2_readLevel_52 : decode m2_readLevel.2.1 52 = .ok (.istore 4, 2) := by decide +kernel
theorem D2_readLevel_54 : decode m2_readLevel.2.1 54 = .ok (.iload 4, 2) := by decide +kernel
theorem D2_readLevel_56 : decode m2_readLevel.2.1 56 = .ok (.iload_n 3, 1) := by decide +kernel
theorem D2_readLevel_57 : decode m2_readLevel.2.1 57 = .ok (.if_icmp .ge 58, 3) := by decide +kernel
theorem D2_readLevel_60 : decode m2_readLevel.2.1 60 = .ok (.aload_n 0, 1) := by decide +kernel
theorem D2_readLevel_61 : decode m2_readLevel.2.1 61 = .ok (.getfield 35, 3) := by decide +kernel
theorem D2_readLevel_64 : decode m2_readLevel.2.1 64 = .ok (.ifCond .ne 51, 3) := by decide +kernel
theorem D2_readLevel_67 : decode m2_readLevel.2.1 67 = .ok (.aload_n 0, 1) := by decide +kernel
theorem D2_readLevel_68 : decode m2_readLevel.2.1 68 = .ok (.invokevirtual 41, 3) := by decide +kernel
theorem D2_readLevel_71 : decode m2_readLevel.2.1 71 = .ok (.invokestatic 191, 3) := by decide +kernel
theorem D2_readLevel_74 : decode m2_readLevel.2.1 74 = .ok (.iload_n 1, 1) := by decide +kernel
theorem D2_readLevel_75 : decode m2_readLevel.2.1 75 = .ok (.if_icmp .ne 40, 3) := by decide +kernel
theorem D2_readLevel_78 : decode m2_readLevel.2.1 78 = .ok (.aload_n 0, 1) := by decide +kernel
theorem D2_readLevel_79 : decode m2_readLevel.2.1 79 = .ok (.invokevirtual 41, 3) := by decide +kernel
theorem D2_readLevel_82 : decode m2_readLevel.2.1 82 = .ok (.istore 5, 2) := by decide +kernel
theorem D2_readLevel_84 : decode m2_readLevel.2.1 84 = .ok (.aload_n 0, 1) := by decide +kernel
theorem D2_readLevel_85 : decode m2_readLevel.2.1 85 = .ok (.invokevirtual 194, 3) := by decide +kernel
theorem D2_readLevel_88 : decode m2_readLevel.2.1 88 = .ok (.aload_n 0, 1) := by decide +kernel
theorem D2_readLevel_89 : decode m2_readLevel.2.1 89 = .ok (.iload_n 1, 1) := by decide +kernel
theorem D2_readLevel_90 : decode m2_readLevel.2.1 90 = .ok (.iconst 1, 1) := by decide +kernel
theorem D2_readLevel_91 : decode m2_readLevel.2.1 91 = .ok (.iadd, 1) := by decide +kernel
theorem D2_readLevel_92 : decode m2_readLevel.2.1 92 = .ok (.iload_n 2, 1) := by decide +kernel
theorem D2_readLevel_93 : decode m2_readLevel.2.1 93 = .ok (.invokevirtual 178, 3) := by decide +kernel
theorem D2_readLevel_96 : decode m2_readLevel.2.1 96 = .ok (.aload_n 0, 1) := by decide +kernel
theorem D2_readLevel_97 : decode m2_readLevel.2.1 97 = .ok (.getfield 19, 3) := by decide +kernel
theorem D2_readLevel_100 : decode m2_readLevel.2.1 100 = .ok (.getfield 162, 3) := by decide +kernel
theorem D2_readLevel_103 : decode m2_readLevel.2.1 103 = .ok (.iload 5, 2) := by decide +kernel
theorem D2_readLevel_105 : decode m2_readLevel.2.1 105 = .ok (.iconst 0, 1) := by decide +kernel
theorem D2_readLevel_106 : decode m2_readLevel.2.1 106 = .ok (.invokevirtual 197, 3) := by decide +kernel
theorem D2_readLevel_109 : decode m2_readLevel.2.1 109 = .ok (.iinc 4 1, 3) := by decide +kernel
theorem D2_readLevel_112 : decode m2_readLevel.2.1 112 = .ok (.goto (-58), 3) := by decide +kernel
theorem D2_readLevel_115 : decode m2_readLevel.2.1 115 = .ok (.return_, 1) := by decide +kernel
theorem D2_levelOf_0 : decode m2_levelOf.2.1 0 = .ok (.iload_n 0, 1) := by decide +kernel
theorem D2_levelOf_1 : decode m2_levelOf.2.1 1 = .ok (.bipush 16, 2) := by decide +kernel
theorem D2_levelOf_3 : decode m2_levelOf.2.1 3 = .ok (.if_icmp .ne 5, 3) := by decide +kernel
theorem D2_levelOf_6 : decode m2_levelOf.2.1 6 = .ok (.iconst 0, 1) := by decide +kernel
theorem D2_levelOf_7 : decode m2_levelOf.2.1 7 = .ok (.ireturn, 1) := by decide +kernel
theorem D2_levelOf_8 : decode m2_levelOf.2.1 8 = .ok (.iload_n 0, 1) := by decide +kernel
theorem D2_levelOf_9 : decode m2_levelOf.2.1 9 = .ok (.bipush 17, 2) := by decide +kernel
theorem D2_levelOf_11 : decode m2_levelOf.2.1 11 = .ok (.if_icmp .ne 5, 3) := by decide +kernel
theorem D2_levelOf_14 : decode m2_levelOf.2.1 14 = .ok (.iconst 1, 1) := by decide +kernel
theorem D2_levelOf_15 : decode m2_levelOf.2.1 15 = .ok (.ireturn, 1) := by decide +kernel
theorem D2_levelOf_16 : decode m2_levelOf.2.1 16 = .ok (.iload_n 0, 1) := by decide +kernel
theorem D2_levelOf_17 : decode m2_levelOf.2.1 17 = .ok (.bipush 19, 2) := by decide +kernel
theorem D2_levelOf_19 : decode m2_levelOf.2.1 19 = .ok (.bipush 24, 2) := by decide +kernel
theorem D2_levelOf_21 : decode m2_levelOf.2.1 21 = .ok (.invokestatic 158, 3) := by decide +kernel
theorem D2_levelOf_24 : decode m2_levelOf.2.1 24 = .ok (.ifCond .eq 5, 3) := by decide +kernel
theorem D2_levelOf_27 : decode m2_levelOf.2.1 27 = .ok (.iconst 3, 1) := by decide +kernel
theorem D2_levelOf_28 : decode m2_levelOf.2.1 28 = .ok (.ireturn, 1) := by decide +kernel
theorem D2_levelOf_29 : decode m2_levelOf.2.1 29 = .ok (.iload_n 0, 1) := by decide +kernel
theorem D2_levelOf_30 : decode m2_levelOf.2.1 30 = .ok (.bipush 25, 2) := by decide +kernel
theorem D2_levelOf_32 : decode m2_levelOf.2.1 32 = .ok (.if_icmp .eq 9, 3) := by decide +kernel
theorem D2_levelOf_35 : decode m2_levelOf.2.1 35 = .ok (.iload_n 0, 1) := by decide +kernel
theorem D2_levelOf_36 : decode m2_levelOf.2.1 36 = .ok (.bipush 26, 2) := by decide +kernel
theorem D2_levelOf_38 : decode m2_levelOf.2.1 38 = .ok (.if_icmp .ne 5, 3) := by decide +kernel
theorem D2_levelOf_41 : decode m2_levelOf.2.1 41 = .ok (.iconst 4, 1) := by decide +kernel
theorem D2_levelOf_42 : decode m2_levelOf.2.1 42 = .ok (.ireturn, 1) := by decide +kernel
theorem D2_levelOf_43 : decode m2_levelOf.2.1 43 = .ok (.iload_n 0, 1) := by decide +kernel
theorem D2_levelOf_44 : decode m2_levelOf.2.1 44 = .ok (.bipush 27, 2) := by decide +kernel
theorem D2_levelOf_46 : decode m2_levelOf.2.1 46 = .ok (.if_icmp .eq 9, 3) := by decide +kernel
theorem D2_levelOf_49 : decode m2_levelOf.2.1 49 = .ok (.iload_n 0, 1) := by decide +kernel
theorem D2_levelOf_50 : decode m2_levelOf.2.1 50 = .ok (.bipush 28, 2) := by decide +kernel
theorem D2_levelOf_52 : decode m2_levelOf.2.1 52 = .ok (.if_icmp .ne 7, 3) := by decide +kernel
theorem D2_levelOf_55 : decode m2_levelOf.2.1 55 = .ok (.iconst 5, 1) := by decide +kernel
theorem D2_levelOf_56 : decode m2_levelOf.2.1 56 = .ok (.goto 4, 3) := by decide +kernel
theorem D2_levelOf_59 : decode m2_levelOf.2.1 59 = .ok (.iconst (-1), 1) := by decide +kernel
theorem D2_levelOf_60 : decode m2_levelOf.2.1 60 = .ok (.ireturn, 1) := by decide +kernel
theorem D2_readNot_0 : decode m2_readNot.2.1 0 = .ok (.iconst 0, 1) := by decide +kernel
theorem D2_readNot_1 : decode m2_readNot.2.1 1 = .ok (.istore_n 2, 1) := by decide +kernel
theorem D2_readNot_2 : decode m2_readNot.2.1 2 = .ok (.iload_n 2, 1) := by decide +kernel
theorem D2_readNot_3 : decode m2_readNot.2.1 3 = .ok (.bipush 64, 2) := by decide +kernel
theorem D2_readNot_5 : decode m2_readNot.2.1 5 = .ok (.if_icmp .gt 29, 3) := by decide +kernel
theorem D2_readNot_8 : decode m2_readNot.2.1 8 = .ok (.aload_n 0, 1) := by decide +kernel
theorem D2_readNot_9 : decode m2_readNot.2.1 9 = .ok (.getfield 35, 3) := by decide +kernel
theorem D2_readNot_12 : decode m2_readNot.2.1 12 = .ok (.ifCond .ne 22, 3) := by decide +kernel
theorem D2_readNot_15 : decode m2_readNot.2.1 15 = .ok (.aload_n 0, 1) := by decide +kernel
theorem D2_readNot_16 : decode m2_readNot.2.1 16 = .ok (.invokevirtual 41, 3) := by decide +kernel
theorem D2_readNot_19 : decode m2_readNot.2.1 19 = .ok (.bipush 18, 2) := by decide +kernel
theorem D2_readNot_21 : decode m2_readNot.2.1 21 = .ok (.if_icmp .ne 13, 3) := by decide +kernel
theorem D2_readNot_24 : decode m2_readNot.2.1 24 = .ok (.aload_n 0, 1) := by decide +kernel
theorem D2_readNot_25 : decode m2_readNot.2.1 25 = .ok (.invokevirtual 194, 3) := by decide +kernel
theorem D2_readNot_28 : decode m2_readNot.2.1 28 = .ok (.iinc 2 1, 3) := by decide +kernel
theorem D2_readNot_31 : decode m2_readNot.2.1 31 = .ok (.goto (-29), 3) := by decide +kernel
theorem D2_readNot_34 : decode m2_readNot.2.1 34 = .ok (.aload_n 0, 1) := by decide +kernel
theorem D2_readNot_35 : decode m2_readNot.2.1 35 = .ok (.iconst 3, 1) := by decide +kernel
theorem D2_readNot_36 : decode m2_readNot.2.1 36 = .ok (.iload_n 1, 1) := by decide +kernel
theorem D2_readNot_37 : decode m2_readNot.2.1 37 = .ok (.invokevirtual 178, 3) := by decide +kernel
theorem D2_readNot_40 : decode m2_readNot.2.1 40 = .ok (.iconst 0, 1) := by decide +kernel
theorem D2_readNot_41 : decode m2_readNot.2.1 41 = .ok (.istore_n 3, 1) := by decide +kernel
theorem D2_readNot_42 : decode m2_readNot.2.1 42 = .ok (.iload_n 3, 1) := by decide +kernel
theorem D2_readNot_43 : decode m2_readNot.2.1 43 = .ok (.iload_n 2, 1) := by decide +kernel
theorem D2_readNot_44 : decode m2_readNot.2.1 44 = .ok (.if_icmp .ge 22, 3) := by decide +kernel
theorem D2_readNot_47 : decode m2_readNot.2.1 47 = .ok (.aload_n 0, 1) := by decide +kernel
theorem D2_readNot_48 : decode m2_readNot.2.1 48 = .ok (.getfield 19, 3) := by decide +kernel
theorem D2_readNot_51 : decode m2_readNot.2.1 51 = .ok (.getfield 162, 3) := by decide +kernel
theorem D2_readNot_54 : decode m2_readNot.2.1 54 = .ok (.bipush 18, 2) := by decide +kernel
theorem D2_readNot_56 : decode m2_readNot.2.1 56 = .ok (.iconst 0, 1) := by decide +kernel
theorem D2_readNot_57 : decode m2_readNot.2.1 57 = .ok (.invokevirtual 197, 3) := by decide +kernel
theorem D2_readNot_60 : decode m2_readNot.2.1 60 = .ok (.iinc 3 1, 3) := by decide +kernel
theorem D2_readNot_63 : decode m2_readNot.2.1 63 = .ok (.goto (-21), 3) := by decide +kernel
theorem D2_readNot_66 : decode m2_readNot.2.1 66 = .ok (.return_, 1) := by decide +kernel
theorem D2_readPart_0 : decode m2_readPart.2.1 0 = .ok (.aload_n 0, 1) := by decide +kernel
theorem D2_readPart_1 : decode m2_readPart.2.1 1 = .ok (.invokevirtual 41, 3) := by decide +kernel
theorem D2_readPart_4 : decode m2_readPart.2.1 4 = .ok (.istore_n 2, 1) := by decide +kernel
theorem D2_readPart_5 : decode m2_readPart.2.1 5 = .ok (.iload_n 2, 1) := by decide +kernel
theorem D2_readPart_6 : decode m2_readPart.2.1 6 = .ok (.bipush 29, 2) := by decide +kernel
theorem D2_readPart_8 : decode m2_readPart.2.1 8 = .ok (.if_icmp .eq 14, 3) := by decide +kernel
theorem D2_readPart_11 : decode m2_readPart.2.1 11 = .ok (.iload_n 2, 1) := by decide +kernel
theorem D2_readPart_12 : decode m2_readPart.2.1 12 = .ok (.bipush 9, 2) := by decide +kernel
theorem D2_readPart_14 : decode m2_readPart.2.1 14 = .ok (.bipush 15, 2) := by decide +kernel
theorem D2_readPart_16 : decode m2_readPart.2.1 16 = .ok (.invokestatic 158, 3) := by decide +kernel
theorem D2_readPart_19 : decode m2_readPart.2.1 19 = .ok (.ifCond .eq 49, 3) := by decide +kernel
theorem D2_readPart_22 : decode m2_readPart.2.1 22 = .ok (.iload_n 2, 1) := by decide +kernel
theorem D2_readPart_23 : decode m2_readPart.2.1 23 = .ok (.bipush 29, 2) := by decide +kernel
theorem D2_readPart_25 : decode m2_readPart.2.1 25 = .ok (.if_icmp .ne 10, 3) := by decide +kernel
theorem D2_readPart_28 : decode m2_readPart.2.1 28 = .ok (.aload_n 0, 1) := by decide +kernel
theorem D2_readPart_29 : decode m2_readPart.2.1 29 = .ok (.invokevirtual 93, 3) := by decide +kernel
theorem D2_readPart_32 : decode m2_readPart.2.1 32 = .ok (.goto 4, 3) := by decide +kernel
theorem D2_readPart_35 : decode m2_readPart.2.1 35 = .ok (.iconst 0, 1) := by decide +kernel
theorem D2_readPart_36 : decode m2_readPart.2.1 36 = .ok (.istore_n 3, 1) := by decide +kernel
theorem D2_readPart_37 : decode m2_readPart.2.1 37 = .ok (.iload_n 3, 1) := by decide +kernel
theorem D2_readPart_38 : decode m2_readPart.2.1 38 = .ok (.sipush 9999, 3) := by decide +kernel
theorem D2_readPart_41 : decode m2_readPart.2.1 41 = .ok (.if_icmp .le 8, 3) := by decide +kernel
theorem D2_readPart_44 : decode m2_readPart.2.1 44 = .ok (.aload_n 0, 1) := by decide +kernel
theorem D2_readPart_45 : decode m2_readPart.2.1 45 = .ok (.iconst 2, 1) := by decide +kernel
theorem D2_readPart_46 : decode m2_readPart.2.1 46 = .ok (.invokevirtual 77, 3) := by decide +kernel
theorem D2_readPart_49 : decode m2_readPart.2.1 49 = .ok (.aload_n 0, 1) := by decide +kernel
theorem D2_readPart_50 : decode m2_readPart.2.1 50 = .ok (.invokevirtual 194, 3) := by decide +kernel
theorem D2_readPart_53 : decode m2_readPart.2.1 53 = .ok (.aload_n 0, 1) := by decide +kernel
theorem D2_readPart_54 : decode m2_readPart.2.1 54 = .ok (.getfield 19, 3) := by decide +kernel
theorem D2_readPart_57 : decode m2_readPart.2.1 57 = .ok (.getfield 162, 3) := by decide +kernel
theorem D2_readPart_60 : decode m2_readPart.2.1 60 = .ok (.iload_n 2, 1) := by decide +kernel
theorem D2_readPart_61 : decode m2_readPart.2.1 61 = .ok (.iload_n 3, 1) := by decide +kernel
theorem D2_readPart_62 : decode m2_readPart.2.1 62 = .ok (.invokevirtual 197, 3) := by decide +kernel
theorem D2_readPart_65 : decode m2_readPart.2.1 65 = .ok (.goto 48, 3) := by decide +kernel
theorem D2_readPart_68 : decode m2_readPart.2.1 68 = .ok (.iload_n 2, 1) := by decide +kernel
theorem D2_readPart_69 : decode m2_readPart.2.1 69 = .ok (.bipush 32, 2) := by decide +kernel
theorem D2_readPart_71 : decode m2_readPart.2.1 71 = .ok (.if_icmp .ne 37, 3) := by decide +kernel
theorem D2_readPart_74 : decode m2_readPart.2.1 74 = .ok (.iload_n 1, 1) := by decide +kernel
theorem D2_readPart_75 : decode m2_readPart.2.1 75 = .ok (.bipush 8, 2) := by decide +kernel
theorem D2_readPart_77 : decode m2_readPart.2.1 77 = .ok (.if_icmp .lt 8, 3) := by decide +kernel
theorem D2_readPart_80 : decode m2_readPart.2.1 80 = .ok (.aload_n 0, 1) := by decide +kernel
theorem D2_readPart_81 : decode m2_readPart.2.1 81 = .ok (.iconst 2, 1) := by decide +kernel
theorem D2_readPart_82 : decode m2_readPart.2.1 82 = .ok (.invokevirtual 77, 3) := by decide +kernel
theorem D2_readPart_85 : decode m2_readPart.2.1 85 = .ok (.aload_n 0, 1) := by decide +kernel
theorem D2_readPart_86 : decode m2_readPart.2.1 86 = .ok (.bipush 32, 2) := by decide +kernel
theorem D2_readPart_88 : decode m2_readPart.2.1 88 = .ok (.invokevirtual 81, 3) := by decide +kernel
theorem D2_readPart_91 : decode m2_readPart.2.1 91 = .ok (.aload_n 0, 1) := by decide +kernel
theorem D2_readPart_92 : decode m2_readPart.2.1 92 = .ok (.iconst 0, 1) := by decide +kernel
theorem D2_readPart_93 : decode m2_readPart.2.1 93 = .ok (.iload_n 1, 1) := by decide +kernel
theorem D2_readPart_94 : decode m2_readPart.2.1 94 = .ok (.iconst 1, 1) := by decide +kernel
theorem D2_readPart_95 : decode m2_readPart.2.1 95 = .ok (.iadd, 1) := by decide +kernel
theorem D2_readPart_96 : decode m2_readPart.2.1 96 = .ok (.invokevirtual 178, 3) := by decide +kernel
theorem D2_readPart_99 : decode m2_readPart.2.1 99 = .ok (.aload_n 0, 1) := by decide +kernel
theorem D2_readPart_100 : decode m2_readPart.2.1 100 = .ok (.bipush 33, 2) := by decide +kernel
theorem D2_readPart_102 : decode m2_readPart.2.1 102 = .ok (.invokevirtual 81, 3) := by decide +kernel
theorem D2_readPart_105 : decode m2_readPart.2.1 105 = .ok (.goto 8, 3) := by decide +kernel
theorem D2_readPart_108 : decode m2_readPart.2.1 108 = .ok (.aload_n 0, 1) := by decide +kernel
theorem D2_readPart_109 : decode m2_readPart.2.1 109 = .ok (.iconst 1, 1) := by decide +kernel
theorem D2_readPart_110 : decode m2_readPart.2.1 110 = .ok (.invokevirtual 77, 3) := by decide +kernel
theorem D2_readPart_113 : decode m2_readPart.2.1 113 = .ok (.return_, 1) := by decide +kernel
theorem D2_takeKnot_0 : decode m2_takeKnot.2.1 0 = .ok (.aload_n 0, 1) := by decide +kernel
theorem D2_takeKnot_1 : decode m2_takeKnot.2.1 1 = .ok (.getfield 19, 3) := by decide +kernel
theorem D2_takeKnot_4 : decode m2_takeKnot.2.1 4 = .ok (.getfield 162, 3) := by decide +kernel
theorem D2_takeKnot_7 : decode m2_takeKnot.2.1 7 = .ok (.getfield 200, 3) := by decide +kernel
theorem D2_takeKnot_10 : decode m2_takeKnot.2.1 10 = .ok (.bipush 64, 2) := by decide +kernel
theorem D2_takeKnot_12 : decode m2_takeKnot.2.1 12 = .ok (.if_icmp .lt 8, 3) := by decide +kernel
theorem D2_takeKnot_15 : decode m2_takeKnot.2.1 15 = .ok (.aload_n 0, 1) := by decide +kernel
theorem D2_takeKnot_16 : decode m2_takeKnot.2.1 16 = .ok (.iconst 2, 1) := by decide +kernel
theorem D2_takeKnot_17 : decode m2_takeKnot.2.1 17 = .ok (.invokevirtual 77, 3) := by decide +kernel
theorem D2_takeKnot_20 : decode m2_takeKnot.2.1 20 = .ok (.aload_n 0, 1) := by decide +kernel
theorem D2_takeKnot_21 : decode m2_takeKnot.2.1 21 = .ok (.getfield 35, 3) := by decide +kernel
theorem D2_takeKnot_24 : decode m2_takeKnot.2.1 24 = .ok (.ifCond .ne 23, 3) := by decide +kernel
theorem D2_takeKnot_27 : decode m2_takeKnot.2.1 27 = .ok (.aload_n 0, 1) := by decide +kernel
theorem D2_takeKnot_28 : decode m2_takeKnot.2.1 28 = .ok (.getfield 19, 3) := by decide +kernel
theorem D2_takeKnot_31 : decode m2_takeKnot.2.1 31 = .ok (.getfield 162, 3) := by decide +kernel
theorem D2_takeKnot_34 : decode m2_takeKnot.2.1 34 = .ok (.dup, 1) := by decide +kernel
theorem D2_takeKnot_35 : decode m2_takeKnot.2.1 35 = .ok (.getfield 200, 3) := by decide +kernel
theorem D2_takeKnot_38 : decode m2_takeKnot.2.1 38 = .ok (.iconst 1, 1) := by decide +kernel
theorem D2_takeKnot_39 : decode m2_takeKnot.2.1 39 = .ok (.iadd, 1) := by decide +kernel
theorem D2_takeKnot_40 : decode m2_takeKnot.2.1 40 = .ok (.putfield 200, 3) := by decide +kernel
theorem D2_takeKnot_43 : decode m2_takeKnot.2.1 43 = .ok (.aload_n 0, 1) := by decide +kernel
theorem D2_takeKnot_44 : decode m2_takeKnot.2.1 44 = .ok (.invokevirtual 87, 3) := by decide +kernel
theorem D2_takeKnot_47 : decode m2_takeKnot.2.1 47 = .ok (.return_, 1) := by decide +kernel
theorem D3_init_0 : decode m3_init.2.1 0 = .ok (.aload_n 0, 1) := by decide +kernel
theorem D3_init_1 : decode m3_init.2.1 1 = .ok (.invokespecial 3, 3) := by decide +kernel
theorem D3_init_4 : decode m3_init.2.1 4 = .ok (.aload_n 0, 1) := by decide +kernel
theorem D3_init_5 : decode m3_init.2.1 5 = .ok (.iconst (-1), 1) := by decide +kernel
theorem D3_init_6 : decode m3_init.2.1 6 = .ok (.putfield 9, 3) := by decide +kernel
theorem D3_init_9 : decode m3_init.2.1 9 = .ok (.aload_n 0, 1) := by decide +kernel
theorem D3_init_10 : decode m3_init.2.1 10 = .ok (.bipush 24, 2) := by decide +kernel
theorem D3_init_12 : decode m3_init.2.1 12 = .ok (.newarray .int, 2) := by decide +kernel
theorem D3_init_14 : decode m3_init.2.1 14 = .ok (.putfield 15, 3) := by decide +kernel
theorem D3_init_17 : decode m3_init.2.1 17 = .ok (.aload_n 0, 1) := by decide +kernel
theorem D3_init_18 : decode m3_init.2.1 18 = .ok (.bipush 24, 2) := by decide +kernel
theorem D3_init_20 : decode m3_init.2.1 20 = .ok (.newarray .int, 2) := by decide +kernel
theorem D3_init_22 : decode m3_init.2.1 22 = .ok (.putfield 19, 3) := by decide +kernel
theorem D3_init_25 : decode m3_init.2.1 25 = .ok (.aload_n 0, 1) := by decide +kernel
theorem D3_init_26 : decode m3_init.2.1 26 = .ok (.bipush 24, 2) := by decide +kernel
theorem D3_init_28 : decode m3_init.2.1 28 = .ok (.newarray .boolean, 2) := by decide +kernel
theorem D3_init_30 : decode m3_init.2.1 30 = .ok (.putfield 22, 3) := by decide +kernel
theorem D3_init_33 : decode m3_init.2.1 33 = .ok (.aload_n 0, 1) := by decide +kernel
theorem D3_init_34 : decode m3_init.2.1 34 = .ok (.bipush 24, 2) := by decide +kernel
theorem D3_init_36 : decode m3_init.2.1 36 = .ok (.newarray .int, 2) := by decide +kernel
theorem D3_init_38 : decode m3_init.2.1 38 = .ok (.putfield 26, 3) := by decide +kernel
theorem D3_init_41 : decode m3_init.2.1 41 = .ok (.aload_n 0, 1) := by decide +kernel
theorem D3_init_42 : decode m3_init.2.1 42 = .ok (.bipush 24, 2) := by decide +kernel
theorem D3_init_44 : decode m3_init.2.1 44 = .ok (.newarray .boolean, 2) := by decide +kernel
theorem D3_init_46 : decode m3_init.2.1 46 = .ok (.putfield 29, 3) := by decide +kernel
theorem D3_init_49 : decode m3_init.2.1 49 = .ok (.aload_n 0, 1) := by decide +kernel
theorem D3_init_50 : decode m3_init.2.1 50 = .ok (.bipush 24, 2) := by decide +kernel
theorem D3_init_52 : decode m3_init.2.1 52 = .ok (.newarray .boolean, 2) := by decide +kernel
theorem D3_init_54 : decode m3_init.2.1 54 = .ok (.putfield 32, 3) := by decide +kernel
theorem D3_init_57 : decode m3_init.2.1 57 = .ok (.return_, 1) := by decide +kernel
theorem D3_clear_0 : decode m3_clear.2.1 0 = .ok (.aload_n 0, 1) := by decide +kernel
theorem D3_clear_1 : decode m3_clear.2.1 1 = .ok (.iconst 0, 1) := by decide +kernel
theorem D3_clear_2 : decode m3_clear.2.1 2 = .ok (.putfield 35, 3) := by decide +kernel
theorem D3_clear_5 : decode m3_clear.2.1 5 = .ok (.aload_n 0, 1) := by decide +kernel
theorem D3_clear_6 : decode m3_clear.2.1 6 = .ok (.iconst (-1), 1) := by decide +kernel
theorem D3_clear_7 : decode m3_clear.2.1 7 = .ok (.putfield 9, 3) := by decide +kernel
theorem D3_clear_10 : decode m3_clear.2.1 10 = .ok (.return_, 1) := by decide +kernel
theorem D3_add_0 : decode m3_add.2.1 0 = .ok (.aload_n 0, 1) := by decide +kernel
theorem D3_add_1 : decode m3_add.2.1 1 = .ok (.getfield 35, 3) := by decide +kernel
theorem D3_add_4 : decode m3_add.2.1 4 = .ok (.bipush 24, 2) := by decide +kernel
theorem D3_add_6 : decode m3_add.2.1 6 = .ok (.if_icmp .lt 5, 3) := by decide +kernel
theorem D3_add_9 : decode m3_add.2.1 9 = .ok (.iconst (-1), 1) := by decide +kernel
theorem D3_add_10 : decode m3_add.2.1 10 = .ok (.ireturn, 1) := by decide +kernel
theorem D3_add_11 : decode m3_add.2.1 11 = .ok (.aload_n 0, 1) := by decide +kernel
theorem D3_add_12 : decode m3_add.2.1 12 = .ok (.getfield 15, 3) := by decide +kernel
theorem D3_add_15 : decode m3_add.2.1 15 = .ok (.aload_n 0, 1) := by decide +kernel
theorem D3_add_16 : decode m3_add.2.1 16 = .ok (.getfield 35, 3) := by decide +kernel
theorem D3_add_19 : decode m3_add.2.1 19 = .ok (.iload_n 1, 1) := by decide +kernel
theorem D3_add_20 : decode m3_add.2.1 20 = .ok (.iastore, 1) := by decide +kernel
theorem D3_add_21 : decode m3_add.2.1 21 = .ok (.aload_n 0, 1) := by decide +kernel
theorem D3_add_22 : decode m3_add.2.1 22 = .ok (.getfield 19, 3) := by decide +kernel
theorem D3_add_25 : decode m3_add.2.1 25 = .ok (.aload_n 0, 1) := by decide +kernel
theorem D3_add_26 : decode m3_add.2.1 26 = .ok (.getfield 35, 3) := by decide +kernel
theorem D3_add_29 : decode m3_add.2.1 29 = .ok (.iload_n 2, 1) := by decide +kernel
theorem D3_add_30 : decode m3_add.2.1 30 = .ok (.iastore, 1) := by decide +kernel
theorem D3_add_31 : decode m3_add.2.1 31 = .ok (.aload_n 0, 1) := by decide +kernel
theorem D3_add_32 : decode m3_add.2.1 32 = .ok (.getfield 22, 3) := by decide +kernel
theorem D3_add_35 : decode m3_add.2.1 35 = .ok (.aload_n 0, 1) := by decide +kernel
theorem D3_add_36 : decode m3_add.2.1 36 = .ok (.getfield 35, 3) := by decide +kernel
theorem D3_add_39 : decode m3_add.2.1 39 = .ok (.iload_n 3, 1) := by decide +kernel
theorem D3_add_40 : decode m3_add.2.1 40 = .ok (.bastore, 1) := by decide +kernel
theorem D3_add_41 : decode m3_add.2.1 41 = .ok (.aload_n 0, 1) := by decide +kernel
theorem D3_add_42 : decode m3_add.2.1 42 = .ok (.getfield 26, 3) := by decide +kernel
theorem D3_add_45 : decode m3_add.2.1 45 = .ok (.aload_n 0, 1) := by decide +kernel
theorem D3_add_46 : decode m3_add.2.1 46 = .ok (.getfield 35, 3) := by decide +kernel
theorem D3_add_49 : decode m3_add.2.1 49 = .ok (.iconst (-1), 1) := by decide +kernel
theorem D3_add_50 : decode m3_add.2.1 50 = .ok (.iastore, 1) := by decide +kernel
theorem D3_add_51 : decode m3_add.2.1 51 = .ok (.aload_n 0, 1) := by decide +kernel
theorem D3_add_52 : decode m3_add.2.1 52 = .ok (.dup, 1) := by decide +kernel
theorem D3_add_53 : decode m3_add.2.1 53 = .ok (.getfield 35, 3) := by decide +kernel
theorem D3_add_56 : decode m3_add.2.1 56 = .ok (.iconst 1, 1) := by decide +kernel
theorem D3_add_57 : decode m3_add.2.1 57 = .ok (.iadd, 1) := by decide +kernel
theorem D3_add_58 : decode m3_add.2.1 58 = .ok (.putfield 35, 3) := by decide +kernel
theorem D3_add_61 : decode m3_add.2.1 61 = .ok (.aload_n 0, 1) := by decide +kernel
theorem D3_add_62 : decode m3_add.2.1 62 = .ok (.getfield 35, 3) := by decide +kernel
theorem D3_add_65 : decode m3_add.2.1 65 = .ok (.iconst 1, 1) := by decide +kernel
theorem D3_add_66 : decode m3_add.2.1 66 = .ok (.isub, 1) := by decide +kernel
theorem D3_add_67 : decode m3_add.2.1 67 = .ok (.ireturn, 1) := by decide +kernel
theorem D3_addStrike_0 : decode m3_addStrike.2.1 0 = .ok (.aload_n 0, 1) := by decide +kernel
theorem D3_addStrike_1 : decode m3_addStrike.2.1 1 = .ok (.iconst 0, 1) := by decide +kernel
theorem D3_addStrike_2 : decode m3_addStrike.2.1 2 = .ok (.iconst 0, 1) := by decide +kernel
theorem D3_addStrike_3 : decode m3_addStrike.2.1 3 = .ok (.iconst 0, 1) := by decide +kernel
theorem D3_addStrike_4 : decode m3_addStrike.2.1 4 = .ok (.invokevirtual 38, 3) := by decide +kernel
theorem D3_addStrike_7 : decode m3_addStrike.2.1 7 = .ok (.istore_n 2, 1) := by decide +kernel
theorem D3_addStrike_8 : decode m3_addStrike.2.1 8 = .ok (.iload_n 2, 1) := by decide +kernel
theorem D3_addStrike_9 : decode m3_addStrike.2.1 9 = .ok (.iconst (-1), 1) := by decide +kernel
theorem D3_addStrike_10 : decode m3_addStrike.2.1 10 = .ok (.if_icmp .eq 10, 3) := by decide +kernel
theorem D3_addStrike_13 : decode m3_addStrike.2.1 13 = .ok (.aload_n 0, 1) := by decide +kernel
theorem D3_addStrike_14 : decode m3_addStrike.2.1 14 = .ok (.getfield 26, 3) := by decide +kernel
theorem D3_addStrike_17 : decode m3_addStrike.2.1 17 = .ok (.iload_n 2, 1) := by decide +kernel
theorem D3_addStrike_18 : decode m3_addStrike.2.1 18 = .ok (.iload_n 1, 1) := by decide +kernel
theorem D3_addStrike_19 : decode m3_addStrike.2.1 19 = .ok (.iastore, 1) := by decide +kernel
theorem D3_addStrike_20 : decode m3_addStrike.2.1 20 = .ok (.iload_n 2, 1) := by decide +kernel
theorem D3_addStrike_21 : decode m3_addStrike.2.1 21 = .ok (.ireturn, 1) := by decide +kernel
theorem D3_knownCount_0 : decode m3_knownCount.2.1 0 = .ok (.aload_n 0, 1) := by decide +kernel
theorem D3_knownCount_1 : decode m3_knownCount.2.1 1 = .ok (.getfield 9, 3) := by decide +kernel
theorem D3_knownCount_4 : decode m3_knownCount.2.1 4 = .ok (.iconst (-1), 1) := by decide +kernel
theorem D3_knownCount_5 : decode m3_knownCount.2.1 5 = .ok (.if_icmp .ne 10, 3) := by decide +kernel
theorem D3_knownCount_8 : decode m3_knownCount.2.1 8 = .ok (.aload_n 0, 1) := by decide +kernel
theorem D3_knownCount_9 : decode m3_knownCount.2.1 9 = .ok (.getfield 35, 3) := by decide +kernel
theorem D3_knownCount_12 : decode m3_knownCount.2.1 12 = .ok (.goto 14, 3) := by decide +kernel
theorem D3_knownCount_15 : decode m3_knownCount.2.1 15 = .ok (.aload_n 0, 1) := by decide +kernel
theorem D3_knownCount_16 : decode m3_knownCount.2.1 16 = .ok (.getfield 9, 3) := by decide +kernel
theorem D3_knownCount_19 : decode m3_knownCount.2.1 19 = .ok (.aload_n 0, 1) := by decide +kernel
theorem D3_knownCount_20 : decode m3_knownCount.2.1 20 = .ok (.getfield 35, 3) := by decide +kernel
theorem D3_knownCount_23 : decode m3_knownCount.2.1 23 = .ok (.invokestatic 42, 3) := by decide +kernel
theorem D3_knownCount_26 : decode m3_knownCount.2.1 26 = .ok (.ireturn, 1) := by decide +kernel
theorem D3_markKnown_0 : decode m3_markKnown.2.1 0 = .ok (.aload_n 0, 1) := by decide +kernel
theorem D3_markKnown_1 : decode m3_markKnown.2.1 1 = .ok (.invokevirtual 48, 3) := by decide +kernel
theorem D3_markKnown_4 : decode m3_markKnown.2.1 4 = .ok (.istore_n 1, 1) := by decide +kernel
theorem D3_markKnown_5 : decode m3_markKnown.2.1 5 = .ok (.iconst 0, 1) := by decide +kernel
theorem D3_markKnown_6 : decode m3_markKnown.2.1 6 = .ok (.istore_n 2, 1) := by decide +kernel
theorem D3_markKnown_7 : decode m3_markKnown.2.1 7 = .ok (.iload_n 2, 1) := by decide +kernel
theorem D3_markKnown_8 : decode m3_markKnown.2.1 8 = .ok (.iload_n 1, 1) := by decide +kernel
theorem D3_markKnown_9 : decode m3_markKnown.2.1 9 = .ok (.if_icmp .ge 16, 3) := by decide +kernel
theorem D3_markKnown_12 : decode m3_markKnown.2.1 12 = .ok (.aload_n 0, 1) := by decide +kernel
theorem D3_markKnown_13 : decode m3_markKnown.2.1 13 = .ok (.getfield 29, 3) := by decide +kernel
theorem D3_markKnown_16 : decode m3_markKnown.2.1 16 = .ok (.iload_n 2, 1) := by decide +kernel
theorem D3_markKnown_17 : decode m3_markKnown.2.1 17 = .ok (.iconst 0, 1) := by decide +kernel
theorem D3_markKnown_18 : decode m3_markKnown.2.1 18 = .ok (.bastore, 1) := by decide +kernel
theorem D3_markKnown_19 : decode m3_markKnown.2.1 19 = .ok (.iinc 2 1, 3) := by decide +kernel
theorem D3_markKnown_22 : decode m3_markKnown.2.1 22 = .ok (.goto (-15), 3) := by decide +kernel
theorem D3_markKnown_25 : decode m3_markKnown.2.1 25 = .ok (.iload_n 1, 1) := by decide +kernel
theorem D3_markKnown_26 : decode m3_markKnown.2.1 26 = .ok (.iconst 1, 1) := by decide +kernel
theorem D3_markKnown_27 : decode m3_markKnown.2.1 27 = .ok (.isub, 1) := by decide +kernel
theorem D3_markKnown_28 : decode m3_markKnown.2.1 28 = .ok (.istore_n 2, 1) := by decide +kernel
theorem D3_markKnown_29 : decode m3_markKnown.2.1 29 = .ok (.iload_n 2, 1) := by decide +kernel
theorem D3_markKnown_30 : decode m3_markKnown.2.1 30 = .ok (.ifCond .lt 74, 3) := by decide +kernel
theorem D3_markKnown_33 : decode m3_markKnown.2.1 33 = .ok (.aload_n 0, 1) := by decide +kernel
theorem D3_markKnown_34 : decode m3_markKnown.2.1 34 = .ok (.getfield 26, 3) := by decide +kernel
theorem D3_markKnown_37 : decode m3_markKnown.2.1 37 = .ok (.iload_n 2, 1) := by decide +kernel
theorem D3_markKnown_38 : decode m3_markKnown.2.1 38 = .ok (.iaload, 1) := by decide +kernel
theorem D3_markKnown_39 : decode m3_markKnown.2.1 39 = .ok (.iconst (-1), 1) := by decide +kernel
theorem D3_markKnown_40 : decode m3_markKnown.2.1 40 = .ok (.if_icmp .eq 7, 3) := by decide +kernel
theorem D3_markKnown_43 : decode m3_markKnown.2.1 43 = .ok (.iconst 1, 1) := by decide +kernel
theorem D3_markKnown_44 : decode m3_markKnown.2.1 44 = .ok (.goto 4, 3) := by decide +kernel
theorem D3_markKnown_47 : decode m3_markKnown.2.1 47 = .ok (.iconst 0, 1) := by decide +kernel
theorem D3_markKnown_48 : decode m3_markKnown.2.1 48 = .ok (.istore_n 3, 1) := by decide +kernel
theorem D3_markKnown_49 : decode m3_markKnown.2.1 49 = .ok (.aload_n 0, 1) := by decide +kernel
theorem D3_markKnown_50 : decode m3_markKnown.2.1 50 = .ok (.getfield 32, 3) := by decide +kernel
theorem D3_markKnown_53 : decode m3_markKnown.2.1 53 = .ok (.iload_n 2, 1) := by decide +kernel
theorem D3_markKnown_54 : decode m3_markKnown.2.1 54 = .ok (.aload_n 0, 1) := by decide +kernel
theorem D3_markKnown_55 : decode m3_markKnown.2.1 55 = .ok (.getfield 29, 3) := by decide +kernel
theorem D3_markKnown_58 : decode m3_markKnown.2.1 58 = .ok (.iload_n 2, 1) := by decide +kernel
theorem D3_markKnown_59 : decode m3_markKnown.2.1 59 = .ok (.baload, 1) := by decide +kernel
theorem D3_markKnown_60 : decode m3_markKnown.2.1 60 = .ok (.ifCond .ne 11, 3) := by decide +kernel
theorem D3_markKnown_63 : decode m3_markKnown.2.1 63 = .ok (.iload_n 3, 1) := by decide +kernel
theorem D3_markKnown_64 : decode m3_markKnown.2.1 64 = .ok (.ifCond .ne 7, 3) := by decide +kernel
theorem D3_markKnown_67 : decode m3_markKnown.2.1 67 = .ok (.iconst 1, 1) := by decide +kernel
theorem D3_markKnown_68 : decode m3_markKnown.2.1 68 = .ok (.goto 4, 3) := by decide +kernel
theorem D3_markKnown_71 : decode m3_markKnown.2.1 71 = .ok (.iconst 0, 1) := by decide +kernel
theorem D3_markKnown_72 : decode m3_markKnown.2.1 72 = .ok (.bastore, 1) := by decide +kernel
theorem D3_markKnown_73 : decode m3_markKnown.2.1 73 = .ok (.iload_n 3, 1) := by decide +kernel
theorem D3_markKnown_74 : decode m3_markKnown.2.1 74 = .ok (.ifCond .eq 24, 3) := by decide +kernel
theorem D3_markKnown_77 : decode m3_markKnown.2.1 77 = .ok (.aload_n 0, 1) := by decide +kernel
theorem D3_markKnown_78 : decode m3_markKnown.2.1 78 = .ok (.getfield 29, 3) := by decide +kernel
theorem D3_markKnown_81 : decode m3_markKnown.2.1 81 = .ok (.iload_n 2, 1) := by decide +kernel
theorem D3_markKnown_82 : decode m3_markKnown.2.1 82 = .ok (.baload, 1) := by decide +kernel
theorem D3_markKnown_83 : decode m3_markKnown.2.1 83 = .ok (.ifCond .ne 15, 3) := by decide +kernel
theorem D3_markKnown_86 : decode m3_markKnown.2.1 86 = .ok (.aload_n 0, 1) := by decide +kernel
theorem D3_markKnown_87 : decode m3_markKnown.2.1 87 = .ok (.getfield 29, 3) := by decide +kernel
theorem D3_markKnown_90 : decode m3_markKnown.2.1 90 = .ok (.aload_n 0, 1) := by decide +kernel
theorem D3_markKnown_91 : decode m3_markKnown.2.1 91 = .ok (.getfield 26, 3) := by decide +kernel
theorem D3_markKnown_94 : decode m3_markKnown.2.1 94 = .ok (.iload_n 2, 1) := by decide +kernel
theorem D3_markKnown_95 : decode m3_markKnown.2.1 95 = .ok (.iaload, 1) := by decide +kernel
theorem D3_markKnown_96 : decode m3_markKnown.2.1 96 = .ok (.iconst 1, 1) := by decide +kernel
theorem D3_markKnown_97 : decode m3_markKnown.2.1 97 = .ok (.bastore, 1) := by decide +kernel
theorem D3_markKnown_98 : decode m3_markKnown.2.1 98 = .ok (.iinc 2 (-1), 3) := by decide +kernel
theorem D3_markKnown_101 : decode m3_markKnown.2.1 101 = .ok (.goto (-72), 3) := by decide +kernel
theorem D3_markKnown_104 : decode m3_markKnown.2.1 104 = .ok (.return_, 1) := by decide +kernel
theorem D3_lastKnownYear_0 : decode m3_lastKnownYear.2.1 0 = .ok (.iconst 0, 1) := by decide +kernel
theorem D3_lastKnownYear_1 : decode m3_lastKnownYear.2.1 1 = .ok (.istore_n 1, 1) := by decide +kernel
theorem D3_lastKnownYear_2 : decode m3_lastKnownYear.2.1 2 = .ok (.aload_n 0, 1) := by decide +kernel
theorem D3_lastKnownYear_3 : decode m3_lastKnownYear.2.1 3 = .ok (.invokevirtual 48, 3) := by decide +kernel
theorem D3_lastKnownYear_6 : decode m3_lastKnownYear.2.1 6 = .ok (.istore_n 2, 1) := by decide +kernel
theorem D3_lastKnownYear_7 : decode m3_lastKnownYear.2.1 7 = .ok (.iconst 0, 1) := by decide +kernel
theorem D3_lastKnownYear_8 : decode m3_lastKnownYear.2.1 8 = .ok (.istore_n 3, 1) := by decide +kernel
theorem D3_lastKnownYear_9 : decode m3_lastKnownYear.2.1 9 = .ok (.iload_n 3, 1) := by decide +kernel
theorem D3_lastKnownYear_10 : decode m3_lastKnownYear.2.1 10 = .ok (.iload_n 2, 1) := by decide +kernel
theorem D3_lastKnownYear_11 : decode m3_lastKnownYear.2.1 11 = .ok (.if_icmp .ge 29, 3) := by decide +kernel
theorem D3_lastKnownYear_14 : decode m3_lastKnownYear.2.1 14 = .ok (.aload_n 0, 1) := by decide +kernel
theorem D3_lastKnownYear_15 : decode m3_lastKnownYear.2.1 15 = .ok (.getfield 32, 3) := by decide +kernel
theorem D3_lastKnownYear_18 : decode m3_lastKnownYear.2.1 18 = .ok (.iload_n 3, 1) := by decide +kernel
theorem D3_lastKnownYear_19 : decode m3_lastKnownYear.2.1 19 = .ok (.baload, 1) := by decide +kernel
theorem D3_lastKnownYear_20 : decode m3_lastKnownYear.2.1 20 = .ok (.ifCond .eq 14, 3) := by decide +kernel
theorem D3_lastKnownYear_23 : decode m3_lastKnownYear.2.1 23 = .ok (.iload_n 1, 1) := by decide +kernel
theorem D3_lastKnownYear_24 : decode m3_lastKnownYear.2.1 24 = .ok (.aload_n 0, 1) := by decide +kernel
theorem D3_lastKnownYear_25 : decode m3_lastKnownYear.2.1 25 = .ok (.getfield 15, 3) := by decide +kernel
theorem D3_lastKnownYear_28 : decode m3_lastKnownYear.2.1 28 = .ok (.iload_n 3, 1) := by decide +kernel
theorem D3_lastKnownYear_29 : decode m3_lastKnownYear.2.1 29 = .ok (.iaload, 1) := by decide +kernel
theorem D3_lastKnownYear_30 : decode m3_lastKnownYear.2.1 30 = .ok (.invokestatic 52, 3) := by decide +kernel
theorem D3_lastKnownYear_33 : decode m3_lastKnownYear.2.1 33 = .ok (.istore_n 1, 1) := by decide +kernel
theorem D3_lastKnownYear_34 : decode m3_lastKnownYear.2.1 34 = .ok (.iinc 3 1, 3) := by decide +kernel
theorem D3_lastKnownYear_37 : decode m3_lastKnownYear.2.1 37 = .ok (.goto (-28), 3) := by decide +kernel
theorem D3_lastKnownYear_40 : decode m3_lastKnownYear.2.1 40 = .ok (.iload_n 1, 1) := by decide +kernel
theorem D3_lastKnownYear_41 : decode m3_lastKnownYear.2.1 41 = .ok (.ireturn, 1) := by decide +kernel
theorem D3_agrees_0 : decode m3_agrees.2.1 0 = .ok (.aload_n 0, 1) := by decide +kernel
theorem D3_agrees_1 : decode m3_agrees.2.1 1 = .ok (.invokevirtual 48, 3) := by decide +kernel
theorem D3_agrees_4 : decode m3_agrees.2.1 4 = .ok (.istore_n 3, 1) := by decide +kernel
theorem D3_agrees_5 : decode m3_agrees.2.1 5 = .ok (.iconst 0, 1) := by decide +kernel
theorem D3_agrees_6 : decode m3_agrees.2.1 6 = .ok (.istore 4, 2) := by decide +kernel
theorem D3_agrees_8 : decode m3_agrees.2.1 8 = .ok (.iload 4, 2) := by decide +kernel
theorem D3_agrees_10 : decode m3_agrees.2.1 10 = .ok (.iload_n 3, 1) := by decide +kernel
theorem D3_agrees_11 : decode m3_agrees.2.1 11 = .ok (.if_icmp .ge 63, 3) := by decide +kernel
theorem D3_agrees_14 : decode m3_agrees.2.1 14 = .ok (.aload_n 0, 1) := by decide +kernel
theorem D3_agrees_15 : decode m3_agrees.2.1 15 = .ok (.getfield 32, 3) := by decide +kernel
theorem D3_agrees_18 : decode m3_agrees.2.1 18 = .ok (.iload 4, 2) := by decide +kernel
theorem D3_agrees_20 : decode m3_agrees.2.1 20 = .ok (.baload, 1) := by decide +kernel
theorem D3_agrees_21 : decode m3_agrees.2.1 21 = .ok (.ifCond .eq 47, 3) := by decide +kernel
theorem D3_agrees_24 : decode m3_agrees.2.1 24 = .ok (.aload_n 0, 1) := by decide +kernel
theorem D3_agrees_25 : decode m3_agrees.2.1 25 = .ok (.getfield 15, 3) := by decide +kernel
theorem D3_agrees_28 : decode m3_agrees.2.1 28 = .ok (.iload 4, 2) := by decide +kernel
theorem D3_agrees_30 : decode m3_agrees.2.1 30 = .ok (.iaload, 1) := by decide +kernel
theorem D3_agrees_31 : decode m3_agrees.2.1 31 = .ok (.iload_n 1, 1) := by decide +kernel
theorem D3_agrees_32 : decode m3_agrees.2.1 32 = .ok (.if_icmp .ne 36, 3) := by decide +kernel
theorem D3_agrees_35 : decode m3_agrees.2.1 35 = .ok (.aload_n 0, 1) := by decide +kernel
theorem D3_agrees_36 : decode m3_agrees.2.1 36 = .ok (.getfield 22, 3) := by decide +kernel
theorem D3_agrees_39 : decode m3_agrees.2.1 39 = .ok (.iload 4, 2) := by decide +kernel
theorem D3_agrees_41 : decode m3_agrees.2.1 41 = .ok (.baload, 1) := by decide +kernel
theorem D3_agrees_42 : decode m3_agrees.2.1 42 = .ok (.aload_n 2, 1) := by decide +kernel
theorem D3_agrees_43 : decode m3_agrees.2.1 43 = .ok (.getfield 55, 3) := by decide +kernel
theorem D3_agrees_46 : decode m3_agrees.2.1 46 = .ok (.aload_n 0, 1) := by decide +kernel
theorem D3_agrees_47 : decode m3_agrees.2.1 47 = .ok (.getfield 19, 3) := by decide +kernel
theorem D3_agrees_50 : decode m3_agrees.2.1 50 = .ok (.iload 4, 2) := by decide +kernel
theorem D3_agrees_52 : decode m3_agrees.2.1 52 = .ok (.iaload, 1) := by decide +kernel
theorem D3_agrees_53 : decode m3_agrees.2.1 53 = .ok (.iaload, 1) := by decide +kernel
theorem D3_agrees_54 : decode m3_agrees.2.1 54 = .ok (.iconst 2, 1) := by decide +kernel
theorem D3_agrees_55 : decode m3_agrees.2.1 55 = .ok (.if_icmp .ne 7, 3) := by decide +kernel
theorem D3_agrees_58 : decode m3_agrees.2.1 58 = .ok (.iconst 1, 1) := by decide +kernel
theorem D3_agrees_59 : decode m3_agrees.2.1 59 = .ok (.goto 4, 3) := by decide +kernel
theorem D3_agrees_62 : decode m3_agrees.2.1 62 = .ok (.iconst 0, 1) := by decide +kernel
theorem D3_agrees_63 : decode m3_agrees.2.1 63 = .ok (.if_icmp .eq 5, 3) := by decide +kernel
theorem D3_agrees_66 : decode m3_agrees.2.1 66 = .ok (.iconst 0, 1) := by decide +kernel
theorem D3_agrees_67 : decode m3_agrees.2.1 67 = .ok (.ireturn, 1) := by decide +kernel
theorem D3_agrees_68 : decode m3_agrees.2.1 68 = .ok (.iinc 4 1, 3) := by decide +kernel
theorem D3_agrees_71 : decode m3_agrees.2.1 71 = .ok (.goto (-63), 3) := by decide +kernel
theorem D3_agrees_74 : decode m3_agrees.2.1 74 = .ok (.iconst 1, 1) := by decide +kernel
theorem D3_agrees_75 : decode m3_agrees.2.1 75 = .ok (.ireturn, 1) := by decide +kernel
theorem D4_init_0 : decode m4_init.2.1 0 = .ok (.aload_n 0, 1) := by decide +kernel
theorem D4_init_1 : decode m4_init.2.1 1 = .ok (.invokespecial 3, 3) := by decide +kernel
theorem D4_init_4 : decode m4_init.2.1 4 = .ok (.aload_n 0, 1) := by decide +kernel
theorem D4_init_5 : decode m4_init.2.1 5 = .ok (.bipush 8, 2) := by decide +kernel
theorem D4_init_7 : decode m4_init.2.1 7 = .ok (.newarray .int, 2) := by decide +kernel
theorem D4_init_9 : decode m4_init.2.1 9 = .ok (.putfield 9, 3) := by decide +kernel
theorem D4_init_12 : decode m4_init.2.1 12 = .ok (.aload_n 0, 1) := by decide +kernel
theorem D4_init_13 : decode m4_init.2.1 13 = .ok (.aload_n 1, 1) := by decide +kernel
theorem D4_init_14 : decode m4_init.2.1 14 = .ok (.putfield 15, 3) := by decide +kernel
theorem D4_init_17 : decode m4_init.2.1 17 = .ok (.aload_n 0, 1) := by decide +kernel
theorem D4_init_18 : decode m4_init.2.1 18 = .ok (.aload_n 2, 1) := by decide +kernel
theorem D4_init_19 : decode m4_init.2.1 19 = .ok (.putfield 19, 3) := by decide +kernel
theorem D4_init_22 : decode m4_init.2.1 22 = .ok (.return_, 1) := by decide +kernel
theorem D4_arrange_0 : decode m4_arrange.2.1 0 = .ok (.aload_n 0, 1) := by decide +kernel
theorem D4_arrange_1 : decode m4_arrange.2.1 1 = .ok (.aload_n 1, 1) := by decide +kernel
theorem D4_arrange_2 : decode m4_arrange.2.1 2 = .ok (.putfield 15, 3) := by decide +kernel
theorem D4_arrange_5 : decode m4_arrange.2.1 5 = .ok (.aload_n 0, 1) := by decide +kernel
theorem D4_arrange_6 : decode m4_arrange.2.1 6 = .ok (.aload_n 2, 1) := by decide +kernel
theorem D4_arrange_7 : decode m4_arrange.2.1 7 = .ok (.putfield 19, 3) := by decide +kernel
theorem D4_arrange_10 : decode m4_arrange.2.1 10 = .ok (.aload_n 0, 1) := by decide +kernel
theorem D4_arrange_11 : decode m4_arrange.2.1 11 = .ok (.getfield 19, 3) := by decide +kernel
theorem D4_arrange_14 : decode m4_arrange.2.1 14 = .ok (.iconst 0, 1) := by decide +kernel
theorem D4_arrange_15 : decode m4_arrange.2.1 15 = .ok (.invokevirtual 23, 3) := by decide +kernel
theorem D4_arrange_18 : decode m4_arrange.2.1 18 = .ok (.istore_n 3, 1) := by decide +kernel
theorem D4_arrange_19 : decode m4_arrange.2.1 19 = .ok (.aload_n 0, 1) := by decide +kernel
theorem D4_arrange_20 : decode m4_arrange.2.1 20 = .ok (.iconst 0, 1) := by decide +kernel
theorem D4_arrange_21 : decode m4_arrange.2.1 21 = .ok (.iload_n 3, 1) := by decide +kernel
theorem D4_arrange_22 : decode m4_arrange.2.1 22 = .ok (.invokevirtual 29, 3) := by decide +kernel
theorem D4_arrange_25 : decode m4_arrange.2.1 25 = .ok (.istore 4, 2) := by decide +kernel
theorem D4_arrange_27 : decode m4_arrange.2.1 27 = .ok (.aload_n 0, 1) := by decide +kernel
theorem D4_arrange_28 : decode m4_arrange.2.1 28 = .ok (.iload 4, 2) := by decide +kernel
theorem D4_arrange_30 : decode m4_arrange.2.1 30 = .ok (.putfield 33, 3) := by decide +kernel
theorem D4_arrange_33 : decode m4_arrange.2.1 33 = .ok (.iconst 0, 1) := by decide +kernel
theorem D4_arrange_34 : decode m4_arrange.2.1 34 = .ok (.istore 5, 2) := by decide +kernel
theorem D4_arrange_36 : decode m4_arrange.2.1 36 = .ok (.iload 5, 2) := by decide +kernel
theorem D4_arrange_38 : decode m4_arrange.2.1 38 = .ok (.aload_n 0, 1) := by decide +kernel
theorem D4_arrange_39 : decode m4_arrange.2.1 39 = .ok (.getfield 15, 3) := by decide +kernel
theorem D4_arrange_42 : decode m4_arrange.2.1 42 = .ok (.getfield 37, 3) := by decide +kernel
theorem D4_arrange_45 : decode m4_arrange.2.1 45 = .ok (.if_icmp .ge 47, 3) := by decide +kernel
theorem D4_arrange_48 : decode m4_arrange.2.1 48 = .ok (.aload_n 0, 1) := by decide +kernel
theorem D4_arrange_49 : decode m4_arrange.2.1 49 = .ok (.iload 5, 2) := by decide +kernel
theorem D4_arrange_51 : decode m4_arrange.2.1 51 = .ok (.iload_n 3, 1) := by decide +kernel
theorem D4_arrange_52 : decode m4_arrange.2.1 52 = .ok (.iload 4, 2) := by decide +kernel
theorem D4_arrange_54 : decode m4_arrange.2.1 54 = .ok (.invokevirtual 42, 3) := by decide +kernel
theorem D4_arrange_57 : decode m4_arrange.2.1 57 = .ok (.istore 6, 2) := by decide +kernel
theorem D4_arrange_59 : decode m4_arrange.2.1 59 = .ok (.aload_n 0, 1) := by decide +kernel
theorem D4_arrange_60 : decode m4_arrange.2.1 60 = .ok (.getfield 9, 3) := by decide +kernel
theorem D4_arrange_63 : decode m4_arrange.2.1 63 = .ok (.iload 5, 2) := by decide +kernel
theorem D4_arrange_65 : decode m4_arrange.2.1 65 = .ok (.iload 6, 2) := by decide +kernel
theorem D4_arrange_67 : decode m4_arrange.2.1 67 = .ok (.iastore, 1) := by decide +kernel
theorem D4_arrange_68 : decode m4_arrange.2.1 68 = .ok (.iload 6, 2) := by decide +kernel
theorem D4_arrange_70 : decode m4_arrange.2.1 70 = .ok (.iconst (-1), 1) := by decide +kernel
theorem D4_arrange_71 : decode m4_arrange.2.1 71 = .ok (.if_icmp .eq 15, 3) := by decide +kernel
theorem D4_arrange_74 : decode m4_arrange.2.1 74 = .ok (.iload_n 3, 1) := by decide +kernel
theorem D4_arrange_75 : decode m4_arrange.2.1 75 = .ok (.iconst 1, 1) := by decide +kernel
theorem D4_arrange_76 : decode m4_arrange.2.1 76 = .ok (.iload 6, 2) := by decide +kernel
theorem D4_arrange_78 : decode m4_arrange.2.1 78 = .ok (.ishl, 1) := by decide +kernel
theorem D4_arrange_79 : decode m4_arrange.2.1 79 = .ok (.iconst (-1), 1) := by decide +kernel
theorem D4_arrange_80 : decode m4_arrange.2.1 80 = .ok (.ixor, 1) := by decide +kernel
theorem D4_arrange_81 : decode m4_arrange.2.1 81 = .ok (.iand, 1) := by decide +kernel
theorem D4_arrange_82 : decode m4_arrange.2.1 82 = .ok (.istore_n 3, 1) := by decide +kernel
theorem D4_arrange_83 : decode m4_arrange.2.1 83 = .ok (.iinc 4 (-1), 3) := by decide +kernel
theorem D4_arrange_86 : decode m4_arrange.2.1 86 = .ok (.iinc 5 1, 3) := by decide +kernel
theorem D4_arrange_89 : decode m4_arrange.2.1 89 = .ok (.goto (-53), 3) := by decide +kernel
theorem D4_arrange_92 : decode m4_arrange.2.1 92 = .ok (.return_, 1) := by decide +kernel
theorem D4_choose_0 : decode m4_choose.2.1 0 = .ok (.iconst 0, 1) := by decide +kernel
theorem D4_choose_1 : decode m4_choose.2.1 1 = .ok (.istore 4, 2) := by decide +kernel
theorem D4_choose_3 : decode m4_choose.2.1 3 = .ok (.iload 4, 2) := by decide +kernel
theorem D4_choose_5 : decode m4_choose.2.1 5 = .ok (.aload_n 0, 1) := by decide +kernel
theorem D4_choose_6 : decode m4_choose.2.1 6 = .ok (.getfield 15, 3) := by decide +kernel
theorem D4_choose_9 : decode m4_choose.2.1 9 = .ok (.getfield 46, 3) := by decide +kernel
theorem D4_choose_12 : decode m4_choose.2.1 12 = .ok (.if_icmp .ge 44, 3) := by decide +kernel
theorem D4_choose_15 : decode m4_choose.2.1 15 = .ok (.aload_n 0, 1) := by decide +kernel
theorem D4_choose_16 : decode m4_choose.2.1 16 = .ok (.iload_n 1, 1) := by decide +kernel
theorem D4_choose_17 : decode m4_choose.2.1 17 = .ok (.iload 4, 2) := by decide +kernel
theorem D4_choose_19 : decode m4_choose.2.1 19 = .ok (.iload_n 2, 1) := by decide +kernel
theorem D4_choose_20 : decode m4_choose.2.1 20 = .ok (.invokevirtual 49, 3) := by decide +kernel
theorem D4_choose_23 : decode m4_choose.2.1 23 = .ok (.ifCond .eq 27, 3) := by decide +kernel
theorem D4_choose_26 : decode m4_choose.2.1 26 = .ok (.iconst 1, 1) := by decide +kernel
theorem D4_choose_27 : decode m4_choose.2.1 27 = .ok (.aload_n 0, 1) := by decide +kernel
theorem D4_choose_28 : decode m4_choose.2.1 28 = .ok (.iload_n 1, 1) := by decide +kernel
theorem D4_choose_29 : decode m4_choose.2.1 29 = .ok (.iconst 1, 1) := by decide +kernel
theorem D4_choose_30 : decode m4_choose.2.1 30 = .ok (.iadd, 1) := by decide +kernel
theorem D4_choose_31 : decode m4_choose.2.1 31 = .ok (.iload_n 2, 1) := by decide +kernel
theorem D4_choose_32 : decode m4_choose.2.1 32 = .ok (.iconst 1, 1) := by decide +kernel
theorem D4_choose_33 : decode m4_choose.2.1 33 = .ok (.iload 4, 2) := by decide +kernel
theorem D4_choose_35 : decode m4_choose.2.1 35 = .ok (.ishl, 1) := by decide +kernel
theorem D4_choose_36 : decode m4_choose.2.1 36 = .ok (.iconst (-1), 1) := by decide +kernel
theorem D4_choose_37 : decode m4_choose.2.1 37 = .ok (.ixor, 1) := by decide +kernel
theorem D4_choose_38 : decode m4_choose.2.1 38 = .ok (.iand, 1) := by decide +kernel
theorem D4_choose_39 : decode m4_choose.2.1 39 = .ok (.invokevirtual 29, 3) := by decide +kernel
theorem D4_choose_42 : decode m4_choose.2.1 42 = .ok (.iadd, 1) := by decide +kernel
theorem D4_choose_43 : decode m4_choose.2.1 43 = .ok (.iload_n 3, 1) := by decide +kernel
theorem D4_choose_44 : decode m4_choose.2.1 44 = .ok (.if_icmp .ne 6, 3) := by decide +kernel
theorem D4_choose_47 : decode m4_choose.2.1 47 = .ok (.iload 4, 2) := by decide +kernel
theorem D4_choose_49 : decode m4_choose.2.1 49 = .ok (.ireturn, 1) := by decide +kernel
theorem D4_choose_50 : decode m4_choose.2.1 50 = .ok (.iinc 4 1, 3) := by decide +kernel
theorem D4_choose_53 : decode m4_choose.2.1 53 = .ok (.goto (-50), 3) := by decide +kernel
theorem D4_choose_56 : decode m4_choose.2.1 56 = .ok (.iconst (-1), 1) := by decide +kernel
theorem D4_choose_57 : decode m4_choose.2.1 57 = .ok (.ireturn, 1) := by decide +kernel
theorem D4_fits_0 : decode m4_fits.2.1 0 = .ok (.aload_n 0, 1) := by decide +kernel
theorem D4_fits_1 : decode m4_fits.2.1 1 = .ok (.getfield 19, 3) := by decide +kernel
theorem D4_fits_4 : decode m4_fits.2.1 4 = .ok (.getfield 53, 3) := by decide +kernel
theorem D4_fits_7 : decode m4_fits.2.1 7 = .ok (.iload_n 1, 1) := by decide +kernel
theorem D4_fits_8 : decode m4_fits.2.1 8 = .ok (.iaload, 1) := by decide +kernel
theorem D4_fits_9 : decode m4_fits.2.1 9 = .ok (.iconst (-1), 1) := by decide +kernel
theorem D4_fits_10 : decode m4_fits.2.1 10 = .ok (.if_icmp .ne 48, 3) := by decide +kernel
theorem D4_fits_13 : decode m4_fits.2.1 13 = .ok (.iload_n 3, 1) := by decide +kernel
theorem D4_fits_14 : decode m4_fits.2.1 14 = .ok (.iload_n 2, 1) := by decide +kernel
theorem D4_fits_15 : decode m4_fits.2.1 15 = .ok (.ishr, 1) := by decide +kernel
theorem D4_fits_16 : decode m4_fits.2.1 16 = .ok (.iconst 1, 1) := by decide +kernel
theorem D4_fits_17 : decode m4_fits.2.1 17 = .ok (.iand, 1) := by decide +kernel
theorem D4_fits_18 : decode m4_fits.2.1 18 = .ok (.ifCond .eq 40, 3) := by decide +kernel
theorem D4_fits_21 : decode m4_fits.2.1 21 = .ok (.aload_n 0, 1) := by decide +kernel
theorem D4_fits_22 : decode m4_fits.2.1 22 = .ok (.getfield 19, 3) := by decide +kernel
theorem D4_fits_25 : decode m4_fits.2.1 25 = .ok (.getfield 56, 3) := by decide +kernel
theorem D4_fits_28 : decode m4_fits.2.1 28 = .ok (.iload_n 2, 1) := by decide +kernel
theorem D4_fits_29 : decode m4_fits.2.1 29 = .ok (.iaload, 1) := by decide +kernel
theorem D4_fits_30 : decode m4_fits.2.1 30 = .ok (.aload_n 0, 1) := by decide +kernel
theorem D4_fits_31 : decode m4_fits.2.1 31 = .ok (.getfield 15, 3) := by decide +kernel
theorem D4_fits_34 : decode m4_fits.2.1 34 = .ok (.getfield 59, 3) := by decide +kernel
theorem D4_fits_37 : decode m4_fits.2.1 37 = .ok (.iload_n 1, 1) := by decide +kernel
theorem D4_fits_38 : decode m4_fits.2.1 38 = .ok (.iaload, 1) := by decide +kernel
theorem D4_fits_39 : decode m4_fits.2.1 39 = .ok (.aload_n 0, 1) := by decide +kernel
theorem D4_fits_40 : decode m4_fits.2.1 40 = .ok (.getfield 15, 3) := by decide +kernel
theorem D4_fits_43 : decode m4_fits.2.1 43 = .ok (.getfield 62, 3) := by decide +kernel
theorem D4_fits_46 : decode m4_fits.2.1 46 = .ok (.iload_n 1, 1) := by decide +kernel
theorem D4_fits_47 : decode m4_fits.2.1 47 = .ok (.iaload, 1) := by decide +kernel
theorem D4_fits_48 : decode m4_fits.2.1 48 = .ok (.invokestatic 65, 3) := by decide +kernel
theorem D4_fits_51 : decode m4_fits.2.1 51 = .ok (.ifCond .eq 7, 3) := by decide +kernel
theorem D4_fits_54 : decode m4_fits.2.1 54 = .ok (.iconst 1, 1) := by decide +kernel
theorem D4_fits_55 : decode m4_fits.2.1 55 = .ok (.goto 4, 3) := by decide +kernel
theorem D4_fits_58 : decode m4_fits.2.1 58 = .ok (.iconst 0, 1) := by decide +kernel
theorem D4_fits_59 : decode m4_fits.2.1 59 = .ok (.ireturn, 1) := by decide +kernel
theorem D4_mostFrom_0 : decode m4_mostFrom.2.1 0 = .ok (.iconst 0, 1) := by decide +kernel
theorem D4_mostFrom_1 : decode m4_mostFrom.2.1 1 = .ok (.istore_n 3, 1) := by decide +kernel
theorem D4_mostFrom_2 : decode m4_mostFrom.2.1 2 = .ok (.iconst 0, 1) := by decide +kernel
theorem D4_mostFrom_3 : decode m4_mostFrom.2.1 3 = .ok (.istore 4, 2) := by decide +kernel
theorem D4_mostFrom_5 : decode m4_mostFrom.2.1 5 = .ok (.iload_n 1, 1) := by decide +kernel
theorem D4_mostFrom_6 : decode m4_mostFrom.2.1 6 = .ok (.istore 5, 2) := by decide +kernel
theorem D4_mostFrom_8 : decode m4_mostFrom.2.1 8 = .ok (.iload 5, 2) := by decide +kernel
theorem D4_mostFrom_10 : decode m4_mostFrom.2.1 10 = .ok (.aload_n 0, 1) := by decide +kernel
theorem D4_mostFrom_11 : decode m4_mostFrom.2.1 11 = .ok (.getfield 15, 3) := by decide +kernel
theorem D4_mostFrom_14 : decode m4_mostFrom.2.1 14 = .ok (.getfield 37, 3) := by decide +kernel
theorem D4_mostFrom_17 : decode m4_mostFrom.2.1 17 = .ok (.if_icmp .ge 57, 3) := by decide +kernel
theorem D4_mostFrom_20 : decode m4_mostFrom.2.1 20 = .ok (.aload_n 0, 1) := by decide +kernel
theorem D4_mostFrom_21 : decode m4_mostFrom.2.1 21 = .ok (.iload_n 1, 1) := by decide +kernel
theorem D4_mostFrom_22 : decode m4_mostFrom.2.1 22 = .ok (.iload_n 3, 1) := by decide +kernel
theorem D4_mostFrom_23 : decode m4_mostFrom.2.1 23 = .ok (.invokevirtual 68, 3) := by decide +kernel
theorem D4_mostFrom_26 : decode m4_mostFrom.2.1 26 = .ok (.istore 6, 2) := by decide +kernel
theorem D4_mostFrom_28 : decode m4_mostFrom.2.1 28 = .ok (.iload 6, 2) := by decide +kernel
theorem D4_mostFrom_30 : decode m4_mostFrom.2.1 30 = .ok (.iconst (-1), 1) := by decide +kernel
theorem D4_mostFrom_31 : decode m4_mostFrom.2.1 31 = .ok (.if_icmp .eq 37, 3) := by decide +kernel
theorem D4_mostFrom_34 : decode m4_mostFrom.2.1 34 = .ok (.iload_n 3, 1) := by decide +kernel
theorem D4_mostFrom_35 : decode m4_mostFrom.2.1 35 = .ok (.iconst 1, 1) := by decide +kernel
theorem D4_mostFrom_36 : decode m4_mostFrom.2.1 36 = .ok (.iload 6, 2) := by decide +kernel
theorem D4_mostFrom_38 : decode m4_mostFrom.2.1 38 = .ok (.ishl, 1) := by decide +kernel
theorem D4_mostFrom_39 : decode m4_mostFrom.2.1 39 = .ok (.ior, 1) := by decide +kernel
theorem D4_mostFrom_40 : decode m4_mostFrom.2.1 40 = .ok (.istore_n 3, 1) := by decide +kernel
theorem D4_mostFrom_41 : decode m4_mostFrom.2.1 41 = .ok (.aload_n 0, 1) := by decide +kernel
theorem D4_mostFrom_42 : decode m4_mostFrom.2.1 42 = .ok (.iload 6, 2) := by decide +kernel
theorem D4_mostFrom_44 : decode m4_mostFrom.2.1 44 = .ok (.iload_n 2, 1) := by decide +kernel
theorem D4_mostFrom_45 : decode m4_mostFrom.2.1 45 = .ok (.invokevirtual 71, 3) := by decide +kernel
theorem D4_mostFrom_48 : decode m4_mostFrom.2.1 48 = .ok (.istore 7, 2) := by decide +kernel
theorem D4_mostFrom_50 : decode m4_mostFrom.2.1 50 = .ok (.iload 7, 2) := by decide +kernel
theorem D4_mostFrom_52 : decode m4_mostFrom.2.1 52 = .ok (.iconst (-1), 1) := by decide +kernel
theorem D4_mostFrom_53 : decode m4_mostFrom.2.1 53 = .ok (.if_icmp .eq 15, 3) := by decide +kernel
theorem D4_mostFrom_56 : decode m4_mostFrom.2.1 56 = .ok (.iload_n 2, 1) := by decide +kernel
theorem D4_mostFrom_57 : decode m4_mostFrom.2.1 57 = .ok (.iconst 1, 1) := by decide +kernel
theorem D4_mostFrom_58 : decode m4_mostFrom.2.1 58 = .ok (.iload 7, 2) := by decide +kernel
theorem D4_mostFrom_60 : decode m4_mostFrom.2.1 60 = .ok (.ishl, 1) := by decide +kernel
theorem D4_mostFrom_61 : decode m4_mostFrom.2.1 61 = .ok (.iconst (-1), 1) := by decide +kernel
theorem D4_mostFrom_62 : decode m4_mostFrom.2.1 62 = .ok (.ixor, 1) := by decide +kernel
theorem D4_mostFrom_63 : decode m4_mostFrom.2.1 63 = .ok (.iand, 1) := by decide +kernel
theorem D4_mostFrom_64 : decode m4_mostFrom.2.1 64 = .ok (.istore_n 2, 1) := by decide +kernel
theorem D4_mostFrom_65 : decode m4_mostFrom.2.1 65 = .ok (.iinc 4 1, 3) := by decide +kernel
theorem D4_mostFrom_68 : decode m4_mostFrom.2.1 68 = .ok (.iinc 5 1, 3) := by decide +kernel
theorem D4_mostFrom_71 : decode m4_mostFrom.2.1 71 = .ok (.goto (-63), 3) := by decide +kernel
theorem D4_mostFrom_74 : decode m4_mostFrom.2.1 74 = .ok (.iload 4, 2) := by decide +kernel
theorem D4_mostFrom_76 : decode m4_mostFrom.2.1 76 = .ok (.ireturn, 1) := by decide +kernel
theorem D4_endingFirst_0 : decode m4_endingFirst.2.1 0 = .ok (.iconst (-1), 1) := by decide +kernel
theorem D4_endingFirst_1 : decode m4_endingFirst.2.1 1 = .ok (.istore_n 3, 1) := by decide +kernel
theorem D4_endingFirst_2 : decode m4_endingFirst.2.1 2 = .ok (.iload_n 1, 1) := by decide +kernel
theorem D4_endingFirst_3 : decode m4_endingFirst.2.1 3 = .ok (.istore 4, 2) := by decide +kernel
theorem D4_endingFirst_5 : decode m4_endingFirst.2.1 5 = .ok (.iload 4, 2) := by decide +kernel
theorem D4_endingFirst_7 : decode m4_endingFirst.2.1 7 = .ok (.aload_n 0, 1) := by decide +kernel
theorem D4_endingFirst_8 : decode m4_endingFirst.2.1 8 = .ok (.getfield 15, 3) := by decide +kernel
theorem D4_endingFirst_11 : decode m4_endingFirst.2.1 11 = .ok (.getfield 37, 3) := by decide +kernel
theorem D4_endingFirst_14 : decode m4_endingFirst.2.1 14 = .ok (.if_icmp .ge 48, 3) := by decide +kernel
theorem D4_endingFirst_17 : decode m4_endingFirst.2.1 17 = .ok (.iload_n 2, 1) := by decide +kernel
theorem D4_endingFirst_18 : decode m4_endingFirst.2.1 18 = .ok (.iload 4, 2) := by decide +kernel
theorem D4_endingFirst_20 : decode m4_endingFirst.2.1 20 = .ok (.ishr, 1) := by decide +kernel
theorem D4_endingFirst_21 : decode m4_endingFirst.2.1 21 = .ok (.iconst 1, 1) := by decide +kernel
theorem D4_endingFirst_22 : decode m4_endingFirst.2.1 22 = .ok (.iand, 1) := by decide +kernel
theorem D4_endingFirst_23 : decode m4_endingFirst.2.1 23 = .ok (.ifCond .ne 33, 3) := by decide +kernel
theorem D4_endingFirst_26 : decode m4_endingFirst.2.1 26 = .ok (.iload_n 3, 1) := by decide +kernel
theorem D4_endingFirst_27 : decode m4_endingFirst.2.1 27 = .ok (.iconst (-1), 1) := by decide +kernel
theorem D4_endingFirst_28 : decode m4_endingFirst.2.1 28 = .ok (.if_icmp .eq 25, 3) := by decide +kernel
theorem D4_endingFirst_31 : decode m4_endingFirst.2.1 31 = .ok (.aload_n 0, 1) := by decide +kernel
theorem D4_endingFirst_32 : decode m4_endingFirst.2.1 32 = .ok (.getfield 15, 3) := by decide +kernel
theorem D4_endingFirst_35 : decode m4_endingFirst.2.1 35 = .ok (.getfield 62, 3) := by decide +kernel
theorem D4_endingFirst_38 : decode m4_endingFirst.2.1 38 = .ok (.iload 4, 2) := by decide +kernel
theorem D4_endingFirst_40 : decode m4_endingFirst.2.1 40 = .ok (.iaload, 1) := by decide +kernel
theorem D4_endingFirst_41 : decode m4_endingFirst.2.1 41 = .ok (.aload_n 0, 1) := by decide +kernel
theorem D4_endingFirst_42 : decode m4_endingFirst.2.1 42 = .ok (.getfield 15, 3) := by decide +kernel
theorem D4_endingFirst_45 : decode m4_endingFirst.2.1 45 = .ok (.getfield 62, 3) := by decide +kernel
theorem D4_endingFirst_48 : decode m4_endingFirst.2.1 48 = .ok (.iload_n 3, 1) := by decide +kernel
theorem D4_endingFirst_49 : decode m4_endingFirst.2.1 49 = .ok (.iaload, 1) := by decide +kernel
theorem D4_endingFirst_50 : decode m4_endingFirst.2.1 50 = .ok (.if_icmp .ge 6, 3) := by decide +kernel
theorem D4_endingFirst_53 : decode m4_endingFirst.2.1 53 = .ok (.iload 4, 2) := by decide +kernel
theorem D4_endingFirst_55 : decode m4_endingFirst.2.1 55 = .ok (.istore_n 3, 1) := by decide +kernel
theorem D4_endingFirst_56 : decode m4_endingFirst.2.1 56 = .ok (.iinc 4 1, 3) := by decide +kernel
theorem D4_endingFirst_59 : decode m4_endingFirst.2.1 59 = .ok (.goto (-54), 3) := by decide +kernel
theorem D4_endingFirst_62 : decode m4_endingFirst.2.1 62 = .ok (.iload_n 3, 1) := by decide +kernel
theorem D4_endingFirst_63 : decode m4_endingFirst.2.1 63 = .ok (.ireturn, 1) := by decide +kernel
theorem D4_weakestFor_0 : decode m4_weakestFor.2.1 0 = .ok (.iconst (-1), 1) := by decide +kernel
theorem D4_weakestFor_1 : decode m4_weakestFor.2.1 1 = .ok (.istore_n 3, 1) := by decide +kernel
theorem D4_weakestFor_2 : decode m4_weakestFor.2.1 2 = .ok (.iconst 0, 1) := by decide +kernel
theorem D4_weakestFor_3 : decode m4_weakestFor.2.1 3 = .ok (.istore 4, 2) := by decide +kernel
theorem D4_weakestFor_5 : decode m4_weakestFor.2.1 5 = .ok (.iload 4, 2) := by decide +kernel
theorem D4_weakestFor_7 : decode m4_weakestFor.2.1 7 = .ok (.aload_n 0, 1) := by decide +kernel
theorem D4_weakestFor_8 : decode m4_weakestFor.2.1 8 = .ok (.getfield 15, 3) := by decide +kernel
theorem D4_weakestFor_11 : decode m4_weakestFor.2.1 11 = .ok (.getfield 46, 3) := by decide +kernel
theorem D4_weakestFor_14 : decode m4_weakestFor.2.1 14 = .ok (.if_icmp .ge 50, 3) := by decide +kernel
theorem D4_weakestFor_17 : decode m4_weakestFor.2.1 17 = .ok (.aload_n 0, 1) := by decide +kernel
theorem D4_weakestFor_18 : decode m4_weakestFor.2.1 18 = .ok (.iload_n 1, 1) := by decide +kernel
theorem D4_weakestFor_19 : decode m4_weakestFor.2.1 19 = .ok (.iload 4, 2) := by decide +kernel
theorem D4_weakestFor_21 : decode m4_weakestFor.2.1 21 = .ok (.iload_n 2, 1) := by decide +kernel
theorem D4_weakestFor_22 : decode m4_weakestFor.2.1 22 = .ok (.invokevirtual 49, 3) := by decide +kernel
theorem D4_weakestFor_25 : decode m4_weakestFor.2.1 25 = .ok (.ifCond .eq 33, 3) := by decide +kernel
theorem D4_weakestFor_28 : decode m4_weakestFor.2.1 28 = .ok (.iload_n 3, 1) := by decide +kernel
theorem D4_weakestFor_29 : decode m4_weakestFor.2.1 29 = .ok (.iconst (-1), 1) := by decide +kernel
theorem D4_weakestFor_30 : decode m4_weakestFor.2.1 30 = .ok (.if_icmp .eq 25, 3) := by decide +kernel
theorem D4_weakestFor_33 : decode m4_weakestFor.2.1 33 = .ok (.aload_n 0, 1) := by decide +kernel
theorem D4_weakestFor_34 : decode m4_weakestFor.2.1 34 = .ok (.getfield 19, 3) := by decide +kernel
theorem D4_weakestFor_37 : decode m4_weakestFor.2.1 37 = .ok (.getfield 56, 3) := by decide +kernel
theorem D4_weakestFor_40 : decode m4_weakestFor.2.1 40 = .ok (.iload 4, 2) := by decide +kernel
theorem D4_weakestFor_42 : decode m4_weakestFor.2.1 42 = .ok (.iaload, 1) := by decide +kernel
theorem D4_weakestFor_43 : decode m4_weakestFor.2.1 43 = .ok (.aload_n 0, 1) := by decide +kernel
theorem D4_weakestFor_44 : decode m4_weakestFor.2.1 44 = .ok (.getfield 19, 3) := by decide +kernel
theorem D4_weakestFor_47 : decode m4_weakestFor.2.1 47 = .ok (.getfield 56, 3) := by decide +kernel
theorem D4_weakestFor_50 : decode m4_weakestFor.2.1 50 = .ok (.iload_n 3, 1) := by decide +kernel
theorem D4_weakestFor_51 : decode m4_weakestFor.2.1 51 = .ok (.iaload, 1) := by decide +kernel
theorem D4_weakestFor_52 : decode m4_weakestFor.2.1 52 = .ok (.if_icmp .ge 6, 3) := by decide +kernel
theorem D4_weakestFor_55 : decode m4_weakestFor.2.1 55 = .ok (.iload 4, 2) := by decide +kernel
theorem D4_weakestFor_57 : decode m4_weakestFor.2.1 57 = .ok (.istore_n 3, 1) := by decide +kernel
theorem D4_weakestFor_58 : decode m4_weakestFor.2.1 58 = .ok (.iinc 4 1, 3) := by decide +kernel
theorem D4_weakestFor_61 : decode m4_weakestFor.2.1 61 = .ok (.goto (-56), 3) := by decide +kernel
theorem D4_weakestFor_64 : decode m4_weakestFor.2.1 64 = .ok (.iload_n 3, 1) := by decide +kernel
theorem D4_weakestFor_65 : decode m4_weakestFor.2.1 65 = .ok (.ireturn, 1) := by decide +kernel
theorem D5_init_0 : decode m5_init.2.1 0 = .ok (.aload_n 0, 1) := by decide +kernel
theorem D5_init_1 : decode m5_init.2.1 1 = .ok (.invokespecial 3, 3) := by decide +kernel
theorem D5_init_4 : decode m5_init.2.1 4 = .ok (.aload_n 0, 1) := by decide +kernel
theorem D5_init_5 : decode m5_init.2.1 5 = .ok (.sipush 701, 3) := by decide +kernel
theorem D5_init_8 : decode m5_init.2.1 8 = .ok (.newarray .int, 2) := by decide +kernel
theorem D5_init_10 : decode m5_init.2.1 10 = .ok (.putfield 9, 3) := by decide +kernel
theorem D5_init_13 : decode m5_init.2.1 13 = .ok (.aload_n 0, 1) := by decide +kernel
theorem D5_init_14 : decode m5_init.2.1 14 = .ok (.sipush 701, 3) := by decide +kernel
theorem D5_init_17 : decode m5_init.2.1 17 = .ok (.newarray .int, 2) := by decide +kernel
theorem D5_init_19 : decode m5_init.2.1 19 = .ok (.putfield 15, 3) := by decide +kernel
theorem D5_init_22 : decode m5_init.2.1 22 = .ok (.aload_n 0, 1) := by decide +kernel
theorem D5_init_23 : decode m5_init.2.1 23 = .ok (.sipush 701, 3) := by decide +kernel
theorem D5_init_26 : decode m5_init.2.1 26 = .ok (.newarray .int, 2) := by decide +kernel
theorem D5_init_28 : decode m5_init.2.1 28 = .ok (.putfield 18, 3) := by decide +kernel
theorem D5_init_31 : decode m5_init.2.1 31 = .ok (.aload_n 0, 1) := by decide +kernel
theorem D5_init_32 : decode m5_init.2.1 32 = .ok (.aload_n 1, 1) := by decide +kernel
theorem D5_init_33 : decode m5_init.2.1 33 = .ok (.putfield 21, 3) := by decide +kernel
theorem D5_init_36 : decode m5_init.2.1 36 = .ok (.return_, 1) := by decide +kernel
theorem D5_readAll_0 : decode m5_readAll.2.1 0 = .ok (.aload_n 0, 1) := by decide +kernel
theorem D5_readAll_1 : decode m5_readAll.2.1 1 = .ok (.iload_n 1, 1) := by decide +kernel
theorem D5_readAll_2 : decode m5_readAll.2.1 2 = .ok (.aload_n 0, 1) := by decide +kernel
theorem D5_readAll_3 : decode m5_readAll.2.1 3 = .ok (.getfield 21, 3) := by decide +kernel
theorem D5_readAll_6 : decode m5_readAll.2.1 6 = .ok (.arraylength, 1) := by decide +kernel
theorem D5_readAll_7 : decode m5_readAll.2.1 7 = .ok (.invokestatic 25, 3) := by decide +kernel
theorem D5_readAll_10 : decode m5_readAll.2.1 10 = .ok (.putfield 31, 3) := by decide +kernel
theorem D5_readAll_13 : decode m5_readAll.2.1 13 = .ok (.aload_n 0, 1) := by decide +kernel
theorem D5_readAll_14 : decode m5_readAll.2.1 14 = .ok (.iconst 0, 1) := by decide +kernel
theorem D5_readAll_15 : decode m5_readAll.2.1 15 = .ok (.putfield 35, 3) := by decide +kernel
theorem D5_readAll_18 : decode m5_readAll.2.1 18 = .ok (.iconst 0, 1) := by decide +kernel
theorem D5_readAll_19 : decode m5_readAll.2.1 19 = .ok (.istore_n 2, 1) := by decide +kernel
theorem D5_readAll_20 : decode m5_readAll.2.1 20 = .ok (.aload_n 0, 1) := by decide +kernel
theorem D5_readAll_21 : decode m5_readAll.2.1 21 = .ok (.getfield 35, 3) := by decide +kernel
theorem D5_readAll_24 : decode m5_readAll.2.1 24 = .ok (.aload_n 0, 1) := by decide +kernel
theorem D5_readAll_25 : decode m5_readAll.2.1 25 = .ok (.getfield 31, 3) := by decide +kernel
theorem D5_readAll_28 : decode m5_readAll.2.1 28 = .ok (.if_icmp .ge 72, 3) := by decide +kernel
theorem D5_readAll_31 : decode m5_readAll.2.1 31 = .ok (.iload_n 2, 1) := by decide +kernel
theorem D5_readAll_32 : decode m5_readAll.2.1 32 = .ok (.sipush 700, 3) := by decide +kernel
theorem D5_readAll_35 : decode m5_readAll.2.1 35 = .ok (.if_icmp .ge 65, 3) := by decide +kernel
theorem D5_readAll_38 : decode m5_readAll.2.1 38 = .ok (.aload_n 0, 1) := by decide +kernel
theorem D5_readAll_39 : decode m5_readAll.2.1 39 = .ok (.getfield 21, 3) := by decide +kernel
theorem D5_readAll_42 : decode m5_readAll.2.1 42 = .ok (.aload_n 0, 1) := by decide +kernel
theorem D5_readAll_43 : decode m5_readAll.2.1 43 = .ok (.getfield 35, 3) := by decide +kernel
theorem D5_readAll_46 : decode m5_readAll.2.1 46 = .ok (.baload, 1) := by decide +kernel
theorem D5_readAll_47 : decode m5_readAll.2.1 47 = .ok (.bipush 10, 2) := by decide +kernel
theorem D5_readAll_49 : decode m5_readAll.2.1 49 = .ok (.if_icmp .eq 17, 3) := by decide +kernel
theorem D5_readAll_52 : decode m5_readAll.2.1 52 = .ok (.aload_n 0, 1) := by decide +kernel
theorem D5_readAll_53 : decode m5_readAll.2.1 53 = .ok (.getfield 21, 3) := by decide +kernel
theorem D5_readAll_56 : decode m5_readAll.2.1 56 = .ok (.aload_n 0, 1) := by decide +kernel
theorem D5_readAll_57 : decode m5_readAll.2.1 57 = .ok (.getfield 35, 3) := by decide +kernel
theorem D5_readAll_60 : decode m5_readAll.2.1 60 = .ok (.baload, 1) := by decide +kernel
theorem D5_readAll_61 : decode m5_readAll.2.1 61 = .ok (.bipush 32, 2) := by decide +kernel
theorem D5_readAll_63 : decode m5_readAll.2.1 63 = .ok (.if_icmp .ne 16, 3) := by decide +kernel
theorem D5_readAll_66 : decode m5_readAll.2.1 66 = .ok (.aload_n 0, 1) := by decide +kernel
theorem D5_readAll_67 : decode m5_readAll.2.1 67 = .ok (.dup, 1) := by decide +kernel
theorem D5_readAll_68 : decode m5_readAll.2.1 68 = .ok (.getfield 35, 3) := by decide +kernel
theorem D5_readAll_71 : decode m5_readAll.2.1 71 = .ok (.iconst 1, 1) := by decide +kernel
theorem D5_readAll_72 : decode m5_readAll.2.1 72 = .ok (.iadd, 1) := by decide +kernel
theorem D5_readAll_73 : decode m5_readAll.2.1 73 = .ok (.putfield 35, 3) := by decide +kernel
theorem D5_readAll_76 : decode m5_readAll.2.1 76 = .ok (.goto (-56), 3) := by decide +kernel
theorem D5_readAll_79 : decode m5_readAll.2.1 79 = .ok (.aload_n 0, 1) := by decide +kernel
theorem D5_readAll_80 : decode m5_readAll.2.1 80 = .ok (.getfield 15, 3) := by decide +kernel
theorem D5_readAll_83 : decode m5_readAll.2.1 83 = .ok (.iload_n 2, 1) := by decide +kernel
theorem D5_readAll_84 : decode m5_readAll.2.1 84 = .ok (.aload_n 0, 1) := by decide +kernel
theorem D5_readAll_85 : decode m5_readAll.2.1 85 = .ok (.getfield 35, 3) := by decide +kernel
theorem D5_readAll_88 : decode m5_readAll.2.1 88 = .ok (.iastore, 1) := by decide +kernel
theorem D5_readAll_89 : decode m5_readAll.2.1 89 = .ok (.aload_n 0, 1) := by decide +kernel
theorem D5_readAll_90 : decode m5_readAll.2.1 90 = .ok (.iload_n 2, 1) := by decide +kernel
theorem D5_readAll_91 : decode m5_readAll.2.1 91 = .ok (.invokevirtual 38, 3) := by decide +kernel
theorem D5_readAll_94 : decode m5_readAll.2.1 94 = .ok (.iinc 2 1, 3) := by decide +kernel
theorem D5_readAll_97 : decode m5_readAll.2.1 97 = .ok (.goto (-77), 3) := by decide +kernel
theorem D5_readAll_100 : decode m5_readAll.2.1 100 = .ok (.aload_n 0, 1) := by decide +kernel
theorem D5_readAll_101 : decode m5_readAll.2.1 101 = .ok (.getfield 15, 3) := by decide +kernel
theorem D5_readAll_104 : decode m5_readAll.2.1 104 = .ok (.iload_n 2, 1) := by decide +kernel
theorem D5_readAll_105 : decode m5_readAll.2.1 105 = .ok (.aload_n 0, 1) := by decide +kernel
theorem D5_readAll_106 : decode m5_readAll.2.1 106 = .ok (.getfield 31, 3) := by decide +kernel
theorem D5_readAll_109 : decode m5_readAll.2.1 109 = .ok (.iastore, 1) := by decide +kernel
theorem D5_readAll_110 : decode m5_readAll.2.1 110 = .ok (.aload_n 0, 1) := by decide +kernel
theorem D5_readAll_111 : decode m5_readAll.2.1 111 = .ok (.getfield 9, 3) := by decide +kernel
theorem D5_readAll_114 : decode m5_readAll.2.1 114 = .ok (.iload_n 2, 1) := by decide +kernel
theorem D5_readAll_115 : decode m5_readAll.2.1 115 = .ok (.bipush 34, 2) := by decide +kernel
theorem D5_readAll_117 : decode m5_readAll.2.1 117 = .ok (.iastore, 1) := by decide +kernel
theorem D5_readAll_118 : decode m5_readAll.2.1 118 = .ok (.return_, 1) := by decide +kernel
theorem D5_readOne_0 : decode m5_readOne.2.1 0 = .ok (.aload_n 0, 1) := by decide +kernel
theorem D5_readOne_1 : decode m5_readOne.2.1 1 = .ok (.getfield 21, 3) := by decide +kernel
theorem D5_readOne_4 : decode m5_readOne.2.1 4 = .ok (.aload_n 0, 1) := by decide +kernel
theorem D5_readOne_5 : decode m5_readOne.2.1 5 = .ok (.getfield 35, 3) := by decide +kernel
theorem D5_readOne_8 : decode m5_readOne.2.1 8 = .ok (.baload, 1) := by decide +kernel
theorem D5_readOne_9 : decode m5_readOne.2.1 9 = .ok (.istore_n 2, 1) := by decide +kernel
theorem D5_readOne_10 : decode m5_readOne.2.1 10 = .ok (.iload_n 2, 1) := by decide +kernel
theorem D5_readOne_11 : decode m5_readOne.2.1 11 = .ok (.invokestatic 42, 3) := by decide +kernel
theorem D5_readOne_14 : decode m5_readOne.2.1 14 = .ok (.ifCond .eq 11, 3) := by decide +kernel
theorem D5_readOne_17 : decode m5_readOne.2.1 17 = .ok (.aload_n 0, 1) := by decide +kernel
theorem D5_readOne_18 : decode m5_readOne.2.1 18 = .ok (.iload_n 1, 1) := by decide +kernel
theorem D5_readOne_19 : decode m5_readOne.2.1 19 = .ok (.invokevirtual 46, 3) := by decide +kernel
theorem D5_readOne_22 : decode m5_readOne.2.1 22 = .ok (.goto 82, 3) := by decide +kernel
theorem D5_readOne_25 : decode m5_readOne.2.1 25 = .ok (.iload_n 2, 1) := by decide +kernel
theorem D5_readOne_26 : decode m5_readOne.2.1 26 = .ok (.invokestatic 49, 3) := by decide +kernel
theorem D5_readOne_29 : decode m5_readOne.2.1 29 = .ok (.ifCond .eq 11, 3) := by decide +kernel
theorem D5_readOne_32 : decode m5_readOne.2.1 32 = .ok (.aload_n 0, 1) := by decide +kernel
theorem D5_readOne_33 : decode m5_readOne.2.1 33 = .ok (.iload_n 1, 1) := by decide +kernel
theorem D5_readOne_34 : decode m5_readOne.2.1 34 = .ok (.invokevirtual 52, 3) := by decide +kernel
theorem D5_readOne_37 : decode m5_readOne.2.1 37 = .ok (.goto 67, 3) := by decide +kernel
theorem D5_readOne_40 : decode m5_readOne.2.1 40 = .ok (.aload_n 0, 1) := by decide +kernel
theorem D5_readOne_41 : decode m5_readOne.2.1 41 = .ok (.getfield 9, 3) := by decide +kernel
theorem D5_readOne_44 : decode m5_readOne.2.1 44 = .ok (.iload_n 1, 1) := by decide +kernel
theorem D5_readOne_45 : decode m5_readOne.2.1 45 = .ok (.iload_n 2, 1) := by decide +kernel
theorem D5_readOne_46 : decode m5_readOne.2.1 46 = .ok (.aload_n 0, 1) := by decide +kernel
theorem D5_readOne_47 : decode m5_readOne.2.1 47 = .ok (.getfield 35, 3) := by decide +kernel
theorem D5_readOne_50 : decode m5_readOne.2.1 50 = .ok (.iconst 1, 1) := by decide +kernel
theorem D5_readOne_51 : decode m5_readOne.2.1 51 = .ok (.iadd, 1) := by decide +kernel
theorem D5_readOne_52 : decode m5_readOne.2.1 52 = .ok (.aload_n 0, 1) := by decide +kernel
theorem D5_readOne_53 : decode m5_readOne.2.1 53 = .ok (.getfield 31, 3) := by decide +kernel
theorem D5_readOne_56 : decode m5_readOne.2.1 56 = .ok (.if_icmp .ge 17, 3) := by decide +kernel
theorem D5_readOne_59 : decode m5_readOne.2.1 59 = .ok (.aload_n 0, 1) := by decide +kernel
theorem D5_readOne_60 : decode m5_readOne.2.1 60 = .ok (.getfield 21, 3) := by decide +kernel
theorem D5_readOne_63 : decode m5_readOne.2.1 63 = .ok (.aload_n 0, 1) := by decide +kernel
theorem D5_readOne_64 : decode m5_readOne.2.1 64 = .ok (.getfield 35, 3) := by decide +kernel
theorem D5_readOne_67 : decode m5_readOne.2.1 67 = .ok (.iconst 1, 1) := by decide +kernel
theorem D5_readOne_68 : decode m5_readOne.2.1 68 = .ok (.iadd, 1) := by decide +kernel
theorem D5_readOne_69 : decode m5_readOne.2.1 69 = .ok (.baload, 1) := by decide +kernel
theorem D5_readOne_70 : decode m5_readOne.2.1 70 = .ok (.goto 4, 3) := by decide +kernel
theorem D5_readOne_73 : decode m5_readOne.2.1 73 = .ok (.iconst 0, 1) := by decide +kernel
theorem D5_readOne_74 : decode m5_readOne.2.1 74 = .ok (.invokestatic 55, 3) := by decide +kernel
theorem D5_readOne_77 : decode m5_readOne.2.1 77 = .ok (.iastore, 1) := by decide +kernel
theorem D5_readOne_78 : decode m5_readOne.2.1 78 = .ok (.aload_n 0, 1) := by decide +kernel
theorem D5_readOne_79 : decode m5_readOne.2.1 79 = .ok (.dup, 1) := by decide +kernel
theorem D5_readOne_80 : decode m5_readOne.2.1 80 = .ok (.getfield 35, 3) := by decide +kernel
theorem D5_readOne_83 : decode m5_readOne.2.1 83 = .ok (.aload_n 0, 1) := by decide +kernel
theorem D5_readOne_84 : decode m5_readOne.2.1 84 = .ok (.getfield 9, 3) := by decide +kernel
theorem D5_readOne_87 : decode m5_readOne.2.1 87 = .ok (.iload_n 1, 1) := by decide +kernel
theorem D5_readOne_88 : decode m5_readOne.2.1 88 = .ok (.iaload, 1) := by decide +kernel
theorem D5_readOne_89 : decode m5_readOne.2.1 89 = .ok (.invokestatic 58, 3) := by decide +kernel
theorem D5_readOne_92 : decode m5_readOne.2.1 92 = .ok (.ifCond .eq 7, 3) := by decide +kernel
theorem D5_readOne_95 : decode m5_readOne.2.1 95 = .ok (.iconst 2, 1) := by decide +kernel
theorem D5_readOne_96 : decode m5_readOne.2.1 96 = .ok (.goto 4, 3) := by decide +kernel
theorem D5_readOne_99 : decode m5_readOne.2.1 99 = .ok (.iconst 1, 1) := by decide +kernel
theorem D5_readOne_100 : decode m5_readOne.2.1 100 = .ok (.iadd, 1) := by decide +kernel
theorem D5_readOne_101 : decode m5_readOne.2.1 101 = .ok (.putfield 35, 3) := by decide +kernel
theorem D5_readOne_104 : decode m5_readOne.2.1 104 = .ok (.return_, 1) := by decide +kernel
theorem D5_readNumber_0 : decode m5_readNumber.2.1 0 = .ok (.iconst 0, 1) := by decide +kernel
theorem D5_readNumber_1 : decode m5_readNumber.2.1 1 = .ok (.istore_n 2, 1) := by decide +kernel
theorem D5_readNumber_2 : decode m5_readNumber.2.1 2 = .ok (.aload_n 0, 1) := by decide +kernel
theorem D5_readNumber_3 : decode m5_readNumber.2.1 3 = .ok (.getfield 35, 3) := by decide +kernel
theorem D5_readNumber_6 : decode m5_readNumber.2.1 6 = .ok (.aload_n 0, 1) := by decide +kernel
theorem D5_readNumber_7 : decode m5_readNumber.2.1 7 = .ok (.getfield 31, 3) := by decide +kernel
theorem D5_readNumber_10 : decode m5_readNumber.2.1 10 = .ok (.if_icmp .ge 54, 3) := by decide +kernel
theorem D5_readNumber_13 : decode m5_readNumber.2.1 13 = .ok (.aload_n 0, 1) := by decide +kernel
theorem D5_readNumber_14 : decode m5_readNumber.2.1 14 = .ok (.getfield 21, 3) := by decide +kernel
theorem D5_readNumber_17 : decode m5_readNumber.2.1 17 = .ok (.aload_n 0, 1) := by decide +kernel
theorem D5_readNumber_18 : decode m5_readNumber.2.1 18 = .ok (.getfield 35, 3) := by decide +kernel
theorem D5_readNumber_21 : decode m5_readNumber.2.1 21 = .ok (.baload, 1) := by decide +kernel
theorem D5_readNumber_22 : decode m5_readNumber.2.1 22 = .ok (.invokestatic 42, 3) := by decide +kernel
theorem D5_readNumber_25 : decode m5_readNumber.2.1 25 = .ok (.ifCond .eq 39, 3) := by decide +kernel
theorem D5_readNumber_28 : decode m5_readNumber.2.1 28 = .ok (.iload_n 2, 1) := by decide +kernel
theorem D5_readNumber_29 : decode m5_readNumber.2.1 29 = .ok (.bipush 10, 2) := by decide +kernel
theorem D5_readNumber_31 : decode m5_readNumber.2.1 31 = .ok (.imul, 1) := by decide +kernel
theorem D5_readNumber_32 : decode m5_readNumber.2.1 32 = .ok (.aload_n 0, 1) := by decide +kernel
theorem D5_readNumber_33 : decode m5_readNumber.2.1 33 = .ok (.getfield 21, 3) := by decide +kernel
theorem D5_readNumber_36 : decode m5_readNumber.2.1 36 = .ok (.aload_n 0, 1) := by decide +kernel
theorem D5_readNumber_37 : decode m5_readNumber.2.1 37 = .ok (.getfield 35, 3) := by decide +kernel
theorem D5_readNumber_40 : decode m5_readNumber.2.1 40 = .ok (.baload, 1) := by decide +kernel
theorem D5_readNumber_41 : decode m5_readNumber.2.1 41 = .ok (.bipush 48, 2) := by decide +kernel
theorem D5_readNumber_43 : decode m5_readNumber.2.1 43 = .ok (.isub, 1) := by decide +kernel
theorem D5_readNumber_44 : decode m5_readNumber.2.1 44 = .ok (.iadd, 1) := by decide +kernel
theorem D5_readNumber_45 : decode m5_readNumber.2.1 45 = .ok (.ldc 61, 2) := by decide +kernel
theorem D5_readNumber_47 : decode m5_readNumber.2.1 47 = .ok (.invokestatic 25, 3) := by decide +kernel
theorem D5_readNumber_50 : decode m5_readNumber.2.1 50 = .ok (.istore_n 2, 1) := by decide +kernel
theorem D5_readNumber_51 : decode m5_readNumber.2.1 51 = .ok (.aload_n 0, 1) := by decide +kernel
theorem D5_readNumber_52 : decode m5_readNumber.2.1 52 = .ok (.dup, 1) := by decide +kernel
theorem D5_readNumber_53 : decode m5_readNumber.2.1 53 = .ok (.getfield 35, 3) := by decide +kernel
theorem D5_readNumber_56 : decode m5_readNumber.2.1 56 = .ok (.iconst 1, 1) := by decide +kernel
theorem D5_readNumber_57 : decode m5_readNumber.2.1 57 = .ok (.iadd, 1) := by decide +kernel
theorem D5_readNumber_58 : decode m5_readNumber.2.1 58 = .ok (.putfield 35, 3) := by decide +kernel
theorem D5_readNumber_61 : decode m5_readNumber.2.1 61 = .ok (.goto (-59), 3) := by decide +kernel
theorem D5_readNumber_64 : decode m5_readNumber.2.1 64 = .ok (.aload_n 0, 1) := by decide +kernel
theorem D5_readNumber_65 : decode m5_readNumber.2.1 65 = .ok (.getfield 9, 3) := by decide +kernel
theorem D5_readNumber_68 : decode m5_readNumber.2.1 68 = .ok (.iload_n 1, 1) := by decide +kernel
theorem D5_readNumber_69 : decode m5_readNumber.2.1 69 = .ok (.bipush 29, 2) := by decide +kernel
theorem D5_readNumber_71 : decode m5_readNumber.2.1 71 = .ok (.iastore, 1) := by decide +kernel
theorem D5_readNumber_72 : decode m5_readNumber.2.1 72 = .ok (.aload_n 0, 1) := by decide +kernel
theorem D5_readNumber_73 : decode m5_readNumber.2.1 73 = .ok (.getfield 18, 3) := by decide +kernel
theorem D5_readNumber_76 : decode m5_readNumber.2.1 76 = .ok (.iload_n 1, 1) := by decide +kernel
theorem D5_readNumber_77 : decode m5_readNumber.2.1 77 = .ok (.iload_n 2, 1) := by decide +kernel
theorem D5_readNumber_78 : decode m5_readNumber.2.1 78 = .ok (.iastore, 1) := by decide +kernel
theorem D5_readNumber_79 : decode m5_readNumber.2.1 79 = .ok (.return_, 1) := by decide +kernel
theorem D5_readWord_0 : decode m5_readWord.2.1 0 = .ok (.aload_n 0, 1) := by decide +kernel
theorem D5_readWord_1 : decode m5_readWord.2.1 1 = .ok (.getfield 35, 3) := by decide +kernel
theorem D5_readWord_4 : decode m5_readWord.2.1 4 = .ok (.istore_n 2, 1) := by decide +kernel
theorem D5_readWord_5 : decode m5_readWord.2.1 5 = .ok (.iconst 0, 1) := by decide +kernel
theorem D5_readWord_6 : decode m5_readWord.2.1 6 = .ok (.istore_n 3, 1) := by decide +kernel
theorem D5_readWord_7 : decode m5_readWord.2.1 7 = .ok (.aload_n 0, 1) := by decide +kernel
theorem D5_readWord_8 : decode m5_readWord.2.1 8 = .ok (.getfield 35, 3) := by decide +kernel
theorem D5_readWord_11 : decode m5_readWord.2.1 11 = .ok (.aload_n 0, 1) := by decide +kernel
theorem D5_readWord_12 : decode m5_readWord.2.1 12 = .ok (.getfield 31, 3) := by decide +kernel
theorem D5_readWord_15 : decode m5_readWord.2.1 15 = .ok (.if_icmp .ge 68, 3) := by decide +kernel
theorem D5_readWord_18 : decode m5_readWord.2.1 18 = .ok (.aload_n 0, 1) := by decide +kernel
theorem D5_readWord_19 : decode m5_readWord.2.1 19 = .ok (.getfield 21, 3) := by decide +kernel
theorem D5_readWord_22 : decode m5_readWord.2.1 22 = .ok (.aload_n 0, 1) := by decide +kernel
theorem D5_readWord_23 : decode m5_readWord.2.1 23 = .ok (.getfield 35, 3) := by decide +kernel
theorem D5_readWord_26 : decode m5_readWord.2.1 26 = .ok (.baload, 1) := by decide +kernel
theorem D5_readWord_27 : decode m5_readWord.2.1 27 = .ok (.invokestatic 49, 3) := by decide +kernel
theorem D5_readWord_30 : decode m5_readWord.2.1 30 = .ok (.ifCond .eq 53, 3) := by decide +kernel
theorem D5_readWord_33 : decode m5_readWord.2.1 33 = .ok (.iconst 5, 1) := by decide +kernel
theorem D5_readWord_34 : decode m5_readWord.2.1 34 = .ok (.iconst 5, 1) := by decide +kernel
theorem D5_readWord_35 : decode m5_readWord.2.1 35 = .ok (.aload_n 0, 1) := by decide +kernel
theorem D5_readWord_36 : decode m5_readWord.2.1 36 = .ok (.getfield 35, 3) := by decide +kernel
theorem D5_readWord_39 : decode m5_readWord.2.1 39 = .ok (.iload_n 2, 1) := by decide +kernel
theorem D5_readWord_40 : decode m5_readWord.2.1 40 = .ok (.isub, 1) := by decide +kernel
theorem D5_readWord_41 : decode m5_readWord.2.1 41 = .ok (.isub, 1) := by decide +kernel
theorem D5_readWord_42 : decode m5_readWord.2.1 42 = .ok (.imul, 1) := by decide +kernel
theorem D5_readWord_43 : decode m5_readWord.2.1 43 = .ok (.istore 4, 2) := by decide +kernel
theorem D5_readWord_45 : decode m5_readWord.2.1 45 = .ok (.iload 4, 2) := by decide +kernel
theorem D5_readWord_47 : decode m5_readWord.2.1 47 = .ok (.ifCond .lt 23, 3) := by decide +kernel
theorem D5_readWord_50 : decode m5_readWord.2.1 50 = .ok (.iload_n 3, 1) := by decide +kernel
theorem D5_readWord_51 : decode m5_readWord.2.1 51 = .ok (.aload_n 0, 1) := by decide +kernel
theorem D5_readWord_52 : decode m5_readWord.2.1 52 = .ok (.getfield 21, 3) := by decide +kernel
theorem D5_readWord_55 : decode m5_readWord.2.1 55 = .ok (.aload_n 0, 1) := by decide +kernel
theorem D5_readWord_56 : decode m5_readWord.2.1 56 = .ok (.getfield 35, 3) := by decide +kernel
theorem D5_readWord_59 : decode m5_readWord.2.1 59 = .ok (.baload, 1) := by decide +kernel
theorem D5_readWord_60 : decode m5_readWord.2.1 60 = .ok (.bipush 97, 2) := by decide +kernel
theorem D5_readWord_62 : decode m5_readWord.2.1 62 = .ok (.isub, 1) := by decide +kernel
theorem D5_readWord_63 : decode m5_readWord.2.1 63 = .ok (.iconst 1, 1) := by decide +kernel
theorem D5_readWord_64 : decode m5_readWord.2.1 64 = .ok (.iadd, 1) := by decide +kernel
theorem D5_readWord_65 : decode m5_readWord.2.1 65 = .ok (.iload 4, 2) := by decide +kernel
theorem D5_readWord_67 : decode m5_readWord.2.1 67 = .ok (.ishl, 1) := by decide +kernel
theorem D5_readWord_68 : decode m5_readWord.2.1 68 = .ok (.ior, 1) := by decide +kernel
theorem D5_readWord_69 : decode m5_readWord.2.1 69 = .ok (.istore_n 3, 1) := by decide +kernel
theorem D5_readWord_70 : decode m5_readWord.2.1 70 = .ok (.aload_n 0, 1) := by decide +kernel
theorem D5_readWord_71 : decode m5_readWord.2.1 71 = .ok (.dup, 1) := by decide +kernel
theorem D5_readWord_72 : decode m5_readWord.2.1 72 = .ok (.getfield 35, 3) := by decide +kernel
theorem D5_readWord_75 : decode m5_readWord.2.1 75 = .ok (.iconst 1, 1) := by decide +kernel
theorem D5_readWord_76 : decode m5_readWord.2.1 76 = .ok (.iadd, 1) := by decide +kernel
theorem D5_readWord_77 : decode m5_readWord.2.1 77 = .ok (.putfield 35, 3) := by decide +kernel
theorem D5_readWord_80 : decode m5_readWord.2.1 80 = .ok (.goto (-73), 3) := by decide +kernel
theorem D5_readWord_83 : decode m5_readWord.2.1 83 = .ok (.aload_n 0, 1) := by decide +kernel
theorem D5_readWord_84 : decode m5_readWord.2.1 84 = .ok (.iload_n 2, 1) := by decide +kernel
theorem D5_readWord_85 : decode m5_readWord.2.1 85 = .ok (.aload_n 0, 1) := by decide +kernel
theorem D5_readWord_86 : decode m5_readWord.2.1 86 = .ok (.getfield 35, 3) := by decide +kernel
theorem D5_readWord_89 : decode m5_readWord.2.1 89 = .ok (.iload_n 2, 1) := by decide +kernel
theorem D5_readWord_90 : decode m5_readWord.2.1 90 = .ok (.isub, 1) := by decide +kernel
theorem D5_readWord_91 : decode m5_readWord.2.1 91 = .ok (.invokevirtual 62, 3) := by decide +kernel
theorem D5_readWord_94 : decode m5_readWord.2.1 94 = .ok (.istore 4, 2) := by decide +kernel
theorem D5_readWord_96 : decode m5_readWord.2.1 96 = .ok (.iload 4, 2) := by decide +kernel
theorem D5_readWord_98 : decode m5_readWord.2.1 98 = .ok (.iconst (-1), 1) := by decide +kernel
theorem D5_readWord_99 : decode m5_readWord.2.1 99 = .ok (.if_icmp .ne 23, 3) := by decide +kernel
theorem D5_readWord_102 : decode m5_readWord.2.1 102 = .ok (.aload_n 0, 1) := by decide +kernel
theorem D5_readWord_103 : decode m5_readWord.2.1 103 = .ok (.getfield 35, 3) := by decide +kernel
theorem D5_readWord_106 : decode m5_readWord.2.1 106 = .ok (.iload_n 2, 1) := by decide +kernel
theorem D5_readWord_107 : decode m5_readWord.2.1 107 = .ok (.isub, 1) := by decide +kernel
theorem D5_readWord_108 : decode m5_readWord.2.1 108 = .ok (.bipush 6, 2) := by decide +kernel
theorem D5_readWord_110 : decode m5_readWord.2.1 110 = .ok (.if_icmp .gt 8, 3) := by decide +kernel
theorem D5_readWord_113 : decode m5_readWord.2.1 113 = .ok (.bipush 30, 2) := by decide +kernel
theorem D5_readWord_115 : decode m5_readWord.2.1 115 = .ok (.goto 5, 3) := by decide +kernel
theorem D5_readWord_118 : decode m5_readWord.2.1 118 = .ok (.bipush 35, 2) := by decide +kernel
theorem D5_readWord_120 : decode m5_readWord.2.1 120 = .ok (.istore 4, 2) := by decide +kernel
theorem D5_readWord_122 : decode m5_readWord.2.1 122 = .ok (.aload_n 0, 1) := by decide +kernel
theorem D5_readWord_123 : decode m5_readWord.2.1 123 = .ok (.getfield 9, 3) := by decide +kernel
theorem D5_readWord_126 : decode m5_readWord.2.1 126 = .ok (.iload_n 1, 1) := by decide +kernel
theorem D5_readWord_127 : decode m5_readWord.2.1 127 = .ok (.iload 4, 2) := by decide +kernel
theorem D5_readWord_129 : decode m5_readWord.2.1 129 = .ok (.iastore, 1) := by decide +kernel
theorem D5_readWord_130 : decode m5_readWord.2.1 130 = .ok (.aload_n 0, 1) := by decide +kernel
theorem D5_readWord_131 : decode m5_readWord.2.1 131 = .ok (.getfield 18, 3) := by decide +kernel
theorem D5_readWord_134 : decode m5_readWord.2.1 134 = .ok (.iload_n 1, 1) := by decide +kernel
theorem D5_readWord_135 : decode m5_readWord.2.1 135 = .ok (.iload_n 3, 1) := by decide +kernel
theorem D5_readWord_136 : decode m5_readWord.2.1 136 = .ok (.iastore, 1) := by decide +kernel
theorem D5_readWord_137 : decode m5_readWord.2.1 137 = .ok (.return_, 1) := by decide +kernel
theorem D5_wordFrom_0 : decode m5_wordFrom.2.1 0 = .ok (.iconst 0, 1) := by decide +kernel
theorem D5_wordFrom_1 : decode m5_wordFrom.2.1 1 = .ok (.istore_n 3, 1) := by decide +kernel
theorem D5_wordFrom_2 : decode m5_wordFrom.2.1 2 = .ok (.iconst 0, 1) := by decide +kernel
theorem D5_wordFrom_3 : decode m5_wordFrom.2.1 3 = .ok (.istore 4, 2) := by decide +kernel
theorem D5_wordFrom_5 : decode m5_wordFrom.2.1 5 = .ok (.iconst 0, 1) := by decide +kernel
theorem D5_wordFrom_6 : decode m5_wordFrom.2.1 6 = .ok (.istore 5, 2) := by decide +kernel
theorem D5_wordFrom_8 : decode m5_wordFrom.2.1 8 = .ok (.iload 5, 2) := by decide +kernel
theorem D5_wordFrom_10 : decode m5_wordFrom.2.1 10 = .ok (.ldc 65, 2) := by decide +kernel
theorem D5_wordFrom_12 : decode m5_wordFrom.2.1 12 = .ok (.invokevirtual 67, 3) := by decide +kernel
theorem D5_wordFrom_15 : decode m5_wordFrom.2.1 15 = .ok (.if_icmp .ge 52, 3) := by decide +kernel
theorem D5_wordFrom_18 : decode m5_wordFrom.2.1 18 = .ok (.ldc 65, 2) := by decide +kernel
theorem D5_wordFrom_20 : decode m5_wordFrom.2.1 20 = .ok (.iload 5, 2) := by decide +kernel
theorem D5_wordFrom_22 : decode m5_wordFrom.2.1 22 = .ok (.invokevirtual 72, 3) := by decide +kernel
theorem D5_wordFrom_25 : decode m5_wordFrom.2.1 25 = .ok (.bipush 32, 2) := by decide +kernel
theorem D5_wordFrom_27 : decode m5_wordFrom.2.1 27 = .ok (.if_icmp .ne 34, 3) := by decide +kernel
theorem D5_wordFrom_30 : decode m5_wordFrom.2.1 30 = .ok (.iload 5, 2) := by decide +kernel
theorem D5_wordFrom_32 : decode m5_wordFrom.2.1 32 = .ok (.iload 4, 2) := by decide +kernel
theorem D5_wordFrom_34 : decode m5_wordFrom.2.1 34 = .ok (.isub, 1) := by decide +kernel
theorem D5_wordFrom_35 : decode m5_wordFrom.2.1 35 = .ok (.iload_n 2, 1) := by decide +kernel
theorem D5_wordFrom_36 : decode m5_wordFrom.2.1 36 = .ok (.if_icmp .ne 16, 3) := by decide +kernel
theorem D5_wordFrom_39 : decode m5_wordFrom.2.1 39 = .ok (.aload_n 0, 1) := by decide +kernel
theorem D5_wordFrom_40 : decode m5_wordFrom.2.1 40 = .ok (.iload 4, 2) := by decide +kernel
theorem D5_wordFrom_42 : decode m5_wordFrom.2.1 42 = .ok (.iload_n 1, 1) := by decide +kernel
theorem D5_wordFrom_43 : decode m5_wordFrom.2.1 43 = .ok (.iload_n 2, 1) := by decide +kernel
theorem D5_wordFrom_44 : decode m5_wordFrom.2.1 44 = .ok (.invokevirtual 76, 3) := by decide +kernel
theorem D5_wordFrom_47 : decode m5_wordFrom.2.1 47 = .ok (.ifCond .eq 5, 3) := by decide +kernel
theorem D5_wordFrom_50 : decode m5_wordFrom.2.1 50 = .ok (.iload_n 3, 1) := by decide +kernel
theorem D5_wordFrom_51 : decode m5_wordFrom.2.1 51 = .ok (.ireturn, 1) := by decide +kernel
theorem D5_wordFrom_52 : decode m5_wordFrom.2.1 52 = .ok (.iinc 3 1, 3) := by decide +kernel
theorem D5_wordFrom_55 : decode m5_wordFrom.2.1 55 = .ok (.iload 5, 2) := by decide +kernel
theorem D5_wordFrom_57 : decode m5_wordFrom.2.1 57 = .ok (.iconst 1, 1) := by decide +kernel
theorem D5_wordFrom_58 : decode m5_wordFrom.2.1 58 = .ok (.iadd, 1) := by decide +kernel
theorem D5_wordFrom_59 : decode m5_wordFrom.2.1 59 = .ok (.istore 4, 2) := by decide +kernel
theorem D5_wordFrom_61 : decode m5_wordFrom.2.1 61 = .ok (.iinc 5 1, 3) := by decide +kernel
theorem D5_wordFrom_64 : decode m5_wordFrom.2.1 64 = .ok (.goto (-56), 3) := by decide +kernel
theorem D5_wordFrom_67 : decode m5_wordFrom.2.1 67 = .ok (.iconst (-1), 1) := by decide +kernel
theorem D5_wordFrom_68 : decode m5_wordFrom.2.1 68 = .ok (.ireturn, 1) := by decide +kernel
theorem D5_isAlike_0 : decode m5_isAlike.2.1 0 = .ok (.iconst 0, 1) := by decide +kernel
theorem D5_isAlike_1 : decode m5_isAlike.2.1 1 = .ok (.istore 4, 2) := by decide +kernel
theorem D5_isAlike_3 : decode m5_isAlike.2.1 3 = .ok (.iload 4, 2) := by decide +kernel
theorem D5_isAlike_5 : decode m5_isAlike.2.1 5 = .ok (.iload_n 3, 1) := by decide +kernel
theorem D5_isAlike_6 : decode m5_isAlike.2.1 6 = .ok (.if_icmp .ge 32, 3) := by decide +kernel
theorem D5_isAlike_9 : decode m5_isAlike.2.1 9 = .ok (.ldc 65, 2) := by decide +kernel
theorem D5_isAlike_11 : decode m5_isAlike.2.1 11 = .ok (.iload_n 1, 1) := by decide +kernel
theorem D5_isAlike_12 : decode m5_isAlike.2.1 12 = .ok (.iload 4, 2) := by decide +kernel
theorem D5_isAlike_14 : decode m5_isAlike.2.1 14 = .ok (.iadd, 1) := by decide +kernel
theorem D5_isAlike_15 : decode m5_isAlike.2.1 15 = .ok (.invokevirtual 72, 3) := by decide +kernel
theorem D5_isAlike_18 : decode m5_isAlike.2.1 18 = .ok (.aload_n 0, 1) := by decide +kernel
theorem D5_isAlike_19 : decode m5_isAlike.2.1 19 = .ok (.getfield 21, 3) := by decide +kernel
theorem D5_isAlike_22 : decode m5_isAlike.2.1 22 = .ok (.iload_n 2, 1) := by decide +kernel
theorem D5_isAlike_23 : decode m5_isAlike.2.1 23 = .ok (.iload 4, 2) := by decide +kernel
theorem D5_isAlike_25 : decode m5_isAlike.2.1 25 = .ok (.iadd, 1) := by decide +kernel
theorem D5_isAlike_26 : decode m5_isAlike.2.1 26 = .ok (.baload, 1) := by decide +kernel
theorem D5_isAlike_27 : decode m5_isAlike.2.1 27 = .ok (.if_icmp .eq 5, 3) := by decide +kernel
theorem D5_isAlike_30 : decode m5_isAlike.2.1 30 = .ok (.iconst 0, 1) := by decide +kernel
theorem D5_isAlike_31 : decode m5_isAlike.2.1 31 = .ok (.ireturn, 1) := by decide +kernel
theorem D5_isAlike_32 : decode m5_isAlike.2.1 32 = .ok (.iinc 4 1, 3) := by decide +kernel
theorem D5_isAlike_35 : decode m5_isAlike.2.1 35 = .ok (.goto (-32), 3) := by decide +kernel
theorem D5_isAlike_38 : decode m5_isAlike.2.1 38 = .ok (.iconst 1, 1) := by decide +kernel
theorem D5_isAlike_39 : decode m5_isAlike.2.1 39 = .ok (.ireturn, 1) := by decide +kernel
theorem D5_signOf_0 : decode m5_signOf.2.1 0 = .ok (.iload_n 0, 1) := by decide +kernel
theorem D5_signOf_1 : decode m5_signOf.2.1 1 = .ok (.tableswitch 170 40 62 #[110, 113, 122, 116, 170, 119, 170, 125, 170, 170, 170, 170, 170, 170, 170, 170, 170, 170, 170, 107, 131, 128, 156], 107) := by decide +kernel
theorem D5_signOf_108 : decode m5_signOf.2.1 108 = .ok (.bipush 31, 2) := by decide +kernel
theorem D5_signOf_110 : decode m5_signOf.2.1 110 = .ok (.ireturn, 1) := by decide +kernel
theorem D5_signOf_111 : decode m5_signOf.2.1 111 = .ok (.bipush 32, 2) := by decide +kernel
theorem D5_signOf_113 : decode m5_signOf.2.1 113 = .ok (.ireturn, 1) := by decide +kernel
theorem D5_signOf_114 : decode m5_signOf.2.1 114 = .ok (.bipush 33, 2) := by decide +kernel
theorem D5_signOf_116 : decode m5_signOf.2.1 116 = .ok (.ireturn, 1) := by decide +kernel
theorem D5_signOf_117 : decode m5_signOf.2.1 117 = .ok (.bipush 25, 2) := by decide +kernel
theorem D5_signOf_119 : decode m5_signOf.2.1 119 = .ok (.ireturn, 1) := by decide +kernel
theorem D5_signOf_120 : decode m5_signOf.2.1 120 = .ok (.bipush 26, 2) := by decide +kernel
theorem D5_signOf_122 : decode m5_signOf.2.1 122 = .ok (.ireturn, 1) := by decide +kernel
theorem D5_signOf_123 : decode m5_signOf.2.1 123 = .ok (.bipush 27, 2) := by decide +kernel
theorem D5_signOf_125 : decode m5_signOf.2.1 125 = .ok (.ireturn, 1) := by decide +kernel
theorem D5_signOf_126 : decode m5_signOf.2.1 126 = .ok (.bipush 28, 2) := by decide +kernel
theorem D5_signOf_128 : decode m5_signOf.2.1 128 = .ok (.ireturn, 1) := by decide +kernel
theorem D5_signOf_129 : decode m5_signOf.2.1 129 = .ok (.bipush 21, 2) := by decide +kernel
theorem D5_signOf_131 : decode m5_signOf.2.1 131 = .ok (.ireturn, 1) := by decide +kernel
theorem D5_signOf_132 : decode m5_signOf.2.1 132 = .ok (.iload_n 1, 1) := by decide +kernel
theorem D5_signOf_133 : decode m5_signOf.2.1 133 = .ok (.bipush 61, 2) := by decide +kernel
theorem D5_signOf_135 : decode m5_signOf.2.1 135 = .ok (.if_icmp .ne 8, 3) := by decide +kernel
theorem D5_signOf_138 : decode m5_signOf.2.1 138 = .ok (.bipush 20, 2) := by decide +kernel
theorem D5_signOf_140 : decode m5_signOf.2.1 140 = .ok (.goto 16, 3) := by decide +kernel
theorem D5_signOf_143 : decode m5_signOf.2.1 143 = .ok (.iload_n 1, 1) := by decide +kernel
theorem D5_signOf_144 : decode m5_signOf.2.1 144 = .ok (.bipush 62, 2) := by decide +kernel
theorem D5_signOf_146 : decode m5_signOf.2.1 146 = .ok (.if_icmp .ne 8, 3) := by decide +kernel
theorem D5_signOf_149 : decode m5_signOf.2.1 149 = .ok (.bipush 22, 2) := by decide +kernel
theorem D5_signOf_151 : decode m5_signOf.2.1 151 = .ok (.goto 5, 3) := by decide +kernel
theorem D5_signOf_154 : decode m5_signOf.2.1 154 = .ok (.bipush 19, 2) := by decide +kernel
theorem D5_signOf_156 : decode m5_signOf.2.1 156 = .ok (.ireturn, 1) := by decide +kernel
theorem D5_signOf_157 : decode m5_signOf.2.1 157 = .ok (.iload_n 1, 1) := by decide +kernel
theorem D5_signOf_158 : decode m5_signOf.2.1 158 = .ok (.bipush 61, 2) := by decide +kernel
theorem D5_signOf_160 : decode m5_signOf.2.1 160 = .ok (.if_icmp .ne 8, 3) := by decide +kernel
theorem D5_signOf_163 : decode m5_signOf.2.1 163 = .ok (.bipush 23, 2) := by decide +kernel
theorem D5_signOf_165 : decode m5_signOf.2.1 165 = .ok (.goto 5, 3) := by decide +kernel
theorem D5_signOf_168 : decode m5_signOf.2.1 168 = .ok (.bipush 24, 2) := by decide +kernel
theorem D5_signOf_170 : decode m5_signOf.2.1 170 = .ok (.ireturn, 1) := by decide +kernel
theorem D5_signOf_171 : decode m5_signOf.2.1 171 = .ok (.bipush 35, 2) := by decide +kernel
theorem D5_signOf_173 : decode m5_signOf.2.1 173 = .ok (.ireturn, 1) := by decide +kernel
theorem D5_isOfTwo_0 : decode m5_isOfTwo.2.1 0 = .ok (.iload_n 0, 1) := by decide +kernel
theorem D5_isOfTwo_1 : decode m5_isOfTwo.2.1 1 = .ok (.bipush 20, 2) := by decide +kernel
theorem D5_isOfTwo_3 : decode m5_isOfTwo.2.1 3 = .ok (.if_icmp .eq 15, 3) := by decide +kernel
theorem D5_isOfTwo_6 : decode m5_isOfTwo.2.1 6 = .ok (.iload_n 0, 1) := by decide +kernel
theorem D5_isOfTwo_7 : decode m5_isOfTwo.2.1 7 = .ok (.bipush 22, 2) := by decide +kernel
theorem D5_isOfTwo_9 : decode m5_isOfTwo.2.1 9 = .ok (.if_icmp .eq 9, 3) := by decide +kernel
theorem D5_isOfTwo_12 : decode m5_isOfTwo.2.1 12 = .ok (.iload_n 0, 1) := by decide +kernel
theorem D5_isOfTwo_13 : decode m5_isOfTwo.2.1 13 = .ok (.bipush 23, 2) := by decide +kernel
theorem D5_isOfTwo_15 : decode m5_isOfTwo.2.1 15 = .ok (.if_icmp .ne 7, 3) := by decide +kernel
theorem D5_isOfTwo_18 : decode m5_isOfTwo.2.1 18 = .ok (.iconst 1, 1) := by decide +kernel
theorem D5_isOfTwo_19 : decode m5_isOfTwo.2.1 19 = .ok (.goto 4, 3) := by decide +kernel
theorem D5_isOfTwo_22 : decode m5_isOfTwo.2.1 22 = .ok (.iconst 0, 1) := by decide +kernel
theorem D5_isOfTwo_23 : decode m5_isOfTwo.2.1 23 = .ok (.ireturn, 1) := by decide +kernel
theorem D5_isDigit_0 : decode m5_isDigit.2.1 0 = .ok (.iload_n 0, 1) := by decide +kernel
theorem D5_isDigit_1 : decode m5_isDigit.2.1 1 = .ok (.bipush 48, 2) := by decide +kernel
theorem D5_isDigit_3 : decode m5_isDigit.2.1 3 = .ok (.if_icmp .lt 13, 3) := by decide +kernel
theorem D5_isDigit_6 : decode m5_isDigit.2.1 6 = .ok (.iload_n 0, 1) := by decide +kernel
theorem D5_isDigit_7 : decode m5_isDigit.2.1 7 = .ok (.bipush 57, 2) := by decide +kernel
theorem D5_isDigit_9 : decode m5_isDigit.2.1 9 = .ok (.if_icmp .gt 7, 3) := by decide +kernel
theorem D5_isDigit_12 : decode m5_isDigit.2.1 12 = .ok (.iconst 1, 1) := by decide +kernel
theorem D5_isDigit_13 : decode m5_isDigit.2.1 13 = .ok (.goto 4, 3) := by decide +kernel
theorem D5_isDigit_16 : decode m5_isDigit.2.1 16 = .ok (.iconst 0, 1) := by decide +kernel
theorem D5_isDigit_17 : decode m5_isDigit.2.1 17 = .ok (.ireturn, 1) := by decide +kernel
theorem D5_isLetter_0 : decode m5_isLetter.2.1 0 = .ok (.iload_n 0, 1) := by decide +kernel
theorem D5_isLetter_1 : decode m5_isLetter.2.1 1 = .ok (.bipush 97, 2) := by decide +kernel
theorem D5_isLetter_3 : decode m5_isLetter.2.1 3 = .ok (.if_icmp .lt 13, 3) := by decide +kernel
theorem D5_isLetter_6 : decode m5_isLetter.2.1 6 = .ok (.iload_n 0, 1) := by decide +kernel
theorem D5_isLetter_7 : decode m5_isLetter.2.1 7 = .ok (.bipush 122, 2) := by decide +kernel
theorem D5_isLetter_9 : decode m5_isLetter.2.1 9 = .ok (.if_icmp .gt 7, 3) := by decide +kernel
theorem D5_isLetter_12 : decode m5_isLetter.2.1 12 = .ok (.iconst 1, 1) := by decide +kernel
theorem D5_isLetter_13 : decode m5_isLetter.2.1 13 = .ok (.goto 4, 3) := by decide +kernel
theorem D5_isLetter_16 : decode m5_isLetter.2.1 16 = .ok (.iconst 0, 1) := by decide +kernel
theorem D5_isLetter_17 : decode m5_isLetter.2.1 17 = .ok (.ireturn, 1) := by decide +kernel
theorem D6_init_0 : decode m6_init.2.1 0 = .ok (.aload_n 0, 1) := by decide +kernel
theorem D6_init_1 : decode m6_init.2.1 1 = .ok (.invokespecial 3, 3) := by decide +kernel
theorem D6_init_4 : decode m6_init.2.1 4 = .ok (.aload_n 0, 1) := by decide +kernel
theorem D6_init_5 : decode m6_init.2.1 5 = .ok (.iconst 5, 1) := by decide +kernel
theorem D6_init_6 : decode m6_init.2.1 6 = .ok (.newarray .int, 2) := by decide +kernel
theorem D6_init_8 : decode m6_init.2.1 8 = .ok (.putfield 9, 3) := by decide +kernel
theorem D6_init_11 : decode m6_init.2.1 11 = .ok (.aload_n 0, 1) := by decide +kernel
theorem D6_init_12 : decode m6_init.2.1 12 = .ok (.iconst 5, 1) := by decide +kernel
theorem D6_init_13 : decode m6_init.2.1 13 = .ok (.newarray .int, 2) := by decide +kernel
theorem D6_init_15 : decode m6_init.2.1 15 = .ok (.putfield 15, 3) := by decide +kernel
theorem D6_init_18 : decode m6_init.2.1 18 = .ok (.aload_n 0, 1) := by decide +kernel
theorem D6_init_19 : decode m6_init.2.1 19 = .ok (.bipush 10, 2) := by decide +kernel
theorem D6_init_21 : decode m6_init.2.1 21 = .ok (.newarray .int, 2) := by decide +kernel
theorem D6_init_23 : decode m6_init.2.1 23 = .ok (.putfield 18, 3) := by decide +kernel
theorem D6_init_26 : decode m6_init.2.1 26 = .ok (.aload_n 0, 1) := by decide +kernel
theorem D6_init_27 : decode m6_init.2.1 27 = .ok (.bipush 10, 2) := by decide +kernel
theorem D6_init_29 : decode m6_init.2.1 29 = .ok (.newarray .int, 2) := by decide +kernel
theorem D6_init_31 : decode m6_init.2.1 31 = .ok (.putfield 21, 3) := by decide +kernel
theorem D6_init_34 : decode m6_init.2.1 34 = .ok (.aload_n 0, 1) := by decide +kernel
theorem D6_init_35 : decode m6_init.2.1 35 = .ok (.bipush 10, 2) := by decide +kernel
theorem D6_init_37 : decode m6_init.2.1 37 = .ok (.newarray .int, 2) := by decide +kernel
theorem D6_init_39 : decode m6_init.2.1 39 = .ok (.putfield 24, 3) := by decide +kernel
theorem D6_init_42 : decode m6_init.2.1 42 = .ok (.aload_n 0, 1) := by decide +kernel
theorem D6_init_43 : decode m6_init.2.1 43 = .ok (.bipush 10, 2) := by decide +kernel
theorem D6_init_45 : decode m6_init.2.1 45 = .ok (.newarray .int, 2) := by decide +kernel
theorem D6_init_47 : decode m6_init.2.1 47 = .ok (.putfield 27, 3) := by decide +kernel
theorem D6_init_50 : decode m6_init.2.1 50 = .ok (.aload_n 0, 1) := by decide +kernel
theorem D6_init_51 : decode m6_init.2.1 51 = .ok (.bipush 10, 2) := by decide +kernel
theorem D6_init_53 : decode m6_init.2.1 53 = .ok (.newarray .int, 2) := by decide +kernel
theorem D6_init_55 : decode m6_init.2.1 55 = .ok (.putfield 30, 3) := by decide +kernel
theorem D6_init_58 : decode m6_init.2.1 58 = .ok (.aload_n 0, 1) := by decide +kernel
theorem D6_init_59 : decode m6_init.2.1 59 = .ok (.bipush 10, 2) := by decide +kernel
theorem D6_init_61 : decode m6_init.2.1 61 = .ok (.newarray .int, 2) := by decide +kernel
theorem D6_init_63 : decode m6_init.2.1 63 = .ok (.putfield 33, 3) := by decide +kernel
theorem D6_init_66 : decode m6_init.2.1 66 = .ok (.aload_n 0, 1) := by decide +kernel
theorem D6_init_67 : decode m6_init.2.1 67 = .ok (.bipush 8, 2) := by decide +kernel
theorem D6_init_69 : decode m6_init.2.1 69 = .ok (.newarray .int, 2) := by decide +kernel
theorem D6_init_71 : decode m6_init.2.1 71 = .ok (.putfield 36, 3) := by decide +kernel
theorem D6_init_74 : decode m6_init.2.1 74 = .ok (.aload_n 0, 1) := by decide +kernel
theorem D6_init_75 : decode m6_init.2.1 75 = .ok (.bipush 8, 2) := by decide +kernel
theorem D6_init_77 : decode m6_init.2.1 77 = .ok (.newarray .int, 2) := by decide +kernel
theorem D6_init_79 : decode m6_init.2.1 79 = .ok (.putfield 39, 3) := by decide +kernel
theorem D6_init_82 : decode m6_init.2.1 82 = .ok (.aload_n 0, 1) := by decide +kernel
theorem D6_init_83 : decode m6_init.2.1 83 = .ok (.bipush 8, 2) := by decide +kernel
theorem D6_init_85 : decode m6_init.2.1 85 = .ok (.newarray .int, 2) := by decide +kernel
theorem D6_init_87 : decode m6_init.2.1 87 = .ok (.putfield 42, 3) := by decide +kernel
theorem D6_init_90 : decode m6_init.2.1 90 = .ok (.aload_n 0, 1) := by decide +kernel
theorem D6_init_91 : decode m6_init.2.1 91 = .ok (.bipush 8, 2) := by decide +kernel
theorem D6_init_93 : decode m6_init.2.1 93 = .ok (.newarray .int, 2) := by decide +kernel
theorem D6_init_95 : decode m6_init.2.1 95 = .ok (.putfield 45, 3) := by decide +kernel
theorem D6_init_98 : decode m6_init.2.1 98 = .ok (.aload_n 0, 1) := by decide +kernel
theorem D6_init_99 : decode m6_init.2.1 99 = .ok (.new 48, 3) := by decide +kernel
theorem D6_init_102 : decode m6_init.2.1 102 = .ok (.dup, 1) := by decide +kernel
theorem D6_init_103 : decode m6_init.2.1 103 = .ok (.invokespecial 50, 3) := by decide +kernel
theorem D6_init_106 : decode m6_init.2.1 106 = .ok (.putfield 51, 3) := by decide +kernel
theorem D6_init_109 : decode m6_init.2.1 109 = .ok (.return_, 1) := by decide +kernel
theorem D6_clear_0 : decode m6_clear.2.1 0 = .ok (.aload_n 0, 1) := by decide +kernel
theorem D6_clear_1 : decode m6_clear.2.1 1 = .ok (.iconst 0, 1) := by decide +kernel
theorem D6_clear_2 : decode m6_clear.2.1 2 = .ok (.putfield 55, 3) := by decide +kernel
theorem D6_clear_5 : decode m6_clear.2.1 5 = .ok (.aload_n 0, 1) := by decide +kernel
theorem D6_clear_6 : decode m6_clear.2.1 6 = .ok (.iconst 0, 1) := by decide +kernel
theorem D6_clear_7 : decode m6_clear.2.1 7 = .ok (.putfield 59, 3) := by decide +kernel
theorem D6_clear_10 : decode m6_clear.2.1 10 = .ok (.aload_n 0, 1) := by decide +kernel
theorem D6_clear_11 : decode m6_clear.2.1 11 = .ok (.iconst 0, 1) := by decide +kernel
theorem D6_clear_12 : decode m6_clear.2.1 12 = .ok (.putfield 62, 3) := by decide +kernel
theorem D6_clear_15 : decode m6_clear.2.1 15 = .ok (.aload_n 0, 1) := by decide +kernel
theorem D6_clear_16 : decode m6_clear.2.1 16 = .ok (.iconst 0, 1) := by decide +kernel
theorem D6_clear_17 : decode m6_clear.2.1 17 = .ok (.putfield 65, 3) := by decide +kernel
theorem D6_clear_20 : decode m6_clear.2.1 20 = .ok (.aload_n 0, 1) := by decide +kernel
theorem D6_clear_21 : decode m6_clear.2.1 21 = .ok (.iconst 0, 1) := by decide +kernel
theorem D6_clear_22 : decode m6_clear.2.1 22 = .ok (.putfield 68, 3) := by decide +kernel
theorem D6_clear_25 : decode m6_clear.2.1 25 = .ok (.aload_n 0, 1) := by decide +kernel
theorem D6_clear_26 : decode m6_clear.2.1 26 = .ok (.getfield 51, 3) := by decide +kernel
theorem D6_clear_29 : decode m6_clear.2.1 29 = .ok (.invokevirtual 71, 3) := by decide +kernel
theorem D6_clear_32 : decode m6_clear.2.1 32 = .ok (.return_, 1) := by decide +kernel
theorem D6_personNamed_0 : decode m6_personNamed.2.1 0 = .ok (.iload_n 1, 1) := by decide +kernel
theorem D6_personNamed_1 : decode m6_personNamed.2.1 1 = .ok (.aload_n 0, 1) := by decide +kernel
theorem D6_personNamed_2 : decode m6_personNamed.2.1 2 = .ok (.getfield 9, 3) := by decide +kernel
theorem D6_personNamed_5 : decode m6_personNamed.2.1 5 = .ok (.aload_n 0, 1) := by decide +kernel
theorem D6_personNamed_6 : decode m6_personNamed.2.1 6 = .ok (.getfield 55, 3) := by decide +kernel
theorem D6_personNamed_9 : decode m6_personNamed.2.1 9 = .ok (.invokestatic 74, 3) := by decide +kernel
theorem D6_personNamed_12 : decode m6_personNamed.2.1 12 = .ok (.ireturn, 1) := by decide +kernel
theorem D6_bottleNamed_0 : decode m6_bottleNamed.2.1 0 = .ok (.iload_n 1, 1) := by decide +kernel
theorem D6_bottleNamed_1 : decode m6_bottleNamed.2.1 1 = .ok (.aload_n 0, 1) := by decide +kernel
theorem D6_bottleNamed_2 : decode m6_bottleNamed.2.1 2 = .ok (.getfield 18, 3) := by decide +kernel
theorem D6_bottleNamed_5 : decode m6_bottleNamed.2.1 5 = .ok (.aload_n 0, 1) := by decide +kernel
theorem D6_bottleNamed_6 : decode m6_bottleNamed.2.1 6 = .ok (.getfield 59, 3) := by decide +kernel
theorem D6_bottleNamed_9 : decode m6_bottleNamed.2.1 9 = .ok (.invokestatic 74, 3) := by decide +kernel
theorem D6_bottleNamed_12 : decode m6_bottleNamed.2.1 12 = .ok (.ireturn, 1) := by decide +kernel
theorem D6_placeOf_0 : decode m6_placeOf.2.1 0 = .ok (.iconst 0, 1) := by decide +kernel
theorem D6_placeOf_1 : decode m6_placeOf.2.1 1 = .ok (.istore_n 3, 1) := by decide +kernel
theorem D6_placeOf_2 : decode m6_placeOf.2.1 2 = .ok (.iload_n 3, 1) := by decide +kernel
theorem D6_placeOf_3 : decode m6_placeOf.2.1 3 = .ok (.iload_n 2, 1) := by decide +kernel
theorem D6_placeOf_4 : decode m6_placeOf.2.1 4 = .ok (.if_icmp .ge 24, 3) := by decide +kernel
theorem D6_placeOf_7 : decode m6_placeOf.2.1 7 = .ok (.iload_n 3, 1) := by decide +kernel
theorem D6_placeOf_8 : decode m6_placeOf.2.1 8 = .ok (.aload_n 1, 1) := by decide +kernel
theorem D6_placeOf_9 : decode m6_placeOf.2.1 9 = .ok (.arraylength, 1) := by decide +kernel
theorem D6_placeOf_10 : decode m6_placeOf.2.1 10 = .ok (.if_icmp .ge 18, 3) := by decide +kernel
theorem D6_placeOf_13 : decode m6_placeOf.2.1 13 = .ok (.aload_n 1, 1) := by decide +kernel
theorem D6_placeOf_14 : decode m6_placeOf.2.1 14 = .ok (.iload_n 3, 1) := by decide +kernel
theorem D6_placeOf_15 : decode m6_placeOf.2.1 15 = .ok (.iaload, 1) := by decide +kernel
theorem D6_placeOf_16 : decode m6_placeOf.2.1 16 = .ok (.iload_n 0, 1) := by decide +kernel
theorem D6_placeOf_17 : decode m6_placeOf.2.1 17 = .ok (.if_icmp .ne 5, 3) := by decide +kernel
theorem D6_placeOf_20 : decode m6_placeOf.2.1 20 = .ok (.iload_n 3, 1) := by decide +kernel
theorem D6_placeOf_21 : decode m6_placeOf.2.1 21 = .ok (.ireturn, 1) := by decide +kernel
theorem D6_placeOf_22 : decode m6_placeOf.2.1 22 = .ok (.iinc 3 1, 3) := by decide +kernel
theorem D6_placeOf_25 : decode m6_placeOf.2.1 25 = .ok (.goto (-23), 3) := by decide +kernel
theorem D6_placeOf_28 : decode m6_placeOf.2.1 28 = .ok (.iconst (-1), 1) := by decide +kernel
theorem D6_placeOf_29 : decode m6_placeOf.2.1 29 = .ok (.ireturn, 1) := by decide +kernel
theorem D7_init_0 : decode m7_init.2.1 0 = .ok (.aload_n 0, 1) := by decide +kernel
theorem D7_init_1 : decode m7_init.2.1 1 = .ok (.invokespecial 3, 3) := by decide +kernel
theorem D7_init_4 : decode m7_init.2.1 4 = .ok (.aload_n 0, 1) := by decide +kernel
theorem D7_init_5 : decode m7_init.2.1 5 = .ok (.bipush 20, 2) := by decide +kernel
theorem D7_init_7 : decode m7_init.2.1 7 = .ok (.newarray .int, 2) := by decide +kernel
theorem D7_init_9 : decode m7_init.2.1 9 = .ok (.putfield 9, 3) := by decide +kernel
theorem D7_init_12 : decode m7_init.2.1 12 = .ok (.aload_n 0, 1) := by decide +kernel
theorem D7_init_13 : decode m7_init.2.1 13 = .ok (.bipush 20, 2) := by decide +kernel
theorem D7_init_15 : decode m7_init.2.1 15 = .ok (.newarray .int, 2) := by decide +kernel
theorem D7_init_17 : decode m7_init.2.1 17 = .ok (.putfield 15, 3) := by decide +kernel
theorem D7_init_20 : decode m7_init.2.1 20 = .ok (.aload_n 0, 1) := by decide +kernel
theorem D7_init_21 : decode m7_init.2.1 21 = .ok (.bipush 20, 2) := by decide +kernel
theorem D7_init_23 : decode m7_init.2.1 23 = .ok (.newarray .int, 2) := by decide +kernel
theorem D7_init_25 : decode m7_init.2.1 25 = .ok (.putfield 18, 3) := by decide +kernel
theorem D7_init_28 : decode m7_init.2.1 28 = .ok (.return_, 1) := by decide +kernel
theorem D7_clear_0 : decode m7_clear.2.1 0 = .ok (.aload_n 0, 1) := by decide +kernel
theorem D7_clear_1 : decode m7_clear.2.1 1 = .ok (.iconst 0, 1) := by decide +kernel
theorem D7_clear_2 : decode m7_clear.2.1 2 = .ok (.putfield 21, 3) := by decide +kernel
theorem D7_clear_5 : decode m7_clear.2.1 5 = .ok (.return_, 1) := by decide +kernel
theorem D7_add_0 : decode m7_add.2.1 0 = .ok (.aload_n 0, 1) := by decide +kernel
theorem D7_add_1 : decode m7_add.2.1 1 = .ok (.getfield 21, 3) := by decide +kernel
theorem D7_add_4 : decode m7_add.2.1 4 = .ok (.bipush 20, 2) := by decide +kernel
theorem D7_add_6 : decode m7_add.2.1 6 = .ok (.if_icmp .lt 7, 3) := by decide +kernel
theorem D7_add_9 : decode m7_add.2.1 9 = .ok (.aload_n 0, 1) := by decide +kernel
theorem D7_add_10 : decode m7_add.2.1 10 = .ok (.invokevirtual 25, 3) := by decide +kernel
theorem D7_add_13 : decode m7_add.2.1 13 = .ok (.aload_n 0, 1) := by decide +kernel
theorem D7_add_14 : decode m7_add.2.1 14 = .ok (.getfield 9, 3) := by decide +kernel
theorem D7_add_17 : decode m7_add.2.1 17 = .ok (.aload_n 0, 1) := by decide +kernel
theorem D7_add_18 : decode m7_add.2.1 18 = .ok (.getfield 21, 3) := by decide +kernel
theorem D7_add_21 : decode m7_add.2.1 21 = .ok (.iload_n 1, 1) := by decide +kernel
theorem D7_add_22 : decode m7_add.2.1 22 = .ok (.iastore, 1) := by decide +kernel
theorem D7_add_23 : decode m7_add.2.1 23 = .ok (.aload_n 0, 1) := by decide +kernel
theorem D7_add_24 : decode m7_add.2.1 24 = .ok (.getfield 15, 3) := by decide +kernel
theorem D7_add_27 : decode m7_add.2.1 27 = .ok (.aload_n 0, 1) := by decide +kernel
theorem D7_add_28 : decode m7_add.2.1 28 = .ok (.getfield 21, 3) := by decide +kernel
theorem D7_add_31 : decode m7_add.2.1 31 = .ok (.iload_n 2, 1) := by decide +kernel
theorem D7_add_32 : decode m7_add.2.1 32 = .ok (.iastore, 1) := by decide +kernel
theorem D7_add_33 : decode m7_add.2.1 33 = .ok (.aload_n 0, 1) := by decide +kernel
theorem D7_add_34 : decode m7_add.2.1 34 = .ok (.getfield 18, 3) := by decide +kernel
theorem D7_add_37 : decode m7_add.2.1 37 = .ok (.aload_n 0, 1) := by decide +kernel
theorem D7_add_38 : decode m7_add.2.1 38 = .ok (.getfield 21, 3) := by decide +kernel
theorem D7_add_41 : decode m7_add.2.1 41 = .ok (.iload_n 3, 1) := by decide +kernel
theorem D7_add_42 : decode m7_add.2.1 42 = .ok (.iastore, 1) := by decide +kernel
theorem D7_add_43 : decode m7_add.2.1 43 = .ok (.aload_n 0, 1) := by decide +kernel
theorem D7_add_44 : decode m7_add.2.1 44 = .ok (.dup, 1) := by decide +kernel
theorem D7_add_45 : decode m7_add.2.1 45 = .ok (.getfield 21, 3) := by decide +kernel
theorem D7_add_48 : decode m7_add.2.1 48 = .ok (.iconst 1, 1) := by decide +kernel
theorem D7_add_49 : decode m7_add.2.1 49 = .ok (.iadd, 1) := by decide +kernel
theorem D7_add_50 : decode m7_add.2.1 50 = .ok (.putfield 21, 3) := by decide +kernel
theorem D7_add_53 : decode m7_add.2.1 53 = .ok (.return_, 1) := by decide +kernel
theorem D7_forgetFirst_0 : decode m7_forgetFirst.2.1 0 = .ok (.aload_n 0, 1) := by decide +kernel
theorem D7_forgetFirst_1 : decode m7_forgetFirst.2.1 1 = .ok (.getfield 9, 3) := by decide +kernel
theorem D7_forgetFirst_4 : decode m7_forgetFirst.2.1 4 = .ok (.iconst 1, 1) := by decide +kernel
theorem D7_forgetFirst_5 : decode m7_forgetFirst.2.1 5 = .ok (.aload_n 0, 1) := by decide +kernel
theorem D7_forgetFirst_6 : decode m7_forgetFirst.2.1 6 = .ok (.getfield 9, 3) := by decide +kernel
theorem D7_forgetFirst_9 : decode m7_forgetFirst.2.1 9 = .ok (.iconst 0, 1) := by decide +kernel
theorem D7_forgetFirst_10 : decode m7_forgetFirst.2.1 10 = .ok (.bipush 19, 2) := by decide +kernel
theorem D7_forgetFirst_12 : decode m7_forgetFirst.2.1 12 = .ok (.invokestatic 28, 3) := by decide +kernel
theorem D7_forgetFirst_15 : decode m7_forgetFirst.2.1 15 = .ok (.aload_n 0, 1) := by decide +kernel
theorem D7_forgetFirst_16 : decode m7_forgetFirst.2.1 16 = .ok (.getfield 15, 3) := by decide +kernel
theorem D7_forgetFirst_19 : decode m7_forgetFirst.2.1 19 = .ok (.iconst 1, 1) := by decide +kernel
theorem D7_forgetFirst_20 : decode m7_forgetFirst.2.1 20 = .ok (.aload_n 0, 1) := by decide +kernel
theorem D7_forgetFirst_21 : decode m7_forgetFirst.2.1 21 = .ok (.getfield 15, 3) := by decide +kernel
theorem D7_forgetFirst_24 : decode m7_forgetFirst.2.1 24 = .ok (.iconst 0, 1) := by decide +kernel
theorem D7_forgetFirst_25 : decode m7_forgetFirst.2.1 25 = .ok (.bipush 19, 2) := by decide +kernel
theorem D7_forgetFirst_27 : decode m7_forgetFirst.2.1 27 = .ok (.invokestatic 28, 3) := by decide +kernel
theorem D7_forgetFirst_30 : decode m7_forgetFirst.2.1 30 = .ok (.aload_n 0, 1) := by decide +kernel
theorem D7_forgetFirst_31 : decode m7_forgetFirst.2.1 31 = .ok (.getfield 18, 3) := by decide +kernel
theorem D7_forgetFirst_34 : decode m7_forgetFirst.2.1 34 = .ok (.iconst 1, 1) := by decide +kernel
theorem D7_forgetFirst_35 : decode m7_forgetFirst.2.1 35 = .ok (.aload_n 0, 1) := by decide +kernel
theorem D7_forgetFirst_36 : decode m7_forgetFirst.2.1 36 = .ok (.getfield 18, 3) := by decide +kernel
theorem D7_forgetFirst_39 : decode m7_forgetFirst.2.1 39 = .ok (.iconst 0, 1) := by decide +kernel
theorem D7_forgetFirst_40 : decode m7_forgetFirst.2.1 40 = .ok (.bipush 19, 2) := by decide +kernel
theorem D7_forgetFirst_42 : decode m7_forgetFirst.2.1 42 = .ok (.invokestatic 28, 3) := by decide +kernel
theorem D7_forgetFirst_45 : decode m7_forgetFirst.2.1 45 = .ok (.aload_n 0, 1) := by decide +kernel
theorem D7_forgetFirst_46 : decode m7_forgetFirst.2.1 46 = .ok (.bipush 19, 2) := by decide +kernel
theorem D7_forgetFirst_48 : decode m7_forgetFirst.2.1 48 = .ok (.putfield 21, 3) := by decide +kernel
theorem D7_forgetFirst_51 : decode m7_forgetFirst.2.1 51 = .ok (.return_, 1) := by decide +kernel
theorem D7_takeLatest_0 : decode m7_takeLatest.2.1 0 = .ok (.aload_n 0, 1) := by decide +kernel
theorem D7_takeLatest_1 : decode m7_takeLatest.2.1 1 = .ok (.getfield 21, 3) := by decide +kernel
theorem D7_takeLatest_4 : decode m7_takeLatest.2.1 4 = .ok (.ifCond .gt 4, 3) := by decide +kernel
theorem D7_takeLatest_7 : decode m7_takeLatest.2.1 7 = .ok (.return_, 1) := by decide +kernel
theorem D7_takeLatest_8 : decode m7_takeLatest.2.1 8 = .ok (.aload_n 0, 1) := by decide +kernel
theorem D7_takeLatest_9 : decode m7_takeLatest.2.1 9 = .ok (.dup, 1) := by decide +kernel
theorem D7_takeLatest_10 : decode m7_takeLatest.2.1 10 = .ok (.getfield 21, 3) := by decide +kernel
theorem D7_takeLatest_13 : decode m7_takeLatest.2.1 13 = .ok (.iconst 1, 1) := by decide +kernel
theorem D7_takeLatest_14 : decode m7_takeLatest.2.1 14 = .ok (.isub, 1) := by decide +kernel
theorem D7_takeLatest_15 : decode m7_takeLatest.2.1 15 = .ok (.putfield 21, 3) := by decide +kernel
theorem D7_takeLatest_18 : decode m7_takeLatest.2.1 18 = .ok (.aload_n 0, 1) := by decide +kernel
theorem D7_takeLatest_19 : decode m7_takeLatest.2.1 19 = .ok (.getfield 9, 3) := by decide +kernel
theorem D7_takeLatest_22 : decode m7_takeLatest.2.1 22 = .ok (.aload_n 0, 1) := by decide +kernel
theorem D7_takeLatest_23 : decode m7_takeLatest.2.1 23 = .ok (.getfield 21, 3) := by decide +kernel
theorem D7_takeLatest_26 : decode m7_takeLatest.2.1 26 = .ok (.iaload, 1) := by decide +kernel
theorem D7_takeLatest_27 : decode m7_takeLatest.2.1 27 = .ok (.ifCond .ne 28, 3) := by decide +kernel
theorem D7_takeLatest_30 : decode m7_takeLatest.2.1 30 = .ok (.aload_n 1, 1) := by decide +kernel
theorem D7_takeLatest_31 : decode m7_takeLatest.2.1 31 = .ok (.aload_n 0, 1) := by decide +kernel
theorem D7_takeLatest_32 : decode m7_takeLatest.2.1 32 = .ok (.getfield 15, 3) := by decide +kernel
theorem D7_takeLatest_35 : decode m7_takeLatest.2.1 35 = .ok (.aload_n 0, 1) := by decide +kernel
theorem D7_takeLatest_36 : decode m7_takeLatest.2.1 36 = .ok (.getfield 21, 3) := by decide +kernel
theorem D7_takeLatest_39 : decode m7_takeLatest.2.1 39 = .ok (.iaload, 1) := by decide +kernel
theorem D7_takeLatest_40 : decode m7_takeLatest.2.1 40 = .ok (.aload_n 0, 1) := by decide +kernel
theorem D7_takeLatest_41 : decode m7_takeLatest.2.1 41 = .ok (.getfield 18, 3) := by decide +kernel
theorem D7_takeLatest_44 : decode m7_takeLatest.2.1 44 = .ok (.aload_n 0, 1) := by decide +kernel
theorem D7_takeLatest_45 : decode m7_takeLatest.2.1 45 = .ok (.getfield 21, 3) := by decide +kernel
theorem D7_takeLatest_48 : decode m7_takeLatest.2.1 48 = .ok (.iaload, 1) := by decide +kernel
theorem D7_takeLatest_49 : decode m7_takeLatest.2.1 49 = .ok (.invokevirtual 34, 3) := by decide +kernel
theorem D7_takeLatest_52 : decode m7_takeLatest.2.1 52 = .ok (.goto 55, 3) := by decide +kernel
theorem D7_takeLatest_55 : decode m7_takeLatest.2.1 55 = .ok (.aload_n 0, 1) := by decide +kernel
theorem D7_takeLatest_56 : decode m7_takeLatest.2.1 56 = .ok (.getfield 9, 3) := by decide +kernel
theorem D7_takeLatest_59 : decode m7_takeLatest.2.1 59 = .ok (.aload_n 0, 1) := by decide +kernel
theorem D7_takeLatest_60 : decode m7_takeLatest.2.1 60 = .ok (.getfield 21, 3) := by decide +kernel
theorem D7_takeLatest_63 : decode m7_takeLatest.2.1 63 = .ok (.iaload, 1) := by decide +kernel
theorem D7_takeLatest_64 : decode m7_takeLatest.2.1 64 = .ok (.iconst 1, 1) := by decide +kernel
theorem D7_takeLatest_65 : decode m7_takeLatest.2.1 65 = .ok (.if_icmp .ne 29, 3) := by decide +kernel
theorem D7_takeLatest_68 : decode m7_takeLatest.2.1 68 = .ok (.aload_n 1, 1) := by decide +kernel
theorem D7_takeLatest_69 : decode m7_takeLatest.2.1 69 = .ok (.getfield 40, 3) := by decide +kernel
theorem D7_takeLatest_72 : decode m7_takeLatest.2.1 72 = .ok (.aload_n 0, 1) := by decide +kernel
theorem D7_takeLatest_73 : decode m7_takeLatest.2.1 73 = .ok (.getfield 15, 3) := by decide +kernel
theorem D7_takeLatest_76 : decode m7_takeLatest.2.1 76 = .ok (.aload_n 0, 1) := by decide +kernel
theorem D7_takeLatest_77 : decode m7_takeLatest.2.1 77 = .ok (.getfield 21, 3) := by decide +kernel
theorem D7_takeLatest_80 : decode m7_takeLatest.2.1 80 = .ok (.iaload, 1) := by decide +kernel
theorem D7_takeLatest_81 : decode m7_takeLatest.2.1 81 = .ok (.aload_n 0, 1) := by decide +kernel
theorem D7_takeLatest_82 : decode m7_takeLatest.2.1 82 = .ok (.getfield 18, 3) := by decide +kernel
theorem D7_takeLatest_85 : decode m7_takeLatest.2.1 85 = .ok (.aload_n 0, 1) := by decide +kernel
theorem D7_takeLatest_86 : decode m7_takeLatest.2.1 86 = .ok (.getfield 21, 3) := by decide +kernel
theorem D7_takeLatest_89 : decode m7_takeLatest.2.1 89 = .ok (.iaload, 1) := by decide +kernel
theorem D7_takeLatest_90 : decode m7_takeLatest.2.1 90 = .ok (.iastore, 1) := by decide +kernel
theorem D7_takeLatest_91 : decode m7_takeLatest.2.1 91 = .ok (.goto 16, 3) := by decide +kernel
theorem D7_takeLatest_94 : decode m7_takeLatest.2.1 94 = .ok (.aload_n 1, 1) := by decide +kernel
theorem D7_takeLatest_95 : decode m7_takeLatest.2.1 95 = .ok (.aload_n 0, 1) := by decide +kernel
theorem D7_takeLatest_96 : decode m7_takeLatest.2.1 96 = .ok (.getfield 15, 3) := by decide +kernel
theorem D7_takeLatest_99 : decode m7_takeLatest.2.1 99 = .ok (.aload_n 0, 1) := by decide +kernel
theorem D7_takeLatest_100 : decode m7_takeLatest.2.1 100 = .ok (.getfield 21, 3) := by decide +kernel
theorem D7_takeLatest_103 : decode m7_takeLatest.2.1 103 = .ok (.iaload, 1) := by decide +kernel
theorem D7_takeLatest_104 : decode m7_takeLatest.2.1 104 = .ok (.invokevirtual 43, 3) := by decide +kernel
theorem D7_takeLatest_107 : decode m7_takeLatest.2.1 107 = .ok (.return_, 1) := by decide +kernel
theorem D8_init_0 : decode m8_init.2.1 0 = .ok (.aload_n 0, 1) := by decide +kernel
theorem D8_init_1 : decode m8_init.2.1 1 = .ok (.invokespecial 3, 3) := by decide +kernel
theorem D8_init_4 : decode m8_init.2.1 4 = .ok (.aload_n 0, 1) := by decide +kernel
theorem D8_init_5 : decode m8_init.2.1 5 = .ok (.bipush 10, 2) := by decide +kernel
theorem D8_init_7 : decode m8_init.2.1 7 = .ok (.newarray .int, 2) := by decide +kernel
theorem D8_init_9 : decode m8_init.2.1 9 = .ok (.putfield 9, 3) := by decide +kernel
theorem D8_init_12 : decode m8_init.2.1 12 = .ok (.aload_n 0, 1) := by decide +kernel
theorem D8_init_13 : decode m8_init.2.1 13 = .ok (.bipush 64, 2) := by decide +kernel
theorem D8_init_15 : decode m8_init.2.1 15 = .ok (.newarray .long, 2) := by decide +kernel
theorem D8_init_17 : decode m8_init.2.1 17 = .ok (.putfield 15, 3) := by decide +kernel
theorem D8_init_20 : decode m8_init.2.1 20 = .ok (.aload_n 0, 1) := by decide +kernel
theorem D8_init_21 : decode m8_init.2.1 21 = .ok (.aload_n 1, 1) := by decide +kernel
theorem D8_init_22 : decode m8_init.2.1 22 = .ok (.putfield 19, 3) := by decide +kernel
theorem D8_init_25 : decode m8_init.2.1 25 = .ok (.aload_n 0, 1) := by decide +kernel
theorem D8_init_26 : decode m8_init.2.1 26 = .ok (.aload_n 2, 1) := by decide +kernel
theorem D8_init_27 : decode m8_init.2.1 27 = .ok (.putfield 23, 3) := by decide +kernel
theorem D8_init_30 : decode m8_init.2.1 30 = .ok (.return_, 1) := by decide +kernel
theorem D8_start_0 : decode m8_start.2.1 0 = .ok (.aload_n 0, 1) := by decide +kernel
theorem D8_start_1 : decode m8_start.2.1 1 = .ok (.aload_n 1, 1) := by decide +kernel
theorem D8_start_2 : decode m8_start.2.1 2 = .ok (.putfield 19, 3) := by decide +kernel
theorem D8_start_5 : decode m8_start.2.1 5 = .ok (.aload_n 0, 1) := by decide +kernel
theorem D8_start_6 : decode m8_start.2.1 6 = .ok (.aload_n 2, 1) := by decide +kernel
theorem D8_start_7 : decode m8_start.2.1 7 = .ok (.putfield 23, 3) := by decide +kernel
theorem D8_start_10 : decode m8_start.2.1 10 = .ok (.aload_n 0, 1) := by decide +kernel
theorem D8_start_11 : decode m8_start.2.1 11 = .ok (.iload_n 3, 1) := by decide +kernel
theorem D8_start_12 : decode m8_start.2.1 12 = .ok (.putfield 27, 3) := by decide +kernel
theorem D8_start_15 : decode m8_start.2.1 15 = .ok (.aload_n 0, 1) := by decide +kernel
theorem D8_start_16 : decode m8_start.2.1 16 = .ok (.iconst 1, 1) := by decide +kernel
theorem D8_start_17 : decode m8_start.2.1 17 = .ok (.putfield 31, 3) := by decide +kernel
theorem D8_start_20 : decode m8_start.2.1 20 = .ok (.aload_n 0, 1) := by decide +kernel
theorem D8_start_21 : decode m8_start.2.1 21 = .ok (.iconst 1, 1) := by decide +kernel
theorem D8_start_22 : decode m8_start.2.1 22 = .ok (.putfield 35, 3) := by decide +kernel
theorem D8_start_25 : decode m8_start.2.1 25 = .ok (.return_, 1) := by decide +kernel
theorem D8_pass_0 : decode m8_pass.2.1 0 = .ok (.iconst 0, 1) := by decide +kernel
theorem D8_pass_1 : decode m8_pass.2.1 1 = .ok (.istore_n 2, 1) := by decide +kernel
theorem D8_pass_2 : decode m8_pass.2.1 2 = .ok (.iload_n 2, 1) := by decide +kernel
theorem D8_pass_3 : decode m8_pass.2.1 3 = .ok (.iload_n 1, 1) := by decide +kernel
theorem D8_pass_4 : decode m8_pass.2.1 4 = .ok (.if_icmp .ge 13, 3) := by decide +kernel
theorem D8_pass_7 : decode m8_pass.2.1 7 = .ok (.aload_n 0, 1) := by decide +kernel
theorem D8_pass_8 : decode m8_pass.2.1 8 = .ok (.invokevirtual 38, 3) := by decide +kernel
theorem D8_pass_11 : decode m8_pass.2.1 11 = .ok (.iinc 2 1, 3) := by decide +kernel
theorem D8_pass_14 : decode m8_pass.2.1 14 = .ok (.goto (-12), 3) := by decide +kernel
theorem D8_pass_17 : decode m8_pass.2.1 17 = .ok (.return_, 1) := by decide +kernel
theorem D8_passOne_0 : decode m8_passOne.2.1 0 = .ok (.aload_n 0, 1) := by decide +kernel
theorem D8_passOne_1 : decode m8_passOne.2.1 1 = .ok (.invokevirtual 41, 3) := by decide +kernel
theorem D8_passOne_4 : decode m8_passOne.2.1 4 = .ok (.ifCond .eq 7, 3) := by decide +kernel
theorem D8_passOne_7 : decode m8_passOne.2.1 7 = .ok (.aload_n 0, 1) := by decide +kernel
theorem D8_passOne_8 : decode m8_passOne.2.1 8 = .ok (.invokevirtual 45, 3) := by decide +kernel
theorem D8_passOne_11 : decode m8_passOne.2.1 11 = .ok (.aload_n 0, 1) := by decide +kernel
theorem D8_passOne_12 : decode m8_passOne.2.1 12 = .ok (.getfield 35, 3) := by decide +kernel
theorem D8_passOne_15 : decode m8_passOne.2.1 15 = .ok (.ifCond .eq 7, 3) := by decide +kernel
theorem D8_passOne_18 : decode m8_passOne.2.1 18 = .ok (.aload_n 0, 1) := by decide +kernel
theorem D8_passOne_19 : decode m8_passOne.2.1 19 = .ok (.invokevirtual 48, 3) := by decide +kernel
theorem D8_passOne_22 : decode m8_passOne.2.1 22 = .ok (.iconst 0, 1) := by decide +kernel
theorem D8_passOne_23 : decode m8_passOne.2.1 23 = .ok (.istore_n 1, 1) := by decide +kernel
theorem D8_passOne_24 : decode m8_passOne.2.1 24 = .ok (.iload_n 1, 1) := by decide +kernel
theorem D8_passOne_25 : decode m8_passOne.2.1 25 = .ok (.aload_n 0, 1) := by decide +kernel
theorem D8_passOne_26 : decode m8_passOne.2.1 26 = .ok (.getfield 19, 3) := by decide +kernel
theorem D8_passOne_29 : decode m8_passOne.2.1 29 = .ok (.getfield 51, 3) := by decide +kernel
theorem D8_passOne_32 : decode m8_passOne.2.1 32 = .ok (.if_icmp .ge 37, 3) := by decide +kernel
theorem D8_passOne_35 : decode m8_passOne.2.1 35 = .ok (.aload_n 0, 1) := by decide +kernel
theorem D8_passOne_36 : decode m8_passOne.2.1 36 = .ok (.getfield 23, 3) := by decide +kernel
theorem D8_passOne_39 : decode m8_passOne.2.1 39 = .ok (.iload_n 1, 1) := by decide +kernel
theorem D8_passOne_40 : decode m8_passOne.2.1 40 = .ok (.invokevirtual 56, 3) := by decide +kernel
theorem D8_passOne_43 : decode m8_passOne.2.1 43 = .ok (.ifCond .eq 20, 3) := by decide +kernel
theorem D8_passOne_46 : decode m8_passOne.2.1 46 = .ok (.aload_n 0, 1) := by decide +kernel
theorem D8_passOne_47 : decode m8_passOne.2.1 47 = .ok (.getfield 23, 3) := by decide +kernel
theorem D8_passOne_50 : decode m8_passOne.2.1 50 = .ok (.getfield 62, 3) := by decide +kernel
theorem D8_passOne_53 : decode m8_passOne.2.1 53 = .ok (.iload_n 1, 1) := by decide +kernel
theorem D8_passOne_54 : decode m8_passOne.2.1 54 = .ok (.iaload, 1) := by decide +kernel
theorem D8_passOne_55 : decode m8_passOne.2.1 55 = .ok (.ifCond .ne 8, 3) := by decide +kernel
theorem D8_passOne_58 : decode m8_passOne.2.1 58 = .ok (.aload_n 0, 1) := by decide +kernel
theorem D8_passOne_59 : decode m8_passOne.2.1 59 = .ok (.iload_n 1, 1) := by decide +kernel
theorem D8_passOne_60 : decode m8_passOne.2.1 60 = .ok (.invokevirtual 65, 3) := by decide +kernel
theorem D8_passOne_63 : decode m8_passOne.2.1 63 = .ok (.iinc 1 1, 3) := by decide +kernel
theorem D8_passOne_66 : decode m8_passOne.2.1 66 = .ok (.goto (-42), 3) := by decide +kernel
theorem D8_passOne_69 : decode m8_passOne.2.1 69 = .ok (.iconst 0, 1) := by decide +kernel
theorem D8_passOne_70 : decode m8_passOne.2.1 70 = .ok (.istore_n 1, 1) := by decide +kernel
theorem D8_passOne_71 : decode m8_passOne.2.1 71 = .ok (.iload_n 1, 1) := by decide +kernel
theorem D8_passOne_72 : decode m8_passOne.2.1 72 = .ok (.aload_n 0, 1) := by decide +kernel
theorem D8_passOne_73 : decode m8_passOne.2.1 73 = .ok (.getfield 19, 3) := by decide +kernel
theorem D8_passOne_76 : decode m8_passOne.2.1 76 = .ok (.getfield 69, 3) := by decide +kernel
theorem D8_passOne_79 : decode m8_passOne.2.1 79 = .ok (.if_icmp .ge 33, 3) := by decide +kernel
theorem D8_passOne_82 : decode m8_passOne.2.1 82 = .ok (.aload_n 0, 1) := by decide +kernel
theorem D8_passOne_83 : decode m8_passOne.2.1 83 = .ok (.getfield 19, 3) := by decide +kernel
theorem D8_passOne_86 : decode m8_passOne.2.1 86 = .ok (.getfield 72, 3) := by decide +kernel
theorem D8_passOne_89 : decode m8_passOne.2.1 89 = .ok (.iload_n 1, 1) := by decide +kernel
theorem D8_passOne_90 : decode m8_passOne.2.1 90 = .ok (.iaload, 1) := by decide +kernel
theorem D8_passOne_91 : decode m8_passOne.2.1 91 = .ok (.aload_n 0, 1) := by decide +kernel
theorem D8_passOne_92 : decode m8_passOne.2.1 92 = .ok (.getfield 23, 3) := by decide +kernel
theorem D8_passOne_95 : decode m8_passOne.2.1 95 = .ok (.getfield 75, 3) := by decide +kernel
theorem D8_passOne_98 : decode m8_passOne.2.1 98 = .ok (.if_icmp .ne 8, 3) := by decide +kernel
theorem D8_passOne_101 : decode m8_passOne.2.1 101 = .ok (.aload_n 0, 1) := by decide +kernel
theorem D8_passOne_102 : decode m8_passOne.2.1 102 = .ok (.iload_n 1, 1) := by decide +kernel
theorem D8_passOne_103 : decode m8_passOne.2.1 103 = .ok (.invokevirtual 78, 3) := by decide +kernel
theorem D8_passOne_106 : decode m8_passOne.2.1 106 = .ok (.iinc 1 1, 3) := by decide +kernel
theorem D8_passOne_109 : decode m8_passOne.2.1 109 = .ok (.goto (-38), 3) := by decide +kernel
theorem D8_passOne_112 : decode m8_passOne.2.1 112 = .ok (.aload_n 0, 1) := by decide +kernel
theorem D8_passOne_113 : decode m8_passOne.2.1 113 = .ok (.getfield 23, 3) := by decide +kernel
theorem D8_passOne_116 : decode m8_passOne.2.1 116 = .ok (.dup, 1) := by decide +kernel
theorem D8_passOne_117 : decode m8_passOne.2.1 117 = .ok (.getfield 75, 3) := by decide +kernel
theorem D8_passOne_120 : decode m8_passOne.2.1 120 = .ok (.iconst 1, 1) := by decide +kernel
theorem D8_passOne_121 : decode m8_passOne.2.1 121 = .ok (.iadd, 1) := by decide +kernel
theorem D8_passOne_122 : decode m8_passOne.2.1 122 = .ok (.putfield 75, 3) := by decide +kernel
theorem D8_passOne_125 : decode m8_passOne.2.1 125 = .ok (.return_, 1) := by decide +kernel
theorem D8_isThundering_0 : decode m8_isThundering.2.1 0 = .ok (.aload_n 0, 1) := by decide +kernel
theorem D8_isThundering_1 : decode m8_isThundering.2.1 1 = .ok (.getfield 27, 3) := by decide +kernel
theorem D8_isThundering_4 : decode m8_isThundering.2.1 4 = .ok (.iconst 2, 1) := by decide +kernel
theorem D8_isThundering_5 : decode m8_isThundering.2.1 5 = .ok (.if_icmp .ne 5, 3) := by decide +kernel
theorem D8_isThundering_8 : decode m8_isThundering.2.1 8 = .ok (.iconst 0, 1) := by decide +kernel
theorem D8_isThundering_9 : decode m8_isThundering.2.1 9 = .ok (.ireturn, 1) := by decide +kernel
theorem D8_isThundering_10 : decode m8_isThundering.2.1 10 = .ok (.aload_n 0, 1) := by decide +kernel
theorem D8_isThundering_11 : decode m8_isThundering.2.1 11 = .ok (.getfield 27, 3) := by decide +kernel
theorem D8_isThundering_14 : decode m8_isThundering.2.1 14 = .ok (.iconst 1, 1) := by decide +kernel
theorem D8_isThundering_15 : decode m8_isThundering.2.1 15 = .ok (.if_icmp .ne 21, 3) := by decide +kernel
theorem D8_isThundering_18 : decode m8_isThundering.2.1 18 = .ok (.aload_n 0, 1) := by decide +kernel
theorem D8_isThundering_19 : decode m8_isThundering.2.1 19 = .ok (.getfield 19, 3) := by decide +kernel
theorem D8_isThundering_22 : decode m8_isThundering.2.1 22 = .ok (.getfield 81, 3) := by decide +kernel
theorem D8_isThundering_25 : decode m8_isThundering.2.1 25 = .ok (.bipush 50, 2) := by decide +kernel
theorem D8_isThundering_27 : decode m8_isThundering.2.1 27 = .ok (.if_icmp .lt 7, 3) := by decide +kernel
theorem D8_isThundering_30 : decode m8_isThundering.2.1 30 = .ok (.iconst 1, 1) := by decide +kernel
theorem D8_isThundering_31 : decode m8_isThundering.2.1 31 = .ok (.goto 4, 3) := by decide +kernel
theorem D8_isThundering_34 : decode m8_isThundering.2.1 34 = .ok (.iconst 0, 1) := by decide +kernel
theorem D8_isThundering_35 : decode m8_isThundering.2.1 35 = .ok (.ireturn, 1) := by decide +kernel
theorem D8_isThundering_36 : decode m8_isThundering.2.1 36 = .ok (.aload_n 0, 1) := by decide +kernel
theorem D8_isThundering_37 : decode m8_isThundering.2.1 37 = .ok (.getfield 19, 3) := by decide +kernel
theorem D8_isThundering_40 : decode m8_isThundering.2.1 40 = .ok (.getfield 81, 3) := by decide +kernel
theorem D8_isThundering_43 : decode m8_isThundering.2.1 43 = .ok (.ifCond .eq 15, 3) := by decide +kernel
theorem D8_isThundering_46 : decode m8_isThundering.2.1 46 = .ok (.aload_n 0, 1) := by decide +kernel
theorem D8_isThundering_47 : decode m8_isThundering.2.1 47 = .ok (.getfield 19, 3) := by decide +kernel
theorem D8_isThundering_50 : decode m8_isThundering.2.1 50 = .ok (.getfield 81, 3) := by decide +kernel
theorem D8_isThundering_53 : decode m8_isThundering.2.1 53 = .ok (.bipush 100, 2) := by decide +kernel
theorem D8_isThundering_55 : decode m8_isThundering.2.1 55 = .ok (.if_icmp .ne 21, 3) := by decide +kernel
theorem D8_isThundering_58 : decode m8_isThundering.2.1 58 = .ok (.aload_n 0, 1) := by decide +kernel
theorem D8_isThundering_59 : decode m8_isThundering.2.1 59 = .ok (.getfield 19, 3) := by decide +kernel
theorem D8_isThundering_62 : decode m8_isThundering.2.1 62 = .ok (.getfield 81, 3) := by decide +kernel
theorem D8_isThundering_65 : decode m8_isThundering.2.1 65 = .ok (.bipush 100, 2) := by decide +kernel
theorem D8_isThundering_67 : decode m8_isThundering.2.1 67 = .ok (.if_icmp .ne 7, 3) := by decide +kernel
theorem D8_isThundering_70 : decode m8_isThundering.2.1 70 = .ok (.iconst 1, 1) := by decide +kernel
theorem D8_isThundering_71 : decode m8_isThundering.2.1 71 = .ok (.goto 4, 3) := by decide +kernel
theorem D8_isThundering_74 : decode m8_isThundering.2.1 74 = .ok (.iconst 0, 1) := by decide +kernel
theorem D8_isThundering_75 : decode m8_isThundering.2.1 75 = .ok (.ireturn, 1) := by decide +kernel
theorem D8_isThundering_76 : decode m8_isThundering.2.1 76 = .ok (.aload_n 0, 1) := by decide +kernel
theorem D8_isThundering_77 : decode m8_isThundering.2.1 77 = .ok (.getfield 23, 3) := by decide +kernel
theorem D8_isThundering_80 : decode m8_isThundering.2.1 80 = .ok (.aload_n 0, 1) := by decide +kernel
theorem D8_isThundering_81 : decode m8_isThundering.2.1 81 = .ok (.getfield 23, 3) := by decide +kernel
theorem D8_isThundering_84 : decode m8_isThundering.2.1 84 = .ok (.getfield 84, 3) := by decide +kernel
theorem D8_isThundering_87 : decode m8_isThundering.2.1 87 = .ok (.ldc2_w 88, 3) := by decide +kernel
theorem D8_isThundering_90 : decode m8_isThundering.2.1 90 = .ok (.lmul, 1) := by decide +kernel
theorem D8_isThundering_91 : decode m8_isThundering.2.1 91 = .ok (.ldc2_w 90, 3) := by decide +kernel
theorem D8_isThundering_94 : decode m8_isThundering.2.1 94 = .ok (.ladd, 1) := by decide +kernel
theorem D8_isThundering_95 : decode m8_isThundering.2.1 95 = .ok (.ldc2_w 92, 3) := by decide +kernel
theorem D8_isThundering_98 : decode m8_isThundering.2.1 98 = .ok (.land, 1) := by decide +kernel
theorem D8_isThundering_99 : decode m8_isThundering.2.1 99 = .ok (.putfield 84, 3) := by decide +kernel
theorem D8_isThundering_102 : decode m8_isThundering.2.1 102 = .ok (.aload_n 0, 1) := by decide +kernel
theorem D8_isThundering_103 : decode m8_isThundering.2.1 103 = .ok (.getfield 23, 3) := by decide +kernel
theorem D8_isThundering_106 : decode m8_isThundering.2.1 106 = .ok (.getfield 84, 3) := by decide +kernel
theorem D8_isThundering_109 : decode m8_isThundering.2.1 109 = .ok (.ldc2_w 94, 3) := by decide +kernel
theorem D8_isThundering_112 : decode m8_isThundering.2.1 112 = .ok (.ldiv, 1) := by decide +kernel
theorem D8_isThundering_113 : decode m8_isThundering.2.1 113 = .ok (.ldc2_w 96, 3) := by decide +kernel
theorem D8_isThundering_116 : decode m8_isThundering.2.1 116 = .ok (.lrem, 1) := by decide +kernel
theorem D8_isThundering_117 : decode m8_isThundering.2.1 117 = .ok (.aload_n 0, 1) := by decide +kernel
theorem D8_isThundering_118 : decode m8_isThundering.2.1 118 = .ok (.getfield 19, 3) := by decide +kernel
theorem D8_isThundering_121 : decode m8_isThundering.2.1 121 = .ok (.getfield 81, 3) := by decide +kernel
theorem D8_isThundering_124 : decode m8_isThundering.2.1 124 = .ok (.i2l, 1) := by decide +kernel
theorem D8_isThundering_125 : decode m8_isThundering.2.1 125 = .ok (.lcmp, 1) := by decide +kernel
theorem D8_isThundering_126 : decode m8_isThundering.2.1 126 = .ok (.ifCond .ge 7, 3) := by decide +kernel
theorem D8_isThundering_129 : decode m8_isThundering.2.1 129 = .ok (.iconst 1, 1) := by decide +kernel
theorem D8_isThundering_130 : decode m8_isThundering.2.1 130 = .ok (.goto 4, 3) := by decide +kernel
theorem D8_isThundering_133 : decode m8_isThundering.2.1 133 = .ok (.iconst 0, 1) := by decide +kernel
theorem D8_isThundering_134 : decode m8_isThundering.2.1 134 = .ok (.ireturn, 1) := by decide +kernel
theorem D8_creep_0 : decode m8_creep.2.1 0 = .ok (.aload_n 0, 1) := by decide +kernel
theorem D8_creep_1 : decode m8_creep.2.1 1 = .ok (.getfield 23, 3) := by decide +kernel
theorem D8_creep_4 : decode m8_creep.2.1 4 = .ok (.dup, 1) := by decide +kernel
theorem D8_creep_5 : decode m8_creep.2.1 5 = .ok (.getfield 98, 3) := by decide +kernel
theorem D8_creep_8 : decode m8_creep.2.1 8 = .ok (.iconst 1, 1) := by decide +kernel
theorem D8_creep_9 : decode m8_creep.2.1 9 = .ok (.iadd, 1) := by decide +kernel
theorem D8_creep_10 : decode m8_creep.2.1 10 = .ok (.putfield 98, 3) := by decide +kernel
theorem D8_creep_13 : decode m8_creep.2.1 13 = .ok (.iconst 0, 1) := by decide +kernel
theorem D8_creep_14 : decode m8_creep.2.1 14 = .ok (.istore_n 1, 1) := by decide +kernel
theorem D8_creep_15 : decode m8_creep.2.1 15 = .ok (.iload_n 1, 1) := by decide +kernel
theorem D8_creep_16 : decode m8_creep.2.1 16 = .ok (.aload_n 0, 1) := by decide +kernel
theorem D8_creep_17 : decode m8_creep.2.1 17 = .ok (.getfield 19, 3) := by decide +kernel
theorem D8_creep_20 : decode m8_creep.2.1 20 = .ok (.getfield 51, 3) := by decide +kernel
theorem D8_creep_23 : decode m8_creep.2.1 23 = .ok (.if_icmp .ge 49, 3) := by decide +kernel
theorem D8_creep_26 : decode m8_creep.2.1 26 = .ok (.aload_n 0, 1) := by decide +kernel
theorem D8_creep_27 : decode m8_creep.2.1 27 = .ok (.getfield 23, 3) := by decide +kernel
theorem D8_creep_30 : decode m8_creep.2.1 30 = .ok (.iload_n 1, 1) := by decide +kernel
theorem D8_creep_31 : decode m8_creep.2.1 31 = .ok (.invokevirtual 56, 3) := by decide +kernel
theorem D8_creep_34 : decode m8_creep.2.1 34 = .ok (.ifCond .eq 32, 3) := by decide +kernel
theorem D8_creep_37 : decode m8_creep.2.1 37 = .ok (.aload_n 0, 1) := by decide +kernel
theorem D8_creep_38 : decode m8_creep.2.1 38 = .ok (.getfield 23, 3) := by decide +kernel
theorem D8_creep_41 : decode m8_creep.2.1 41 = .ok (.getfield 62, 3) := by decide +kernel
theorem D8_creep_44 : decode m8_creep.2.1 44 = .ok (.iload_n 1, 1) := by decide +kernel
theorem D8_creep_45 : decode m8_creep.2.1 45 = .ok (.aload_n 0, 1) := by decide +kernel
theorem D8_creep_46 : decode m8_creep.2.1 46 = .ok (.getfield 23, 3) := by decide +kernel
theorem D8_creep_49 : decode m8_creep.2.1 49 = .ok (.getfield 62, 3) := by decide +kernel
theorem D8_creep_52 : decode m8_creep.2.1 52 = .ok (.iload_n 1, 1) := by decide +kernel
theorem D8_creep_53 : decode m8_creep.2.1 53 = .ok (.iaload, 1) := by decide +kernel
theorem D8_creep_54 : decode m8_creep.2.1 54 = .ok (.aload_n 0, 1) := by decide +kernel
theorem D8_creep_55 : decode m8_creep.2.1 55 = .ok (.iconst 1, 1) := by decide +kernel
theorem D8_creep_56 : decode m8_creep.2.1 56 = .ok (.iload_n 1, 1) := by decide +kernel
theorem D8_creep_57 : decode m8_creep.2.1 57 = .ok (.invokevirtual 101, 3) := by decide +kernel
theorem D8_creep_60 : decode m8_creep.2.1 60 = .ok (.isub, 1) := by decide +kernel
theorem D8_creep_61 : decode m8_creep.2.1 61 = .ok (.iconst 0, 1) := by decide +kernel
theorem D8_creep_62 : decode m8_creep.2.1 62 = .ok (.invokestatic 105, 3) := by decide +kernel
theorem D8_creep_65 : decode m8_creep.2.1 65 = .ok (.iastore, 1) := by decide +kernel
theorem D8_creep_66 : decode m8_creep.2.1 66 = .ok (.iinc 1 1, 3) := by decide +kernel
theorem D8_creep_69 : decode m8_creep.2.1 69 = .ok (.goto (-54), 3) := by decide +kernel
theorem D8_creep_72 : decode m8_creep.2.1 72 = .ok (.return_, 1) := by decide +kernel
theorem D8_age_0 : decode m8_age.2.1 0 = .ok (.iconst 0, 1) := by decide +kernel
theorem D8_age_1 : decode m8_age.2.1 1 = .ok (.istore_n 1, 1) := by decide +kernel
theorem D8_age_2 : decode m8_age.2.1 2 = .ok (.iload_n 1, 1) := by decide +kernel
theorem D8_age_3 : decode m8_age.2.1 3 = .ok (.aload_n 0, 1) := by decide +kernel
theorem D8_age_4 : decode m8_age.2.1 4 = .ok (.getfield 19, 3) := by decide +kernel
theorem D8_age_7 : decode m8_age.2.1 7 = .ok (.getfield 51, 3) := by decide +kernel
theorem D8_age_10 : decode m8_age.2.1 10 = .ok (.if_icmp .ge 51, 3) := by decide +kernel
theorem D8_age_13 : decode m8_age.2.1 13 = .ok (.aload_n 0, 1) := by decide +kernel
theorem D8_age_14 : decode m8_age.2.1 14 = .ok (.getfield 23, 3) := by decide +kernel
theorem D8_age_17 : decode m8_age.2.1 17 = .ok (.iload_n 1, 1) := by decide +kernel
theorem D8_age_18 : decode m8_age.2.1 18 = .ok (.invokevirtual 56, 3) := by decide +kernel
theorem D8_age_21 : decode m8_age.2.1 21 = .ok (.ifCond .eq 34, 3) := by decide +kernel
theorem D8_age_24 : decode m8_age.2.1 24 = .ok (.aload_n 0, 1) := by decide +kernel
theorem D8_age_25 : decode m8_age.2.1 25 = .ok (.getfield 23, 3) := by decide +kernel
theorem D8_age_28 : decode m8_age.2.1 28 = .ok (.getfield 110, 3) := by decide +kernel
theorem D8_age_31 : decode m8_age.2.1 31 = .ok (.iload_n 1, 1) := by decide +kernel
theorem D8_age_32 : decode m8_age.2.1 32 = .ok (.aload_n 0, 1) := by decide +kernel
theorem D8_age_33 : decode m8_age.2.1 33 = .ok (.getfield 23, 3) := by decide +kernel
theorem D8_age_36 : decode m8_age.2.1 36 = .ok (.getfield 110, 3) := by decide +kernel
theorem D8_age_39 : decode m8_age.2.1 39 = .ok (.iload_n 1, 1) := by decide +kernel
theorem D8_age_40 : decode m8_age.2.1 40 = .ok (.iaload, 1) := by decide +kernel
theorem D8_age_41 : decode m8_age.2.1 41 = .ok (.aload_n 0, 1) := by decide +kernel
theorem D8_age_42 : decode m8_age.2.1 42 = .ok (.iconst 0, 1) := by decide +kernel
theorem D8_age_43 : decode m8_age.2.1 43 = .ok (.iload_n 1, 1) := by decide +kernel
theorem D8_age_44 : decode m8_age.2.1 44 = .ok (.invokevirtual 101, 3) := by decide +kernel
theorem D8_age_47 : decode m8_age.2.1 47 = .ok (.iadd, 1) := by decide +kernel
theorem D8_age_48 : decode m8_age.2.1 48 = .ok (.sipush 199, 3) := by decide +kernel
theorem D8_age_51 : decode m8_age.2.1 51 = .ok (.invokestatic 113, 3) := by decide +kernel
theorem D8_age_54 : decode m8_age.2.1 54 = .ok (.iastore, 1) := by decide +kernel
theorem D8_age_55 : decode m8_age.2.1 55 = .ok (.iinc 1 1, 3) := by decide +kernel
theorem D8_age_58 : decode m8_age.2.1 58 = .ok (.goto (-56), 3) := by decide +kernel
theorem D8_age_61 : decode m8_age.2.1 61 = .ok (.return_, 1) := by decide +kernel
theorem D8_measure_0 : decode m8_measure.2.1 0 = .ok (.aload_n 0, 1) := by decide +kernel
theorem D8_measure_1 : decode m8_measure.2.1 1 = .ok (.iload_n 1, 1) := by decide +kernel
theorem D8_measure_2 : decode m8_measure.2.1 2 = .ok (.iload_n 2, 1) := by decide +kernel
theorem D8_measure_3 : decode m8_measure.2.1 3 = .ok (.invokevirtual 116, 3) := by decide +kernel
theorem D8_measure_6 : decode m8_measure.2.1 6 = .ok (.lstore_n 3, 1) := by decide +kernel
theorem D8_measure_7 : decode m8_measure.2.1 7 = .ok (.lload_n 3, 1) := by decide +kernel
theorem D8_measure_8 : decode m8_measure.2.1 8 = .ok (.ldc2_w 120, 3) := by decide +kernel
theorem D8_measure_11 : decode m8_measure.2.1 11 = .ok (.lcmp, 1) := by decide +kernel
theorem D8_measure_12 : decode m8_measure.2.1 12 = .ok (.ifCond .ne 7, 3) := by decide +kernel
theorem D8_measure_15 : decode m8_measure.2.1 15 = .ok (.iconst 1, 1) := by decide +kernel
theorem D8_measure_16 : decode m8_measure.2.1 16 = .ok (.goto 15, 3) := by decide +kernel
theorem D8_measure_19 : decode m8_measure.2.1 19 = .ok (.lconst 0, 1) := by decide +kernel
theorem D8_measure_20 : decode m8_measure.2.1 20 = .ok (.lload_n 3, 1) := by decide +kernel
theorem D8_measure_21 : decode m8_measure.2.1 21 = .ok (.ldc2_w 122, 3) := by decide +kernel
theorem D8_measure_24 : decode m8_measure.2.1 24 = .ok (.invokestatic 124, 3) := by decide +kernel
theorem D8_measure_27 : decode m8_measure.2.1 27 = .ok (.invokestatic 127, 3) := by decide +kernel
theorem D8_measure_30 : decode m8_measure.2.1 30 = .ok (.l2i, 1) := by decide +kernel
theorem D8_measure_31 : decode m8_measure.2.1 31 = .ok (.ireturn, 1) := by decide +kernel
theorem D8_goOff_0 : decode m8_goOff.2.1 0 = .ok (.aload_n 0, 1) := by decide +kernel
theorem D8_goOff_1 : decode m8_goOff.2.1 1 = .ok (.getfield 23, 3) := by decide +kernel
theorem D8_goOff_4 : decode m8_goOff.2.1 4 = .ok (.iload_n 1, 1) := by decide +kernel
theorem D8_goOff_5 : decode m8_goOff.2.1 5 = .ok (.iconst 2, 1) := by decide +kernel
theorem D8_goOff_6 : decode m8_goOff.2.1 6 = .ok (.invokevirtual 129, 3) := by decide +kernel
theorem D8_goOff_9 : decode m8_goOff.2.1 9 = .ok (.aload_n 0, 1) := by decide +kernel
theorem D8_goOff_10 : decode m8_goOff.2.1 10 = .ok (.getfield 31, 3) := by decide +kernel
theorem D8_goOff_13 : decode m8_goOff.2.1 13 = .ok (.ifCond .ne 4, 3) := by decide +kernel
theorem D8_goOff_16 : decode m8_goOff.2.1 16 = .ok (.return_, 1) := by decide +kernel
theorem D8_goOff_17 : decode m8_goOff.2.1 17 = .ok (.aload_n 0, 1) := by decide +kernel
theorem D8_goOff_18 : decode m8_goOff.2.1 18 = .ok (.getfield 9, 3) := by decide +kernel
theorem D8_goOff_21 : decode m8_goOff.2.1 21 = .ok (.iconst 0, 1) := by decide +kernel
theorem D8_goOff_22 : decode m8_goOff.2.1 22 = .ok (.iload_n 1, 1) := by decide +kernel
theorem D8_goOff_23 : decode m8_goOff.2.1 23 = .ok (.iastore, 1) := by decide +kernel
theorem D8_goOff_24 : decode m8_goOff.2.1 24 = .ok (.iconst 1, 1) := by decide +kernel
theorem D8_goOff_25 : decode m8_goOff.2.1 25 = .ok (.istore_n 2, 1) := by decide +kernel
theorem D8_goOff_26 : decode m8_goOff.2.1 26 = .ok (.iconst 0, 1) := by decide +kernel
theorem D8_goOff_27 : decode m8_goOff.2.1 27 = .ok (.istore_n 3, 1) := by decide +kernel
theorem D8_goOff_28 : decode m8_goOff.2.1 28 = .ok (.iload_n 3, 1) := by decide +kernel
theorem D8_goOff_29 : decode m8_goOff.2.1 29 = .ok (.iload_n 2, 1) := by decide +kernel
theorem D8_goOff_30 : decode m8_goOff.2.1 30 = .ok (.if_icmp .ge 115, 3) := by decide +kernel
theorem D8_goOff_33 : decode m8_goOff.2.1 33 = .ok (.iload_n 3, 1) := by decide +kernel
theorem D8_goOff_34 : decode m8_goOff.2.1 34 = .ok (.bipush 10, 2) := by decide +kernel
theorem D8_goOff_36 : decode m8_goOff.2.1 36 = .ok (.if_icmp .ge 109, 3) := by decide +kernel
theorem D8_goOff_39 : decode m8_goOff.2.1 39 = .ok (.aload_n 0, 1) := by decide +kernel
theorem D8_goOff_40 : decode m8_goOff.2.1 40 = .ok (.getfield 23, 3) := by decide +kernel
theorem D8_goOff_43 : decode m8_goOff.2.1 43 = .ok (.getfield 133, 3) := by decide +kernel
theorem D8_goOff_46 : decode m8_goOff.2.1 46 = .ok (.aload_n 0, 1) := by decide +kernel
theorem D8_goOff_47 : decode m8_goOff.2.1 47 = .ok (.getfield 9, 3) := by decide +kernel
theorem D8_goOff_50 : decode m8_goOff.2.1 50 = .ok (.iload_n 3, 1) := by decide +kernel
theorem D8_goOff_51 : decode m8_goOff.2.1 51 = .ok (.iaload, 1) := by decide +kernel
theorem D8_goOff_52 : decode m8_goOff.2.1 52 = .ok (.iaload, 1) := by decide +kernel
theorem D8_goOff_53 : decode m8_goOff.2.1 53 = .ok (.istore 4, 2) := by decide +kernel
theorem D8_goOff_55 : decode m8_goOff.2.1 55 = .ok (.iconst 0, 1) := by decide +kernel
theorem D8_goOff_56 : decode m8_goOff.2.1 56 = .ok (.istore 5, 2) := by decide +kernel
theorem D8_goOff_58 : decode m8_goOff.2.1 58 = .ok (.iload 5, 2) := by decide +kernel
theorem D8_goOff_60 : decode m8_goOff.2.1 60 = .ok (.aload_n 0, 1) := by decide +kernel
theorem D8_goOff_61 : decode m8_goOff.2.1 61 = .ok (.getfield 19, 3) := by decide +kernel
theorem D8_goOff_64 : decode m8_goOff.2.1 64 = .ok (.getfield 51, 3) := by decide +kernel
theorem D8_goOff_67 : decode m8_goOff.2.1 67 = .ok (.if_icmp .ge 72, 3) := by decide +kernel
theorem D8_goOff_70 : decode m8_goOff.2.1 70 = .ok (.aload_n 0, 1) := by decide +kernel
theorem D8_goOff_71 : decode m8_goOff.2.1 71 = .ok (.getfield 23, 3) := by decide +kernel
theorem D8_goOff_74 : decode m8_goOff.2.1 74 = .ok (.iload 5, 2) := by decide +kernel
theorem D8_goOff_76 : decode m8_goOff.2.1 76 = .ok (.invokevirtual 56, 3) := by decide +kernel
theorem D8_goOff_79 : decode m8_goOff.2.1 79 = .ok (.ifCond .eq 54, 3) := by decide +kernel
theorem D8_goOff_82 : decode m8_goOff.2.1 82 = .ok (.aload_n 0, 1) := by decide +kernel
theorem D8_goOff_83 : decode m8_goOff.2.1 83 = .ok (.getfield 23, 3) := by decide +kernel
theorem D8_goOff_86 : decode m8_goOff.2.1 86 = .ok (.getfield 133, 3) := by decide +kernel
theorem D8_goOff_89 : decode m8_goOff.2.1 89 = .ok (.iload 5, 2) := by decide +kernel
theorem D8_goOff_91 : decode m8_goOff.2.1 91 = .ok (.iaload, 1) := by decide +kernel
theorem D8_goOff_92 : decode m8_goOff.2.1 92 = .ok (.iload 4, 2) := by decide +kernel
theorem D8_goOff_94 : decode m8_goOff.2.1 94 = .ok (.if_icmp .ne 39, 3) := by decide +kernel
theorem D8_goOff_97 : decode m8_goOff.2.1 97 = .ok (.iload_n 2, 1) := by decide +kernel
theorem D8_goOff_98 : decode m8_goOff.2.1 98 = .ok (.bipush 10, 2) := by decide +kernel
theorem D8_goOff_100 : decode m8_goOff.2.1 100 = .ok (.if_icmp .ge 33, 3) := by decide +kernel
theorem D8_goOff_103 : decode m8_goOff.2.1 103 = .ok (.aload_n 0, 1) := by decide +kernel
theorem D8_goOff_104 : decode m8_goOff.2.1 104 = .ok (.iload 5, 2) := by decide +kernel
theorem D8_goOff_106 : decode m8_goOff.2.1 106 = .ok (.invokevirtual 136, 3) := by decide +kernel
theorem D8_goOff_109 : decode m8_goOff.2.1 109 = .ok (.ifCond .eq 24, 3) := by decide +kernel
theorem D8_goOff_112 : decode m8_goOff.2.1 112 = .ok (.aload_n 0, 1) := by decide +kernel
theorem D8_goOff_113 : decode m8_goOff.2.1 113 = .ok (.getfield 23, 3) := by decide +kernel
theorem D8_goOff_116 : decode m8_goOff.2.1 116 = .ok (.iload 5, 2) := by decide +kernel
theorem D8_goOff_118 : decode m8_goOff.2.1 118 = .ok (.iconst 2, 1) := by decide +kernel
theorem D8_goOff_119 : decode m8_goOff.2.1 119 = .ok (.invokevirtual 129, 3) := by decide +kernel
theorem D8_goOff_122 : decode m8_goOff.2.1 122 = .ok (.aload_n 0, 1) := by decide +kernel
theorem D8_goOff_123 : decode m8_goOff.2.1 123 = .ok (.getfield 9, 3) := by decide +kernel
theorem D8_goOff_126 : decode m8_goOff.2.1 126 = .ok (.iload_n 2, 1) := by decide +kernel
theorem D8_goOff_127 : decode m8_goOff.2.1 127 = .ok (.iload 5, 2) := by decide +kernel
theorem D8_goOff_129 : decode m8_goOff.2.1 129 = .ok (.iastore, 1) := by decide +kernel
theorem D8_goOff_130 : decode m8_goOff.2.1 130 = .ok (.iinc 2 1, 3) := by decide +kernel
theorem D8_goOff_133 : decode m8_goOff.2.1 133 = .ok (.iinc 5 1, 3) := by decide +kernel
theorem D8_goOff_136 : decode m8_goOff.2.1 136 = .ok (.goto (-78), 3) := by decide +kernel
theorem D8_goOff_139 : decode m8_goOff.2.1 139 = .ok (.iinc 3 1, 3) := by decide +kernel
theorem D8_goOff_142 : decode m8_goOff.2.1 142 = .ok (.goto (-114), 3) := by decide +kernel
theorem D8_goOff_145 : decode m8_goOff.2.1 145 = .ok (.return_, 1) := by decide +kernel
theorem D8_bursts_0 : decode m8_bursts.2.1 0 = .ok (.aload_n 0, 1) := by decide +kernel
theorem D8_bursts_1 : decode m8_bursts.2.1 1 = .ok (.iconst 2, 1) := by decide +kernel
theorem D8_bursts_2 : decode m8_bursts.2.1 2 = .ok (.iload_n 1, 1) := by decide +kernel
theorem D8_bursts_3 : decode m8_bursts.2.1 3 = .ok (.invokevirtual 116, 3) := by decide +kernel
theorem D8_bursts_6 : decode m8_bursts.2.1 6 = .ok (.lstore_n 2, 1) := by decide +kernel
theorem D8_bursts_7 : decode m8_bursts.2.1 7 = .ok (.lload_n 2, 1) := by decide +kernel
theorem D8_bursts_8 : decode m8_bursts.2.1 8 = .ok (.ldc2_w 120, 3) := by decide +kernel
theorem D8_bursts_11 : decode m8_bursts.2.1 11 = .ok (.lcmp, 1) := by decide +kernel
theorem D8_bursts_12 : decode m8_bursts.2.1 12 = .ok (.ifCond .ne 24, 3) := by decide +kernel
theorem D8_bursts_15 : decode m8_bursts.2.1 15 = .ok (.aload_n 0, 1) := by decide +kernel
theorem D8_bursts_16 : decode m8_bursts.2.1 16 = .ok (.getfield 23, 3) := by decide +kernel
theorem D8_bursts_19 : decode m8_bursts.2.1 19 = .ok (.getfield 62, 3) := by decide +kernel
theorem D8_bursts_22 : decode m8_bursts.2.1 22 = .ok (.iload_n 1, 1) := by decide +kernel
theorem D8_bursts_23 : decode m8_bursts.2.1 23 = .ok (.iaload, 1) := by decide +kernel
theorem D8_bursts_24 : decode m8_bursts.2.1 24 = .ok (.iconst 2, 1) := by decide +kernel
theorem D8_bursts_25 : decode m8_bursts.2.1 25 = .ok (.if_icmp .gt 7, 3) := by decide +kernel
theorem D8_bursts_28 : decode m8_bursts.2.1 28 = .ok (.iconst 1, 1) := by decide +kernel
theorem D8_bursts_29 : decode m8_bursts.2.1 29 = .ok (.goto 18, 3) := by decide +kernel
theorem D8_bursts_32 : decode m8_bursts.2.1 32 = .ok (.iconst 0, 1) := by decide +kernel
theorem D8_bursts_33 : decode m8_bursts.2.1 33 = .ok (.goto 14, 3) := by decide +kernel
theorem D8_bursts_36 : decode m8_bursts.2.1 36 = .ok (.lload_n 2, 1) := by decide +kernel
theorem D8_bursts_37 : decode m8_bursts.2.1 37 = .ok (.lconst 0, 1) := by decide +kernel
theorem D8_bursts_38 : decode m8_bursts.2.1 38 = .ok (.lcmp, 1) := by decide +kernel
theorem D8_bursts_39 : decode m8_bursts.2.1 39 = .ok (.ifCond .eq 7, 3) := by decide +kernel
theorem D8_bursts_42 : decode m8_bursts.2.1 42 = .ok (.iconst 1, 1) := by decide +kernel
theorem D8_bursts_43 : decode m8_bursts.2.1 43 = .ok (.goto 4, 3) := by decide +kernel
theorem D8_bursts_46 : decode m8_bursts.2.1 46 = .ok (.iconst 0, 1) := by decide +kernel
theorem D8_bursts_47 : decode m8_bursts.2.1 47 = .ok (.ireturn, 1) := by decide +kernel
theorem D8_meet_0 : decode m8_meet.2.1 0 = .ok (.aload_n 0, 1) := by decide +kernel
theorem D8_meet_1 : decode m8_meet.2.1 1 = .ok (.getfield 19, 3) := by decide +kernel
theorem D8_meet_4 : decode m8_meet.2.1 4 = .ok (.getfield 139, 3) := by decide +kernel
theorem D8_meet_7 : decode m8_meet.2.1 7 = .ok (.iload_n 1, 1) := by decide +kernel
theorem D8_meet_8 : decode m8_meet.2.1 8 = .ok (.iaload, 1) := by decide +kernel
theorem D8_meet_9 : decode m8_meet.2.1 9 = .ok (.istore_n 2, 1) := by decide +kernel
theorem D8_meet_10 : decode m8_meet.2.1 10 = .ok (.aload_n 0, 1) := by decide +kernel
theorem D8_meet_11 : decode m8_meet.2.1 11 = .ok (.iload_n 1, 1) := by decide +kernel
theorem D8_meet_12 : decode m8_meet.2.1 12 = .ok (.iconst 1, 1) := by decide +kernel
theorem D8_meet_13 : decode m8_meet.2.1 13 = .ok (.invokevirtual 142, 3) := by decide +kernel
theorem D8_meet_16 : decode m8_meet.2.1 16 = .ok (.istore_n 3, 1) := by decide +kernel
theorem D8_meet_17 : decode m8_meet.2.1 17 = .ok (.iload_n 3, 1) := by decide +kernel
theorem D8_meet_18 : decode m8_meet.2.1 18 = .ok (.iconst (-1), 1) := by decide +kernel
theorem D8_meet_19 : decode m8_meet.2.1 19 = .ok (.if_icmp .eq 7, 3) := by decide +kernel
theorem D8_meet_22 : decode m8_meet.2.1 22 = .ok (.iload_n 3, 1) := by decide +kernel
theorem D8_meet_23 : decode m8_meet.2.1 23 = .ok (.goto 9, 3) := by decide +kernel
theorem D8_meet_26 : decode m8_meet.2.1 26 = .ok (.aload_n 0, 1) := by decide +kernel
theorem D8_meet_27 : decode m8_meet.2.1 27 = .ok (.iload_n 1, 1) := by decide +kernel
theorem D8_meet_28 : decode m8_meet.2.1 28 = .ok (.iconst 0, 1) := by decide +kernel
theorem D8_meet_29 : decode m8_meet.2.1 29 = .ok (.invokevirtual 142, 3) := by decide +kernel
theorem D8_meet_32 : decode m8_meet.2.1 32 = .ok (.istore 4, 2) := by decide +kernel
theorem D8_meet_34 : decode m8_meet.2.1 34 = .ok (.iload 4, 2) := by decide +kernel
theorem D8_meet_36 : decode m8_meet.2.1 36 = .ok (.iconst (-1), 1) := by decide +kernel
theorem D8_meet_37 : decode m8_meet.2.1 37 = .ok (.if_icmp .ne 14, 3) := by decide +kernel
theorem D8_meet_40 : decode m8_meet.2.1 40 = .ok (.aload_n 0, 1) := by decide +kernel
theorem D8_meet_41 : decode m8_meet.2.1 41 = .ok (.getfield 23, 3) := by decide +kernel
theorem D8_meet_44 : decode m8_meet.2.1 44 = .ok (.getfield 146, 3) := by decide +kernel
theorem D8_meet_47 : decode m8_meet.2.1 47 = .ok (.iload_n 1, 1) := by decide +kernel
theorem D8_meet_48 : decode m8_meet.2.1 48 = .ok (.iconst 0, 1) := by decide +kernel
theorem D8_meet_49 : decode m8_meet.2.1 49 = .ok (.iastore, 1) := by decide +kernel
theorem D8_meet_50 : decode m8_meet.2.1 50 = .ok (.return_, 1) := by decide +kernel
theorem D8_meet_51 : decode m8_meet.2.1 51 = .ok (.aload_n 0, 1) := by decide +kernel
theorem D8_meet_52 : decode m8_meet.2.1 52 = .ok (.getfield 23, 3) := by decide +kernel
theorem D8_meet_55 : decode m8_meet.2.1 55 = .ok (.iload 4, 2) := by decide +kernel
theorem D8_meet_57 : decode m8_meet.2.1 57 = .ok (.iconst 1, 1) := by decide +kernel
theorem D8_meet_58 : decode m8_meet.2.1 58 = .ok (.invokevirtual 129, 3) := by decide +kernel
theorem D8_meet_61 : decode m8_meet.2.1 61 = .ok (.aload_n 0, 1) := by decide +kernel
theorem D8_meet_62 : decode m8_meet.2.1 62 = .ok (.getfield 23, 3) := by decide +kernel
theorem D8_meet_65 : decode m8_meet.2.1 65 = .ok (.getfield 149, 3) := by decide +kernel
theorem D8_meet_68 : decode m8_meet.2.1 68 = .ok (.iload 4, 2) := by decide +kernel
theorem D8_meet_70 : decode m8_meet.2.1 70 = .ok (.iload_n 2, 1) := by decide +kernel
theorem D8_meet_71 : decode m8_meet.2.1 71 = .ok (.iastore, 1) := by decide +kernel
theorem D8_meet_72 : decode m8_meet.2.1 72 = .ok (.aload_n 0, 1) := by decide +kernel
theorem D8_meet_73 : decode m8_meet.2.1 73 = .ok (.getfield 23, 3) := by decide +kernel
theorem D8_meet_76 : decode m8_meet.2.1 76 = .ok (.getfield 146, 3) := by decide +kernel
theorem D8_meet_79 : decode m8_meet.2.1 79 = .ok (.iload_n 1, 1) := by decide +kernel
theorem D8_meet_80 : decode m8_meet.2.1 80 = .ok (.iload_n 3, 1) := by decide +kernel
theorem D8_meet_81 : decode m8_meet.2.1 81 = .ok (.iconst (-1), 1) := by decide +kernel
theorem D8_meet_82 : decode m8_meet.2.1 82 = .ok (.if_icmp .eq 7, 3) := by decide +kernel
theorem D8_meet_85 : decode m8_meet.2.1 85 = .ok (.iconst 1, 1) := by decide +kernel
theorem D8_meet_86 : decode m8_meet.2.1 86 = .ok (.goto 4, 3) := by decide +kernel
theorem D8_meet_89 : decode m8_meet.2.1 89 = .ok (.iconst 2, 1) := by decide +kernel
theorem D8_meet_90 : decode m8_meet.2.1 90 = .ok (.iastore, 1) := by decide +kernel
theorem D8_meet_91 : decode m8_meet.2.1 91 = .ok (.iload_n 3, 1) := by decide +kernel
theorem D8_meet_92 : decode m8_meet.2.1 92 = .ok (.iconst (-1), 1) := by decide +kernel
theorem D8_meet_93 : decode m8_meet.2.1 93 = .ok (.if_icmp .ne 21, 3) := by decide +kernel
theorem D8_meet_96 : decode m8_meet.2.1 96 = .ok (.aload_n 0, 1) := by decide +kernel
theorem D8_meet_97 : decode m8_meet.2.1 97 = .ok (.getfield 23, 3) := by decide +kernel
theorem D8_meet_100 : decode m8_meet.2.1 100 = .ok (.iload_n 2, 1) := by decide +kernel
theorem D8_meet_101 : decode m8_meet.2.1 101 = .ok (.aload_n 0, 1) := by decide +kernel
theorem D8_meet_102 : decode m8_meet.2.1 102 = .ok (.getfield 19, 3) := by decide +kernel
theorem D8_meet_105 : decode m8_meet.2.1 105 = .ok (.getfield 152, 3) := by decide +kernel
theorem D8_meet_108 : decode m8_meet.2.1 108 = .ok (.iload 4, 2) := by decide +kernel
theorem D8_meet_110 : decode m8_meet.2.1 110 = .ok (.iaload, 1) := by decide +kernel
theorem D8_meet_111 : decode m8_meet.2.1 111 = .ok (.invokevirtual 155, 3) := by decide +kernel
theorem D8_meet_114 : decode m8_meet.2.1 114 = .ok (.return_, 1) := by decide +kernel
theorem D8_weakest_0 : decode m8_weakest.2.1 0 = .ok (.iconst (-1), 1) := by decide +kernel
theorem D8_weakest_1 : decode m8_weakest.2.1 1 = .ok (.istore_n 3, 1) := by decide +kernel
theorem D8_weakest_2 : decode m8_weakest.2.1 2 = .ok (.iconst 0, 1) := by decide +kernel
theorem D8_weakest_3 : decode m8_weakest.2.1 3 = .ok (.istore 4, 2) := by decide +kernel
theorem D8_weakest_5 : decode m8_weakest.2.1 5 = .ok (.iload 4, 2) := by decide +kernel
theorem D8_weakest_7 : decode m8_weakest.2.1 7 = .ok (.aload_n 0, 1) := by decide +kernel
theorem D8_weakest_8 : decode m8_weakest.2.1 8 = .ok (.getfield 19, 3) := by decide +kernel
theorem D8_weakest_11 : decode m8_weakest.2.1 11 = .ok (.getfield 51, 3) := by decide +kernel
theorem D8_weakest_14 : decode m8_weakest.2.1 14 = .ok (.if_icmp .ge 112, 3) := by decide +kernel
theorem D8_weakest_17 : decode m8_weakest.2.1 17 = .ok (.aload_n 0, 1) := by decide +kernel
theorem D8_weakest_18 : decode m8_weakest.2.1 18 = .ok (.getfield 23, 3) := by decide +kernel
theorem D8_weakest_21 : decode m8_weakest.2.1 21 = .ok (.getfield 110, 3) := by decide +kernel
theorem D8_weakest_24 : decode m8_weakest.2.1 24 = .ok (.iload 4, 2) := by decide +kernel
theorem D8_weakest_26 : decode m8_weakest.2.1 26 = .ok (.iaload, 1) := by decide +kernel
theorem D8_weakest_27 : decode m8_weakest.2.1 27 = .ok (.istore 5, 2) := by decide +kernel
theorem D8_weakest_29 : decode m8_weakest.2.1 29 = .ok (.aload_n 0, 1) := by decide +kernel
theorem D8_weakest_30 : decode m8_weakest.2.1 30 = .ok (.getfield 23, 3) := by decide +kernel
theorem D8_weakest_33 : decode m8_weakest.2.1 33 = .ok (.iload 4, 2) := by decide +kernel
theorem D8_weakest_35 : decode m8_weakest.2.1 35 = .ok (.invokevirtual 56, 3) := by decide +kernel
theorem D8_weakest_38 : decode m8_weakest.2.1 38 = .ok (.ifCond .eq 82, 3) := by decide +kernel
theorem D8_weakest_41 : decode m8_weakest.2.1 41 = .ok (.aload_n 0, 1) := by decide +kernel
theorem D8_weakest_42 : decode m8_weakest.2.1 42 = .ok (.getfield 19, 3) := by decide +kernel
theorem D8_weakest_45 : decode m8_weakest.2.1 45 = .ok (.getfield 158, 3) := by decide +kernel
theorem D8_weakest_48 : decode m8_weakest.2.1 48 = .ok (.iload 4, 2) := by decide +kernel
theorem D8_weakest_50 : decode m8_weakest.2.1 50 = .ok (.iaload, 1) := by decide +kernel
theorem D8_weakest_51 : decode m8_weakest.2.1 51 = .ok (.aload_n 0, 1) := by decide +kernel
theorem D8_weakest_52 : decode m8_weakest.2.1 52 = .ok (.getfield 19, 3) := by decide +kernel
theorem D8_weakest_55 : decode m8_weakest.2.1 55 = .ok (.getfield 139, 3) := by decide +kernel
theorem D8_weakest_58 : decode m8_weakest.2.1 58 = .ok (.iload_n 1, 1) := by decide +kernel
theorem D8_weakest_59 : decode m8_weakest.2.1 59 = .ok (.iaload, 1) := by decide +kernel
theorem D8_weakest_60 : decode m8_weakest.2.1 60 = .ok (.if_icmp .ne 7, 3) := by decide +kernel
theorem D8_weakest_63 : decode m8_weakest.2.1 63 = .ok (.iconst 1, 1) := by decide +kernel
theorem D8_weakest_64 : decode m8_weakest.2.1 64 = .ok (.goto 4, 3) := by decide +kernel
theorem D8_weakest_67 : decode m8_weakest.2.1 67 = .ok (.iconst 0, 1) := by decide +kernel
theorem D8_weakest_68 : decode m8_weakest.2.1 68 = .ok (.iload_n 2, 1) := by decide +kernel
theorem D8_weakest_69 : decode m8_weakest.2.1 69 = .ok (.if_icmp .ne 51, 3) := by decide +kernel
theorem D8_weakest_72 : decode m8_weakest.2.1 72 = .ok (.iload 5, 2) := by decide +kernel
theorem D8_weakest_74 : decode m8_weakest.2.1 74 = .ok (.aload_n 0, 1) := by decide +kernel
theorem D8_weakest_75 : decode m8_weakest.2.1 75 = .ok (.getfield 19, 3) := by decide +kernel
theorem D8_weakest_78 : decode m8_weakest.2.1 78 = .ok (.getfield 161, 3) := by decide +kernel
theorem D8_weakest_81 : decode m8_weakest.2.1 81 = .ok (.iload_n 1, 1) := by decide +kernel
theorem D8_weakest_82 : decode m8_weakest.2.1 82 = .ok (.iaload, 1) := by decide +kernel
theorem D8_weakest_83 : decode m8_weakest.2.1 83 = .ok (.aload_n 0, 1) := by decide +kernel
theorem D8_weakest_84 : decode m8_weakest.2.1 84 = .ok (.getfield 19, 3) := by decide +kernel
theorem D8_weakest_87 : decode m8_weakest.2.1 87 = .ok (.getfield 164, 3) := by decide +kernel
theorem D8_weakest_90 : decode m8_weakest.2.1 90 = .ok (.iload_n 1, 1) := by decide +kernel
theorem D8_weakest_91 : decode m8_weakest.2.1 91 = .ok (.iaload, 1) := by decide +kernel
theorem D8_weakest_92 : decode m8_weakest.2.1 92 = .ok (.invokestatic 167, 3) := by decide +kernel
theorem D8_weakest_95 : decode m8_weakest.2.1 95 = .ok (.ifCond .eq 25, 3) := by decide +kernel
theorem D8_weakest_98 : decode m8_weakest.2.1 98 = .ok (.iload_n 3, 1) := by decide +kernel
theorem D8_weakest_99 : decode m8_weakest.2.1 99 = .ok (.iconst (-1), 1) := by decide +kernel
theorem D8_weakest_100 : decode m8_weakest.2.1 100 = .ok (.if_icmp .eq 17, 3) := by decide +kernel
theorem D8_weakest_103 : decode m8_weakest.2.1 103 = .ok (.iload 5, 2) := by decide +kernel
theorem D8_weakest_105 : decode m8_weakest.2.1 105 = .ok (.aload_n 0, 1) := by decide +kernel
theorem D8_weakest_106 : decode m8_weakest.2.1 106 = .ok (.getfield 23, 3) := by decide +kernel
theorem D8_weakest_109 : decode m8_weakest.2.1 109 = .ok (.getfield 110, 3) := by decide +kernel
theorem D8_weakest_112 : decode m8_weakest.2.1 112 = .ok (.iload_n 3, 1) := by decide +kernel
theorem D8_weakest_113 : decode m8_weakest.2.1 113 = .ok (.iaload, 1) := by decide +kernel
theorem D8_weakest_114 : decode m8_weakest.2.1 114 = .ok (.if_icmp .ge 6, 3) := by decide +kernel
theorem D8_weakest_117 : decode m8_weakest.2.1 117 = .ok (.iload 4, 2) := by decide +kernel
theorem D8_weakest_119 : decode m8_weakest.2.1 119 = .ok (.istore_n 3, 1) := by decide +kernel
theorem D8_weakest_120 : decode m8_weakest.2.1 120 = .ok (.iinc 4 1, 3) := by decide +kernel
theorem D8_weakest_123 : decode m8_weakest.2.1 123 = .ok (.goto (-118), 3) := by decide +kernel
theorem D8_weakest_126 : decode m8_weakest.2.1 126 = .ok (.iload_n 3, 1) := by decide +kernel
theorem D8_weakest_127 : decode m8_weakest.2.1 127 = .ok (.ireturn, 1) := by decide +kernel
theorem D8_worth_0 : decode m8_worth.2.1 0 = .ok (.aload_n 0, 1) := by decide +kernel
theorem D8_worth_1 : decode m8_worth.2.1 1 = .ok (.getfield 19, 3) := by decide +kernel
theorem D8_worth_4 : decode m8_worth.2.1 4 = .ok (.getfield 171, 3) := by decide +kernel
theorem D8_worth_7 : decode m8_worth.2.1 7 = .ok (.getfield 175, 3) := by decide +kernel
theorem D8_worth_10 : decode m8_worth.2.1 10 = .ok (.iload_n 1, 1) := by decide +kernel
theorem D8_worth_11 : decode m8_worth.2.1 11 = .ok (.iaload, 1) := by decide +kernel
theorem D8_worth_12 : decode m8_worth.2.1 12 = .ok (.istore_n 3, 1) := by decide +kernel
theorem D8_worth_13 : decode m8_worth.2.1 13 = .ok (.aload_n 0, 1) := by decide +kernel
theorem D8_worth_14 : decode m8_worth.2.1 14 = .ok (.getfield 19, 3) := by decide +kernel
theorem D8_worth_17 : decode m8_worth.2.1 17 = .ok (.getfield 171, 3) := by decide +kernel
theorem D8_worth_20 : decode m8_worth.2.1 20 = .ok (.getfield 180, 3) := by decide +kernel
theorem D8_worth_23 : decode m8_worth.2.1 23 = .ok (.iload_n 1, 1) := by decide +kernel
theorem D8_worth_24 : decode m8_worth.2.1 24 = .ok (.iaload, 1) := by decide +kernel
theorem D8_worth_25 : decode m8_worth.2.1 25 = .ok (.istore 4, 2) := by decide +kernel
theorem D8_worth_27 : decode m8_worth.2.1 27 = .ok (.iload_n 3, 1) := by decide +kernel
theorem D8_worth_28 : decode m8_worth.2.1 28 = .ok (.iconst (-1), 1) := by decide +kernel
theorem D8_worth_29 : decode m8_worth.2.1 29 = .ok (.if_icmp .ne 7, 3) := by decide +kernel
theorem D8_worth_32 : decode m8_worth.2.1 32 = .ok (.ldc2_w 120, 3) := by decide +kernel
theorem D8_worth_35 : decode m8_worth.2.1 35 = .ok (.lreturn, 1) := by decide +kernel
theorem D8_worth_36 : decode m8_worth.2.1 36 = .ok (.iconst 0, 1) := by decide +kernel
theorem D8_worth_37 : decode m8_worth.2.1 37 = .ok (.istore 5, 2) := by decide +kernel
theorem D8_worth_39 : decode m8_worth.2.1 39 = .ok (.iload_n 3, 1) := by decide +kernel
theorem D8_worth_40 : decode m8_worth.2.1 40 = .ok (.istore 6, 2) := by decide +kernel
theorem D8_worth_42 : decode m8_worth.2.1 42 = .ok (.iload 6, 2) := by decide +kernel
theorem D8_worth_44 : decode m8_worth.2.1 44 = .ok (.iload 4, 2) := by decide +kernel
theorem D8_worth_46 : decode m8_worth.2.1 46 = .ok (.if_icmp .ge 186, 3) := by decide +kernel
theorem D8_worth_49 : decode m8_worth.2.1 49 = .ok (.aload_n 0, 1) := by decide +kernel
theorem D8_worth_50 : decode m8_worth.2.1 50 = .ok (.getfield 19, 3) := by decide +kernel
theorem D8_worth_53 : decode m8_worth.2.1 53 = .ok (.getfield 171, 3) := by decide +kernel
theorem D8_worth_56 : decode m8_worth.2.1 56 = .ok (.getfield 183, 3) := by decide +kernel
theorem D8_worth_59 : decode m8_worth.2.1 59 = .ok (.iload 6, 2) := by decide +kernel
theorem D8_worth_61 : decode m8_worth.2.1 61 = .ok (.iaload, 1) := by decide +kernel
theorem D8_worth_62 : decode m8_worth.2.1 62 = .ok (.istore 7, 2) := by decide +kernel
theorem D8_worth_64 : decode m8_worth.2.1 64 = .ok (.iload 7, 2) := by decide +kernel
theorem D8_worth_66 : decode m8_worth.2.1 66 = .ok (.bipush 29, 2) := by decide +kernel
theorem D8_worth_68 : decode m8_worth.2.1 68 = .ok (.if_icmp .ne 22, 3) := by decide +kernel
theorem D8_worth_71 : decode m8_worth.2.1 71 = .ok (.aload_n 0, 1) := by decide +kernel
theorem D8_worth_72 : decode m8_worth.2.1 72 = .ok (.getfield 19, 3) := by decide +kernel
theorem D8_worth_75 : decode m8_worth.2.1 75 = .ok (.getfield 171, 3) := by decide +kernel
theorem D8_worth_78 : decode m8_worth.2.1 78 = .ok (.getfield 186, 3) := by decide +kernel
theorem D8_worth_81 : decode m8_worth.2.1 81 = .ok (.iload 6, 2) := by decide +kernel
theorem D8_worth_83 : decode m8_worth.2.1 83 = .ok (.iaload, 1) := by decide +kernel
theorem D8_worth_84 : decode m8_worth.2.1 84 = .ok (.i2l, 1) := by decide +kernel
theorem D8_worth_85 : decode m8_worth.2.1 85 = .ok (.lstore 8, 2) := by decide +kernel
theorem D8_worth_87 : decode m8_worth.2.1 87 = .ok (.goto 98, 3) := by decide +kernel
theorem D8_worth_90 : decode m8_worth.2.1 90 = .ok (.iload 7, 2) := by decide +kernel
theorem D8_worth_92 : decode m8_worth.2.1 92 = .ok (.bipush 15, 2) := by decide +kernel
theorem D8_worth_94 : decode m8_worth.2.1 94 = .ok (.if_icmp .gt 15, 3) := by decide +kernel
theorem D8_worth_97 : decode m8_worth.2.1 97 = .ok (.aload_n 0, 1) := by decide +kernel
theorem D8_worth_98 : decode m8_worth.2.1 98 = .ok (.iload 7, 2) := by decide +kernel
theorem D8_worth_100 : decode m8_worth.2.1 100 = .ok (.iload_n 2, 1) := by decide +kernel
theorem D8_worth_101 : decode m8_worth.2.1 101 = .ok (.invokevirtual 189, 3) := by decide +kernel
theorem D8_worth_104 : decode m8_worth.2.1 104 = .ok (.lstore 8, 2) := by decide +kernel
theorem D8_worth_106 : decode m8_worth.2.1 106 = .ok (.goto 79, 3) := by decide +kernel
theorem D8_worth_109 : decode m8_worth.2.1 109 = .ok (.iload 7, 2) := by decide +kernel
theorem D8_worth_111 : decode m8_worth.2.1 111 = .ok (.bipush 18, 2) := by decide +kernel
theorem D8_worth_113 : decode m8_worth.2.1 113 = .ok (.if_icmp .ne 33, 3) := by decide +kernel
theorem D8_worth_116 : decode m8_worth.2.1 116 = .ok (.iload 5, 2) := by decide +kernel
theorem D8_worth_118 : decode m8_worth.2.1 118 = .ok (.ifCond .le 28, 3) := by decide +kernel
theorem D8_worth_121 : decode m8_worth.2.1 121 = .ok (.iinc 5 (-1), 3) := by decide +kernel
theorem D8_worth_124 : decode m8_worth.2.1 124 = .ok (.aload_n 0, 1) := by decide +kernel
theorem D8_worth_125 : decode m8_worth.2.1 125 = .ok (.getfield 15, 3) := by decide +kernel
theorem D8_worth_128 : decode m8_worth.2.1 128 = .ok (.iload 5, 2) := by decide +kernel
theorem D8_worth_130 : decode m8_worth.2.1 130 = .ok (.laload, 1) := by decide +kernel
theorem D8_worth_131 : decode m8_worth.2.1 131 = .ok (.lconst 0, 1) := by decide +kernel
theorem D8_worth_132 : decode m8_worth.2.1 132 = .ok (.lcmp, 1) := by decide +kernel
theorem D8_worth_133 : decode m8_worth.2.1 133 = .ok (.ifCond .ne 7, 3) := by decide +kernel
theorem D8_worth_136 : decode m8_worth.2.1 136 = .ok (.lconst 1, 1) := by decide +kernel
theorem D8_worth_137 : decode m8_worth.2.1 137 = .ok (.goto 4, 3) := by decide +kernel
theorem D8_worth_140 : decode m8_worth.2.1 140 = .ok (.lconst 0, 1) := by decide +kernel
theorem D8_worth_141 : decode m8_worth.2.1 141 = .ok (.lstore 8, 2) := by decide +kernel
theorem D8_worth_143 : decode m8_worth.2.1 143 = .ok (.goto 42, 3) := by decide +kernel
theorem D8_worth_146 : decode m8_worth.2.1 146 = .ok (.iload 5, 2) := by decide +kernel
theorem D8_worth_148 : decode m8_worth.2.1 148 = .ok (.iconst 1, 1) := by decide +kernel
theorem D8_worth_149 : decode m8_worth.2.1 149 = .ok (.if_icmp .le 32, 3) := by decide +kernel
theorem D8_worth_152 : decode m8_worth.2.1 152 = .ok (.iinc 5 (-2), 3) := by decide +kernel
theorem D8_worth_155 : decode m8_worth.2.1 155 = .ok (.iload 7, 2) := by decide +kernel
theorem D8_worth_157 : decode m8_worth.2.1 157 = .ok (.aload_n 0, 1) := by decide +kernel
theorem D8_worth_158 : decode m8_worth.2.1 158 = .ok (.getfield 15, 3) := by decide +kernel
theorem D8_worth_161 : decode m8_worth.2.1 161 = .ok (.iload 5, 2) := by decide +kernel
theorem D8_worth_163 : decode m8_worth.2.1 163 = .ok (.laload, 1) := by decide +kernel
theorem D8_worth_164 : decode m8_worth.2.1 164 = .ok (.aload_n 0, 1) := by decide +kernel
theorem D8_worth_165 : decode m8_worth.2.1 165 = .ok (.getfield 15, 3) := by decide +kernel
theorem D8_worth_168 : decode m8_worth.2.1 168 = .ok (.iload 5, 2) := by decide +kernel
theorem D8_worth_170 : decode m8_worth.2.1 170 = .ok (.iconst 1, 1) := by decide +kernel
theorem D8_worth_171 : decode m8_worth.2.1 171 = .ok (.iadd, 1) := by decide +kernel
theorem D8_worth_172 : decode m8_worth.2.1 172 = .ok (.laload, 1) := by decide +kernel
theorem D8_worth_173 : decode m8_worth.2.1 173 = .ok (.invokestatic 192, 3) := by decide +kernel
theorem D8_worth_176 : decode m8_worth.2.1 176 = .ok (.lstore 8, 2) := by decide +kernel
theorem D8_worth_178 : decode m8_worth.2.1 178 = .ok (.goto 7, 3) := by decide +kernel
theorem D8_worth_181 : decode m8_worth.2.1 181 = .ok (.ldc2_w 120, 3) := by decide +kernel
theorem D8_worth_184 : decode m8_worth.2.1 184 = .ok (.lreturn, 1) := by decide +kernel
theorem D8_worth_185 : decode m8_worth.2.1 185 = .ok (.lload 8, 2) := by decide +kernel
theorem D8_worth_187 : decode m8_worth.2.1 187 = .ok (.ldc2_w 196, 3) := by decide +kernel
theorem D8_worth_190 : decode m8_worth.2.1 190 = .ok (.lcmp, 1) := by decide +kernel
theorem D8_worth_191 : decode m8_worth.2.1 191 = .ok (.ifCond .gt 19, 3) := by decide +kernel
theorem D8_worth_194 : decode m8_worth.2.1 194 = .ok (.lload 8, 2) := by decide +kernel
theorem D8_worth_196 : decode m8_worth.2.1 196 = .ok (.ldc2_w 198, 3) := by decide +kernel
theorem D8_worth_199 : decode m8_worth.2.1 199 = .ok (.lcmp, 1) := by decide +kernel
theorem D8_worth_200 : decode m8_worth.2.1 200 = .ok (.ifCond .lt 10, 3) := by decide +kernel
theorem D8_worth_203 : decode m8_worth.2.1 203 = .ok (.iload 5, 2) := by decide +kernel
theorem D8_worth_205 : decode m8_worth.2.1 205 = .ok (.bipush 64, 2) := by decide +kernel
theorem D8_worth_207 : decode m8_worth.2.1 207 = .ok (.if_icmp .lt 7, 3) := by decide +kernel
theorem D8_worth_210 : decode m8_worth.2.1 210 = .ok (.ldc2_w 120, 3) := by decide +kernel
theorem D8_worth_213 : decode m8_worth.2.1 213 = .ok (.lreturn, 1) := by decide +kernel
theorem D8_worth_214 : decode m8_worth.2.1 214 = .ok (.aload_n 0, 1) := by decide +kernel
theorem D8_worth_215 : decode m8_worth.2.1 215 = .ok (.getfield 15, 3) := by decide +kernel
theorem D8_worth_218 : decode m8_worth.2.1 218 = .ok (.iload 5, 2) := by decide +kernel
theorem D8_worth_220 : decode m8_worth.2.1 220 = .ok (.lload 8, 2) := by decide +kernel
theorem D8_worth_222 : decode m8_worth.2.1 222 = .ok (.lastore, 1) := by decide +kernel
theorem D8_worth_223 : decode m8_worth.2.1 223 = .ok (.iinc 5 1, 3) := by decide +kernel
theorem D8_worth_226 : decode m8_worth.2.1 226 = .ok (.iinc 6 1, 3) := by decide +kernel
theorem D8_worth_229 : decode m8_worth.2.1 229 = .ok (.goto (-187), 3) := by decide +kernel
theorem D8_worth_232 : decode m8_worth.2.1 232 = .ok (.iload 5, 2) := by decide +kernel
theorem D8_worth_234 : decode m8_worth.2.1 234 = .ok (.ifCond .le 12, 3) := by decide +kernel
theorem D8_worth_237 : decode m8_worth.2.1 237 = .ok (.aload_n 0, 1) := by decide +kernel
theorem D8_worth_238 : decode m8_worth.2.1 238 = .ok (.getfield 15, 3) := by decide +kernel
theorem D8_worth_241 : decode m8_worth.2.1 241 = .ok (.iconst 0, 1) := by decide +kernel
theorem D8_worth_242 : decode m8_worth.2.1 242 = .ok (.laload, 1) := by decide +kernel
theorem D8_worth_243 : decode m8_worth.2.1 243 = .ok (.goto 6, 3) := by decide +kernel
theorem D8_worth_246 : decode m8_worth.2.1 246 = .ok (.ldc2_w 120, 3) := by decide +kernel
theorem D8_worth_249 : decode m8_worth.2.1 249 = .ok (.lreturn, 1) := by decide +kernel
theorem D8_nameWorth_0 : decode m8_nameWorth.2.1 0 = .ok (.iload_n 1, 1) := by decide +kernel
theorem D8_nameWorth_1 : decode m8_nameWorth.2.1 1 = .ok (.tableswitch 142 9 15 #[43, 54, 65, 84, 95, 114, 133], 43) := by decide +kernel
theorem D8_nameWorth_44 : decode m8_nameWorth.2.1 44 = .ok (.aload_n 0, 1) := by decide +kernel
theorem D8_nameWorth_45 : decode m8_nameWorth.2.1 45 = .ok (.getfield 23, 3) := by decide +kernel
theorem D8_nameWorth_48 : decode m8_nameWorth.2.1 48 = .ok (.getfield 110, 3) := by decide +kernel
theorem D8_nameWorth_51 : decode m8_nameWorth.2.1 51 = .ok (.iload_n 2, 1) := by decide +kernel
theorem D8_nameWorth_52 : decode m8_nameWorth.2.1 52 = .ok (.iaload, 1) := by decide +kernel
theorem D8_nameWorth_53 : decode m8_nameWorth.2.1 53 = .ok (.i2l, 1) := by decide +kernel
theorem D8_nameWorth_54 : decode m8_nameWorth.2.1 54 = .ok (.lreturn, 1) := by decide +kernel
theorem D8_nameWorth_55 : decode m8_nameWorth.2.1 55 = .ok (.aload_n 0, 1) := by decide +kernel
theorem D8_nameWorth_56 : decode m8_nameWorth.2.1 56 = .ok (.getfield 23, 3) := by decide +kernel
theorem D8_nameWorth_59 : decode m8_nameWorth.2.1 59 = .ok (.getfield 62, 3) := by decide +kernel
theorem D8_nameWorth_62 : decode m8_nameWorth.2.1 62 = .ok (.iload_n 2, 1) := by decide +kernel
theorem D8_nameWorth_63 : decode m8_nameWorth.2.1 63 = .ok (.iaload, 1) := by decide +kernel
theorem D8_nameWorth_64 : decode m8_nameWorth.2.1 64 = .ok (.i2l, 1) := by decide +kernel
theorem D8_nameWorth_65 : decode m8_nameWorth.2.1 65 = .ok (.lreturn, 1) := by decide +kernel
theorem D8_nameWorth_66 : decode m8_nameWorth.2.1 66 = .ok (.aload_n 0, 1) := by decide +kernel
theorem D8_nameWorth_67 : decode m8_nameWorth.2.1 67 = .ok (.getfield 23, 3) := by decide +kernel
theorem D8_nameWorth_70 : decode m8_nameWorth.2.1 70 = .ok (.getfield 200, 3) := by decide +kernel
theorem D8_nameWorth_73 : decode m8_nameWorth.2.1 73 = .ok (.aload_n 0, 1) := by decide +kernel
theorem D8_nameWorth_74 : decode m8_nameWorth.2.1 74 = .ok (.getfield 19, 3) := by decide +kernel
theorem D8_nameWorth_77 : decode m8_nameWorth.2.1 77 = .ok (.getfield 152, 3) := by decide +kernel
theorem D8_nameWorth_80 : decode m8_nameWorth.2.1 80 = .ok (.iload_n 2, 1) := by decide +kernel
theorem D8_nameWorth_81 : decode m8_nameWorth.2.1 81 = .ok (.iaload, 1) := by decide +kernel
theorem D8_nameWorth_82 : decode m8_nameWorth.2.1 82 = .ok (.iaload, 1) := by decide +kernel
theorem D8_nameWorth_83 : decode m8_nameWorth.2.1 83 = .ok (.i2l, 1) := by decide +kernel
theorem D8_nameWorth_84 : decode m8_nameWorth.2.1 84 = .ok (.lreturn, 1) := by decide +kernel
theorem D8_nameWorth_85 : decode m8_nameWorth.2.1 85 = .ok (.aload_n 0, 1) := by decide +kernel
theorem D8_nameWorth_86 : decode m8_nameWorth.2.1 86 = .ok (.getfield 23, 3) := by decide +kernel
theorem D8_nameWorth_89 : decode m8_nameWorth.2.1 89 = .ok (.getfield 133, 3) := by decide +kernel
theorem D8_nameWorth_92 : decode m8_nameWorth.2.1 92 = .ok (.iload_n 2, 1) := by decide +kernel
theorem D8_nameWorth_93 : decode m8_nameWorth.2.1 93 = .ok (.iaload, 1) := by decide +kernel
theorem D8_nameWorth_94 : decode m8_nameWorth.2.1 94 = .ok (.i2l, 1) := by decide +kernel
theorem D8_nameWorth_95 : decode m8_nameWorth.2.1 95 = .ok (.lreturn, 1) := by decide +kernel
theorem D8_nameWorth_96 : decode m8_nameWorth.2.1 96 = .ok (.aload_n 0, 1) := by decide +kernel
theorem D8_nameWorth_97 : decode m8_nameWorth.2.1 97 = .ok (.getfield 19, 3) := by decide +kernel
theorem D8_nameWorth_100 : decode m8_nameWorth.2.1 100 = .ok (.getfield 203, 3) := by decide +kernel
theorem D8_nameWorth_103 : decode m8_nameWorth.2.1 103 = .ok (.aload_n 0, 1) := by decide +kernel
theorem D8_nameWorth_104 : decode m8_nameWorth.2.1 104 = .ok (.getfield 19, 3) := by decide +kernel
theorem D8_nameWorth_107 : decode m8_nameWorth.2.1 107 = .ok (.getfield 158, 3) := by decide +kernel
theorem D8_nameWorth_110 : decode m8_nameWorth.2.1 110 = .ok (.iload_n 2, 1) := by decide +kernel
theorem D8_nameWorth_111 : decode m8_nameWorth.2.1 111 = .ok (.iaload, 1) := by decide +kernel
theorem D8_nameWorth_112 : decode m8_nameWorth.2.1 112 = .ok (.iaload, 1) := by decide +kernel
theorem D8_nameWorth_113 : decode m8_nameWorth.2.1 113 = .ok (.i2l, 1) := by decide +kernel
theorem D8_nameWorth_114 : decode m8_nameWorth.2.1 114 = .ok (.lreturn, 1) := by decide +kernel
theorem D8_nameWorth_115 : decode m8_nameWorth.2.1 115 = .ok (.aload_n 0, 1) := by decide +kernel
theorem D8_nameWorth_116 : decode m8_nameWorth.2.1 116 = .ok (.getfield 23, 3) := by decide +kernel
theorem D8_nameWorth_119 : decode m8_nameWorth.2.1 119 = .ok (.getfield 206, 3) := by decide +kernel
theorem D8_nameWorth_122 : decode m8_nameWorth.2.1 122 = .ok (.aload_n 0, 1) := by decide +kernel
theorem D8_nameWorth_123 : decode m8_nameWorth.2.1 123 = .ok (.getfield 23, 3) := by decide +kernel
theorem D8_nameWorth_126 : decode m8_nameWorth.2.1 126 = .ok (.getfield 133, 3) := by decide +kernel
theorem D8_nameWorth_129 : decode m8_nameWorth.2.1 129 = .ok (.iload_n 2, 1) := by decide +kernel
theorem D8_nameWorth_130 : decode m8_nameWorth.2.1 130 = .ok (.iaload, 1) := by decide +kernel
theorem D8_nameWorth_131 : decode m8_nameWorth.2.1 131 = .ok (.iaload, 1) := by decide +kernel
theorem D8_nameWorth_132 : decode m8_nameWorth.2.1 132 = .ok (.i2l, 1) := by decide +kernel
theorem D8_nameWorth_133 : decode m8_nameWorth.2.1 133 = .ok (.lreturn, 1) := by decide +kernel
theorem D8_nameWorth_134 : decode m8_nameWorth.2.1 134 = .ok (.aload_n 0, 1) := by decide +kernel
theorem D8_nameWorth_135 : decode m8_nameWorth.2.1 135 = .ok (.getfield 23, 3) := by decide +kernel
theorem D8_nameWorth_138 : decode m8_nameWorth.2.1 138 = .ok (.getfield 75, 3) := by decide +kernel
theorem D8_nameWorth_141 : decode m8_nameWorth.2.1 141 = .ok (.i2l, 1) := by decide +kernel
theorem D8_nameWorth_142 : decode m8_nameWorth.2.1 142 = .ok (.lreturn, 1) := by decide +kernel
theorem D8_nameWorth_143 : decode m8_nameWorth.2.1 143 = .ok (.ldc2_w 120, 3) := by decide +kernel
theorem D8_nameWorth_146 : decode m8_nameWorth.2.1 146 = .ok (.lreturn, 1) := by decide +kernel
theorem D8_joined_0 : decode m8_joined.2.1 0 = .ok (.iload_n 0, 1) := by decide +kernel
theorem D8_joined_1 : decode m8_joined.2.1 1 = .ok (.tableswitch 205 16 28 #[67, 85, 205, 103, 115, 127, 139, 151, 163, 175, 179, 183, 189], 67) := by decide +kernel
theorem D8_joined_68 : decode m8_joined.2.1 68 = .ok (.lload_n 1, 1) := by decide +kernel
theorem D8_joined_69 : decode m8_joined.2.1 69 = .ok (.lconst 0, 1) := by decide +kernel
theorem D8_joined_70 : decode m8_joined.2.1 70 = .ok (.lcmp, 1) := by decide +kernel
theorem D8_joined_71 : decode m8_joined.2.1 71 = .ok (.ifCond .ne 9, 3) := by decide +kernel
theorem D8_joined_74 : decode m8_joined.2.1 74 = .ok (.lload_n 3, 1) := by decide +kernel
theorem D8_joined_75 : decode m8_joined.2.1 75 = .ok (.lconst 0, 1) := by decide +kernel
theorem D8_joined_76 : decode m8_joined.2.1 76 = .ok (.lcmp, 1) := by decide +kernel
theorem D8_joined_77 : decode m8_joined.2.1 77 = .ok (.ifCond .eq 7, 3) := by decide +kernel
theorem D8_joined_80 : decode m8_joined.2.1 80 = .ok (.lconst 1, 1) := by decide +kernel
theorem D8_joined_81 : decode m8_joined.2.1 81 = .ok (.goto 4, 3) := by decide +kernel
theorem D8_joined_84 : decode m8_joined.2.1 84 = .ok (.lconst 0, 1) := by decide +kernel
theorem D8_joined_85 : decode m8_joined.2.1 85 = .ok (.lreturn, 1) := by decide +kernel
theorem D8_joined_86 : decode m8_joined.2.1 86 = .ok (.lload_n 1, 1) := by decide +kernel
theorem D8_joined_87 : decode m8_joined.2.1 87 = .ok (.lconst 0, 1) := by decide +kernel
theorem D8_joined_88 : decode m8_joined.2.1 88 = .ok (.lcmp, 1) := by decide +kernel
theorem D8_joined_89 : decode m8_joined.2.1 89 = .ok (.ifCond .eq 13, 3) := by decide +kernel
theorem D8_joined_92 : decode m8_joined.2.1 92 = .ok (.lload_n 3, 1) := by decide +kernel
theorem D8_joined_93 : decode m8_joined.2.1 93 = .ok (.lconst 0, 1) := by decide +kernel
theorem D8_joined_94 : decode m8_joined.2.1 94 = .ok (.lcmp, 1) := by decide +kernel
theorem D8_joined_95 : decode m8_joined.2.1 95 = .ok (.ifCond .eq 7, 3) := by decide +kernel
theorem D8_joined_98 : decode m8_joined.2.1 98 = .ok (.lconst 1, 1) := by decide +kernel
theorem D8_joined_99 : decode m8_joined.2.1 99 = .ok (.goto 4, 3) := by decide +kernel
theorem D8_joined_102 : decode m8_joined.2.1 102 = .ok (.lconst 0, 1) := by decide +kernel
theorem D8_joined_103 : decode m8_joined.2.1 103 = .ok (.lreturn, 1) := by decide +kernel
theorem D8_joined_104 : decode m8_joined.2.1 104 = .ok (.lload_n 1, 1) := by decide +kernel
theorem D8_joined_105 : decode m8_joined.2.1 105 = .ok (.lload_n 3, 1) := by decide +kernel
theorem D8_joined_106 : decode m8_joined.2.1 106 = .ok (.lcmp, 1) := by decide +kernel
theorem D8_joined_107 : decode m8_joined.2.1 107 = .ok (.ifCond .ge 7, 3) := by decide +kernel
theorem D8_joined_110 : decode m8_joined.2.1 110 = .ok (.lconst 1, 1) := by decide +kernel
theorem D8_joined_111 : decode m8_joined.2.1 111 = .ok (.goto 4, 3) := by decide +kernel
theorem D8_joined_114 : decode m8_joined.2.1 114 = .ok (.lconst 0, 1) := by decide +kernel
theorem D8_joined_115 : decode m8_joined.2.1 115 = .ok (.lreturn, 1) := by decide +kernel
theorem D8_joined_116 : decode m8_joined.2.1 116 = .ok (.lload_n 1, 1) := by decide +kernel
theorem D8_joined_117 : decode m8_joined.2.1 117 = .ok (.lload_n 3, 1) := by decide +kernel
theorem D8_joined_118 : decode m8_joined.2.1 118 = .ok (.lcmp, 1) := by decide +kernel
theorem D8_joined_119 : decode m8_joined.2.1 119 = .ok (.ifCond .gt 7, 3) := by decide +kernel
theorem D8_joined_122 : decode m8_joined.2.1 122 = .ok (.lconst 1, 1) := by decide +kernel
theorem D8_joined_123 : decode m8_joined.2.1 123 = .ok (.goto 4, 3) := by decide +kernel
theorem D8_joined_126 : decode m8_joined.2.1 126 = .ok (.lconst 0, 1) := by decide +kernel
theorem D8_joined_127 : decode m8_joined.2.1 127 = .ok (.lreturn, 1) := by decide +kernel
theorem D8_joined_128 : decode m8_joined.2.1 128 = .ok (.lload_n 1, 1) := by decide +kernel
theorem D8_joined_129 : decode m8_joined.2.1 129 = .ok (.lload_n 3, 1) := by decide +kernel
theorem D8_joined_130 : decode m8_joined.2.1 130 = .ok (.lcmp, 1) := by decide +kernel
theorem D8_joined_131 : decode m8_joined.2.1 131 = .ok (.ifCond .ne 7, 3) := by decide +kernel
theorem D8_joined_134 : decode m8_joined.2.1 134 = .ok (.lconst 1, 1) := by decide +kernel
theorem D8_joined_135 : decode m8_joined.2.1 135 = .ok (.goto 4, 3) := by decide +kernel
theorem D8_joined_138 : decode m8_joined.2.1 138 = .ok (.lconst 0, 1) := by decide +kernel
theorem D8_joined_139 : decode m8_joined.2.1 139 = .ok (.lreturn, 1) := by decide +kernel
theorem D8_joined_140 : decode m8_joined.2.1 140 = .ok (.lload_n 1, 1) := by decide +kernel
theorem D8_joined_141 : decode m8_joined.2.1 141 = .ok (.lload_n 3, 1) := by decide +kernel
theorem D8_joined_142 : decode m8_joined.2.1 142 = .ok (.lcmp, 1) := by decide +kernel
theorem D8_joined_143 : decode m8_joined.2.1 143 = .ok (.ifCond .eq 7, 3) := by decide +kernel
theorem D8_joined_146 : decode m8_joined.2.1 146 = .ok (.lconst 1, 1) := by decide +kernel
theorem D8_joined_147 : decode m8_joined.2.1 147 = .ok (.goto 4, 3) := by decide +kernel
theorem D8_joined_150 : decode m8_joined.2.1 150 = .ok (.lconst 0, 1) := by decide +kernel
theorem D8_joined_151 : decode m8_joined.2.1 151 = .ok (.lreturn, 1) := by decide +kernel
theorem D8_joined_152 : decode m8_joined.2.1 152 = .ok (.lload_n 1, 1) := by decide +kernel
theorem D8_joined_153 : decode m8_joined.2.1 153 = .ok (.lload_n 3, 1) := by decide +kernel
theorem D8_joined_154 : decode m8_joined.2.1 154 = .ok (.lcmp, 1) := by decide +kernel
theorem D8_joined_155 : decode m8_joined.2.1 155 = .ok (.ifCond .lt 7, 3) := by decide +kernel
theorem D8_joined_158 : decode m8_joined.2.1 158 = .ok (.lconst 1, 1) := by decide +kernel
theorem D8_joined_159 : decode m8_joined.2.1 159 = .ok (.goto 4, 3) := by decide +kernel
theorem D8_joined_162 : decode m8_joined.2.1 162 = .ok (.lconst 0, 1) := by decide +kernel
theorem D8_joined_163 : decode m8_joined.2.1 163 = .ok (.lreturn, 1) := by decide +kernel
theorem D8_joined_164 : decode m8_joined.2.1 164 = .ok (.lload_n 1, 1) := by decide +kernel
theorem D8_joined_165 : decode m8_joined.2.1 165 = .ok (.lload_n 3, 1) := by decide +kernel
theorem D8_joined_166 : decode m8_joined.2.1 166 = .ok (.lcmp, 1) := by decide +kernel
theorem D8_joined_167 : decode m8_joined.2.1 167 = .ok (.ifCond .le 7, 3) := by decide +kernel
theorem D8_joined_170 : decode m8_joined.2.1 170 = .ok (.lconst 1, 1) := by decide +kernel
theorem D8_joined_171 : decode m8_joined.2.1 171 = .ok (.goto 4, 3) := by decide +kernel
theorem D8_joined_174 : decode m8_joined.2.1 174 = .ok (.lconst 0, 1) := by decide +kernel
theorem D8_joined_175 : decode m8_joined.2.1 175 = .ok (.lreturn, 1) := by decide +kernel
theorem D8_joined_176 : decode m8_joined.2.1 176 = .ok (.lload_n 1, 1) := by decide +kernel
theorem D8_joined_177 : decode m8_joined.2.1 177 = .ok (.lload_n 3, 1) := by decide +kernel
theorem D8_joined_178 : decode m8_joined.2.1 178 = .ok (.ladd, 1) := by decide +kernel
theorem D8_joined_179 : decode m8_joined.2.1 179 = .ok (.lreturn, 1) := by decide +kernel
theorem D8_joined_180 : decode m8_joined.2.1 180 = .ok (.lload_n 1, 1) := by decide +kernel
theorem D8_joined_181 : decode m8_joined.2.1 181 = .ok (.lload_n 3, 1) := by decide +kernel
theorem D8_joined_182 : decode m8_joined.2.1 182 = .ok (.lsub, 1) := by decide +kernel
theorem D8_joined_183 : decode m8_joined.2.1 183 = .ok (.lreturn, 1) := by decide +kernel
theorem D8_joined_184 : decode m8_joined.2.1 184 = .ok (.lload_n 1, 1) := by decide +kernel
theorem D8_joined_185 : decode m8_joined.2.1 185 = .ok (.lload_n 3, 1) := by decide +kernel
theorem D8_joined_186 : decode m8_joined.2.1 186 = .ok (.invokestatic 209, 3) := by decide +kernel
theorem D8_joined_189 : decode m8_joined.2.1 189 = .ok (.lreturn, 1) := by decide +kernel
theorem D8_joined_190 : decode m8_joined.2.1 190 = .ok (.lload_n 3, 1) := by decide +kernel
theorem D8_joined_191 : decode m8_joined.2.1 191 = .ok (.lconst 0, 1) := by decide +kernel
theorem D8_joined_192 : decode m8_joined.2.1 192 = .ok (.lcmp, 1) := by decide +kernel
theorem D8_joined_193 : decode m8_joined.2.1 193 = .ok (.ifCond .ne 9, 3) := by decide +kernel
theorem D8_joined_196 : decode m8_joined.2.1 196 = .ok (.ldc2_w 120, 3) := by decide +kernel
theorem D8_joined_199 : decode m8_joined.2.1 199 = .ok (.goto 6, 3) := by decide +kernel
theorem D8_joined_202 : decode m8_joined.2.1 202 = .ok (.lload_n 1, 1) := by decide +kernel
theorem D8_joined_203 : decode m8_joined.2.1 203 = .ok (.lload_n 3, 1) := by decide +kernel
theorem D8_joined_204 : decode m8_joined.2.1 204 = .ok (.ldiv, 1) := by decide +kernel
theorem D8_joined_205 : decode m8_joined.2.1 205 = .ok (.lreturn, 1) := by decide +kernel
theorem D8_joined_206 : decode m8_joined.2.1 206 = .ok (.ldc2_w 120, 3) := by decide +kernel
theorem D8_joined_209 : decode m8_joined.2.1 209 = .ok (.lreturn, 1) := by decide +kernel
theorem D8_product_0 : decode m8_product.2.1 0 = .ok (.lload_n 0, 1) := by decide +kernel
theorem D8_product_1 : decode m8_product.2.1 1 = .ok (.lconst 0, 1) := by decide +kernel
theorem D8_product_2 : decode m8_product.2.1 2 = .ok (.lcmp, 1) := by decide +kernel
theorem D8_product_3 : decode m8_product.2.1 3 = .ok (.ifCond .ne 9, 3) := by decide +kernel
theorem D8_product_6 : decode m8_product.2.1 6 = .ok (.ldc2_w 196, 3) := by decide +kernel
theorem D8_product_9 : decode m8_product.2.1 9 = .ok (.goto 19, 3) := by decide +kernel
theorem D8_product_12 : decode m8_product.2.1 12 = .ok (.ldc2_w 196, 3) := by decide +kernel
theorem D8_product_15 : decode m8_product.2.1 15 = .ok (.lload_n 0, 1) := by decide +kernel
theorem D8_product_16 : decode m8_product.2.1 16 = .ok (.lconst 0, 1) := by decide +kernel
theorem D8_product_17 : decode m8_product.2.1 17 = .ok (.lcmp, 1) := by decide +kernel
theorem D8_product_18 : decode m8_product.2.1 18 = .ok (.ifCond .ge 8, 3) := by decide +kernel
theorem D8_product_21 : decode m8_product.2.1 21 = .ok (.lload_n 0, 1) := by decide +kernel
theorem D8_product_22 : decode m8_product.2.1 22 = .ok (.lneg, 1) := by decide +kernel
theorem D8_product_23 : decode m8_product.2.1 23 = .ok (.goto 4, 3) := by decide +kernel
theorem D8_product_26 : decode m8_product.2.1 26 = .ok (.lload_n 0, 1) := by decide +kernel
theorem D8_product_27 : decode m8_product.2.1 27 = .ok (.ldiv, 1) := by decide +kernel
theorem D8_product_28 : decode m8_product.2.1 28 = .ok (.lstore 4, 2) := by decide +kernel
theorem D8_product_30 : decode m8_product.2.1 30 = .ok (.lload_n 2, 1) := by decide +kernel
theorem D8_product_31 : decode m8_product.2.1 31 = .ok (.lload 4, 2) := by decide +kernel
theorem D8_product_33 : decode m8_product.2.1 33 = .ok (.lcmp, 1) := by decide +kernel
theorem D8_product_34 : decode m8_product.2.1 34 = .ok (.ifCond .gt 11, 3) := by decide +kernel
theorem D8_product_37 : decode m8_product.2.1 37 = .ok (.lload_n 2, 1) := by decide +kernel
theorem D8_product_38 : decode m8_product.2.1 38 = .ok (.lload 4, 2) := by decide +kernel
theorem D8_product_40 : decode m8_product.2.1 40 = .ok (.lneg, 1) := by decide +kernel
theorem D8_product_41 : decode m8_product.2.1 41 = .ok (.lcmp, 1) := by decide +kernel
theorem D8_product_42 : decode m8_product.2.1 42 = .ok (.ifCond .ge 9, 3) := by decide +kernel
theorem D8_product_45 : decode m8_product.2.1 45 = .ok (.ldc2_w 120, 3) := by decide +kernel
theorem D8_product_48 : decode m8_product.2.1 48 = .ok (.goto 6, 3) := by decide +kernel
theorem D8_product_51 : decode m8_product.2.1 51 = .ok (.lload_n 0, 1) := by decide +kernel
theorem D8_product_52 : decode m8_product.2.1 52 = .ok (.lload_n 2, 1) := by decide +kernel
theorem D8_product_53 : decode m8_product.2.1 53 = .ok (.lmul, 1) := by decide +kernel
theorem D8_product_54 : decode m8_product.2.1 54 = .ok (.lreturn, 1) := by decide +kernel
