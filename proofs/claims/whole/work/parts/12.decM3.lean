/-! DECODED instructions (own program gendec.py) -/
theorem D10_firstOff_17 : decode m10_firstOff.2.1 17 = .ok (.iconst 1, 1) := by decide +kernel
theorem D10_firstOff_18 : decode m10_firstOff.2.1 18 = .ok (.iconst 0, 1) := by decide +kernel
theorem D10_firstOff_19 : decode m10_firstOff.2.1 19 = .ok (.invokevirtual 394, 3) := by decide +kernel
theorem D10_firstOff_22 : decode m10_firstOff.2.1 22 = .ok (.iconst 1, 1) := by decide +kernel
theorem D10_firstOff_23 : decode m10_firstOff.2.1 23 = .ok (.istore_n 2, 1) := by decide +kernel
theorem D10_firstOff_24 : decode m10_firstOff.2.1 24 = .ok (.iload_n 2, 1) := by decide +kernel
theorem D10_firstOff_25 : decode m10_firstOff.2.1 25 = .ok (.bipush 99, 2) := by decide +kernel
theorem D10_firstOff_27 : decode m10_firstOff.2.1 27 = .ok (.if_icmp .gt 35, 3) := by decide +kernel
theorem D10_firstOff_30 : decode m10_firstOff.2.1 30 = .ok (.aload_n 0, 1) := by decide +kernel
theorem D10_firstOff_31 : decode m10_firstOff.2.1 31 = .ok (.iconst 1, 1) := by decide +kernel
theorem D10_firstOff_32 : decode m10_firstOff.2.1 32 = .ok (.iconst 0, 1) := by decide +kernel
theorem D10_firstOff_33 : decode m10_firstOff.2.1 33 = .ok (.invokevirtual 390, 3) := by decide +kernel
theorem D10_firstOff_36 : decode m10_firstOff.2.1 36 = .ok (.aload_n 0, 1) := by decide +kernel
theorem D10_firstOff_37 : decode m10_firstOff.2.1 37 = .ok (.invokevirtual 441, 3) := by decide +kernel
theorem D10_firstOff_40 : decode m10_firstOff.2.1 40 = .ok (.ifCond .eq 16, 3) := by decide +kernel
theorem D10_firstOff_43 : decode m10_firstOff.2.1 43 = .ok (.iload_n 1, 1) := by decide +kernel
theorem D10_firstOff_44 : decode m10_firstOff.2.1 44 = .ok (.ifCond .ne 7, 3) := by decide +kernel
theorem D10_firstOff_47 : decode m10_firstOff.2.1 47 = .ok (.iload_n 2, 1) := by decide +kernel
theorem D10_firstOff_48 : decode m10_firstOff.2.1 48 = .ok (.goto 7, 3) := by decide +kernel
theorem D10_firstOff_51 : decode m10_firstOff.2.1 51 = .ok (.aload_n 0, 1) := by decide +kernel
theorem D10_firstOff_52 : decode m10_firstOff.2.1 52 = .ok (.invokevirtual 441, 3) := by decide +kernel
theorem D10_firstOff_55 : decode m10_firstOff.2.1 55 = .ok (.ireturn, 1) := by decide +kernel
theorem D10_firstOff_56 : decode m10_firstOff.2.1 56 = .ok (.iinc 2 1, 3) := by decide +kernel
theorem D10_firstOff_59 : decode m10_firstOff.2.1 59 = .ok (.goto (-35), 3) := by decide +kernel
theorem D10_firstOff_62 : decode m10_firstOff.2.1 62 = .ok (.bipush (-2), 2) := by decide +kernel
theorem D10_firstOff_64 : decode m10_firstOff.2.1 64 = .ok (.ireturn, 1) := by decide +kernel
theorem D10_chain_0 : decode m10_chain.2.1 0 = .ok (.aload_n 0, 1) := by decide +kernel
theorem D10_chain_1 : decode m10_chain.2.1 1 = .ok (.iconst 0, 1) := by decide +kernel
theorem D10_chain_2 : decode m10_chain.2.1 2 = .ok (.putfield 139, 3) := by decide +kernel
theorem D10_chain_5 : decode m10_chain.2.1 5 = .ok (.aload_n 0, 1) := by decide +kernel
theorem D10_chain_6 : decode m10_chain.2.1 6 = .ok (.iload_n 1, 1) := by decide +kernel
theorem D10_chain_7 : decode m10_chain.2.1 7 = .ok (.invokevirtual 403, 3) := by decide +kernel
theorem D10_chain_10 : decode m10_chain.2.1 10 = .ok (.ifCond .ne 5, 3) := by decide +kernel
theorem D10_chain_13 : decode m10_chain.2.1 13 = .ok (.iconst (-1), 1) := by decide +kernel
theorem D10_chain_14 : decode m10_chain.2.1 14 = .ok (.ireturn, 1) := by decide +kernel
theorem D10_chain_15 : decode m10_chain.2.1 15 = .ok (.aload_n 0, 1) := by decide +kernel
theorem D10_chain_16 : decode m10_chain.2.1 16 = .ok (.iconst 0, 1) := by decide +kernel
theorem D10_chain_17 : decode m10_chain.2.1 17 = .ok (.iload_n 1, 1) := by decide +kernel
theorem D10_chain_18 : decode m10_chain.2.1 18 = .ok (.invokevirtual 328, 3) := by decide +kernel
theorem D10_chain_21 : decode m10_chain.2.1 21 = .ok (.ifCond .ne 6, 3) := by decide +kernel
theorem D10_chain_24 : decode m10_chain.2.1 24 = .ok (.bipush (-2), 2) := by decide +kernel
theorem D10_chain_26 : decode m10_chain.2.1 26 = .ok (.ireturn, 1) := by decide +kernel
theorem D10_chain_27 : decode m10_chain.2.1 27 = .ok (.aload_n 0, 1) := by decide +kernel
theorem D10_chain_28 : decode m10_chain.2.1 28 = .ok (.iconst 1, 1) := by decide +kernel
theorem D10_chain_29 : decode m10_chain.2.1 29 = .ok (.iconst 0, 1) := by decide +kernel
theorem D10_chain_30 : decode m10_chain.2.1 30 = .ok (.invokevirtual 394, 3) := by decide +kernel
theorem D10_chain_33 : decode m10_chain.2.1 33 = .ok (.aload_n 0, 1) := by decide +kernel
theorem D10_chain_34 : decode m10_chain.2.1 34 = .ok (.iconst 1, 1) := by decide +kernel
theorem D10_chain_35 : decode m10_chain.2.1 35 = .ok (.iload_n 1, 1) := by decide +kernel
theorem D10_chain_36 : decode m10_chain.2.1 36 = .ok (.invokevirtual 384, 3) := by decide +kernel
theorem D10_chain_39 : decode m10_chain.2.1 39 = .ok (.aload_n 0, 1) := by decide +kernel
theorem D10_chain_40 : decode m10_chain.2.1 40 = .ok (.invokevirtual 441, 3) := by decide +kernel
theorem D10_chain_43 : decode m10_chain.2.1 43 = .ok (.ireturn, 1) := by decide +kernel
theorem D10_layRacks_0 : decode m10_layRacks.2.1 0 = .ok (.aload_n 0, 1) := by decide +kernel
theorem D10_layRacks_1 : decode m10_layRacks.2.1 1 = .ok (.iconst 0, 1) := by decide +kernel
theorem D10_layRacks_2 : decode m10_layRacks.2.1 2 = .ok (.putfield 444, 3) := by decide +kernel
theorem D10_layRacks_5 : decode m10_layRacks.2.1 5 = .ok (.iconst 0, 1) := by decide +kernel
theorem D10_layRacks_6 : decode m10_layRacks.2.1 6 = .ok (.istore_n 2, 1) := by decide +kernel
theorem D10_layRacks_7 : decode m10_layRacks.2.1 7 = .ok (.iload_n 2, 1) := by decide +kernel
theorem D10_layRacks_8 : decode m10_layRacks.2.1 8 = .ok (.aload_n 0, 1) := by decide +kernel
theorem D10_layRacks_9 : decode m10_layRacks.2.1 9 = .ok (.getfield 13, 3) := by decide +kernel
theorem D10_layRacks_12 : decode m10_layRacks.2.1 12 = .ok (.iconst 1, 1) := by decide +kernel
theorem D10_layRacks_13 : decode m10_layRacks.2.1 13 = .ok (.iaload, 1) := by decide +kernel
theorem D10_layRacks_14 : decode m10_layRacks.2.1 14 = .ok (.if_icmp .ge 49, 3) := by decide +kernel
theorem D10_layRacks_17 : decode m10_layRacks.2.1 17 = .ok (.aload_n 0, 1) := by decide +kernel
theorem D10_layRacks_18 : decode m10_layRacks.2.1 18 = .ok (.getfield 444, 3) := by decide +kernel
theorem D10_layRacks_21 : decode m10_layRacks.2.1 21 = .ok (.iconst 4, 1) := by decide +kernel
theorem D10_layRacks_22 : decode m10_layRacks.2.1 22 = .ok (.if_icmp .ge 41, 3) := by decide +kernel
theorem D10_layRacks_25 : decode m10_layRacks.2.1 25 = .ok (.aload_n 0, 1) := by decide +kernel
theorem D10_layRacks_26 : decode m10_layRacks.2.1 26 = .ok (.iconst 0, 1) := by decide +kernel
theorem D10_layRacks_27 : decode m10_layRacks.2.1 27 = .ok (.iload_n 2, 1) := by decide +kernel
theorem D10_layRacks_28 : decode m10_layRacks.2.1 28 = .ok (.invokevirtual 328, 3) := by decide +kernel
theorem D10_layRacks_31 : decode m10_layRacks.2.1 31 = .ok (.ifCond .ne 6, 3) := by decide +kernel
theorem D10_layRacks_34 : decode m10_layRacks.2.1 34 = .ok (.goto 23, 3) := by decide +kernel
theorem D10_layRacks_37 : decode m10_layRacks.2.1 37 = .ok (.aload_n 0, 1) := by decide +kernel
theorem D10_layRacks_38 : decode m10_layRacks.2.1 38 = .ok (.getfield 108, 3) := by decide +kernel
theorem D10_layRacks_41 : decode m10_layRacks.2.1 41 = .ok (.aload_n 0, 1) := by decide +kernel
theorem D10_layRacks_42 : decode m10_layRacks.2.1 42 = .ok (.getfield 444, 3) := by decide +kernel
theorem D10_layRacks_45 : decode m10_layRacks.2.1 45 = .ok (.iload_n 2, 1) := by decide +kernel
theorem D10_layRacks_46 : decode m10_layRacks.2.1 46 = .ok (.iastore, 1) := by decide +kernel
theorem D10_layRacks_47 : decode m10_layRacks.2.1 47 = .ok (.aload_n 0, 1) := by decide +kernel
theorem D10_layRacks_48 : decode m10_layRacks.2.1 48 = .ok (.dup, 1) := by decide +kernel
theorem D10_layRacks_49 : decode m10_layRacks.2.1 49 = .ok (.getfield 444, 3) := by decide +kernel
theorem D10_layRacks_52 : decode m10_layRacks.2.1 52 = .ok (.iconst 1, 1) := by decide +kernel
theorem D10_layRacks_53 : decode m10_layRacks.2.1 53 = .ok (.iadd, 1) := by decide +kernel
theorem D10_layRacks_54 : decode m10_layRacks.2.1 54 = .ok (.putfield 444, 3) := by decide +kernel
theorem D10_layRacks_57 : decode m10_layRacks.2.1 57 = .ok (.iinc 2 1, 3) := by decide +kernel
theorem D10_layRacks_60 : decode m10_layRacks.2.1 60 = .ok (.goto (-53), 3) := by decide +kernel
theorem D10_layRacks_63 : decode m10_layRacks.2.1 63 = .ok (.aload_n 0, 1) := by decide +kernel
theorem D10_layRacks_64 : decode m10_layRacks.2.1 64 = .ok (.iconst (-1), 1) := by decide +kernel
theorem D10_layRacks_65 : decode m10_layRacks.2.1 65 = .ok (.putfield 447, 3) := by decide +kernel
theorem D10_layRacks_68 : decode m10_layRacks.2.1 68 = .ok (.iconst 0, 1) := by decide +kernel
theorem D10_layRacks_69 : decode m10_layRacks.2.1 69 = .ok (.istore_n 2, 1) := by decide +kernel
theorem D10_layRacks_70 : decode m10_layRacks.2.1 70 = .ok (.iload_n 2, 1) := by decide +kernel
theorem D10_layRacks_71 : decode m10_layRacks.2.1 71 = .ok (.iconst 1, 1) := by decide +kernel
theorem D10_layRacks_72 : decode m10_layRacks.2.1 72 = .ok (.iconst 2, 1) := by decide +kernel
theorem D10_layRacks_73 : decode m10_layRacks.2.1 73 = .ok (.aload_n 0, 1) := by decide +kernel
theorem D10_layRacks_74 : decode m10_layRacks.2.1 74 = .ok (.getfield 444, 3) := by decide +kernel
theorem D10_layRacks_77 : decode m10_layRacks.2.1 77 = .ok (.imul, 1) := by decide +kernel
theorem D10_layRacks_78 : decode m10_layRacks.2.1 78 = .ok (.ishl, 1) := by decide +kernel
theorem D10_layRacks_79 : decode m10_layRacks.2.1 79 = .ok (.if_icmp .ge 107, 3) := by decide +kernel
theorem D10_layRacks_82 : decode m10_layRacks.2.1 82 = .ok (.aload_n 0, 1) := by decide +kernel
theorem D10_layRacks_83 : decode m10_layRacks.2.1 83 = .ok (.iconst 1, 1) := by decide +kernel
theorem D10_layRacks_84 : decode m10_layRacks.2.1 84 = .ok (.iconst 0, 1) := by decide +kernel
theorem D10_layRacks_85 : decode m10_layRacks.2.1 85 = .ok (.invokevirtual 394, 3) := by decide +kernel
theorem D10_layRacks_88 : decode m10_layRacks.2.1 88 = .ok (.iconst 0, 1) := by decide +kernel
theorem D10_layRacks_89 : decode m10_layRacks.2.1 89 = .ok (.istore_n 3, 1) := by decide +kernel
theorem D10_layRacks_90 : decode m10_layRacks.2.1 90 = .ok (.iload_n 3, 1) := by decide +kernel
theorem D10_layRacks_91 : decode m10_layRacks.2.1 91 = .ok (.aload_n 0, 1) := by decide +kernel
theorem D10_layRacks_92 : decode m10_layRacks.2.1 92 = .ok (.getfield 444, 3) := by decide +kernel
theorem D10_layRacks_95 : decode m10_layRacks.2.1 95 = .ok (.if_icmp .ge 37, 3) := by decide +kernel
theorem D10_layRacks_98 : decode m10_layRacks.2.1 98 = .ok (.aload_n 0, 1) := by decide +kernel
theorem D10_layRacks_99 : decode m10_layRacks.2.1 99 = .ok (.getfield 93, 3) := by decide +kernel
theorem D10_layRacks_102 : decode m10_layRacks.2.1 102 = .ok (.bipush 10, 2) := by decide +kernel
theorem D10_layRacks_104 : decode m10_layRacks.2.1 104 = .ok (.aload_n 0, 1) := by decide +kernel
theorem D10_layRacks_105 : decode m10_layRacks.2.1 105 = .ok (.getfield 108, 3) := by decide +kernel
theorem D10_layRacks_108 : decode m10_layRacks.2.1 108 = .ok (.iload_n 3, 1) := by decide +kernel
theorem D10_layRacks_109 : decode m10_layRacks.2.1 109 = .ok (.iaload, 1) := by decide +kernel
theorem D10_layRacks_110 : decode m10_layRacks.2.1 110 = .ok (.iadd, 1) := by decide +kernel
theorem D10_layRacks_111 : decode m10_layRacks.2.1 111 = .ok (.iload_n 2, 1) := by decide +kernel
theorem D10_layRacks_112 : decode m10_layRacks.2.1 112 = .ok (.iconst 2, 1) := by decide +kernel
theorem D10_layRacks_113 : decode m10_layRacks.2.1 113 = .ok (.aload_n 0, 1) := by decide +kernel
theorem D10_layRacks_114 : decode m10_layRacks.2.1 114 = .ok (.getfield 444, 3) := by decide +kernel
theorem D10_layRacks_117 : decode m10_layRacks.2.1 117 = .ok (.iconst 1, 1) := by decide +kernel
theorem D10_layRacks_118 : decode m10_layRacks.2.1 118 = .ok (.isub, 1) := by decide +kernel
theorem D10_layRacks_119 : decode m10_layRacks.2.1 119 = .ok (.iload_n 3, 1) := by decide +kernel
theorem D10_layRacks_120 : decode m10_layRacks.2.1 120 = .ok (.isub, 1) := by decide +kernel
theorem D10_layRacks_121 : decode m10_layRacks.2.1 121 = .ok (.imul, 1) := by decide +kernel
theorem D10_layRacks_122 : decode m10_layRacks.2.1 122 = .ok (.ishr, 1) := by decide +kernel
theorem D10_layRacks_123 : decode m10_layRacks.2.1 123 = .ok (.iconst 3, 1) := by decide +kernel
theorem D10_layRacks_124 : decode m10_layRacks.2.1 124 = .ok (.iand, 1) := by decide +kernel
theorem D10_layRacks_125 : decode m10_layRacks.2.1 125 = .ok (.iastore, 1) := by decide +kernel
theorem D10_layRacks_126 : decode m10_layRacks.2.1 126 = .ok (.iinc 3 1, 3) := by decide +kernel
theorem D10_layRacks_129 : decode m10_layRacks.2.1 129 = .ok (.goto (-39), 3) := by decide +kernel
theorem D10_layRacks_132 : decode m10_layRacks.2.1 132 = .ok (.aload_n 0, 1) := by decide +kernel
theorem D10_layRacks_133 : decode m10_layRacks.2.1 133 = .ok (.iload_n 1, 1) := by decide +kernel
theorem D10_layRacks_134 : decode m10_layRacks.2.1 134 = .ok (.invokevirtual 397, 3) := by decide +kernel
theorem D10_layRacks_137 : decode m10_layRacks.2.1 137 = .ok (.aload_n 0, 1) := by decide +kernel
theorem D10_layRacks_138 : decode m10_layRacks.2.1 138 = .ok (.iconst 1, 1) := by decide +kernel
theorem D10_layRacks_139 : decode m10_layRacks.2.1 139 = .ok (.iconst 2, 1) := by decide +kernel
theorem D10_layRacks_140 : decode m10_layRacks.2.1 140 = .ok (.invokevirtual 431, 3) := by decide +kernel
theorem D10_layRacks_143 : decode m10_layRacks.2.1 143 = .ok (.aload_n 0, 1) := by decide +kernel
theorem D10_layRacks_144 : decode m10_layRacks.2.1 144 = .ok (.iconst 0, 1) := by decide +kernel
theorem D10_layRacks_145 : decode m10_layRacks.2.1 145 = .ok (.iconst 2, 1) := by decide +kernel
theorem D10_layRacks_146 : decode m10_layRacks.2.1 146 = .ok (.invokevirtual 431, 3) := by decide +kernel
theorem D10_layRacks_149 : decode m10_layRacks.2.1 149 = .ok (.isub, 1) := by decide +kernel
theorem D10_layRacks_150 : decode m10_layRacks.2.1 150 = .ok (.istore_n 3, 1) := by decide +kernel
theorem D10_layRacks_151 : decode m10_layRacks.2.1 151 = .ok (.aload_n 0, 1) := by decide +kernel
theorem D10_layRacks_152 : decode m10_layRacks.2.1 152 = .ok (.getfield 447, 3) := by decide +kernel
theorem D10_layRacks_155 : decode m10_layRacks.2.1 155 = .ok (.iconst (-1), 1) := by decide +kernel
theorem D10_layRacks_156 : decode m10_layRacks.2.1 156 = .ok (.if_icmp .eq 14, 3) := by decide +kernel
theorem D10_layRacks_159 : decode m10_layRacks.2.1 159 = .ok (.iload_n 3, 1) := by decide +kernel
theorem D10_layRacks_160 : decode m10_layRacks.2.1 160 = .ok (.aload_n 0, 1) := by decide +kernel
theorem D10_layRacks_161 : decode m10_layRacks.2.1 161 = .ok (.getfield 447, 3) := by decide +kernel
theorem D10_layRacks_164 : decode m10_layRacks.2.1 164 = .ok (.if_icmp .lt 6, 3) := by decide +kernel
theorem D10_layRacks_167 : decode m10_layRacks.2.1 167 = .ok (.goto 13, 3) := by decide +kernel
theorem D10_layRacks_170 : decode m10_layRacks.2.1 170 = .ok (.aload_n 0, 1) := by decide +kernel
theorem D10_layRacks_171 : decode m10_layRacks.2.1 171 = .ok (.iload_n 3, 1) := by decide +kernel
theorem D10_layRacks_172 : decode m10_layRacks.2.1 172 = .ok (.putfield 447, 3) := by decide +kernel
theorem D10_layRacks_175 : decode m10_layRacks.2.1 175 = .ok (.aload_n 0, 1) := by decide +kernel
theorem D10_layRacks_176 : decode m10_layRacks.2.1 176 = .ok (.iload_n 2, 1) := by decide +kernel
theorem D10_layRacks_177 : decode m10_layRacks.2.1 177 = .ok (.putfield 450, 3) := by decide +kernel
theorem D10_layRacks_180 : decode m10_layRacks.2.1 180 = .ok (.iinc 2 1, 3) := by decide +kernel
theorem D10_layRacks_183 : decode m10_layRacks.2.1 183 = .ok (.goto (-113), 3) := by decide +kernel
theorem D10_layRacks_186 : decode m10_layRacks.2.1 186 = .ok (.return_, 1) := by decide +kernel
theorem D10_racking_0 : decode m10_racking.2.1 0 = .ok (.aload_n 0, 1) := by decide +kernel
theorem D10_racking_1 : decode m10_racking.2.1 1 = .ok (.iconst 0, 1) := by decide +kernel
theorem D10_racking_2 : decode m10_racking.2.1 2 = .ok (.putfield 139, 3) := by decide +kernel
theorem D10_racking_5 : decode m10_racking.2.1 5 = .ok (.iload_n 1, 1) := by decide +kernel
theorem D10_racking_6 : decode m10_racking.2.1 6 = .ok (.iconst 1, 1) := by decide +kernel
theorem D10_racking_7 : decode m10_racking.2.1 7 = .ok (.if_icmp .lt 18, 3) := by decide +kernel
theorem D10_racking_10 : decode m10_racking.2.1 10 = .ok (.iload_n 1, 1) := by decide +kernel
theorem D10_racking_11 : decode m10_racking.2.1 11 = .ok (.bipush 60, 2) := by decide +kernel
theorem D10_racking_13 : decode m10_racking.2.1 13 = .ok (.if_icmp .gt 12, 3) := by decide +kernel
theorem D10_racking_16 : decode m10_racking.2.1 16 = .ok (.iload_n 2, 1) := by decide +kernel
theorem D10_racking_17 : decode m10_racking.2.1 17 = .ok (.ifCond .lt 8, 3) := by decide +kernel
theorem D10_racking_20 : decode m10_racking.2.1 20 = .ok (.iload_n 2, 1) := by decide +kernel
theorem D10_racking_21 : decode m10_racking.2.1 21 = .ok (.iconst 4, 1) := by decide +kernel
theorem D10_racking_22 : decode m10_racking.2.1 22 = .ok (.if_icmp .le 5, 3) := by decide +kernel
theorem D10_racking_25 : decode m10_racking.2.1 25 = .ok (.iconst (-1), 1) := by decide +kernel
theorem D10_racking_26 : decode m10_racking.2.1 26 = .ok (.ireturn, 1) := by decide +kernel
theorem D10_racking_27 : decode m10_racking.2.1 27 = .ok (.aload_n 0, 1) := by decide +kernel
theorem D10_racking_28 : decode m10_racking.2.1 28 = .ok (.iload_n 1, 1) := by decide +kernel
theorem D10_racking_29 : decode m10_racking.2.1 29 = .ok (.invokevirtual 453, 3) := by decide +kernel
theorem D10_racking_32 : decode m10_racking.2.1 32 = .ok (.iload_n 2, 1) := by decide +kernel
theorem D10_racking_33 : decode m10_racking.2.1 33 = .ok (.iconst 4, 1) := by decide +kernel
theorem D10_racking_34 : decode m10_racking.2.1 34 = .ok (.if_icmp .ne 8, 3) := by decide +kernel
theorem D10_racking_37 : decode m10_racking.2.1 37 = .ok (.aload_n 0, 1) := by decide +kernel
theorem D10_racking_38 : decode m10_racking.2.1 38 = .ok (.getfield 447, 3) := by decide +kernel
theorem D10_racking_41 : decode m10_racking.2.1 41 = .ok (.ireturn, 1) := by decide +kernel
theorem D10_racking_42 : decode m10_racking.2.1 42 = .ok (.iload_n 2, 1) := by decide +kernel
theorem D10_racking_43 : decode m10_racking.2.1 43 = .ok (.aload_n 0, 1) := by decide +kernel
theorem D10_racking_44 : decode m10_racking.2.1 44 = .ok (.getfield 444, 3) := by decide +kernel
theorem D10_racking_47 : decode m10_racking.2.1 47 = .ok (.if_icmp .ge 23, 3) := by decide +kernel
theorem D10_racking_50 : decode m10_racking.2.1 50 = .ok (.aload_n 0, 1) := by decide +kernel
theorem D10_racking_51 : decode m10_racking.2.1 51 = .ok (.getfield 450, 3) := by decide +kernel
theorem D10_racking_54 : decode m10_racking.2.1 54 = .ok (.iconst 2, 1) := by decide +kernel
theorem D10_racking_55 : decode m10_racking.2.1 55 = .ok (.aload_n 0, 1) := by decide +kernel
theorem D10_racking_56 : decode m10_racking.2.1 56 = .ok (.getfield 444, 3) := by decide +kernel
theorem D10_racking_59 : decode m10_racking.2.1 59 = .ok (.iconst 1, 1) := by decide +kernel
theorem D10_racking_60 : decode m10_racking.2.1 60 = .ok (.isub, 1) := by decide +kernel
theorem D10_racking_61 : decode m10_racking.2.1 61 = .ok (.iload_n 2, 1) := by decide +kernel
theorem D10_racking_62 : decode m10_racking.2.1 62 = .ok (.isub, 1) := by decide +kernel
theorem D10_racking_63 : decode m10_racking.2.1 63 = .ok (.imul, 1) := by decide +kernel
theorem D10_racking_64 : decode m10_racking.2.1 64 = .ok (.ishr, 1) := by decide +kernel
theorem D10_racking_65 : decode m10_racking.2.1 65 = .ok (.iconst 3, 1) := by decide +kernel
theorem D10_racking_66 : decode m10_racking.2.1 66 = .ok (.iand, 1) := by decide +kernel
theorem D10_racking_67 : decode m10_racking.2.1 67 = .ok (.goto 5, 3) := by decide +kernel
theorem D10_racking_70 : decode m10_racking.2.1 70 = .ok (.bipush (-2), 2) := by decide +kernel
theorem D10_racking_72 : decode m10_racking.2.1 72 = .ok (.ireturn, 1) := by decide +kernel
theorem D10_fits_0 : decode m10_fits.2.1 0 = .ok (.aload_n 0, 1) := by decide +kernel
theorem D10_fits_1 : decode m10_fits.2.1 1 = .ok (.iconst 0, 1) := by decide +kernel
theorem D10_fits_2 : decode m10_fits.2.1 2 = .ok (.iload_n 2, 1) := by decide +kernel
theorem D10_fits_3 : decode m10_fits.2.1 3 = .ok (.invokevirtual 328, 3) := by decide +kernel
theorem D10_fits_6 : decode m10_fits.2.1 6 = .ok (.ifCond .eq 37, 3) := by decide +kernel
theorem D10_fits_9 : decode m10_fits.2.1 9 = .ok (.aload_n 0, 1) := by decide +kernel
theorem D10_fits_10 : decode m10_fits.2.1 10 = .ok (.getfield 87, 3) := by decide +kernel
theorem D10_fits_13 : decode m10_fits.2.1 13 = .ok (.iload_n 2, 1) := by decide +kernel
theorem D10_fits_14 : decode m10_fits.2.1 14 = .ok (.iaload, 1) := by decide +kernel
theorem D10_fits_15 : decode m10_fits.2.1 15 = .ok (.aload_n 0, 1) := by decide +kernel
theorem D10_fits_16 : decode m10_fits.2.1 16 = .ok (.getfield 46, 3) := by decide +kernel
theorem D10_fits_19 : decode m10_fits.2.1 19 = .ok (.iload_n 1, 1) := by decide +kernel
theorem D10_fits_20 : decode m10_fits.2.1 20 = .ok (.iaload, 1) := by decide +kernel
theorem D10_fits_21 : decode m10_fits.2.1 21 = .ok (.if_icmp .lt 22, 3) := by decide +kernel
theorem D10_fits_24 : decode m10_fits.2.1 24 = .ok (.aload_n 0, 1) := by decide +kernel
theorem D10_fits_25 : decode m10_fits.2.1 25 = .ok (.getfield 87, 3) := by decide +kernel
theorem D10_fits_28 : decode m10_fits.2.1 28 = .ok (.iload_n 2, 1) := by decide +kernel
theorem D10_fits_29 : decode m10_fits.2.1 29 = .ok (.iaload, 1) := by decide +kernel
theorem D10_fits_30 : decode m10_fits.2.1 30 = .ok (.aload_n 0, 1) := by decide +kernel
theorem D10_fits_31 : decode m10_fits.2.1 31 = .ok (.getfield 49, 3) := by decide +kernel
theorem D10_fits_34 : decode m10_fits.2.1 34 = .ok (.iload_n 1, 1) := by decide +kernel
theorem D10_fits_35 : decode m10_fits.2.1 35 = .ok (.iaload, 1) := by decide +kernel
theorem D10_fits_36 : decode m10_fits.2.1 36 = .ok (.if_icmp .gt 7, 3) := by decide +kernel
theorem D10_fits_39 : decode m10_fits.2.1 39 = .ok (.iconst 1, 1) := by decide +kernel
theorem D10_fits_40 : decode m10_fits.2.1 40 = .ok (.goto 4, 3) := by decide +kernel
theorem D10_fits_43 : decode m10_fits.2.1 43 = .ok (.iconst 0, 1) := by decide +kernel
theorem D10_fits_44 : decode m10_fits.2.1 44 = .ok (.ireturn, 1) := by decide +kernel
theorem D10_layServe_0 : decode m10_layServe.2.1 0 = .ok (.aload_n 0, 1) := by decide +kernel
theorem D10_layServe_1 : decode m10_layServe.2.1 1 = .ok (.iconst 0, 1) := by decide +kernel
theorem D10_layServe_2 : decode m10_layServe.2.1 2 = .ok (.putfield 456, 3) := by decide +kernel
theorem D10_layServe_5 : decode m10_layServe.2.1 5 = .ok (.iconst 0, 1) := by decide +kernel
theorem D10_layServe_6 : decode m10_layServe.2.1 6 = .ok (.istore_n 1, 1) := by decide +kernel
theorem D10_layServe_7 : decode m10_layServe.2.1 7 = .ok (.iload_n 1, 1) := by decide +kernel
theorem D10_layServe_8 : decode m10_layServe.2.1 8 = .ok (.aload_n 0, 1) := by decide +kernel
theorem D10_layServe_9 : decode m10_layServe.2.1 9 = .ok (.getfield 13, 3) := by decide +kernel
theorem D10_layServe_12 : decode m10_layServe.2.1 12 = .ok (.iconst 2, 1) := by decide +kernel
theorem D10_layServe_13 : decode m10_layServe.2.1 13 = .ok (.iaload, 1) := by decide +kernel
theorem D10_layServe_14 : decode m10_layServe.2.1 14 = .ok (.if_icmp .ge 57, 3) := by decide +kernel
theorem D10_layServe_17 : decode m10_layServe.2.1 17 = .ok (.aload_n 0, 1) := by decide +kernel
theorem D10_layServe_18 : decode m10_layServe.2.1 18 = .ok (.getfield 102, 3) := by decide +kernel
theorem D10_layServe_21 : decode m10_layServe.2.1 21 = .ok (.iload_n 1, 1) := by decide +kernel
theorem D10_layServe_22 : decode m10_layServe.2.1 22 = .ok (.iaload, 1) := by decide +kernel
theorem D10_layServe_23 : decode m10_layServe.2.1 23 = .ok (.iconst (-1), 1) := by decide +kernel
theorem D10_layServe_24 : decode m10_layServe.2.1 24 = .ok (.if_icmp .ne 41, 3) := by decide +kernel
theorem D10_layServe_27 : decode m10_layServe.2.1 27 = .ok (.aload_n 0, 1) := by decide +kernel
theorem D10_layServe_28 : decode m10_layServe.2.1 28 = .ok (.getfield 43, 3) := by decide +kernel
theorem D10_layServe_31 : decode m10_layServe.2.1 31 = .ok (.iload_n 1, 1) := by decide +kernel
theorem D10_layServe_32 : decode m10_layServe.2.1 32 = .ok (.iaload, 1) := by decide +kernel
theorem D10_layServe_33 : decode m10_layServe.2.1 33 = .ok (.aload_n 0, 1) := by decide +kernel
theorem D10_layServe_34 : decode m10_layServe.2.1 34 = .ok (.getfield 75, 3) := by decide +kernel
theorem D10_layServe_37 : decode m10_layServe.2.1 37 = .ok (.iconst 0, 1) := by decide +kernel
theorem D10_layServe_38 : decode m10_layServe.2.1 38 = .ok (.iaload, 1) := by decide +kernel
theorem D10_layServe_39 : decode m10_layServe.2.1 39 = .ok (.if_icmp .ge 6, 3) := by decide +kernel
theorem D10_layServe_42 : decode m10_layServe.2.1 42 = .ok (.goto 23, 3) := by decide +kernel
theorem D10_layServe_45 : decode m10_layServe.2.1 45 = .ok (.aload_n 0, 1) := by decide +kernel
theorem D10_layServe_46 : decode m10_layServe.2.1 46 = .ok (.getfield 111, 3) := by decide +kernel
theorem D10_layServe_49 : decode m10_layServe.2.1 49 = .ok (.aload_n 0, 1) := by decide +kernel
theorem D10_layServe_50 : decode m10_layServe.2.1 50 = .ok (.getfield 456, 3) := by decide +kernel
theorem D10_layServe_53 : decode m10_layServe.2.1 53 = .ok (.iload_n 1, 1) := by decide +kernel
theorem D10_layServe_54 : decode m10_layServe.2.1 54 = .ok (.iastore, 1) := by decide +kernel
theorem D10_layServe_55 : decode m10_layServe.2.1 55 = .ok (.aload_n 0, 1) := by decide +kernel
theorem D10_layServe_56 : decode m10_layServe.2.1 56 = .ok (.dup, 1) := by decide +kernel
theorem D10_layServe_57 : decode m10_layServe.2.1 57 = .ok (.getfield 456, 3) := by decide +kernel
theorem D10_layServe_60 : decode m10_layServe.2.1 60 = .ok (.iconst 1, 1) := by decide +kernel
theorem D10_layServe_61 : decode m10_layServe.2.1 61 = .ok (.iadd, 1) := by decide +kernel
theorem D10_layServe_62 : decode m10_layServe.2.1 62 = .ok (.putfield 456, 3) := by decide +kernel
theorem D10_layServe_65 : decode m10_layServe.2.1 65 = .ok (.iinc 1 1, 3) := by decide +kernel
theorem D10_layServe_68 : decode m10_layServe.2.1 68 = .ok (.goto (-61), 3) := by decide +kernel
theorem D10_layServe_71 : decode m10_layServe.2.1 71 = .ok (.iconst 0, 1) := by decide +kernel
theorem D10_layServe_72 : decode m10_layServe.2.1 72 = .ok (.istore_n 1, 1) := by decide +kernel
theorem D10_layServe_73 : decode m10_layServe.2.1 73 = .ok (.iload_n 1, 1) := by decide +kernel
theorem D10_layServe_74 : decode m10_layServe.2.1 74 = .ok (.sipush 1024, 3) := by decide +kernel
theorem D10_layServe_77 : decode m10_layServe.2.1 77 = .ok (.if_icmp .ge 25, 3) := by decide +kernel
theorem D10_layServe_80 : decode m10_layServe.2.1 80 = .ok (.aload_n 0, 1) := by decide +kernel
theorem D10_layServe_81 : decode m10_layServe.2.1 81 = .ok (.getfield 114, 3) := by decide +kernel
theorem D10_layServe_84 : decode m10_layServe.2.1 84 = .ok (.sipush 1024, 3) := by decide +kernel
theorem D10_layServe_87 : decode m10_layServe.2.1 87 = .ok (.aload_n 0, 1) := by decide +kernel
theorem D10_layServe_88 : decode m10_layServe.2.1 88 = .ok (.getfield 456, 3) := by decide +kernel
theorem D10_layServe_91 : decode m10_layServe.2.1 91 = .ok (.imul, 1) := by decide +kernel
theorem D10_layServe_92 : decode m10_layServe.2.1 92 = .ok (.iload_n 1, 1) := by decide +kernel
theorem D10_layServe_93 : decode m10_layServe.2.1 93 = .ok (.iadd, 1) := by decide +kernel
theorem D10_layServe_94 : decode m10_layServe.2.1 94 = .ok (.iconst 0, 1) := by decide +kernel
theorem D10_layServe_95 : decode m10_layServe.2.1 95 = .ok (.iastore, 1) := by decide +kernel
theorem D10_layServe_96 : decode m10_layServe.2.1 96 = .ok (.iinc 1 1, 3) := by decide +kernel
theorem D10_layServe_99 : decode m10_layServe.2.1 99 = .ok (.goto (-26), 3) := by decide +kernel
theorem D10_layServe_102 : decode m10_layServe.2.1 102 = .ok (.aload_n 0, 1) := by decide +kernel
theorem D10_layServe_103 : decode m10_layServe.2.1 103 = .ok (.getfield 456, 3) := by decide +kernel
theorem D10_layServe_106 : decode m10_layServe.2.1 106 = .ok (.iconst 1, 1) := by decide +kernel
theorem D10_layServe_107 : decode m10_layServe.2.1 107 = .ok (.isub, 1) := by decide +kernel
theorem D10_layServe_108 : decode m10_layServe.2.1 108 = .ok (.istore_n 1, 1) := by decide +kernel
theorem D10_layServe_109 : decode m10_layServe.2.1 109 = .ok (.iload_n 1, 1) := by decide +kernel
theorem D10_layServe_110 : decode m10_layServe.2.1 110 = .ok (.ifCond .lt 126, 3) := by decide +kernel
theorem D10_layServe_113 : decode m10_layServe.2.1 113 = .ok (.iconst 0, 1) := by decide +kernel
theorem D10_layServe_114 : decode m10_layServe.2.1 114 = .ok (.istore_n 2, 1) := by decide +kernel
theorem D10_layServe_115 : decode m10_layServe.2.1 115 = .ok (.iload_n 2, 1) := by decide +kernel
theorem D10_layServe_116 : decode m10_layServe.2.1 116 = .ok (.sipush 1024, 3) := by decide +kernel
theorem D10_layServe_119 : decode m10_layServe.2.1 119 = .ok (.if_icmp .ge 111, 3) := by decide +kernel
theorem D10_layServe_122 : decode m10_layServe.2.1 122 = .ok (.aload_n 0, 1) := by decide +kernel
theorem D10_layServe_123 : decode m10_layServe.2.1 123 = .ok (.getfield 114, 3) := by decide +kernel
theorem D10_layServe_126 : decode m10_layServe.2.1 126 = .ok (.sipush 1024, 3) := by decide +kernel
theorem D10_layServe_129 : decode m10_layServe.2.1 129 = .ok (.iload_n 1, 1) := by decide +kernel
theorem D10_layServe_130 : decode m10_layServe.2.1 130 = .ok (.iconst 1, 1) := by decide +kernel
theorem D10_layServe_131 : decode m10_layServe.2.1 131 = .ok (.iadd, 1) := by decide +kernel
theorem D10_layServe_132 : decode m10_layServe.2.1 132 = .ok (.imul, 1) := by decide +kernel
theorem D10_layServe_133 : decode m10_layServe.2.1 133 = .ok (.iload_n 2, 1) := by decide +kernel
theorem D10_layServe_134 : decode m10_layServe.2.1 134 = .ok (.iadd, 1) := by decide +kernel
theorem D10_layServe_135 : decode m10_layServe.2.1 135 = .ok (.iaload, 1) := by decide +kernel
theorem D10_layServe_136 : decode m10_layServe.2.1 136 = .ok (.istore_n 3, 1) := by decide +kernel
theorem D10_layServe_137 : decode m10_layServe.2.1 137 = .ok (.iconst 0, 1) := by decide +kernel
theorem D10_layServe_138 : decode m10_layServe.2.1 138 = .ok (.istore 4, 2) := by decide +kernel
theorem D10_layServe_140 : decode m10_layServe.2.1 140 = .ok (.iload 4, 2) := by decide +kernel
theorem D10_layServe_142 : decode m10_layServe.2.1 142 = .ok (.aload_n 0, 1) := by decide +kernel
theorem D10_layServe_143 : decode m10_layServe.2.1 143 = .ok (.getfield 13, 3) := by decide +kernel
theorem D10_layServe_146 : decode m10_layServe.2.1 146 = .ok (.iconst 1, 1) := by decide +kernel
theorem D10_layServe_147 : decode m10_layServe.2.1 147 = .ok (.iaload, 1) := by decide +kernel
theorem D10_layServe_148 : decode m10_layServe.2.1 148 = .ok (.if_icmp .ge 63, 3) := by decide +kernel
theorem D10_layServe_151 : decode m10_layServe.2.1 151 = .ok (.iload_n 2, 1) := by decide +kernel
theorem D10_layServe_152 : decode m10_layServe.2.1 152 = .ok (.iload 4, 2) := by decide +kernel
theorem D10_layServe_154 : decode m10_layServe.2.1 154 = .ok (.ishr, 1) := by decide +kernel
theorem D10_layServe_155 : decode m10_layServe.2.1 155 = .ok (.iconst 1, 1) := by decide +kernel
theorem D10_layServe_156 : decode m10_layServe.2.1 156 = .ok (.iand, 1) := by decide +kernel
theorem D10_layServe_157 : decode m10_layServe.2.1 157 = .ok (.iconst 1, 1) := by decide +kernel
theorem D10_layServe_158 : decode m10_layServe.2.1 158 = .ok (.if_icmp .eq 47, 3) := by decide +kernel
theorem D10_layServe_161 : decode m10_layServe.2.1 161 = .ok (.aload_n 0, 1) := by decide +kernel
theorem D10_layServe_162 : decode m10_layServe.2.1 162 = .ok (.aload_n 0, 1) := by decide +kernel
theorem D10_layServe_163 : decode m10_layServe.2.1 163 = .ok (.getfield 111, 3) := by decide +kernel
theorem D10_layServe_166 : decode m10_layServe.2.1 166 = .ok (.iload_n 1, 1) := by decide +kernel
theorem D10_layServe_167 : decode m10_layServe.2.1 167 = .ok (.iaload, 1) := by decide +kernel
theorem D10_layServe_168 : decode m10_layServe.2.1 168 = .ok (.iload 4, 2) := by decide +kernel
theorem D10_layServe_170 : decode m10_layServe.2.1 170 = .ok (.invokevirtual 459, 3) := by decide +kernel
theorem D10_layServe_173 : decode m10_layServe.2.1 173 = .ok (.ifCond .ne 6, 3) := by decide +kernel
theorem D10_layServe_176 : decode m10_layServe.2.1 176 = .ok (.goto 29, 3) := by decide +kernel
theorem D10_layServe_179 : decode m10_layServe.2.1 179 = .ok (.iload_n 3, 1) := by decide +kernel
theorem D10_layServe_180 : decode m10_layServe.2.1 180 = .ok (.iconst 1, 1) := by decide +kernel
theorem D10_layServe_181 : decode m10_layServe.2.1 181 = .ok (.aload_n 0, 1) := by decide +kernel
theorem D10_layServe_182 : decode m10_layServe.2.1 182 = .ok (.getfield 114, 3) := by decide +kernel
theorem D10_layServe_185 : decode m10_layServe.2.1 185 = .ok (.sipush 1024, 3) := by decide +kernel
theorem D10_layServe_188 : decode m10_layServe.2.1 188 = .ok (.iload_n 1, 1) := by decide +kernel
theorem D10_layServe_189 : decode m10_layServe.2.1 189 = .ok (.iconst 1, 1) := by decide +kernel
theorem D10_layServe_190 : decode m10_layServe.2.1 190 = .ok (.iadd, 1) := by decide +kernel
theorem D10_layServe_191 : decode m10_layServe.2.1 191 = .ok (.imul, 1) := by decide +kernel
theorem D10_layServe_192 : decode m10_layServe.2.1 192 = .ok (.iload_n 2, 1) := by decide +kernel
theorem D10_layServe_193 : decode m10_layServe.2.1 193 = .ok (.iconst 1, 1) := by decide +kernel
theorem D10_layServe_194 : decode m10_layServe.2.1 194 = .ok (.iload 4, 2) := by decide +kernel
theorem D10_layServe_196 : decode m10_layServe.2.1 196 = .ok (.ishl, 1) := by decide +kernel
theorem D10_layServe_197 : decode m10_layServe.2.1 197 = .ok (.ior, 1) := by decide +kernel
theorem D10_layServe_198 : decode m10_layServe.2.1 198 = .ok (.iadd, 1) := by decide +kernel
theorem D10_layServe_199 : decode m10_layServe.2.1 199 = .ok (.iaload, 1) := by decide +kernel
theorem D10_layServe_200 : decode m10_layServe.2.1 200 = .ok (.iadd, 1) := by decide +kernel
theorem D10_layServe_201 : decode m10_layServe.2.1 201 = .ok (.invokestatic 369, 3) := by decide +kernel
theorem D10_layServe_204 : decode m10_layServe.2.1 204 = .ok (.istore_n 3, 1) := by decide +kernel
theorem D10_layServe_205 : decode m10_layServe.2.1 205 = .ok (.iinc 4 1, 3) := by decide +kernel
theorem D10_layServe_208 : decode m10_layServe.2.1 208 = .ok (.goto (-68), 3) := by decide +kernel
theorem D10_layServe_211 : decode m10_layServe.2.1 211 = .ok (.aload_n 0, 1) := by decide +kernel
theorem D10_layServe_212 : decode m10_layServe.2.1 212 = .ok (.getfield 114, 3) := by decide +kernel
theorem D10_layServe_215 : decode m10_layServe.2.1 215 = .ok (.sipush 1024, 3) := by decide +kernel
theorem D10_layServe_218 : decode m10_layServe.2.1 218 = .ok (.iload_n 1, 1) := by decide +kernel
theorem D10_layServe_219 : decode m10_layServe.2.1 219 = .ok (.imul, 1) := by decide +kernel
theorem D10_layServe_220 : decode m10_layServe.2.1 220 = .ok (.iload_n 2, 1) := by decide +kernel
theorem D10_layServe_221 : decode m10_layServe.2.1 221 = .ok (.iadd, 1) := by decide +kernel
theorem D10_layServe_222 : decode m10_layServe.2.1 222 = .ok (.iload_n 3, 1) := by decide +kernel
theorem D10_layServe_223 : decode m10_layServe.2.1 223 = .ok (.iastore, 1) := by decide +kernel
theorem D10_layServe_224 : decode m10_layServe.2.1 224 = .ok (.iinc 2 1, 3) := by decide +kernel
theorem D10_layServe_227 : decode m10_layServe.2.1 227 = .ok (.goto (-112), 3) := by decide +kernel
theorem D10_layServe_230 : decode m10_layServe.2.1 230 = .ok (.iinc 1 (-1), 3) := by decide +kernel
theorem D10_layServe_233 : decode m10_layServe.2.1 233 = .ok (.goto (-124), 3) := by decide +kernel
theorem D10_layServe_236 : decode m10_layServe.2.1 236 = .ok (.return_, 1) := by decide +kernel
theorem D10_servedBy_0 : decode m10_servedBy.2.1 0 = .ok (.iconst 0, 1) := by decide +kernel
theorem D10_servedBy_1 : decode m10_servedBy.2.1 1 = .ok (.istore_n 3, 1) := by decide +kernel
theorem D10_servedBy_2 : decode m10_servedBy.2.1 2 = .ok (.iload_n 3, 1) := by decide +kernel
theorem D10_servedBy_3 : decode m10_servedBy.2.1 3 = .ok (.aload_n 0, 1) := by decide +kernel
theorem D10_servedBy_4 : decode m10_servedBy.2.1 4 = .ok (.getfield 13, 3) := by decide +kernel
theorem D10_servedBy_7 : decode m10_servedBy.2.1 7 = .ok (.iconst 1, 1) := by decide +kernel
theorem D10_servedBy_8 : decode m10_servedBy.2.1 8 = .ok (.iaload, 1) := by decide +kernel
theorem D10_servedBy_9 : decode m10_servedBy.2.1 9 = .ok (.if_icmp .ge 72, 3) := by decide +kernel
theorem D10_servedBy_12 : decode m10_servedBy.2.1 12 = .ok (.iload_n 2, 1) := by decide +kernel
theorem D10_servedBy_13 : decode m10_servedBy.2.1 13 = .ok (.iload_n 3, 1) := by decide +kernel
theorem D10_servedBy_14 : decode m10_servedBy.2.1 14 = .ok (.ishr, 1) := by decide +kernel
theorem D10_servedBy_15 : decode m10_servedBy.2.1 15 = .ok (.iconst 1, 1) := by decide +kernel
theorem D10_servedBy_16 : decode m10_servedBy.2.1 16 = .ok (.iand, 1) := by decide +kernel
theorem D10_servedBy_17 : decode m10_servedBy.2.1 17 = .ok (.iconst 1, 1) := by decide +kernel
theorem D10_servedBy_18 : decode m10_servedBy.2.1 18 = .ok (.if_icmp .eq 57, 3) := by decide +kernel
theorem D10_servedBy_21 : decode m10_servedBy.2.1 21 = .ok (.aload_n 0, 1) := by decide +kernel
theorem D10_servedBy_22 : decode m10_servedBy.2.1 22 = .ok (.aload_n 0, 1) := by decide +kernel
theorem D10_servedBy_23 : decode m10_servedBy.2.1 23 = .ok (.getfield 111, 3) := by decide +kernel
theorem D10_servedBy_26 : decode m10_servedBy.2.1 26 = .ok (.iload_n 1, 1) := by decide +kernel
theorem D10_servedBy_27 : decode m10_servedBy.2.1 27 = .ok (.iaload, 1) := by decide +kernel
theorem D10_servedBy_28 : decode m10_servedBy.2.1 28 = .ok (.iload_n 3, 1) := by decide +kernel
theorem D10_servedBy_29 : decode m10_servedBy.2.1 29 = .ok (.invokevirtual 459, 3) := by decide +kernel
theorem D10_servedBy_32 : decode m10_servedBy.2.1 32 = .ok (.ifCond .ne 6, 3) := by decide +kernel
theorem D10_servedBy_35 : decode m10_servedBy.2.1 35 = .ok (.goto 40, 3) := by decide +kernel
theorem D10_servedBy_38 : decode m10_servedBy.2.1 38 = .ok (.iconst 1, 1) := by decide +kernel
theorem D10_servedBy_39 : decode m10_servedBy.2.1 39 = .ok (.aload_n 0, 1) := by decide +kernel
theorem D10_servedBy_40 : decode m10_servedBy.2.1 40 = .ok (.getfield 114, 3) := by decide +kernel
theorem D10_servedBy_43 : decode m10_servedBy.2.1 43 = .ok (.sipush 1024, 3) := by decide +kernel
theorem D10_servedBy_46 : decode m10_servedBy.2.1 46 = .ok (.iload_n 1, 1) := by decide +kernel
theorem D10_servedBy_47 : decode m10_servedBy.2.1 47 = .ok (.iconst 1, 1) := by decide +kernel
theorem D10_servedBy_48 : decode m10_servedBy.2.1 48 = .ok (.iadd, 1) := by decide +kernel
theorem D10_servedBy_49 : decode m10_servedBy.2.1 49 = .ok (.imul, 1) := by decide +kernel
theorem D10_servedBy_50 : decode m10_servedBy.2.1 50 = .ok (.iload_n 2, 1) := by decide +kernel
theorem D10_servedBy_51 : decode m10_servedBy.2.1 51 = .ok (.iconst 1, 1) := by decide +kernel
theorem D10_servedBy_52 : decode m10_servedBy.2.1 52 = .ok (.iload_n 3, 1) := by decide +kernel
theorem D10_servedBy_53 : decode m10_servedBy.2.1 53 = .ok (.ishl, 1) := by decide +kernel
theorem D10_servedBy_54 : decode m10_servedBy.2.1 54 = .ok (.ior, 1) := by decide +kernel
theorem D10_servedBy_55 : decode m10_servedBy.2.1 55 = .ok (.iadd, 1) := by decide +kernel
theorem D10_servedBy_56 : decode m10_servedBy.2.1 56 = .ok (.iaload, 1) := by decide +kernel
theorem D10_servedBy_57 : decode m10_servedBy.2.1 57 = .ok (.iadd, 1) := by decide +kernel
theorem D10_servedBy_58 : decode m10_servedBy.2.1 58 = .ok (.aload_n 0, 1) := by decide +kernel
theorem D10_servedBy_59 : decode m10_servedBy.2.1 59 = .ok (.getfield 114, 3) := by decide +kernel
theorem D10_servedBy_62 : decode m10_servedBy.2.1 62 = .ok (.sipush 1024, 3) := by decide +kernel
theorem D10_servedBy_65 : decode m10_servedBy.2.1 65 = .ok (.iload_n 1, 1) := by decide +kernel
theorem D10_servedBy_66 : decode m10_servedBy.2.1 66 = .ok (.imul, 1) := by decide +kernel
theorem D10_servedBy_67 : decode m10_servedBy.2.1 67 = .ok (.iload_n 2, 1) := by decide +kernel
theorem D10_servedBy_68 : decode m10_servedBy.2.1 68 = .ok (.iadd, 1) := by decide +kernel
theorem D10_servedBy_69 : decode m10_servedBy.2.1 69 = .ok (.iaload, 1) := by decide +kernel
theorem D10_servedBy_70 : decode m10_servedBy.2.1 70 = .ok (.if_icmp .ne 5, 3) := by decide +kernel
theorem D10_servedBy_73 : decode m10_servedBy.2.1 73 = .ok (.iload_n 3, 1) := by decide +kernel
theorem D10_servedBy_74 : decode m10_servedBy.2.1 74 = .ok (.ireturn, 1) := by decide +kernel
theorem D10_servedBy_75 : decode m10_servedBy.2.1 75 = .ok (.iinc 3 1, 3) := by decide +kernel
theorem D10_servedBy_78 : decode m10_servedBy.2.1 78 = .ok (.goto (-76), 3) := by decide +kernel
theorem D10_servedBy_81 : decode m10_servedBy.2.1 81 = .ok (.iconst (-1), 1) := by decide +kernel
theorem D10_servedBy_82 : decode m10_servedBy.2.1 82 = .ok (.ireturn, 1) := by decide +kernel
theorem D10_serve_0 : decode m10_serve.2.1 0 = .ok (.aload_n 0, 1) := by decide +kernel
theorem D10_serve_1 : decode m10_serve.2.1 1 = .ok (.iconst 0, 1) := by decide +kernel
theorem D10_serve_2 : decode m10_serve.2.1 2 = .ok (.putfield 139, 3) := by decide +kernel
theorem D10_serve_5 : decode m10_serve.2.1 5 = .ok (.aload_n 0, 1) := by decide +kernel
theorem D10_serve_6 : decode m10_serve.2.1 6 = .ok (.iload_n 1, 1) := by decide +kernel
theorem D10_serve_7 : decode m10_serve.2.1 7 = .ok (.invokevirtual 415, 3) := by decide +kernel
theorem D10_serve_10 : decode m10_serve.2.1 10 = .ok (.ifCond .eq 28, 3) := by decide +kernel
theorem D10_serve_13 : decode m10_serve.2.1 13 = .ok (.aload_n 0, 1) := by decide +kernel
theorem D10_serve_14 : decode m10_serve.2.1 14 = .ok (.getfield 102, 3) := by decide +kernel
theorem D10_serve_17 : decode m10_serve.2.1 17 = .ok (.iload_n 1, 1) := by decide +kernel
theorem D10_serve_18 : decode m10_serve.2.1 18 = .ok (.iaload, 1) := by decide +kernel
theorem D10_serve_19 : decode m10_serve.2.1 19 = .ok (.iconst (-1), 1) := by decide +kernel
theorem D10_serve_20 : decode m10_serve.2.1 20 = .ok (.if_icmp .ne 18, 3) := by decide +kernel
theorem D10_serve_23 : decode m10_serve.2.1 23 = .ok (.aload_n 0, 1) := by decide +kernel
theorem D10_serve_24 : decode m10_serve.2.1 24 = .ok (.getfield 43, 3) := by decide +kernel
theorem D10_serve_27 : decode m10_serve.2.1 27 = .ok (.iload_n 1, 1) := by decide +kernel
theorem D10_serve_28 : decode m10_serve.2.1 28 = .ok (.iaload, 1) := by decide +kernel
theorem D10_serve_29 : decode m10_serve.2.1 29 = .ok (.aload_n 0, 1) := by decide +kernel
theorem D10_serve_30 : decode m10_serve.2.1 30 = .ok (.getfield 75, 3) := by decide +kernel
theorem D10_serve_33 : decode m10_serve.2.1 33 = .ok (.iconst 0, 1) := by decide +kernel
theorem D10_serve_34 : decode m10_serve.2.1 34 = .ok (.iaload, 1) := by decide +kernel
theorem D10_serve_35 : decode m10_serve.2.1 35 = .ok (.if_icmp .ge 5, 3) := by decide +kernel
theorem D10_serve_38 : decode m10_serve.2.1 38 = .ok (.iconst (-1), 1) := by decide +kernel
theorem D10_serve_39 : decode m10_serve.2.1 39 = .ok (.ireturn, 1) := by decide +kernel
theorem D10_serve_40 : decode m10_serve.2.1 40 = .ok (.aload_n 0, 1) := by decide +kernel
theorem D10_serve_41 : decode m10_serve.2.1 41 = .ok (.invokevirtual 462, 3) := by decide +kernel
theorem D10_serve_44 : decode m10_serve.2.1 44 = .ok (.iconst 0, 1) := by decide +kernel
theorem D10_serve_45 : decode m10_serve.2.1 45 = .ok (.istore_n 2, 1) := by decide +kernel
theorem D10_serve_46 : decode m10_serve.2.1 46 = .ok (.iconst 0, 1) := by decide +kernel
theorem D10_serve_47 : decode m10_serve.2.1 47 = .ok (.istore_n 3, 1) := by decide +kernel
theorem D10_serve_48 : decode m10_serve.2.1 48 = .ok (.iload_n 3, 1) := by decide +kernel
theorem D10_serve_49 : decode m10_serve.2.1 49 = .ok (.aload_n 0, 1) := by decide +kernel
theorem D10_serve_50 : decode m10_serve.2.1 50 = .ok (.getfield 456, 3) := by decide +kernel
theorem D10_serve_53 : decode m10_serve.2.1 53 = .ok (.if_icmp .ge 58, 3) := by decide +kernel
theorem D10_serve_56 : decode m10_serve.2.1 56 = .ok (.aload_n 0, 1) := by decide +kernel
theorem D10_serve_57 : decode m10_serve.2.1 57 = .ok (.iload_n 3, 1) := by decide +kernel
theorem D10_serve_58 : decode m10_serve.2.1 58 = .ok (.iload_n 2, 1) := by decide +kernel
theorem D10_serve_59 : decode m10_serve.2.1 59 = .ok (.invokevirtual 465, 3) := by decide +kernel
theorem D10_serve_62 : decode m10_serve.2.1 62 = .ok (.istore 4, 2) := by decide +kernel
theorem D10_serve_64 : decode m10_serve.2.1 64 = .ok (.aload_n 0, 1) := by decide +kernel
theorem D10_serve_65 : decode m10_serve.2.1 65 = .ok (.getfield 111, 3) := by decide +kernel
theorem D10_serve_68 : decode m10_serve.2.1 68 = .ok (.iload_n 3, 1) := by decide +kernel
theorem D10_serve_69 : decode m10_serve.2.1 69 = .ok (.iaload, 1) := by decide +kernel
theorem D10_serve_70 : decode m10_serve.2.1 70 = .ok (.iload_n 1, 1) := by decide +kernel
theorem D10_serve_71 : decode m10_serve.2.1 71 = .ok (.if_icmp .ne 17, 3) := by decide +kernel
theorem D10_serve_74 : decode m10_serve.2.1 74 = .ok (.iload 4, 2) := by decide +kernel
theorem D10_serve_76 : decode m10_serve.2.1 76 = .ok (.iconst (-1), 1) := by decide +kernel
theorem D10_serve_77 : decode m10_serve.2.1 77 = .ok (.if_icmp .ne 8, 3) := by decide +kernel
theorem D10_serve_80 : decode m10_serve.2.1 80 = .ok (.bipush (-2), 2) := by decide +kernel
theorem D10_serve_82 : decode m10_serve.2.1 82 = .ok (.goto 5, 3) := by decide +kernel
theorem D10_serve_85 : decode m10_serve.2.1 85 = .ok (.iload 4, 2) := by decide +kernel
theorem D10_serve_87 : decode m10_serve.2.1 87 = .ok (.ireturn, 1) := by decide +kernel
theorem D10_serve_88 : decode m10_serve.2.1 88 = .ok (.iload_n 2, 1) := by decide +kernel
theorem D10_serve_89 : decode m10_serve.2.1 89 = .ok (.iload 4, 2) := by decide +kernel
theorem D10_serve_91 : decode m10_serve.2.1 91 = .ok (.iconst (-1), 1) := by decide +kernel
theorem D10_serve_92 : decode m10_serve.2.1 92 = .ok (.if_icmp .ne 7, 3) := by decide +kernel
theorem D10_serve_95 : decode m10_serve.2.1 95 = .ok (.iconst 0, 1) := by decide +kernel
theorem D10_serve_96 : decode m10_serve.2.1 96 = .ok (.goto 7, 3) := by decide +kernel
theorem D10_serve_99 : decode m10_serve.2.1 99 = .ok (.iconst 1, 1) := by decide +kernel
theorem D10_serve_100 : decode m10_serve.2.1 100 = .ok (.iload 4, 2) := by decide +kernel
theorem D10_serve_102 : decode m10_serve.2.1 102 = .ok (.ishl, 1) := by decide +kernel
theorem D10_serve_103 : decode m10_serve.2.1 103 = .ok (.ior, 1) := by decide +kernel
theorem D10_serve_104 : decode m10_serve.2.1 104 = .ok (.istore_n 2, 1) := by decide +kernel
theorem D10_serve_105 : decode m10_serve.2.1 105 = .ok (.iinc 3 1, 3) := by decide +kernel
theorem D10_serve_108 : decode m10_serve.2.1 108 = .ok (.goto (-60), 3) := by decide +kernel
theorem D10_serve_111 : decode m10_serve.2.1 111 = .ok (.iconst (-1), 1) := by decide +kernel
theorem D10_serve_112 : decode m10_serve.2.1 112 = .ok (.ireturn, 1) := by decide +kernel
theorem D10_served_0 : decode m10_served.2.1 0 = .ok (.aload_n 0, 1) := by decide +kernel
theorem D10_served_1 : decode m10_served.2.1 1 = .ok (.iconst 0, 1) := by decide +kernel
theorem D10_served_2 : decode m10_served.2.1 2 = .ok (.putfield 139, 3) := by decide +kernel
theorem D10_served_5 : decode m10_served.2.1 5 = .ok (.aload_n 0, 1) := by decide +kernel
theorem D10_served_6 : decode m10_served.2.1 6 = .ok (.invokevirtual 462, 3) := by decide +kernel
theorem D10_served_9 : decode m10_served.2.1 9 = .ok (.aload_n 0, 1) := by decide +kernel
theorem D10_served_10 : decode m10_served.2.1 10 = .ok (.getfield 114, 3) := by decide +kernel
theorem D10_served_13 : decode m10_served.2.1 13 = .ok (.iconst 0, 1) := by decide +kernel
theorem D10_served_14 : decode m10_served.2.1 14 = .ok (.iaload, 1) := by decide +kernel
theorem D10_served_15 : decode m10_served.2.1 15 = .ok (.ireturn, 1) := by decide +kernel
theorem D10_pour_0 : decode m10_pour.2.1 0 = .ok (.aload_n 0, 1) := by decide +kernel
theorem D10_pour_1 : decode m10_pour.2.1 1 = .ok (.iconst 0, 1) := by decide +kernel
theorem D10_pour_2 : decode m10_pour.2.1 2 = .ok (.putfield 139, 3) := by decide +kernel
theorem D10_pour_5 : decode m10_pour.2.1 5 = .ok (.iload_n 1, 1) := by decide +kernel
theorem D10_pour_6 : decode m10_pour.2.1 6 = .ok (.ifCond .lt 15, 3) := by decide +kernel
theorem D10_pour_9 : decode m10_pour.2.1 9 = .ok (.iload_n 2, 1) := by decide +kernel
theorem D10_pour_10 : decode m10_pour.2.1 10 = .ok (.iload_n 1, 1) := by decide +kernel
theorem D10_pour_11 : decode m10_pour.2.1 11 = .ok (.if_icmp .lt 10, 3) := by decide +kernel
theorem D10_pour_14 : decode m10_pour.2.1 14 = .ok (.iload_n 2, 1) := by decide +kernel
theorem D10_pour_15 : decode m10_pour.2.1 15 = .ok (.sipush 199, 3) := by decide +kernel
theorem D10_pour_18 : decode m10_pour.2.1 18 = .ok (.if_icmp .le 5, 3) := by decide +kernel
theorem D10_pour_21 : decode m10_pour.2.1 21 = .ok (.iconst (-1), 1) := by decide +kernel
theorem D10_pour_22 : decode m10_pour.2.1 22 = .ok (.ireturn, 1) := by decide +kernel
theorem D10_pour_23 : decode m10_pour.2.1 23 = .ok (.iconst 0, 1) := by decide +kernel
theorem D10_pour_24 : decode m10_pour.2.1 24 = .ok (.istore_n 3, 1) := by decide +kernel
theorem D10_pour_25 : decode m10_pour.2.1 25 = .ok (.iload_n 3, 1) := by decide +kernel
theorem D10_pour_26 : decode m10_pour.2.1 26 = .ok (.aload_n 0, 1) := by decide +kernel
theorem D10_pour_27 : decode m10_pour.2.1 27 = .ok (.getfield 13, 3) := by decide +kernel
theorem D10_pour_30 : decode m10_pour.2.1 30 = .ok (.iconst 1, 1) := by decide +kernel
theorem D10_pour_31 : decode m10_pour.2.1 31 = .ok (.iaload, 1) := by decide +kernel
theorem D10_pour_32 : decode m10_pour.2.1 32 = .ok (.if_icmp .ge 91, 3) := by decide +kernel
theorem D10_pour_35 : decode m10_pour.2.1 35 = .ok (.iload_n 3, 1) := by decide +kernel
theorem D10_pour_36 : decode m10_pour.2.1 36 = .ok (.iconst 1, 1) := by decide +kernel
theorem D10_pour_37 : decode m10_pour.2.1 37 = .ok (.iadd, 1) := by decide +kernel
theorem D10_pour_38 : decode m10_pour.2.1 38 = .ok (.istore 4, 2) := by decide +kernel
theorem D10_pour_40 : decode m10_pour.2.1 40 = .ok (.iload 4, 2) := by decide +kernel
theorem D10_pour_42 : decode m10_pour.2.1 42 = .ok (.aload_n 0, 1) := by decide +kernel
theorem D10_pour_43 : decode m10_pour.2.1 43 = .ok (.getfield 13, 3) := by decide +kernel
theorem D10_pour_46 : decode m10_pour.2.1 46 = .ok (.iconst 1, 1) := by decide +kernel
theorem D10_pour_47 : decode m10_pour.2.1 47 = .ok (.iaload, 1) := by decide +kernel
theorem D10_pour_48 : decode m10_pour.2.1 48 = .ok (.if_icmp .ge 69, 3) := by decide +kernel
theorem D10_pour_51 : decode m10_pour.2.1 51 = .ok (.aload_n 0, 1) := by decide +kernel
theorem D10_pour_52 : decode m10_pour.2.1 52 = .ok (.iconst 0, 1) := by decide +kernel
theorem D10_pour_53 : decode m10_pour.2.1 53 = .ok (.iload_n 3, 1) := by decide +kernel
theorem D10_pour_54 : decode m10_pour.2.1 54 = .ok (.invokevirtual 328, 3) := by decide +kernel
theorem D10_pour_57 : decode m10_pour.2.1 57 = .ok (.ifCond .eq 54, 3) := by decide +kernel
theorem D10_pour_60 : decode m10_pour.2.1 60 = .ok (.aload_n 0, 1) := by decide +kernel
theorem D10_pour_61 : decode m10_pour.2.1 61 = .ok (.iconst 0, 1) := by decide +kernel
theorem D10_pour_62 : decode m10_pour.2.1 62 = .ok (.iload 4, 2) := by decide +kernel
theorem D10_pour_64 : decode m10_pour.2.1 64 = .ok (.invokevirtual 328, 3) := by decide +kernel
theorem D10_pour_67 : decode m10_pour.2.1 67 = .ok (.ifCond .ne 6, 3) := by decide +kernel
theorem D10_pour_70 : decode m10_pour.2.1 70 = .ok (.goto 41, 3) := by decide +kernel
theorem D10_pour_73 : decode m10_pour.2.1 73 = .ok (.aload_n 0, 1) := by decide +kernel
theorem D10_pour_74 : decode m10_pour.2.1 74 = .ok (.getfield 87, 3) := by decide +kernel
theorem D10_pour_77 : decode m10_pour.2.1 77 = .ok (.iload_n 3, 1) := by decide +kernel
theorem D10_pour_78 : decode m10_pour.2.1 78 = .ok (.iaload, 1) := by decide +kernel
theorem D10_pour_79 : decode m10_pour.2.1 79 = .ok (.aload_n 0, 1) := by decide +kernel
theorem D10_pour_80 : decode m10_pour.2.1 80 = .ok (.getfield 87, 3) := by decide +kernel
theorem D10_pour_83 : decode m10_pour.2.1 83 = .ok (.iload 4, 2) := by decide +kernel
theorem D10_pour_85 : decode m10_pour.2.1 85 = .ok (.iaload, 1) := by decide +kernel
theorem D10_pour_86 : decode m10_pour.2.1 86 = .ok (.iadd, 1) := by decide +kernel
theorem D10_pour_87 : decode m10_pour.2.1 87 = .ok (.iconst 2, 1) := by decide +kernel
theorem D10_pour_88 : decode m10_pour.2.1 88 = .ok (.idiv, 1) := by decide +kernel
theorem D10_pour_89 : decode m10_pour.2.1 89 = .ok (.istore 5, 2) := by decide +kernel
theorem D10_pour_91 : decode m10_pour.2.1 91 = .ok (.iload 5, 2) := by decide +kernel
theorem D10_pour_93 : decode m10_pour.2.1 93 = .ok (.iload_n 1, 1) := by decide +kernel
theorem D10_pour_94 : decode m10_pour.2.1 94 = .ok (.if_icmp .lt 17, 3) := by decide +kernel
theorem D10_pour_97 : decode m10_pour.2.1 97 = .ok (.iload 5, 2) := by decide +kernel
theorem D10_pour_99 : decode m10_pour.2.1 99 = .ok (.iload_n 2, 1) := by decide +kernel
theorem D10_pour_100 : decode m10_pour.2.1 100 = .ok (.if_icmp .gt 11, 3) := by decide +kernel
theorem D10_pour_103 : decode m10_pour.2.1 103 = .ok (.bipush 10, 2) := by decide +kernel
theorem D10_pour_105 : decode m10_pour.2.1 105 = .ok (.iload_n 3, 1) := by decide +kernel
theorem D10_pour_106 : decode m10_pour.2.1 106 = .ok (.imul, 1) := by decide +kernel
theorem D10_pour_107 : decode m10_pour.2.1 107 = .ok (.iload 4, 2) := by decide +kernel
theorem D10_pour_109 : decode m10_pour.2.1 109 = .ok (.iadd, 1) := by decide +kernel
theorem D10_pour_110 : decode m10_pour.2.1 110 = .ok (.ireturn, 1) := by decide +kernel
theorem D10_pour_111 : decode m10_pour.2.1 111 = .ok (.iinc 4 1, 3) := by decide +kernel
theorem D10_pour_114 : decode m10_pour.2.1 114 = .ok (.goto (-74), 3) := by decide +kernel
theorem D10_pour_117 : decode m10_pour.2.1 117 = .ok (.iinc 3 1, 3) := by decide +kernel
theorem D10_pour_120 : decode m10_pour.2.1 120 = .ok (.goto (-95), 3) := by decide +kernel
theorem D10_pour_123 : decode m10_pour.2.1 123 = .ok (.bipush (-2), 2) := by decide +kernel
theorem D10_pour_125 : decode m10_pour.2.1 125 = .ok (.ireturn, 1) := by decide +kernel
theorem D10_ripe_0 : decode m10_ripe.2.1 0 = .ok (.aload_n 0, 1) := by decide +kernel
theorem D10_ripe_1 : decode m10_ripe.2.1 1 = .ok (.iconst 0, 1) := by decide +kernel
theorem D10_ripe_2 : decode m10_ripe.2.1 2 = .ok (.putfield 139, 3) := by decide +kernel
theorem D10_ripe_5 : decode m10_ripe.2.1 5 = .ok (.aload_n 0, 1) := by decide +kernel
theorem D10_ripe_6 : decode m10_ripe.2.1 6 = .ok (.iload_n 1, 1) := by decide +kernel
theorem D10_ripe_7 : decode m10_ripe.2.1 7 = .ok (.invokevirtual 403, 3) := by decide +kernel
theorem D10_ripe_10 : decode m10_ripe.2.1 10 = .ok (.ifCond .eq 14, 3) := by decide +kernel
theorem D10_ripe_13 : decode m10_ripe.2.1 13 = .ok (.iload_n 2, 1) := by decide +kernel
theorem D10_ripe_14 : decode m10_ripe.2.1 14 = .ok (.ifCond .lt 10, 3) := by decide +kernel
theorem D10_ripe_17 : decode m10_ripe.2.1 17 = .ok (.iload_n 2, 1) := by decide +kernel
theorem D10_ripe_18 : decode m10_ripe.2.1 18 = .ok (.sipush 199, 3) := by decide +kernel
theorem D10_ripe_21 : decode m10_ripe.2.1 21 = .ok (.if_icmp .le 5, 3) := by decide +kernel
theorem D10_ripe_24 : decode m10_ripe.2.1 24 = .ok (.iconst (-1), 1) := by decide +kernel
theorem D10_ripe_25 : decode m10_ripe.2.1 25 = .ok (.ireturn, 1) := by decide +kernel
theorem D10_ripe_26 : decode m10_ripe.2.1 26 = .ok (.aload_n 0, 1) := by decide +kernel
theorem D10_ripe_27 : decode m10_ripe.2.1 27 = .ok (.iconst 1, 1) := by decide +kernel
theorem D10_ripe_28 : decode m10_ripe.2.1 28 = .ok (.iconst 0, 1) := by decide +kernel
theorem D10_ripe_29 : decode m10_ripe.2.1 29 = .ok (.invokevirtual 394, 3) := by decide +kernel
theorem D10_ripe_32 : decode m10_ripe.2.1 32 = .ok (.iconst 0, 1) := by decide +kernel
theorem D10_ripe_33 : decode m10_ripe.2.1 33 = .ok (.istore_n 3, 1) := by decide +kernel
theorem D10_ripe_34 : decode m10_ripe.2.1 34 = .ok (.iload_n 3, 1) := by decide +kernel
theorem D10_ripe_35 : decode m10_ripe.2.1 35 = .ok (.bipush 99, 2) := by decide +kernel
theorem D10_ripe_37 : decode m10_ripe.2.1 37 = .ok (.if_icmp .gt 39, 3) := by decide +kernel
theorem D10_ripe_40 : decode m10_ripe.2.1 40 = .ok (.aload_n 0, 1) := by decide +kernel
theorem D10_ripe_41 : decode m10_ripe.2.1 41 = .ok (.iconst 1, 1) := by decide +kernel
theorem D10_ripe_42 : decode m10_ripe.2.1 42 = .ok (.iload_n 1, 1) := by decide +kernel
theorem D10_ripe_43 : decode m10_ripe.2.1 43 = .ok (.invokevirtual 328, 3) := by decide +kernel
theorem D10_ripe_46 : decode m10_ripe.2.1 46 = .ok (.ifCond .eq 18, 3) := by decide +kernel
theorem D10_ripe_49 : decode m10_ripe.2.1 49 = .ok (.aload_n 0, 1) := by decide +kernel
theorem D10_ripe_50 : decode m10_ripe.2.1 50 = .ok (.getfield 87, 3) := by decide +kernel
theorem D10_ripe_53 : decode m10_ripe.2.1 53 = .ok (.bipush 10, 2) := by decide +kernel
theorem D10_ripe_55 : decode m10_ripe.2.1 55 = .ok (.iload_n 1, 1) := by decide +kernel
theorem D10_ripe_56 : decode m10_ripe.2.1 56 = .ok (.iadd, 1) := by decide +kernel
theorem D10_ripe_57 : decode m10_ripe.2.1 57 = .ok (.iaload, 1) := by decide +kernel
theorem D10_ripe_58 : decode m10_ripe.2.1 58 = .ok (.iload_n 2, 1) := by decide +kernel
theorem D10_ripe_59 : decode m10_ripe.2.1 59 = .ok (.if_icmp .lt 5, 3) := by decide +kernel
theorem D10_ripe_62 : decode m10_ripe.2.1 62 = .ok (.iload_n 3, 1) := by decide +kernel
theorem D10_ripe_63 : decode m10_ripe.2.1 63 = .ok (.ireturn, 1) := by decide +kernel
theorem D10_ripe_64 : decode m10_ripe.2.1 64 = .ok (.aload_n 0, 1) := by decide +kernel
theorem D10_ripe_65 : decode m10_ripe.2.1 65 = .ok (.iconst 1, 1) := by decide +kernel
theorem D10_ripe_66 : decode m10_ripe.2.1 66 = .ok (.iconst 0, 1) := by decide +kernel
theorem D10_ripe_67 : decode m10_ripe.2.1 67 = .ok (.invokevirtual 390, 3) := by decide +kernel
theorem D10_ripe_70 : decode m10_ripe.2.1 70 = .ok (.iinc 3 1, 3) := by decide +kernel
theorem D10_ripe_73 : decode m10_ripe.2.1 73 = .ok (.goto (-39), 3) := by decide +kernel
theorem D10_ripe_76 : decode m10_ripe.2.1 76 = .ok (.bipush (-2), 2) := by decide +kernel
theorem D10_ripe_78 : decode m10_ripe.2.1 78 = .ok (.ireturn, 1) := by decide +kernel
theorem D10_dowry_0 : decode m10_dowry.2.1 0 = .ok (.aload_n 0, 1) := by decide +kernel
theorem D10_dowry_1 : decode m10_dowry.2.1 1 = .ok (.iconst 0, 1) := by decide +kernel
theorem D10_dowry_2 : decode m10_dowry.2.1 2 = .ok (.putfield 139, 3) := by decide +kernel
theorem D10_dowry_5 : decode m10_dowry.2.1 5 = .ok (.aload_n 0, 1) := by decide +kernel
theorem D10_dowry_6 : decode m10_dowry.2.1 6 = .ok (.iload_n 1, 1) := by decide +kernel
theorem D10_dowry_7 : decode m10_dowry.2.1 7 = .ok (.invokevirtual 406, 3) := by decide +kernel
theorem D10_dowry_10 : decode m10_dowry.2.1 10 = .ok (.ifCond .eq 12, 3) := by decide +kernel
theorem D10_dowry_13 : decode m10_dowry.2.1 13 = .ok (.iload_n 2, 1) := by decide +kernel
theorem D10_dowry_14 : decode m10_dowry.2.1 14 = .ok (.ifCond .lt 8, 3) := by decide +kernel
theorem D10_dowry_17 : decode m10_dowry.2.1 17 = .ok (.iload_n 2, 1) := by decide +kernel
theorem D10_dowry_18 : decode m10_dowry.2.1 18 = .ok (.iconst 1, 1) := by decide +kernel
theorem D10_dowry_19 : decode m10_dowry.2.1 19 = .ok (.if_icmp .le 5, 3) := by decide +kernel
theorem D10_dowry_22 : decode m10_dowry.2.1 22 = .ok (.iconst (-1), 1) := by decide +kernel
theorem D10_dowry_23 : decode m10_dowry.2.1 23 = .ok (.ireturn, 1) := by decide +kernel
theorem D10_dowry_24 : decode m10_dowry.2.1 24 = .ok (.aload_n 0, 1) := by decide +kernel
theorem D10_dowry_25 : decode m10_dowry.2.1 25 = .ok (.iload_n 1, 1) := by decide +kernel
theorem D10_dowry_26 : decode m10_dowry.2.1 26 = .ok (.invokevirtual 409, 3) := by decide +kernel
theorem D10_dowry_29 : decode m10_dowry.2.1 29 = .ok (.istore_n 3, 1) := by decide +kernel
theorem D10_dowry_30 : decode m10_dowry.2.1 30 = .ok (.iconst (-1), 1) := by decide +kernel
theorem D10_dowry_31 : decode m10_dowry.2.1 31 = .ok (.istore 4, 2) := by decide +kernel
theorem D10_dowry_33 : decode m10_dowry.2.1 33 = .ok (.iconst 0, 1) := by decide +kernel
theorem D10_dowry_34 : decode m10_dowry.2.1 34 = .ok (.istore 5, 2) := by decide +kernel
theorem D10_dowry_36 : decode m10_dowry.2.1 36 = .ok (.iconst 0, 1) := by decide +kernel
theorem D10_dowry_37 : decode m10_dowry.2.1 37 = .ok (.istore 6, 2) := by decide +kernel
theorem D10_dowry_39 : decode m10_dowry.2.1 39 = .ok (.iload 6, 2) := by decide +kernel
theorem D10_dowry_41 : decode m10_dowry.2.1 41 = .ok (.iload_n 3, 1) := by decide +kernel
theorem D10_dowry_42 : decode m10_dowry.2.1 42 = .ok (.if_icmp .gt 64, 3) := by decide +kernel
theorem D10_dowry_45 : decode m10_dowry.2.1 45 = .ok (.iload 6, 2) := by decide +kernel
theorem D10_dowry_47 : decode m10_dowry.2.1 47 = .ok (.iload_n 3, 1) := by decide +kernel
theorem D10_dowry_48 : decode m10_dowry.2.1 48 = .ok (.iconst (-1), 1) := by decide +kernel
theorem D10_dowry_49 : decode m10_dowry.2.1 49 = .ok (.ixor, 1) := by decide +kernel
theorem D10_dowry_50 : decode m10_dowry.2.1 50 = .ok (.iand, 1) := by decide +kernel
theorem D10_dowry_51 : decode m10_dowry.2.1 51 = .ok (.ifCond .eq 6, 3) := by decide +kernel
theorem D10_dowry_54 : decode m10_dowry.2.1 54 = .ok (.goto 46, 3) := by decide +kernel
theorem D10_dowry_57 : decode m10_dowry.2.1 57 = .ok (.aload_n 0, 1) := by decide +kernel
theorem D10_dowry_58 : decode m10_dowry.2.1 58 = .ok (.iload_n 3, 1) := by decide +kernel
theorem D10_dowry_59 : decode m10_dowry.2.1 59 = .ok (.invokevirtual 412, 3) := by decide +kernel
theorem D10_dowry_62 : decode m10_dowry.2.1 62 = .ok (.iconst 2, 1) := by decide +kernel
theorem D10_dowry_63 : decode m10_dowry.2.1 63 = .ok (.aload_n 0, 1) := by decide +kernel
theorem D10_dowry_64 : decode m10_dowry.2.1 64 = .ok (.iload 6, 2) := by decide +kernel
theorem D10_dowry_66 : decode m10_dowry.2.1 66 = .ok (.invokevirtual 412, 3) := by decide +kernel
theorem D10_dowry_69 : decode m10_dowry.2.1 69 = .ok (.imul, 1) := by decide +kernel
theorem D10_dowry_70 : decode m10_dowry.2.1 70 = .ok (.isub, 1) := by decide +kernel
theorem D10_dowry_71 : decode m10_dowry.2.1 71 = .ok (.invokestatic 468, 3) := by decide +kernel
theorem D10_dowry_74 : decode m10_dowry.2.1 74 = .ok (.istore 7, 2) := by decide +kernel
theorem D10_dowry_76 : decode m10_dowry.2.1 76 = .ok (.iload 4, 2) := by decide +kernel
theorem D10_dowry_78 : decode m10_dowry.2.1 78 = .ok (.iconst (-1), 1) := by decide +kernel
theorem D10_dowry_79 : decode m10_dowry.2.1 79 = .ok (.if_icmp .eq 13, 3) := by decide +kernel
theorem D10_dowry_82 : decode m10_dowry.2.1 82 = .ok (.iload 7, 2) := by decide +kernel
theorem D10_dowry_84 : decode m10_dowry.2.1 84 = .ok (.iload 5, 2) := by decide +kernel
theorem D10_dowry_86 : decode m10_dowry.2.1 86 = .ok (.if_icmp .lt 6, 3) := by decide +kernel
theorem D10_dowry_89 : decode m10_dowry.2.1 89 = .ok (.goto 11, 3) := by decide +kernel
theorem D10_dowry_92 : decode m10_dowry.2.1 92 = .ok (.iload 6, 2) := by decide +kernel
theorem D10_dowry_94 : decode m10_dowry.2.1 94 = .ok (.istore 4, 2) := by decide +kernel
theorem D10_dowry_96 : decode m10_dowry.2.1 96 = .ok (.iload 7, 2) := by decide +kernel
theorem D10_dowry_98 : decode m10_dowry.2.1 98 = .ok (.istore 5, 2) := by decide +kernel
theorem D10_dowry_100 : decode m10_dowry.2.1 100 = .ok (.iinc 6 1, 3) := by decide +kernel
theorem D10_dowry_103 : decode m10_dowry.2.1 103 = .ok (.goto (-64), 3) := by decide +kernel
theorem D10_dowry_106 : decode m10_dowry.2.1 106 = .ok (.iload_n 2, 1) := by decide +kernel
theorem D10_dowry_107 : decode m10_dowry.2.1 107 = .ok (.ifCond .ne 8, 3) := by decide +kernel
theorem D10_dowry_110 : decode m10_dowry.2.1 110 = .ok (.iload 4, 2) := by decide +kernel
theorem D10_dowry_112 : decode m10_dowry.2.1 112 = .ok (.goto 5, 3) := by decide +kernel
theorem D10_dowry_115 : decode m10_dowry.2.1 115 = .ok (.iload 5, 2) := by decide +kernel
theorem D10_dowry_117 : decode m10_dowry.2.1 117 = .ok (.ireturn, 1) := by decide +kernel
theorem D10_strongest_0 : decode m10_strongest.2.1 0 = .ok (.iconst (-1), 1) := by decide +kernel
theorem D10_strongest_1 : decode m10_strongest.2.1 1 = .ok (.istore_n 2, 1) := by decide +kernel
theorem D10_strongest_2 : decode m10_strongest.2.1 2 = .ok (.iconst 0, 1) := by decide +kernel
theorem D10_strongest_3 : decode m10_strongest.2.1 3 = .ok (.istore_n 3, 1) := by decide +kernel
theorem D10_strongest_4 : decode m10_strongest.2.1 4 = .ok (.iload_n 3, 1) := by decide +kernel
theorem D10_strongest_5 : decode m10_strongest.2.1 5 = .ok (.aload_n 0, 1) := by decide +kernel
theorem D10_strongest_6 : decode m10_strongest.2.1 6 = .ok (.getfield 13, 3) := by decide +kernel
theorem D10_strongest_9 : decode m10_strongest.2.1 9 = .ok (.iconst 1, 1) := by decide +kernel
theorem D10_strongest_10 : decode m10_strongest.2.1 10 = .ok (.iaload, 1) := by decide +kernel
theorem D10_strongest_11 : decode m10_strongest.2.1 11 = .ok (.if_icmp .ge 50, 3) := by decide +kernel
theorem D10_strongest_14 : decode m10_strongest.2.1 14 = .ok (.aload_n 0, 1) := by decide +kernel
theorem D10_strongest_15 : decode m10_strongest.2.1 15 = .ok (.iconst 0, 1) := by decide +kernel
theorem D10_strongest_16 : decode m10_strongest.2.1 16 = .ok (.iload_n 3, 1) := by decide +kernel
theorem D10_strongest_17 : decode m10_strongest.2.1 17 = .ok (.invokevirtual 328, 3) := by decide +kernel
theorem D10_strongest_20 : decode m10_strongest.2.1 20 = .ok (.ifCond .eq 35, 3) := by decide +kernel
theorem D10_strongest_23 : decode m10_strongest.2.1 23 = .ok (.aload_n 0, 1) := by decide +kernel
theorem D10_strongest_24 : decode m10_strongest.2.1 24 = .ok (.getfield 25, 3) := by decide +kernel
theorem D10_strongest_27 : decode m10_strongest.2.1 27 = .ok (.iload_n 3, 1) := by decide +kernel
theorem D10_strongest_28 : decode m10_strongest.2.1 28 = .ok (.iaload, 1) := by decide +kernel
theorem D10_strongest_29 : decode m10_strongest.2.1 29 = .ok (.iload_n 1, 1) := by decide +kernel
theorem D10_strongest_30 : decode m10_strongest.2.1 30 = .ok (.if_icmp .ne 25, 3) := by decide +kernel
theorem D10_strongest_33 : decode m10_strongest.2.1 33 = .ok (.iload_n 2, 1) := by decide +kernel
theorem D10_strongest_34 : decode m10_strongest.2.1 34 = .ok (.iconst (-1), 1) := by decide +kernel
theorem D10_strongest_35 : decode m10_strongest.2.1 35 = .ok (.if_icmp .eq 18, 3) := by decide +kernel
theorem D10_strongest_38 : decode m10_strongest.2.1 38 = .ok (.aload_n 0, 1) := by decide +kernel
theorem D10_strongest_39 : decode m10_strongest.2.1 39 = .ok (.getfield 87, 3) := by decide +kernel
theorem D10_strongest_42 : decode m10_strongest.2.1 42 = .ok (.iload_n 3, 1) := by decide +kernel
theorem D10_strongest_43 : decode m10_strongest.2.1 43 = .ok (.iaload, 1) := by decide +kernel
theorem D10_strongest_44 : decode m10_strongest.2.1 44 = .ok (.aload_n 0, 1) := by decide +kernel
theorem D10_strongest_45 : decode m10_strongest.2.1 45 = .ok (.getfield 87, 3) := by decide +kernel
theorem D10_strongest_48 : decode m10_strongest.2.1 48 = .ok (.iload_n 2, 1) := by decide +kernel
theorem D10_strongest_49 : decode m10_strongest.2.1 49 = .ok (.iaload, 1) := by decide +kernel
theorem D10_strongest_50 : decode m10_strongest.2.1 50 = .ok (.if_icmp .le 5, 3) := by decide +kernel
theorem D10_strongest_53 : decode m10_strongest.2.1 53 = .ok (.iload_n 3, 1) := by decide +kernel
theorem D10_strongest_54 : decode m10_strongest.2.1 54 = .ok (.istore_n 2, 1) := by decide +kernel
theorem D10_strongest_55 : decode m10_strongest.2.1 55 = .ok (.iinc 3 1, 3) := by decide +kernel
theorem D10_strongest_58 : decode m10_strongest.2.1 58 = .ok (.goto (-54), 3) := by decide +kernel
theorem D10_strongest_61 : decode m10_strongest.2.1 61 = .ok (.iload_n 2, 1) := by decide +kernel
theorem D10_strongest_62 : decode m10_strongest.2.1 62 = .ok (.ireturn, 1) := by decide +kernel
theorem D10_comesBack_0 : decode m10_comesBack.2.1 0 = .ok (.iload_n 1, 1) := by decide +kernel
theorem D10_comesBack_1 : decode m10_comesBack.2.1 1 = .ok (.istore_n 2, 1) := by decide +kernel
theorem D10_comesBack_2 : decode m10_comesBack.2.1 2 = .ok (.iconst 0, 1) := by decide +kernel
theorem D10_comesBack_3 : decode m10_comesBack.2.1 3 = .ok (.istore_n 3, 1) := by decide +kernel
theorem D10_comesBack_4 : decode m10_comesBack.2.1 4 = .ok (.iload_n 3, 1) := by decide +kernel
theorem D10_comesBack_5 : decode m10_comesBack.2.1 5 = .ok (.aload_n 0, 1) := by decide +kernel
theorem D10_comesBack_6 : decode m10_comesBack.2.1 6 = .ok (.getfield 13, 3) := by decide +kernel
theorem D10_comesBack_9 : decode m10_comesBack.2.1 9 = .ok (.iconst 0, 1) := by decide +kernel
theorem D10_comesBack_10 : decode m10_comesBack.2.1 10 = .ok (.iaload, 1) := by decide +kernel
theorem D10_comesBack_11 : decode m10_comesBack.2.1 11 = .ok (.if_icmp .ge 39, 3) := by decide +kernel
theorem D10_comesBack_14 : decode m10_comesBack.2.1 14 = .ok (.aload_n 0, 1) := by decide +kernel
theorem D10_comesBack_15 : decode m10_comesBack.2.1 15 = .ok (.iload_n 2, 1) := by decide +kernel
theorem D10_comesBack_16 : decode m10_comesBack.2.1 16 = .ok (.invokevirtual 470, 3) := by decide +kernel
theorem D10_comesBack_19 : decode m10_comesBack.2.1 19 = .ok (.istore 4, 2) := by decide +kernel
theorem D10_comesBack_21 : decode m10_comesBack.2.1 21 = .ok (.iload 4, 2) := by decide +kernel
theorem D10_comesBack_23 : decode m10_comesBack.2.1 23 = .ok (.iconst (-1), 1) := by decide +kernel
theorem D10_comesBack_24 : decode m10_comesBack.2.1 24 = .ok (.if_icmp .ne 5, 3) := by decide +kernel
theorem D10_comesBack_27 : decode m10_comesBack.2.1 27 = .ok (.iconst 0, 1) := by decide +kernel
theorem D10_comesBack_28 : decode m10_comesBack.2.1 28 = .ok (.ireturn, 1) := by decide +kernel
theorem D10_comesBack_29 : decode m10_comesBack.2.1 29 = .ok (.aload_n 0, 1) := by decide +kernel
theorem D10_comesBack_30 : decode m10_comesBack.2.1 30 = .ok (.getfield 28, 3) := by decide +kernel
theorem D10_comesBack_33 : decode m10_comesBack.2.1 33 = .ok (.iload 4, 2) := by decide +kernel
theorem D10_comesBack_35 : decode m10_comesBack.2.1 35 = .ok (.iaload, 1) := by decide +kernel
theorem D10_comesBack_36 : decode m10_comesBack.2.1 36 = .ok (.istore_n 2, 1) := by decide +kernel
theorem D10_comesBack_37 : decode m10_comesBack.2.1 37 = .ok (.iload_n 2, 1) := by decide +kernel
theorem D10_comesBack_38 : decode m10_comesBack.2.1 38 = .ok (.iload_n 1, 1) := by decide +kernel
theorem D10_comesBack_39 : decode m10_comesBack.2.1 39 = .ok (.if_icmp .ne 5, 3) := by decide +kernel
theorem D10_comesBack_42 : decode m10_comesBack.2.1 42 = .ok (.iconst 1, 1) := by decide +kernel
theorem D10_comesBack_43 : decode m10_comesBack.2.1 43 = .ok (.ireturn, 1) := by decide +kernel
theorem D10_comesBack_44 : decode m10_comesBack.2.1 44 = .ok (.iinc 3 1, 3) := by decide +kernel
theorem D10_comesBack_47 : decode m10_comesBack.2.1 47 = .ok (.goto (-43), 3) := by decide +kernel
theorem D10_comesBack_50 : decode m10_comesBack.2.1 50 = .ok (.iconst 0, 1) := by decide +kernel
theorem D10_comesBack_51 : decode m10_comesBack.2.1 51 = .ok (.ireturn, 1) := by decide +kernel
theorem D10_ring_0 : decode m10_ring.2.1 0 = .ok (.aload_n 0, 1) := by decide +kernel
theorem D10_ring_1 : decode m10_ring.2.1 1 = .ok (.iconst 0, 1) := by decide +kernel
theorem D10_ring_2 : decode m10_ring.2.1 2 = .ok (.putfield 139, 3) := by decide +kernel
theorem D10_ring_5 : decode m10_ring.2.1 5 = .ok (.iconst 0, 1) := by decide +kernel
theorem D10_ring_6 : decode m10_ring.2.1 6 = .ok (.istore_n 1, 1) := by decide +kernel
theorem D10_ring_7 : decode m10_ring.2.1 7 = .ok (.iconst 0, 1) := by decide +kernel
theorem D10_ring_8 : decode m10_ring.2.1 8 = .ok (.istore_n 2, 1) := by decide +kernel
theorem D10_ring_9 : decode m10_ring.2.1 9 = .ok (.iload_n 2, 1) := by decide +kernel
theorem D10_ring_10 : decode m10_ring.2.1 10 = .ok (.aload_n 0, 1) := by decide +kernel
theorem D10_ring_11 : decode m10_ring.2.1 11 = .ok (.getfield 13, 3) := by decide +kernel
theorem D10_ring_14 : decode m10_ring.2.1 14 = .ok (.iconst 0, 1) := by decide +kernel
theorem D10_ring_15 : decode m10_ring.2.1 15 = .ok (.iaload, 1) := by decide +kernel
theorem D10_ring_16 : decode m10_ring.2.1 16 = .ok (.if_icmp .ge 27, 3) := by decide +kernel
theorem D10_ring_19 : decode m10_ring.2.1 19 = .ok (.iload_n 1, 1) := by decide +kernel
theorem D10_ring_20 : decode m10_ring.2.1 20 = .ok (.aload_n 0, 1) := by decide +kernel
theorem D10_ring_21 : decode m10_ring.2.1 21 = .ok (.iload_n 2, 1) := by decide +kernel
theorem D10_ring_22 : decode m10_ring.2.1 22 = .ok (.invokevirtual 473, 3) := by decide +kernel
theorem D10_ring_25 : decode m10_ring.2.1 25 = .ok (.ifCond .eq 9, 3) := by decide +kernel
theorem D10_ring_28 : decode m10_ring.2.1 28 = .ok (.iconst 1, 1) := by decide +kernel
theorem D10_ring_29 : decode m10_ring.2.1 29 = .ok (.iload_n 2, 1) := by decide +kernel
theorem D10_ring_30 : decode m10_ring.2.1 30 = .ok (.ishl, 1) := by decide +kernel
theorem D10_ring_31 : decode m10_ring.2.1 31 = .ok (.goto 4, 3) := by decide +kernel
theorem D10_ring_34 : decode m10_ring.2.1 34 = .ok (.iconst 0, 1) := by decide +kernel
theorem D10_ring_35 : decode m10_ring.2.1 35 = .ok (.ior, 1) := by decide +kernel
theorem D10_ring_36 : decode m10_ring.2.1 36 = .ok (.istore_n 1, 1) := by decide +kernel
theorem D10_ring_37 : decode m10_ring.2.1 37 = .ok (.iinc 2 1, 3) := by decide +kernel
theorem D10_ring_40 : decode m10_ring.2.1 40 = .ok (.goto (-31), 3) := by decide +kernel
theorem D10_ring_43 : decode m10_ring.2.1 43 = .ok (.iload_n 1, 1) := by decide +kernel
theorem D10_ring_44 : decode m10_ring.2.1 44 = .ok (.ireturn, 1) := by decide +kernel
theorem D10_angerOf_0 : decode m10_angerOf.2.1 0 = .ok (.aload_n 0, 1) := by decide +kernel
theorem D10_angerOf_1 : decode m10_angerOf.2.1 1 = .ok (.iload_n 1, 1) := by decide +kernel
theorem D10_angerOf_2 : decode m10_angerOf.2.1 2 = .ok (.invokevirtual 470, 3) := by decide +kernel
theorem D10_angerOf_5 : decode m10_angerOf.2.1 5 = .ok (.istore_n 2, 1) := by decide +kernel
theorem D10_angerOf_6 : decode m10_angerOf.2.1 6 = .ok (.iload_n 2, 1) := by decide +kernel
theorem D10_angerOf_7 : decode m10_angerOf.2.1 7 = .ok (.iconst (-1), 1) := by decide +kernel
theorem D10_angerOf_8 : decode m10_angerOf.2.1 8 = .ok (.if_icmp .ne 7, 3) := by decide +kernel
theorem D10_angerOf_11 : decode m10_angerOf.2.1 11 = .ok (.iconst 0, 1) := by decide +kernel
theorem D10_angerOf_12 : decode m10_angerOf.2.1 12 = .ok (.goto 9, 3) := by decide +kernel
theorem D10_angerOf_15 : decode m10_angerOf.2.1 15 = .ok (.aload_n 0, 1) := by decide +kernel
theorem D10_angerOf_16 : decode m10_angerOf.2.1 16 = .ok (.getfield 87, 3) := by decide +kernel
theorem D10_angerOf_19 : decode m10_angerOf.2.1 19 = .ok (.iload_n 2, 1) := by decide +kernel
theorem D10_angerOf_20 : decode m10_angerOf.2.1 20 = .ok (.iaload, 1) := by decide +kernel
theorem D10_angerOf_21 : decode m10_angerOf.2.1 21 = .ok (.ireturn, 1) := by decide +kernel
theorem D10_hasOf_0 : decode m10_hasOf.2.1 0 = .ok (.aload_n 0, 1) := by decide +kernel
theorem D10_hasOf_1 : decode m10_hasOf.2.1 1 = .ok (.iload_n 1, 1) := by decide +kernel
theorem D10_hasOf_2 : decode m10_hasOf.2.1 2 = .ok (.invokevirtual 476, 3) := by decide +kernel
theorem D10_hasOf_5 : decode m10_hasOf.2.1 5 = .ok (.istore 5, 2) := by decide +kernel
theorem D10_hasOf_7 : decode m10_hasOf.2.1 7 = .ok (.aload_n 0, 1) := by decide +kernel
theorem D10_hasOf_8 : decode m10_hasOf.2.1 8 = .ok (.iload_n 2, 1) := by decide +kernel
theorem D10_hasOf_9 : decode m10_hasOf.2.1 9 = .ok (.invokevirtual 476, 3) := by decide +kernel
theorem D10_hasOf_12 : decode m10_hasOf.2.1 12 = .ok (.istore 6, 2) := by decide +kernel
theorem D10_hasOf_14 : decode m10_hasOf.2.1 14 = .ok (.iload_n 3, 1) := by decide +kernel
theorem D10_hasOf_15 : decode m10_hasOf.2.1 15 = .ok (.iconst 1, 1) := by decide +kernel
theorem D10_hasOf_16 : decode m10_hasOf.2.1 16 = .ok (.if_icmp .ne 22, 3) := by decide +kernel
theorem D10_hasOf_19 : decode m10_hasOf.2.1 19 = .ok (.iload 4, 2) := by decide +kernel
theorem D10_hasOf_21 : decode m10_hasOf.2.1 21 = .ok (.iconst 1, 1) := by decide +kernel
theorem D10_hasOf_22 : decode m10_hasOf.2.1 22 = .ok (.if_icmp .ne 13, 3) := by decide +kernel
theorem D10_hasOf_25 : decode m10_hasOf.2.1 25 = .ok (.iload 5, 2) := by decide +kernel
theorem D10_hasOf_27 : decode m10_hasOf.2.1 27 = .ok (.iload 6, 2) := by decide +kernel
theorem D10_hasOf_29 : decode m10_hasOf.2.1 29 = .ok (.iconst 2, 1) := by decide +kernel
theorem D10_hasOf_30 : decode m10_hasOf.2.1 30 = .ok (.idiv, 1) := by decide +kernel
theorem D10_hasOf_31 : decode m10_hasOf.2.1 31 = .ok (.isub, 1) := by decide +kernel
theorem D10_hasOf_32 : decode m10_hasOf.2.1 32 = .ok (.goto 5, 3) := by decide +kernel
theorem D10_hasOf_35 : decode m10_hasOf.2.1 35 = .ok (.iload 5, 2) := by decide +kernel
theorem D10_hasOf_37 : decode m10_hasOf.2.1 37 = .ok (.ireturn, 1) := by decide +kernel
theorem D10_hasOf_38 : decode m10_hasOf.2.1 38 = .ok (.iload 4, 2) := by decide +kernel
theorem D10_hasOf_40 : decode m10_hasOf.2.1 40 = .ok (.iconst 1, 1) := by decide +kernel
theorem D10_hasOf_41 : decode m10_hasOf.2.1 41 = .ok (.if_icmp .ne 15, 3) := by decide +kernel
theorem D10_hasOf_44 : decode m10_hasOf.2.1 44 = .ok (.iload 5, 2) := by decide +kernel
theorem D10_hasOf_46 : decode m10_hasOf.2.1 46 = .ok (.iconst 4, 1) := by decide +kernel
theorem D10_hasOf_47 : decode m10_hasOf.2.1 47 = .ok (.idiv, 1) := by decide +kernel
theorem D10_hasOf_48 : decode m10_hasOf.2.1 48 = .ok (.iload 6, 2) := by decide +kernel
theorem D10_hasOf_50 : decode m10_hasOf.2.1 50 = .ok (.iconst 2, 1) := by decide +kernel
theorem D10_hasOf_51 : decode m10_hasOf.2.1 51 = .ok (.idiv, 1) := by decide +kernel
theorem D10_hasOf_52 : decode m10_hasOf.2.1 52 = .ok (.isub, 1) := by decide +kernel
theorem D10_hasOf_53 : decode m10_hasOf.2.1 53 = .ok (.goto 7, 3) := by decide +kernel
theorem D10_hasOf_56 : decode m10_hasOf.2.1 56 = .ok (.iload 5, 2) := by decide +kernel
theorem D10_hasOf_58 : decode m10_hasOf.2.1 58 = .ok (.iconst 4, 1) := by decide +kernel
theorem D10_hasOf_59 : decode m10_hasOf.2.1 59 = .ok (.idiv, 1) := by decide +kernel
theorem D10_hasOf_60 : decode m10_hasOf.2.1 60 = .ok (.ireturn, 1) := by decide +kernel
theorem D10_isRest_0 : decode m10_isRest.2.1 0 = .ok (.iload_n 3, 1) := by decide +kernel
theorem D10_isRest_1 : decode m10_isRest.2.1 1 = .ok (.iconst 2, 1) := by decide +kernel
theorem D10_isRest_2 : decode m10_isRest.2.1 2 = .ok (.idiv, 1) := by decide +kernel
theorem D10_isRest_3 : decode m10_isRest.2.1 3 = .ok (.istore 4, 2) := by decide +kernel
theorem D10_isRest_5 : decode m10_isRest.2.1 5 = .ok (.iload_n 3, 1) := by decide +kernel
theorem D10_isRest_6 : decode m10_isRest.2.1 6 = .ok (.iconst 2, 1) := by decide +kernel
theorem D10_isRest_7 : decode m10_isRest.2.1 7 = .ok (.irem, 1) := by decide +kernel
theorem D10_isRest_8 : decode m10_isRest.2.1 8 = .ok (.istore 5, 2) := by decide +kernel
theorem D10_isRest_10 : decode m10_isRest.2.1 10 = .ok (.aload_n 0, 1) := by decide +kernel
theorem D10_isRest_11 : decode m10_isRest.2.1 11 = .ok (.iload_n 1, 1) := by decide +kernel
theorem D10_isRest_12 : decode m10_isRest.2.1 12 = .ok (.iload_n 2, 1) := by decide +kernel
theorem D10_isRest_13 : decode m10_isRest.2.1 13 = .ok (.iconst 1, 1) := by decide +kernel
theorem D10_isRest_14 : decode m10_isRest.2.1 14 = .ok (.iload 4, 2) := by decide +kernel
theorem D10_isRest_16 : decode m10_isRest.2.1 16 = .ok (.isub, 1) := by decide +kernel
theorem D10_isRest_17 : decode m10_isRest.2.1 17 = .ok (.iload 5, 2) := by decide +kernel
theorem D10_isRest_19 : decode m10_isRest.2.1 19 = .ok (.invokevirtual 479, 3) := by decide +kernel
theorem D10_isRest_22 : decode m10_isRest.2.1 22 = .ok (.aload_n 0, 1) := by decide +kernel
theorem D10_isRest_23 : decode m10_isRest.2.1 23 = .ok (.iload_n 1, 1) := by decide +kernel
theorem D10_isRest_24 : decode m10_isRest.2.1 24 = .ok (.iload_n 2, 1) := by decide +kernel
theorem D10_isRest_25 : decode m10_isRest.2.1 25 = .ok (.iload 4, 2) := by decide +kernel
theorem D10_isRest_27 : decode m10_isRest.2.1 27 = .ok (.iload 5, 2) := by decide +kernel
theorem D10_isRest_29 : decode m10_isRest.2.1 29 = .ok (.invokevirtual 479, 3) := by decide +kernel
theorem D10_isRest_32 : decode m10_isRest.2.1 32 = .ok (.if_icmp .gt 32, 3) := by decide +kernel
theorem D10_isRest_35 : decode m10_isRest.2.1 35 = .ok (.aload_n 0, 1) := by decide +kernel
theorem D10_isRest_36 : decode m10_isRest.2.1 36 = .ok (.iload_n 2, 1) := by decide +kernel
theorem D10_isRest_37 : decode m10_isRest.2.1 37 = .ok (.iload_n 1, 1) := by decide +kernel
theorem D10_isRest_38 : decode m10_isRest.2.1 38 = .ok (.iconst 1, 1) := by decide +kernel
theorem D10_isRest_39 : decode m10_isRest.2.1 39 = .ok (.iload 5, 2) := by decide +kernel
theorem D10_isRest_41 : decode m10_isRest.2.1 41 = .ok (.isub, 1) := by decide +kernel
theorem D10_isRest_42 : decode m10_isRest.2.1 42 = .ok (.iload 4, 2) := by decide +kernel
theorem D10_isRest_44 : decode m10_isRest.2.1 44 = .ok (.invokevirtual 479, 3) := by decide +kernel
theorem D10_isRest_47 : decode m10_isRest.2.1 47 = .ok (.aload_n 0, 1) := by decide +kernel
theorem D10_isRest_48 : decode m10_isRest.2.1 48 = .ok (.iload_n 2, 1) := by decide +kernel
theorem D10_isRest_49 : decode m10_isRest.2.1 49 = .ok (.iload_n 1, 1) := by decide +kernel
theorem D10_isRest_50 : decode m10_isRest.2.1 50 = .ok (.iload 5, 2) := by decide +kernel
theorem D10_isRest_52 : decode m10_isRest.2.1 52 = .ok (.iload 4, 2) := by decide +kernel
theorem D10_isRest_54 : decode m10_isRest.2.1 54 = .ok (.invokevirtual 479, 3) := by decide +kernel
theorem D10_isRest_57 : decode m10_isRest.2.1 57 = .ok (.if_icmp .gt 7, 3) := by decide +kernel
theorem D10_isRest_60 : decode m10_isRest.2.1 60 = .ok (.iconst 1, 1) := by decide +kernel
theorem D10_isRest_61 : decode m10_isRest.2.1 61 = .ok (.goto 4, 3) := by decide +kernel
theorem D10_isRest_64 : decode m10_isRest.2.1 64 = .ok (.iconst 0, 1) := by decide +kernel
theorem D10_isRest_65 : decode m10_isRest.2.1 65 = .ok (.ireturn, 1) := by decide +kernel
theorem D10_restOf_0 : decode m10_restOf.2.1 0 = .ok (.iconst 0, 1) := by decide +kernel
theorem D10_restOf_1 : decode m10_restOf.2.1 1 = .ok (.istore 4, 2) := by decide +kernel
theorem D10_restOf_3 : decode m10_restOf.2.1 3 = .ok (.iconst 0, 1) := by decide +kernel
theorem D10_restOf_4 : decode m10_restOf.2.1 4 = .ok (.istore 5, 2) := by decide +kernel
theorem D10_restOf_6 : decode m10_restOf.2.1 6 = .ok (.iload 5, 2) := by decide +kernel
theorem D10_restOf_8 : decode m10_restOf.2.1 8 = .ok (.iconst 4, 1) := by decide +kernel
theorem D10_restOf_9 : decode m10_restOf.2.1 9 = .ok (.if_icmp .ge 45, 3) := by decide +kernel
theorem D10_restOf_12 : decode m10_restOf.2.1 12 = .ok (.aload_n 0, 1) := by decide +kernel
theorem D10_restOf_13 : decode m10_restOf.2.1 13 = .ok (.iload_n 1, 1) := by decide +kernel
theorem D10_restOf_14 : decode m10_restOf.2.1 14 = .ok (.iload_n 2, 1) := by decide +kernel
theorem D10_restOf_15 : decode m10_restOf.2.1 15 = .ok (.iload 5, 2) := by decide +kernel
theorem D10_restOf_17 : decode m10_restOf.2.1 17 = .ok (.invokevirtual 483, 3) := by decide +kernel
theorem D10_restOf_20 : decode m10_restOf.2.1 20 = .ok (.ifCond .ne 6, 3) := by decide +kernel
theorem D10_restOf_23 : decode m10_restOf.2.1 23 = .ok (.goto 25, 3) := by decide +kernel
theorem D10_restOf_26 : decode m10_restOf.2.1 26 = .ok (.iload 4, 2) := by decide +kernel
theorem D10_restOf_28 : decode m10_restOf.2.1 28 = .ok (.iload_n 3, 1) := by decide +kernel
theorem D10_restOf_29 : decode m10_restOf.2.1 29 = .ok (.if_icmp .ne 16, 3) := by decide +kernel
theorem D10_restOf_32 : decode m10_restOf.2.1 32 = .ok (.bipush 10, 2) := by decide +kernel
theorem D10_restOf_34 : decode m10_restOf.2.1 34 = .ok (.iload 5, 2) := by decide +kernel
theorem D10_restOf_36 : decode m10_restOf.2.1 36 = .ok (.iconst 2, 1) := by decide +kernel
theorem D10_restOf_37 : decode m10_restOf.2.1 37 = .ok (.idiv, 1) := by decide +kernel
theorem D10_restOf_38 : decode m10_restOf.2.1 38 = .ok (.imul, 1) := by decide +kernel
theorem D10_restOf_39 : decode m10_restOf.2.1 39 = .ok (.iload 5, 2) := by decide +kernel
theorem D10_restOf_41 : decode m10_restOf.2.1 41 = .ok (.iconst 2, 1) := by decide +kernel
theorem D10_restOf_42 : decode m10_restOf.2.1 42 = .ok (.irem, 1) := by decide +kernel
theorem D10_restOf_43 : decode m10_restOf.2.1 43 = .ok (.iadd, 1) := by decide +kernel
theorem D10_restOf_44 : decode m10_restOf.2.1 44 = .ok (.ireturn, 1) := by decide +kernel
theorem D10_restOf_45 : decode m10_restOf.2.1 45 = .ok (.iinc 4 1, 3) := by decide +kernel
theorem D10_restOf_48 : decode m10_restOf.2.1 48 = .ok (.iinc 5 1, 3) := by decide +kernel
theorem D10_restOf_51 : decode m10_restOf.2.1 51 = .ok (.goto (-45), 3) := by decide +kernel
theorem D10_restOf_54 : decode m10_restOf.2.1 54 = .ok (.iload_n 3, 1) := by decide +kernel
theorem D10_restOf_55 : decode m10_restOf.2.1 55 = .ok (.iconst (-1), 1) := by decide +kernel
theorem D10_restOf_56 : decode m10_restOf.2.1 56 = .ok (.if_icmp .ne 8, 3) := by decide +kernel
theorem D10_restOf_59 : decode m10_restOf.2.1 59 = .ok (.iload 4, 2) := by decide +kernel
theorem D10_restOf_61 : decode m10_restOf.2.1 61 = .ok (.goto 5, 3) := by decide +kernel
theorem D10_restOf_64 : decode m10_restOf.2.1 64 = .ok (.bipush (-2), 2) := by decide +kernel
theorem D10_restOf_66 : decode m10_restOf.2.1 66 = .ok (.ireturn, 1) := by decide +kernel
theorem D10_areTwo_0 : decode m10_areTwo.2.1 0 = .ok (.aload_n 0, 1) := by decide +kernel
theorem D10_areTwo_1 : decode m10_areTwo.2.1 1 = .ok (.iload_n 1, 1) := by decide +kernel
theorem D10_areTwo_2 : decode m10_areTwo.2.1 2 = .ok (.invokevirtual 406, 3) := by decide +kernel
theorem D10_areTwo_5 : decode m10_areTwo.2.1 5 = .ok (.ifCond .eq 20, 3) := by decide +kernel
theorem D10_areTwo_8 : decode m10_areTwo.2.1 8 = .ok (.aload_n 0, 1) := by decide +kernel
theorem D10_areTwo_9 : decode m10_areTwo.2.1 9 = .ok (.iload_n 2, 1) := by decide +kernel
theorem D10_areTwo_10 : decode m10_areTwo.2.1 10 = .ok (.invokevirtual 406, 3) := by decide +kernel
theorem D10_areTwo_13 : decode m10_areTwo.2.1 13 = .ok (.ifCond .eq 12, 3) := by decide +kernel
theorem D10_areTwo_16 : decode m10_areTwo.2.1 16 = .ok (.iload_n 1, 1) := by decide +kernel
theorem D10_areTwo_17 : decode m10_areTwo.2.1 17 = .ok (.iload_n 2, 1) := by decide +kernel
theorem D10_areTwo_18 : decode m10_areTwo.2.1 18 = .ok (.if_icmp .eq 7, 3) := by decide +kernel
theorem D10_areTwo_21 : decode m10_areTwo.2.1 21 = .ok (.iconst 1, 1) := by decide +kernel
theorem D10_areTwo_22 : decode m10_areTwo.2.1 22 = .ok (.goto 4, 3) := by decide +kernel
theorem D10_areTwo_25 : decode m10_areTwo.2.1 25 = .ok (.iconst 0, 1) := by decide +kernel
theorem D10_areTwo_26 : decode m10_areTwo.2.1 26 = .ok (.ireturn, 1) := by decide +kernel
theorem D10_rests_0 : decode m10_rests.2.1 0 = .ok (.aload_n 0, 1) := by decide +kernel
theorem D10_rests_1 : decode m10_rests.2.1 1 = .ok (.iconst 0, 1) := by decide +kernel
theorem D10_rests_2 : decode m10_rests.2.1 2 = .ok (.putfield 139, 3) := by decide +kernel
theorem D10_rests_5 : decode m10_rests.2.1 5 = .ok (.aload_n 0, 1) := by decide +kernel
theorem D10_rests_6 : decode m10_rests.2.1 6 = .ok (.iload_n 1, 1) := by decide +kernel
theorem D10_rests_7 : decode m10_rests.2.1 7 = .ok (.iload_n 2, 1) := by decide +kernel
theorem D10_rests_8 : decode m10_rests.2.1 8 = .ok (.invokevirtual 487, 3) := by decide +kernel
theorem D10_rests_11 : decode m10_rests.2.1 11 = .ok (.ifCond .eq 13, 3) := by decide +kernel
theorem D10_rests_14 : decode m10_rests.2.1 14 = .ok (.aload_n 0, 1) := by decide +kernel
theorem D10_rests_15 : decode m10_rests.2.1 15 = .ok (.iload_n 1, 1) := by decide +kernel
theorem D10_rests_16 : decode m10_rests.2.1 16 = .ok (.iload_n 2, 1) := by decide +kernel
theorem D10_rests_17 : decode m10_rests.2.1 17 = .ok (.iconst (-1), 1) := by decide +kernel
theorem D10_rests_18 : decode m10_rests.2.1 18 = .ok (.invokevirtual 490, 3) := by decide +kernel
theorem D10_rests_21 : decode m10_rests.2.1 21 = .ok (.goto 4, 3) := by decide +kernel
theorem D10_rests_24 : decode m10_rests.2.1 24 = .ok (.iconst (-1), 1) := by decide +kernel
theorem D10_rests_25 : decode m10_rests.2.1 25 = .ok (.ireturn, 1) := by decide +kernel
theorem D10_rest_0 : decode m10_rest.2.1 0 = .ok (.aload_n 0, 1) := by decide +kernel
theorem D10_rest_1 : decode m10_rest.2.1 1 = .ok (.iconst 0, 1) := by decide +kernel
theorem D10_rest_2 : decode m10_rest.2.1 2 = .ok (.putfield 139, 3) := by decide +kernel
theorem D10_rest_5 : decode m10_rest.2.1 5 = .ok (.aload_n 0, 1) := by decide +kernel
theorem D10_rest_6 : decode m10_rest.2.1 6 = .ok (.iload_n 1, 1) := by decide +kernel
theorem D10_rest_7 : decode m10_rest.2.1 7 = .ok (.iload_n 2, 1) := by decide +kernel
theorem D10_rest_8 : decode m10_rest.2.1 8 = .ok (.invokevirtual 487, 3) := by decide +kernel
theorem D10_rest_11 : decode m10_rest.2.1 11 = .ok (.ifCond .eq 17, 3) := by decide +kernel
theorem D10_rest_14 : decode m10_rest.2.1 14 = .ok (.iload_n 3, 1) := by decide +kernel
theorem D10_rest_15 : decode m10_rest.2.1 15 = .ok (.ifCond .lt 13, 3) := by decide +kernel
theorem D10_rest_18 : decode m10_rest.2.1 18 = .ok (.aload_n 0, 1) := by decide +kernel
theorem D10_rest_19 : decode m10_rest.2.1 19 = .ok (.iload_n 1, 1) := by decide +kernel
theorem D10_rest_20 : decode m10_rest.2.1 20 = .ok (.iload_n 2, 1) := by decide +kernel
theorem D10_rest_21 : decode m10_rest.2.1 21 = .ok (.iload_n 3, 1) := by decide +kernel
theorem D10_rest_22 : decode m10_rest.2.1 22 = .ok (.invokevirtual 490, 3) := by decide +kernel
theorem D10_rest_25 : decode m10_rest.2.1 25 = .ok (.goto 4, 3) := by decide +kernel
theorem D10_rest_28 : decode m10_rest.2.1 28 = .ok (.iconst (-1), 1) := by decide +kernel
theorem D10_rest_29 : decode m10_rest.2.1 29 = .ok (.ireturn, 1) := by decide +kernel
theorem D10_common_0 : decode m10_common.2.1 0 = .ok (.lload_n 0, 1) := by decide +kernel
theorem D10_common_1 : decode m10_common.2.1 1 = .ok (.lstore 4, 2) := by decide +kernel
theorem D10_common_3 : decode m10_common.2.1 3 = .ok (.lload_n 2, 1) := by decide +kernel
theorem D10_common_4 : decode m10_common.2.1 4 = .ok (.lstore 6, 2) := by decide +kernel
theorem D10_common_6 : decode m10_common.2.1 6 = .ok (.lload 6, 2) := by decide +kernel
theorem D10_common_8 : decode m10_common.2.1 8 = .ok (.lconst 0, 1) := by decide +kernel
theorem D10_common_9 : decode m10_common.2.1 9 = .ok (.lcmp, 1) := by decide +kernel
theorem D10_common_10 : decode m10_common.2.1 10 = .ok (.ifCond .eq 21, 3) := by decide +kernel
theorem D10_common_13 : decode m10_common.2.1 13 = .ok (.lload 4, 2) := by decide +kernel
theorem D10_common_15 : decode m10_common.2.1 15 = .ok (.lload 6, 2) := by decide +kernel
theorem D10_common_17 : decode m10_common.2.1 17 = .ok (.lrem, 1) := by decide +kernel
theorem D10_common_18 : decode m10_common.2.1 18 = .ok (.lstore 8, 2) := by decide +kernel
theorem D10_common_20 : decode m10_common.2.1 20 = .ok (.lload 6, 2) := by decide +kernel
theorem D10_common_22 : decode m10_common.2.1 22 = .ok (.lstore 4, 2) := by decide +kernel
theorem D10_common_24 : decode m10_common.2.1 24 = .ok (.lload 8, 2) := by decide +kernel
theorem D10_common_26 : decode m10_common.2.1 26 = .ok (.lstore 6, 2) := by decide +kernel
theorem D10_common_28 : decode m10_common.2.1 28 = .ok (.goto (-22), 3) := by decide +kernel
theorem D10_common_31 : decode m10_common.2.1 31 = .ok (.lload 4, 2) := by decide +kernel
theorem D10_common_33 : decode m10_common.2.1 33 = .ok (.lreturn, 1) := by decide +kernel
theorem D10_waysOf_0 : decode m10_waysOf.2.1 0 = .ok (.lconst 1, 1) := by decide +kernel
theorem D10_waysOf_1 : decode m10_waysOf.2.1 1 = .ok (.lstore_n 3, 1) := by decide +kernel
theorem D10_waysOf_2 : decode m10_waysOf.2.1 2 = .ok (.iconst 0, 1) := by decide +kernel
theorem D10_waysOf_3 : decode m10_waysOf.2.1 3 = .ok (.istore 5, 2) := by decide +kernel
theorem D10_waysOf_5 : decode m10_waysOf.2.1 5 = .ok (.iload 5, 2) := by decide +kernel
theorem D10_waysOf_7 : decode m10_waysOf.2.1 7 = .ok (.iload_n 2, 1) := by decide +kernel
theorem D10_waysOf_8 : decode m10_waysOf.2.1 8 = .ok (.if_icmp .ge 23, 3) := by decide +kernel
theorem D10_waysOf_11 : decode m10_waysOf.2.1 11 = .ok (.lload_n 3, 1) := by decide +kernel
theorem D10_waysOf_12 : decode m10_waysOf.2.1 12 = .ok (.iload_n 1, 1) := by decide +kernel
theorem D10_waysOf_13 : decode m10_waysOf.2.1 13 = .ok (.iload 5, 2) := by decide +kernel
theorem D10_waysOf_15 : decode m10_waysOf.2.1 15 = .ok (.isub, 1) := by decide +kernel
theorem D10_waysOf_16 : decode m10_waysOf.2.1 16 = .ok (.i2l, 1) := by decide +kernel
theorem D10_waysOf_17 : decode m10_waysOf.2.1 17 = .ok (.lmul, 1) := by decide +kernel
theorem D10_waysOf_18 : decode m10_waysOf.2.1 18 = .ok (.iload 5, 2) := by decide +kernel
theorem D10_waysOf_20 : decode m10_waysOf.2.1 20 = .ok (.iconst 1, 1) := by decide +kernel
theorem D10_waysOf_21 : decode m10_waysOf.2.1 21 = .ok (.iadd, 1) := by decide +kernel
theorem D10_waysOf_22 : decode m10_waysOf.2.1 22 = .ok (.i2l, 1) := by decide +kernel
theorem D10_waysOf_23 : decode m10_waysOf.2.1 23 = .ok (.ldiv, 1) := by decide +kernel
theorem D10_waysOf_24 : decode m10_waysOf.2.1 24 = .ok (.lstore_n 3, 1) := by decide +kernel
theorem D10_waysOf_25 : decode m10_waysOf.2.1 25 = .ok (.iinc 5 1, 3) := by decide +kernel
theorem D10_waysOf_28 : decode m10_waysOf.2.1 28 = .ok (.goto (-23), 3) := by decide +kernel
theorem D10_waysOf_31 : decode m10_waysOf.2.1 31 = .ok (.iconst 0, 1) := by decide +kernel
theorem D10_waysOf_32 : decode m10_waysOf.2.1 32 = .ok (.istore 5, 2) := by decide +kernel
theorem D10_waysOf_34 : decode m10_waysOf.2.1 34 = .ok (.iload 5, 2) := by decide +kernel
theorem D10_waysOf_36 : decode m10_waysOf.2.1 36 = .ok (.iload_n 1, 1) := by decide +kernel
theorem D10_waysOf_37 : decode m10_waysOf.2.1 37 = .ok (.if_icmp .ge 38, 3) := by decide +kernel
theorem D10_waysOf_40 : decode m10_waysOf.2.1 40 = .ok (.lload_n 3, 1) := by decide +kernel
theorem D10_waysOf_41 : decode m10_waysOf.2.1 41 = .ok (.iload 5, 2) := by decide +kernel
theorem D10_waysOf_43 : decode m10_waysOf.2.1 43 = .ok (.iload_n 2, 1) := by decide +kernel
theorem D10_waysOf_44 : decode m10_waysOf.2.1 44 = .ok (.if_icmp .ge 13, 3) := by decide +kernel
theorem D10_waysOf_47 : decode m10_waysOf.2.1 47 = .ok (.aload_n 0, 1) := by decide +kernel
theorem D10_waysOf_48 : decode m10_waysOf.2.1 48 = .ok (.getfield 13, 3) := by decide +kernel
theorem D10_waysOf_51 : decode m10_waysOf.2.1 51 = .ok (.iconst 3, 1) := by decide +kernel
theorem D10_waysOf_52 : decode m10_waysOf.2.1 52 = .ok (.iaload, 1) := by decide +kernel
theorem D10_waysOf_53 : decode m10_waysOf.2.1 53 = .ok (.i2l, 1) := by decide +kernel
theorem D10_waysOf_54 : decode m10_waysOf.2.1 54 = .ok (.goto 13, 3) := by decide +kernel
theorem D10_waysOf_57 : decode m10_waysOf.2.1 57 = .ok (.bipush 100, 2) := by decide +kernel
theorem D10_waysOf_59 : decode m10_waysOf.2.1 59 = .ok (.aload_n 0, 1) := by decide +kernel
theorem D10_waysOf_60 : decode m10_waysOf.2.1 60 = .ok (.getfield 13, 3) := by decide +kernel
theorem D10_waysOf_63 : decode m10_waysOf.2.1 63 = .ok (.iconst 3, 1) := by decide +kernel
theorem D10_waysOf_64 : decode m10_waysOf.2.1 64 = .ok (.iaload, 1) := by decide +kernel
theorem D10_waysOf_65 : decode m10_waysOf.2.1 65 = .ok (.isub, 1) := by decide +kernel
theorem D10_waysOf_66 : decode m10_waysOf.2.1 66 = .ok (.i2l, 1) := by decide +kernel
theorem D10_waysOf_67 : decode m10_waysOf.2.1 67 = .ok (.lmul, 1) := by decide +kernel
theorem D10_waysOf_68 : decode m10_waysOf.2.1 68 = .ok (.lstore_n 3, 1) := by decide +kernel
theorem D10_waysOf_69 : decode m10_waysOf.2.1 69 = .ok (.iinc 5 1, 3) := by decide +kernel
theorem D10_waysOf_72 : decode m10_waysOf.2.1 72 = .ok (.goto (-38), 3) := by decide +kernel
theorem D10_waysOf_75 : decode m10_waysOf.2.1 75 = .ok (.lload_n 3, 1) := by decide +kernel
theorem D10_waysOf_76 : decode m10_waysOf.2.1 76 = .ok (.lreturn, 1) := by decide +kernel
theorem D10_lasts_0 : decode m10_lasts.2.1 0 = .ok (.aload_n 0, 1) := by decide +kernel
theorem D10_lasts_1 : decode m10_lasts.2.1 1 = .ok (.iconst 0, 1) := by decide +kernel
theorem D10_lasts_2 : decode m10_lasts.2.1 2 = .ok (.putfield 139, 3) := by decide +kernel
theorem D10_lasts_5 : decode m10_lasts.2.1 5 = .ok (.aload_n 0, 1) := by decide +kernel
theorem D10_lasts_6 : decode m10_lasts.2.1 6 = .ok (.iload_n 1, 1) := by decide +kernel
theorem D10_lasts_7 : decode m10_lasts.2.1 7 = .ok (.invokevirtual 418, 3) := by decide +kernel
theorem D10_lasts_10 : decode m10_lasts.2.1 10 = .ok (.ifCond .eq 21, 3) := by decide +kernel
theorem D10_lasts_13 : decode m10_lasts.2.1 13 = .ok (.iload_n 2, 1) := by decide +kernel
theorem D10_lasts_14 : decode m10_lasts.2.1 14 = .ok (.ifCond .lt 17, 3) := by decide +kernel
theorem D10_lasts_17 : decode m10_lasts.2.1 17 = .ok (.iload_n 2, 1) := by decide +kernel
theorem D10_lasts_18 : decode m10_lasts.2.1 18 = .ok (.iconst 5, 1) := by decide +kernel
theorem D10_lasts_19 : decode m10_lasts.2.1 19 = .ok (.if_icmp .gt 12, 3) := by decide +kernel
theorem D10_lasts_22 : decode m10_lasts.2.1 22 = .ok (.iload_n 3, 1) := by decide +kernel
theorem D10_lasts_23 : decode m10_lasts.2.1 23 = .ok (.ifCond .lt 8, 3) := by decide +kernel
theorem D10_lasts_26 : decode m10_lasts.2.1 26 = .ok (.iload_n 3, 1) := by decide +kernel
theorem D10_lasts_27 : decode m10_lasts.2.1 27 = .ok (.iconst 1, 1) := by decide +kernel
theorem D10_lasts_28 : decode m10_lasts.2.1 28 = .ok (.if_icmp .le 7, 3) := by decide +kernel
theorem D10_lasts_31 : decode m10_lasts.2.1 31 = .ok (.ldc2_w 494, 3) := by decide +kernel
theorem D10_lasts_34 : decode m10_lasts.2.1 34 = .ok (.lreturn, 1) := by decide +kernel
theorem D10_lasts_35 : decode m10_lasts.2.1 35 = .ok (.lconst 0, 1) := by decide +kernel
theorem D10_lasts_36 : decode m10_lasts.2.1 36 = .ok (.lstore 4, 2) := by decide +kernel
theorem D10_lasts_38 : decode m10_lasts.2.1 38 = .ok (.lconst 1, 1) := by decide +kernel
theorem D10_lasts_39 : decode m10_lasts.2.1 39 = .ok (.lstore 6, 2) := by decide +kernel
theorem D10_lasts_41 : decode m10_lasts.2.1 41 = .ok (.iconst 0, 1) := by decide +kernel
theorem D10_lasts_42 : decode m10_lasts.2.1 42 = .ok (.istore 8, 2) := by decide +kernel
theorem D10_lasts_44 : decode m10_lasts.2.1 44 = .ok (.iload 8, 2) := by decide +kernel
theorem D10_lasts_46 : decode m10_lasts.2.1 46 = .ok (.iload_n 2, 1) := by decide +kernel
theorem D10_lasts_47 : decode m10_lasts.2.1 47 = .ok (.if_icmp .gt 32, 3) := by decide +kernel
theorem D10_lasts_50 : decode m10_lasts.2.1 50 = .ok (.iload 8, 2) := by decide +kernel
theorem D10_lasts_52 : decode m10_lasts.2.1 52 = .ok (.aload_n 0, 1) := by decide +kernel
theorem D10_lasts_53 : decode m10_lasts.2.1 53 = .ok (.getfield 90, 3) := by decide +kernel
theorem D10_lasts_56 : decode m10_lasts.2.1 56 = .ok (.iload_n 1, 1) := by decide +kernel
theorem D10_lasts_57 : decode m10_lasts.2.1 57 = .ok (.iaload, 1) := by decide +kernel
theorem D10_lasts_58 : decode m10_lasts.2.1 58 = .ok (.if_icmp .ge 15, 3) := by decide +kernel
theorem D10_lasts_61 : decode m10_lasts.2.1 61 = .ok (.lload 4, 2) := by decide +kernel
theorem D10_lasts_63 : decode m10_lasts.2.1 63 = .ok (.aload_n 0, 1) := by decide +kernel
theorem D10_lasts_64 : decode m10_lasts.2.1 64 = .ok (.iload_n 2, 1) := by decide +kernel
theorem D10_lasts_65 : decode m10_lasts.2.1 65 = .ok (.iload 8, 2) := by decide +kernel
theorem D10_lasts_67 : decode m10_lasts.2.1 67 = .ok (.invokevirtual 496, 3) := by decide +kernel
theorem D10_lasts_70 : decode m10_lasts.2.1 70 = .ok (.ladd, 1) := by decide +kernel
theorem D10_lasts_71 : decode m10_lasts.2.1 71 = .ok (.lstore 4, 2) := by decide +kernel
theorem D10_lasts_73 : decode m10_lasts.2.1 73 = .ok (.iinc 8 1, 3) := by decide +kernel
theorem D10_lasts_76 : decode m10_lasts.2.1 76 = .ok (.goto (-32), 3) := by decide +kernel
theorem D10_lasts_79 : decode m10_lasts.2.1 79 = .ok (.iconst 0, 1) := by decide +kernel
theorem D10_lasts_80 : decode m10_lasts.2.1 80 = .ok (.istore 8, 2) := by decide +kernel
theorem D10_lasts_82 : decode m10_lasts.2.1 82 = .ok (.iload 8, 2) := by decide +kernel
theorem D10_lasts_84 : decode m10_lasts.2.1 84 = .ok (.iload_n 2, 1) := by decide +kernel
theorem D10_lasts_85 : decode m10_lasts.2.1 85 = .ok (.if_icmp .ge 17, 3) := by decide +kernel
theorem D10_lasts_88 : decode m10_lasts.2.1 88 = .ok (.lload 6, 2) := by decide +kernel
theorem D10_lasts_90 : decode m10_lasts.2.1 90 = .ok (.ldc2_w 500, 3) := by decide +kernel
theorem D10_lasts_93 : decode m10_lasts.2.1 93 = .ok (.lmul, 1) := by decide +kernel
theorem D10_lasts_94 : decode m10_lasts.2.1 94 = .ok (.lstore 6, 2) := by decide +kernel
theorem D10_lasts_96 : decode m10_lasts.2.1 96 = .ok (.iinc 8 1, 3) := by decide +kernel
theorem D10_lasts_99 : decode m10_lasts.2.1 99 = .ok (.goto (-17), 3) := by decide +kernel
theorem D10_lasts_102 : decode m10_lasts.2.1 102 = .ok (.lload 4, 2) := by decide +kernel
theorem D10_lasts_104 : decode m10_lasts.2.1 104 = .ok (.lload 6, 2) := by decide +kernel
theorem D10_lasts_106 : decode m10_lasts.2.1 106 = .ok (.invokestatic 502, 3) := by decide +kernel
theorem D10_lasts_109 : decode m10_lasts.2.1 109 = .ok (.lstore 8, 2) := by decide +kernel
theorem D10_lasts_111 : decode m10_lasts.2.1 111 = .ok (.iload_n 3, 1) := by decide +kernel
theorem D10_lasts_112 : decode m10_lasts.2.1 112 = .ok (.ifCond .ne 11, 3) := by decide +kernel
theorem D10_lasts_115 : decode m10_lasts.2.1 115 = .ok (.lload 4, 2) := by decide +kernel
theorem D10_lasts_117 : decode m10_lasts.2.1 117 = .ok (.lload 8, 2) := by decide +kernel
theorem D10_lasts_119 : decode m10_lasts.2.1 119 = .ok (.ldiv, 1) := by decide +kernel
theorem D10_lasts_120 : decode m10_lasts.2.1 120 = .ok (.goto 8, 3) := by decide +kernel
theorem D10_lasts_123 : decode m10_lasts.2.1 123 = .ok (.lload 6, 2) := by decide +kernel
theorem D10_lasts_125 : decode m10_lasts.2.1 125 = .ok (.lload 8, 2) := by decide +kernel
theorem D10_lasts_127 : decode m10_lasts.2.1 127 = .ok (.ldiv, 1) := by decide +kernel
theorem D10_lasts_128 : decode m10_lasts.2.1 128 = .ok (.lreturn, 1) := by decide +kernel
theorem D10_see_0 : decode m10_see.2.1 0 = .ok (.aload_n 0, 1) := by decide +kernel
theorem D10_see_1 : decode m10_see.2.1 1 = .ok (.iconst 0, 1) := by decide +kernel
theorem D10_see_2 : decode m10_see.2.1 2 = .ok (.putfield 139, 3) := by decide +kernel
theorem D10_see_5 : decode m10_see.2.1 5 = .ok (.iload_n 1, 1) := by decide +kernel
theorem D10_see_6 : decode m10_see.2.1 6 = .ok (.iconst 1, 1) := by decide +kernel
theorem D10_see_7 : decode m10_see.2.1 7 = .ok (.if_icmp .lt 26, 3) := by decide +kernel
theorem D10_see_10 : decode m10_see.2.1 10 = .ok (.iload_n 1, 1) := by decide +kernel
theorem D10_see_11 : decode m10_see.2.1 11 = .ok (.bipush 60, 2) := by decide +kernel
theorem D10_see_13 : decode m10_see.2.1 13 = .ok (.if_icmp .gt 20, 3) := by decide +kernel
theorem D10_see_16 : decode m10_see.2.1 16 = .ok (.aload_n 0, 1) := by decide +kernel
theorem D10_see_17 : decode m10_see.2.1 17 = .ok (.iload_n 2, 1) := by decide +kernel
theorem D10_see_18 : decode m10_see.2.1 18 = .ok (.invokevirtual 403, 3) := by decide +kernel
theorem D10_see_21 : decode m10_see.2.1 21 = .ok (.ifCond .eq 12, 3) := by decide +kernel
theorem D10_see_24 : decode m10_see.2.1 24 = .ok (.aload_n 0, 1) := by decide +kernel
theorem D10_see_25 : decode m10_see.2.1 25 = .ok (.getfield 295, 3) := by decide +kernel
theorem D10_see_28 : decode m10_see.2.1 28 = .ok (.bipush 24, 2) := by decide +kernel
theorem D10_see_30 : decode m10_see.2.1 30 = .ok (.if_icmp .ne 5, 3) := by decide +kernel
theorem D10_see_33 : decode m10_see.2.1 33 = .ok (.iconst (-1), 1) := by decide +kernel
theorem D10_see_34 : decode m10_see.2.1 34 = .ok (.ireturn, 1) := by decide +kernel
theorem D10_see_35 : decode m10_see.2.1 35 = .ok (.aload_n 0, 1) := by decide +kernel
theorem D10_see_36 : decode m10_see.2.1 36 = .ok (.getfield 120, 3) := by decide +kernel
theorem D10_see_39 : decode m10_see.2.1 39 = .ok (.aload_n 0, 1) := by decide +kernel
theorem D10_see_40 : decode m10_see.2.1 40 = .ok (.getfield 295, 3) := by decide +kernel
theorem D10_see_43 : decode m10_see.2.1 43 = .ok (.iload_n 1, 1) := by decide +kernel
theorem D10_see_44 : decode m10_see.2.1 44 = .ok (.iastore, 1) := by decide +kernel
theorem D10_see_45 : decode m10_see.2.1 45 = .ok (.aload_n 0, 1) := by decide +kernel
theorem D10_see_46 : decode m10_see.2.1 46 = .ok (.getfield 123, 3) := by decide +kernel
theorem D10_see_49 : decode m10_see.2.1 49 = .ok (.aload_n 0, 1) := by decide +kernel
theorem D10_see_50 : decode m10_see.2.1 50 = .ok (.getfield 295, 3) := by decide +kernel
theorem D10_see_53 : decode m10_see.2.1 53 = .ok (.iload_n 2, 1) := by decide +kernel
theorem D10_see_54 : decode m10_see.2.1 54 = .ok (.iastore, 1) := by decide +kernel
theorem D10_see_55 : decode m10_see.2.1 55 = .ok (.aload_n 0, 1) := by decide +kernel
theorem D10_see_56 : decode m10_see.2.1 56 = .ok (.getfield 126, 3) := by decide +kernel
theorem D10_see_59 : decode m10_see.2.1 59 = .ok (.aload_n 0, 1) := by decide +kernel
theorem D10_see_60 : decode m10_see.2.1 60 = .ok (.getfield 295, 3) := by decide +kernel
theorem D10_see_63 : decode m10_see.2.1 63 = .ok (.iload_n 3, 1) := by decide +kernel
theorem D10_see_64 : decode m10_see.2.1 64 = .ok (.bastore, 1) := by decide +kernel
theorem D10_see_65 : decode m10_see.2.1 65 = .ok (.aload_n 0, 1) := by decide +kernel
theorem D10_see_66 : decode m10_see.2.1 66 = .ok (.getfield 130, 3) := by decide +kernel
theorem D10_see_69 : decode m10_see.2.1 69 = .ok (.aload_n 0, 1) := by decide +kernel
theorem D10_see_70 : decode m10_see.2.1 70 = .ok (.getfield 295, 3) := by decide +kernel
theorem D10_see_73 : decode m10_see.2.1 73 = .ok (.iconst (-1), 1) := by decide +kernel
theorem D10_see_74 : decode m10_see.2.1 74 = .ok (.iastore, 1) := by decide +kernel
theorem D10_see_75 : decode m10_see.2.1 75 = .ok (.aload_n 0, 1) := by decide +kernel
theorem D10_see_76 : decode m10_see.2.1 76 = .ok (.dup, 1) := by decide +kernel
theorem D10_see_77 : decode m10_see.2.1 77 = .ok (.getfield 295, 3) := by decide +kernel
theorem D10_see_80 : decode m10_see.2.1 80 = .ok (.iconst 1, 1) := by decide +kernel
theorem D10_see_81 : decode m10_see.2.1 81 = .ok (.iadd, 1) := by decide +kernel
theorem D10_see_82 : decode m10_see.2.1 82 = .ok (.putfield 295, 3) := by decide +kernel
theorem D10_see_85 : decode m10_see.2.1 85 = .ok (.aload_n 0, 1) := by decide +kernel
theorem D10_see_86 : decode m10_see.2.1 86 = .ok (.getfield 295, 3) := by decide +kernel
theorem D10_see_89 : decode m10_see.2.1 89 = .ok (.iconst 1, 1) := by decide +kernel
theorem D10_see_90 : decode m10_see.2.1 90 = .ok (.isub, 1) := by decide +kernel
theorem D10_see_91 : decode m10_see.2.1 91 = .ok (.ireturn, 1) := by decide +kernel
theorem D10_out_0 : decode m10_out.2.1 0 = .ok (.aload_n 0, 1) := by decide +kernel
theorem D10_out_1 : decode m10_out.2.1 1 = .ok (.iconst 0, 1) := by decide +kernel
theorem D10_out_2 : decode m10_out.2.1 2 = .ok (.putfield 139, 3) := by decide +kernel
theorem D10_out_5 : decode m10_out.2.1 5 = .ok (.iload_n 1, 1) := by decide +kernel
theorem D10_out_6 : decode m10_out.2.1 6 = .ok (.ifCond .lt 20, 3) := by decide +kernel
theorem D10_out_9 : decode m10_out.2.1 9 = .ok (.iload_n 1, 1) := by decide +kernel
theorem D10_out_10 : decode m10_out.2.1 10 = .ok (.aload_n 0, 1) := by decide +kernel
theorem D10_out_11 : decode m10_out.2.1 11 = .ok (.getfield 295, 3) := by decide +kernel
theorem D10_out_14 : decode m10_out.2.1 14 = .ok (.if_icmp .ge 12, 3) := by decide +kernel
theorem D10_out_17 : decode m10_out.2.1 17 = .ok (.aload_n 0, 1) := by decide +kernel
theorem D10_out_18 : decode m10_out.2.1 18 = .ok (.getfield 295, 3) := by decide +kernel
theorem D10_out_21 : decode m10_out.2.1 21 = .ok (.bipush 24, 2) := by decide +kernel
theorem D10_out_23 : decode m10_out.2.1 23 = .ok (.if_icmp .ne 5, 3) := by decide +kernel
theorem D10_out_26 : decode m10_out.2.1 26 = .ok (.iconst (-1), 1) := by decide +kernel
theorem D10_out_27 : decode m10_out.2.1 27 = .ok (.ireturn, 1) := by decide +kernel
theorem D10_out_28 : decode m10_out.2.1 28 = .ok (.aload_n 0, 1) := by decide +kernel
theorem D10_out_29 : decode m10_out.2.1 29 = .ok (.getfield 130, 3) := by decide +kernel
theorem D10_out_32 : decode m10_out.2.1 32 = .ok (.aload_n 0, 1) := by decide +kernel
theorem D10_out_33 : decode m10_out.2.1 33 = .ok (.getfield 295, 3) := by decide +kernel
theorem D10_out_36 : decode m10_out.2.1 36 = .ok (.iload_n 1, 1) := by decide +kernel
theorem D10_out_37 : decode m10_out.2.1 37 = .ok (.iastore, 1) := by decide +kernel
theorem D10_out_38 : decode m10_out.2.1 38 = .ok (.aload_n 0, 1) := by decide +kernel
theorem D10_out_39 : decode m10_out.2.1 39 = .ok (.dup, 1) := by decide +kernel
theorem D10_out_40 : decode m10_out.2.1 40 = .ok (.getfield 295, 3) := by decide +kernel
theorem D10_out_43 : decode m10_out.2.1 43 = .ok (.iconst 1, 1) := by decide +kernel
theorem D10_out_44 : decode m10_out.2.1 44 = .ok (.iadd, 1) := by decide +kernel
theorem D10_out_45 : decode m10_out.2.1 45 = .ok (.putfield 295, 3) := by decide +kernel
theorem D10_out_48 : decode m10_out.2.1 48 = .ok (.aload_n 0, 1) := by decide +kernel
theorem D10_out_49 : decode m10_out.2.1 49 = .ok (.getfield 295, 3) := by decide +kernel
theorem D10_out_52 : decode m10_out.2.1 52 = .ok (.iconst 1, 1) := by decide +kernel
theorem D10_out_53 : decode m10_out.2.1 53 = .ok (.isub, 1) := by decide +kernel
theorem D10_out_54 : decode m10_out.2.1 54 = .ok (.ireturn, 1) := by decide +kernel
theorem D10_known_0 : decode m10_known.2.1 0 = .ok (.aload_n 0, 1) := by decide +kernel
theorem D10_known_1 : decode m10_known.2.1 1 = .ok (.iconst 0, 1) := by decide +kernel
theorem D10_known_2 : decode m10_known.2.1 2 = .ok (.putfield 139, 3) := by decide +kernel
theorem D10_known_5 : decode m10_known.2.1 5 = .ok (.iload_n 1, 1) := by decide +kernel
theorem D10_known_6 : decode m10_known.2.1 6 = .ok (.iconst (-1), 1) := by decide +kernel
theorem D10_known_7 : decode m10_known.2.1 7 = .ok (.if_icmp .lt 11, 3) := by decide +kernel
theorem D10_known_10 : decode m10_known.2.1 10 = .ok (.iload_n 1, 1) := by decide +kernel
theorem D10_known_11 : decode m10_known.2.1 11 = .ok (.aload_n 0, 1) := by decide +kernel
theorem D10_known_12 : decode m10_known.2.1 12 = .ok (.getfield 295, 3) := by decide +kernel
theorem D10_known_15 : decode m10_known.2.1 15 = .ok (.if_icmp .le 5, 3) := by decide +kernel
theorem D10_known_18 : decode m10_known.2.1 18 = .ok (.iconst 0, 1) := by decide +kernel
theorem D10_known_19 : decode m10_known.2.1 19 = .ok (.ireturn, 1) := by decide +kernel
theorem D10_known_20 : decode m10_known.2.1 20 = .ok (.aload_n 0, 1) := by decide +kernel
theorem D10_known_21 : decode m10_known.2.1 21 = .ok (.iload_n 1, 1) := by decide +kernel
theorem D10_known_22 : decode m10_known.2.1 22 = .ok (.putfield 117, 3) := by decide +kernel
theorem D10_known_25 : decode m10_known.2.1 25 = .ok (.iconst 1, 1) := by decide +kernel
theorem D10_known_26 : decode m10_known.2.1 26 = .ok (.ireturn, 1) := by decide +kernel
theorem D10_knownMany_0 : decode m10_knownMany.2.1 0 = .ok (.aload_n 0, 1) := by decide +kernel
theorem D10_knownMany_1 : decode m10_knownMany.2.1 1 = .ok (.getfield 117, 3) := by decide +kernel
theorem D10_knownMany_4 : decode m10_knownMany.2.1 4 = .ok (.iconst (-1), 1) := by decide +kernel
theorem D10_knownMany_5 : decode m10_knownMany.2.1 5 = .ok (.if_icmp .ne 10, 3) := by decide +kernel
theorem D10_knownMany_8 : decode m10_knownMany.2.1 8 = .ok (.aload_n 0, 1) := by decide +kernel
theorem D10_knownMany_9 : decode m10_knownMany.2.1 9 = .ok (.getfield 295, 3) := by decide +kernel
theorem D10_knownMany_12 : decode m10_knownMany.2.1 12 = .ok (.goto 7, 3) := by decide +kernel
theorem D10_knownMany_15 : decode m10_knownMany.2.1 15 = .ok (.aload_n 0, 1) := by decide +kernel
theorem D10_knownMany_16 : decode m10_knownMany.2.1 16 = .ok (.getfield 117, 3) := by decide +kernel
theorem D10_knownMany_19 : decode m10_knownMany.2.1 19 = .ok (.ireturn, 1) := by decide +kernel
theorem D10_isSo_0 : decode m10_isSo.2.1 0 = .ok (.iconst 0, 1) := by decide +kernel
theorem D10_isSo_1 : decode m10_isSo.2.1 1 = .ok (.istore_n 2, 1) := by decide +kernel
theorem D10_isSo_2 : decode m10_isSo.2.1 2 = .ok (.iload_n 2, 1) := by decide +kernel
theorem D10_isSo_3 : decode m10_isSo.2.1 3 = .ok (.aload_n 0, 1) := by decide +kernel
theorem D10_isSo_4 : decode m10_isSo.2.1 4 = .ok (.invokevirtual 505, 3) := by decide +kernel
theorem D10_isSo_7 : decode m10_isSo.2.1 7 = .ok (.if_icmp .ge 75, 3) := by decide +kernel
theorem D10_isSo_10 : decode m10_isSo.2.1 10 = .ok (.aload_n 0, 1) := by decide +kernel
theorem D10_isSo_11 : decode m10_isSo.2.1 11 = .ok (.getfield 133, 3) := by decide +kernel
theorem D10_isSo_14 : decode m10_isSo.2.1 14 = .ok (.iload_n 2, 1) := by decide +kernel
theorem D10_isSo_15 : decode m10_isSo.2.1 15 = .ok (.baload, 1) := by decide +kernel
theorem D10_isSo_16 : decode m10_isSo.2.1 16 = .ok (.ifCond .ne 60, 3) := by decide +kernel
theorem D10_isSo_19 : decode m10_isSo.2.1 19 = .ok (.aload_n 0, 1) := by decide +kernel
theorem D10_isSo_20 : decode m10_isSo.2.1 20 = .ok (.getfield 130, 3) := by decide +kernel
theorem D10_isSo_23 : decode m10_isSo.2.1 23 = .ok (.iload_n 2, 1) := by decide +kernel
theorem D10_isSo_24 : decode m10_isSo.2.1 24 = .ok (.iaload, 1) := by decide +kernel
theorem D10_isSo_25 : decode m10_isSo.2.1 25 = .ok (.iconst (-1), 1) := by decide +kernel
theorem D10_isSo_26 : decode m10_isSo.2.1 26 = .ok (.if_icmp .ne 50, 3) := by decide +kernel
theorem D10_isSo_29 : decode m10_isSo.2.1 29 = .ok (.aload_n 0, 1) := by decide +kernel
theorem D10_isSo_30 : decode m10_isSo.2.1 30 = .ok (.getfield 120, 3) := by decide +kernel
theorem D10_isSo_33 : decode m10_isSo.2.1 33 = .ok (.iload_n 2, 1) := by decide +kernel
theorem D10_isSo_34 : decode m10_isSo.2.1 34 = .ok (.iaload, 1) := by decide +kernel
theorem D10_isSo_35 : decode m10_isSo.2.1 35 = .ok (.iload_n 1, 1) := by decide +kernel
theorem D10_isSo_36 : decode m10_isSo.2.1 36 = .ok (.if_icmp .eq 6, 3) := by decide +kernel
theorem D10_isSo_39 : decode m10_isSo.2.1 39 = .ok (.goto 37, 3) := by decide +kernel
theorem D10_isSo_42 : decode m10_isSo.2.1 42 = .ok (.aload_n 0, 1) := by decide +kernel
theorem D10_isSo_43 : decode m10_isSo.2.1 43 = .ok (.getfield 96, 3) := by decide +kernel
theorem D10_isSo_46 : decode m10_isSo.2.1 46 = .ok (.bipush 10, 2) := by decide +kernel
theorem D10_isSo_48 : decode m10_isSo.2.1 48 = .ok (.aload_n 0, 1) := by decide +kernel
theorem D10_isSo_49 : decode m10_isSo.2.1 49 = .ok (.getfield 123, 3) := by decide +kernel
theorem D10_isSo_52 : decode m10_isSo.2.1 52 = .ok (.iload_n 2, 1) := by decide +kernel
theorem D10_isSo_53 : decode m10_isSo.2.1 53 = .ok (.iaload, 1) := by decide +kernel
theorem D10_isSo_54 : decode m10_isSo.2.1 54 = .ok (.iadd, 1) := by decide +kernel
theorem D10_isSo_55 : decode m10_isSo.2.1 55 = .ok (.iaload, 1) := by decide +kernel
theorem D10_isSo_56 : decode m10_isSo.2.1 56 = .ok (.iconst 2, 1) := by decide +kernel
theorem D10_isSo_57 : decode m10_isSo.2.1 57 = .ok (.if_icmp .ne 7, 3) := by decide +kernel
theorem D10_isSo_60 : decode m10_isSo.2.1 60 = .ok (.iconst 1, 1) := by decide +kernel
theorem D10_isSo_61 : decode m10_isSo.2.1 61 = .ok (.goto 4, 3) := by decide +kernel
theorem D10_isSo_64 : decode m10_isSo.2.1 64 = .ok (.iconst 0, 1) := by decide +kernel
theorem D10_isSo_65 : decode m10_isSo.2.1 65 = .ok (.aload_n 0, 1) := by decide +kernel
theorem D10_isSo_66 : decode m10_isSo.2.1 66 = .ok (.getfield 126, 3) := by decide +kernel
theorem D10_isSo_69 : decode m10_isSo.2.1 69 = .ok (.iload_n 2, 1) := by decide +kernel
theorem D10_isSo_70 : decode m10_isSo.2.1 70 = .ok (.baload, 1) := by decide +kernel
theorem D10_isSo_71 : decode m10_isSo.2.1 71 = .ok (.if_icmp .eq 5, 3) := by decide +kernel
theorem D10_isSo_74 : decode m10_isSo.2.1 74 = .ok (.iconst 0, 1) := by decide +kernel
theorem D10_isSo_75 : decode m10_isSo.2.1 75 = .ok (.ireturn, 1) := by decide +kernel
theorem D10_isSo_76 : decode m10_isSo.2.1 76 = .ok (.iinc 2 1, 3) := by decide +kernel
theorem D10_isSo_79 : decode m10_isSo.2.1 79 = .ok (.goto (-77), 3) := by decide +kernel
theorem D10_isSo_82 : decode m10_isSo.2.1 82 = .ok (.iconst 1, 1) := by decide +kernel
theorem D10_isSo_83 : decode m10_isSo.2.1 83 = .ok (.ireturn, 1) := by decide +kernel
theorem D10_fitsCork_0 : decode m10_fitsCork.2.1 0 = .ok (.aload_n 0, 1) := by decide +kernel
theorem D10_fitsCork_1 : decode m10_fitsCork.2.1 1 = .ok (.iconst 1, 1) := by decide +kernel
theorem D10_fitsCork_2 : decode m10_fitsCork.2.1 2 = .ok (.invokevirtual 325, 3) := by decide +kernel
theorem D10_fitsCork_5 : decode m10_fitsCork.2.1 5 = .ok (.aload_n 0, 1) := by decide +kernel
theorem D10_fitsCork_6 : decode m10_fitsCork.2.1 6 = .ok (.getfield 90, 3) := by decide +kernel
theorem D10_fitsCork_9 : decode m10_fitsCork.2.1 9 = .ok (.bipush 10, 2) := by decide +kernel
theorem D10_fitsCork_11 : decode m10_fitsCork.2.1 11 = .ok (.iload_n 1, 1) := by decide +kernel
theorem D10_fitsCork_12 : decode m10_fitsCork.2.1 12 = .ok (.iadd, 1) := by decide +kernel
theorem D10_fitsCork_13 : decode m10_fitsCork.2.1 13 = .ok (.iload_n 2, 1) := by decide +kernel
theorem D10_fitsCork_14 : decode m10_fitsCork.2.1 14 = .ok (.iastore, 1) := by decide +kernel
theorem D10_fitsCork_15 : decode m10_fitsCork.2.1 15 = .ok (.iconst 1, 1) := by decide +kernel
theorem D10_fitsCork_16 : decode m10_fitsCork.2.1 16 = .ok (.istore 4, 2) := by decide +kernel
theorem D10_fitsCork_18 : decode m10_fitsCork.2.1 18 = .ok (.iload 4, 2) := by decide +kernel
theorem D10_fitsCork_20 : decode m10_fitsCork.2.1 20 = .ok (.iload_n 3, 1) := by decide +kernel
theorem D10_fitsCork_21 : decode m10_fitsCork.2.1 21 = .ok (.if_icmp .gt 26, 3) := by decide +kernel
theorem D10_fitsCork_24 : decode m10_fitsCork.2.1 24 = .ok (.aload_n 0, 1) := by decide +kernel
theorem D10_fitsCork_25 : decode m10_fitsCork.2.1 25 = .ok (.iconst 1, 1) := by decide +kernel
theorem D10_fitsCork_26 : decode m10_fitsCork.2.1 26 = .ok (.iconst 0, 1) := by decide +kernel
theorem D10_fitsCork_27 : decode m10_fitsCork.2.1 27 = .ok (.invokevirtual 390, 3) := by decide +kernel
theorem D10_fitsCork_30 : decode m10_fitsCork.2.1 30 = .ok (.aload_n 0, 1) := by decide +kernel
theorem D10_fitsCork_31 : decode m10_fitsCork.2.1 31 = .ok (.iload 4, 2) := by decide +kernel
theorem D10_fitsCork_33 : decode m10_fitsCork.2.1 33 = .ok (.invokevirtual 508, 3) := by decide +kernel
theorem D10_fitsCork_36 : decode m10_fitsCork.2.1 36 = .ok (.ifCond .ne 5, 3) := by decide +kernel
theorem D10_fitsCork_39 : decode m10_fitsCork.2.1 39 = .ok (.iconst 0, 1) := by decide +kernel
theorem D10_fitsCork_40 : decode m10_fitsCork.2.1 40 = .ok (.ireturn, 1) := by decide +kernel
theorem D10_fitsCork_41 : decode m10_fitsCork.2.1 41 = .ok (.iinc 4 1, 3) := by decide +kernel
theorem D10_fitsCork_44 : decode m10_fitsCork.2.1 44 = .ok (.goto (-26), 3) := by decide +kernel
theorem D10_fitsCork_47 : decode m10_fitsCork.2.1 47 = .ok (.iconst 1, 1) := by decide +kernel
theorem D10_fitsCork_48 : decode m10_fitsCork.2.1 48 = .ok (.ireturn, 1) := by decide +kernel
theorem D10_corks_0 : decode m10_corks.2.1 0 = .ok (.aload_n 0, 1) := by decide +kernel
theorem D10_corks_1 : decode m10_corks.2.1 1 = .ok (.iconst 0, 1) := by decide +kernel
theorem D10_corks_2 : decode m10_corks.2.1 2 = .ok (.putfield 139, 3) := by decide +kernel
theorem D10_corks_5 : decode m10_corks.2.1 5 = .ok (.aload_n 0, 1) := by decide +kernel
theorem D10_corks_6 : decode m10_corks.2.1 6 = .ok (.iload_n 1, 1) := by decide +kernel
theorem D10_corks_7 : decode m10_corks.2.1 7 = .ok (.invokevirtual 403, 3) := by decide +kernel
theorem D10_corks_10 : decode m10_corks.2.1 10 = .ok (.ifCond .ne 5, 3) := by decide +kernel
theorem D10_corks_13 : decode m10_corks.2.1 13 = .ok (.iconst (-1), 1) := by decide +kernel
theorem D10_corks_14 : decode m10_corks.2.1 14 = .ok (.ireturn, 1) := by decide +kernel
theorem D10_corks_15 : decode m10_corks.2.1 15 = .ok (.iconst 0, 1) := by decide +kernel
theorem D10_corks_16 : decode m10_corks.2.1 16 = .ok (.istore_n 2, 1) := by decide +kernel
theorem D10_corks_17 : decode m10_corks.2.1 17 = .ok (.iconst 0, 1) := by decide +kernel
theorem D10_corks_18 : decode m10_corks.2.1 18 = .ok (.istore_n 3, 1) := by decide +kernel
theorem D10_corks_19 : decode m10_corks.2.1 19 = .ok (.iload_n 3, 1) := by decide +kernel
theorem D10_corks_20 : decode m10_corks.2.1 20 = .ok (.aload_n 0, 1) := by decide +kernel
theorem D10_corks_21 : decode m10_corks.2.1 21 = .ok (.invokevirtual 505, 3) := by decide +kernel
theorem D10_corks_24 : decode m10_corks.2.1 24 = .ok (.if_icmp .ge 16, 3) := by decide +kernel
theorem D10_corks_27 : decode m10_corks.2.1 27 = .ok (.aload_n 0, 1) := by decide +kernel
theorem D10_corks_28 : decode m10_corks.2.1 28 = .ok (.getfield 133, 3) := by decide +kernel
theorem D10_corks_31 : decode m10_corks.2.1 31 = .ok (.iload_n 3, 1) := by decide +kernel
theorem D10_corks_32 : decode m10_corks.2.1 32 = .ok (.iconst 0, 1) := by decide +kernel
theorem D10_corks_33 : decode m10_corks.2.1 33 = .ok (.bastore, 1) := by decide +kernel
theorem D10_corks_34 : decode m10_corks.2.1 34 = .ok (.iinc 3 1, 3) := by decide +kernel
theorem D10_corks_37 : decode m10_corks.2.1 37 = .ok (.goto (-18), 3) := by decide +kernel
theorem D10_corks_40 : decode m10_corks.2.1 40 = .ok (.aload_n 0, 1) := by decide +kernel
theorem D10_corks_41 : decode m10_corks.2.1 41 = .ok (.invokevirtual 505, 3) := by decide +kernel
theorem D10_corks_44 : decode m10_corks.2.1 44 = .ok (.iconst 1, 1) := by decide +kernel
theorem D10_corks_45 : decode m10_corks.2.1 45 = .ok (.isub, 1) := by decide +kernel
theorem D10_corks_46 : decode m10_corks.2.1 46 = .ok (.istore_n 3, 1) := by decide +kernel
theorem D10_corks_47 : decode m10_corks.2.1 47 = .ok (.iload_n 3, 1) := by decide +kernel
theorem D10_corks_48 : decode m10_corks.2.1 48 = .ok (.ifCond .lt 40, 3) := by decide +kernel
theorem D10_corks_51 : decode m10_corks.2.1 51 = .ok (.aload_n 0, 1) := by decide +kernel
theorem D10_corks_52 : decode m10_corks.2.1 52 = .ok (.getfield 133, 3) := by decide +kernel
theorem D10_corks_55 : decode m10_corks.2.1 55 = .ok (.iload_n 3, 1) := by decide +kernel
theorem D10_corks_56 : decode m10_corks.2.1 56 = .ok (.baload, 1) := by decide +kernel
theorem D10_corks_57 : decode m10_corks.2.1 57 = .ok (.ifCond .ne 25, 3) := by decide +kernel
theorem D10_corks_60 : decode m10_corks.2.1 60 = .ok (.aload_n 0, 1) := by decide +kernel
theorem D10_corks_61 : decode m10_corks.2.1 61 = .ok (.getfield 130, 3) := by decide +kernel
theorem D10_corks_64 : decode m10_corks.2.1 64 = .ok (.iload_n 3, 1) := by decide +kernel
theorem D10_corks_65 : decode m10_corks.2.1 65 = .ok (.iaload, 1) := by decide +kernel
theorem D10_corks_66 : decode m10_corks.2.1 66 = .ok (.iconst (-1), 1) := by decide +kernel
theorem D10_corks_67 : decode m10_corks.2.1 67 = .ok (.if_icmp .eq 15, 3) := by decide +kernel
theorem D10_corks_70 : decode m10_corks.2.1 70 = .ok (.aload_n 0, 1) := by decide +kernel
theorem D10_corks_71 : decode m10_corks.2.1 71 = .ok (.getfield 133, 3) := by decide +kernel
theorem D10_corks_74 : decode m10_corks.2.1 74 = .ok (.aload_n 0, 1) := by decide +kernel
theorem D10_corks_75 : decode m10_corks.2.1 75 = .ok (.getfield 130, 3) := by decide +kernel
theorem D10_corks_78 : decode m10_corks.2.1 78 = .ok (.iload_n 3, 1) := by decide +kernel
theorem D10_corks_79 : decode m10_corks.2.1 79 = .ok (.iaload, 1) := by decide +kernel
theorem D10_corks_80 : decode m10_corks.2.1 80 = .ok (.iconst 1, 1) := by decide +kernel
theorem D10_corks_81 : decode m10_corks.2.1 81 = .ok (.bastore, 1) := by decide +kernel
theorem D10_corks_82 : decode m10_corks.2.1 82 = .ok (.iinc 3 (-1), 3) := by decide +kernel
theorem D10_corks_85 : decode m10_corks.2.1 85 = .ok (.goto (-38), 3) := by decide +kernel
theorem D10_corks_88 : decode m10_corks.2.1 88 = .ok (.iconst 0, 1) := by decide +kernel
theorem D10_corks_89 : decode m10_corks.2.1 89 = .ok (.istore_n 3, 1) := by decide +kernel
theorem D10_corks_90 : decode m10_corks.2.1 90 = .ok (.iload_n 3, 1) := by decide +kernel
theorem D10_corks_91 : decode m10_corks.2.1 91 = .ok (.aload_n 0, 1) := by decide +kernel
theorem D10_corks_92 : decode m10_corks.2.1 92 = .ok (.invokevirtual 505, 3) := by decide +kernel
theorem D10_corks_95 : decode m10_corks.2.1 95 = .ok (.if_icmp .ge 39, 3) := by decide +kernel
theorem D10_corks_98 : decode m10_corks.2.1 98 = .ok (.aload_n 0, 1) := by decide +kernel
theorem D10_corks_99 : decode m10_corks.2.1 99 = .ok (.getfield 133, 3) := by decide +kernel
theorem D10_corks_102 : decode m10_corks.2.1 102 = .ok (.iload_n 3, 1) := by decide +kernel
theorem D10_corks_103 : decode m10_corks.2.1 103 = .ok (.baload, 1) := by decide +kernel
theorem D10_corks_104 : decode m10_corks.2.1 104 = .ok (.ifCond .ne 24, 3) := by decide +kernel
theorem D10_corks_107 : decode m10_corks.2.1 107 = .ok (.aload_n 0, 1) := by decide +kernel
theorem D10_corks_108 : decode m10_corks.2.1 108 = .ok (.getfield 130, 3) := by decide +kernel
theorem D10_corks_111 : decode m10_corks.2.1 111 = .ok (.iload_n 3, 1) := by decide +kernel
theorem D10_corks_112 : decode m10_corks.2.1 112 = .ok (.iaload, 1) := by decide +kernel
theorem D10_corks_113 : decode m10_corks.2.1 113 = .ok (.iconst (-1), 1) := by decide +kernel
theorem D10_corks_114 : decode m10_corks.2.1 114 = .ok (.if_icmp .ne 14, 3) := by decide +kernel
theorem D10_corks_117 : decode m10_corks.2.1 117 = .ok (.iload_n 2, 1) := by decide +kernel
theorem D10_corks_118 : decode m10_corks.2.1 118 = .ok (.aload_n 0, 1) := by decide +kernel
theorem D10_corks_119 : decode m10_corks.2.1 119 = .ok (.getfield 120, 3) := by decide +kernel
theorem D10_corks_122 : decode m10_corks.2.1 122 = .ok (.iload_n 3, 1) := by decide +kernel
theorem D10_corks_123 : decode m10_corks.2.1 123 = .ok (.iaload, 1) := by decide +kernel
theorem D10_corks_124 : decode m10_corks.2.1 124 = .ok (.invokestatic 369, 3) := by decide +kernel
theorem D10_corks_127 : decode m10_corks.2.1 127 = .ok (.istore_n 2, 1) := by decide +kernel
theorem D10_corks_128 : decode m10_corks.2.1 128 = .ok (.iinc 3 1, 3) := by decide +kernel
theorem D10_corks_131 : decode m10_corks.2.1 131 = .ok (.goto (-41), 3) := by decide +kernel
theorem D10_corks_134 : decode m10_corks.2.1 134 = .ok (.iconst 0, 1) := by decide +kernel
theorem D10_corks_135 : decode m10_corks.2.1 135 = .ok (.istore_n 3, 1) := by decide +kernel
theorem D10_corks_136 : decode m10_corks.2.1 136 = .ok (.iconst 0, 1) := by decide +kernel
theorem D10_corks_137 : decode m10_corks.2.1 137 = .ok (.istore 4, 2) := by decide +kernel
theorem D10_corks_139 : decode m10_corks.2.1 139 = .ok (.iload 4, 2) := by decide +kernel
theorem D10_corks_141 : decode m10_corks.2.1 141 = .ok (.bipush 9, 2) := by decide +kernel
theorem D10_corks_143 : decode m10_corks.2.1 143 = .ok (.if_icmp .gt 31, 3) := by decide +kernel
theorem D10_corks_146 : decode m10_corks.2.1 146 = .ok (.iload_n 3, 1) := by decide +kernel
theorem D10_corks_147 : decode m10_corks.2.1 147 = .ok (.aload_n 0, 1) := by decide +kernel
theorem D10_corks_148 : decode m10_corks.2.1 148 = .ok (.iload_n 1, 1) := by decide +kernel
theorem D10_corks_149 : decode m10_corks.2.1 149 = .ok (.iload 4, 2) := by decide +kernel
theorem D10_corks_151 : decode m10_corks.2.1 151 = .ok (.iload_n 2, 1) := by decide +kernel
theorem D10_corks_152 : decode m10_corks.2.1 152 = .ok (.invokevirtual 511, 3) := by decide +kernel
theorem D10_corks_155 : decode m10_corks.2.1 155 = .ok (.ifCond .eq 10, 3) := by decide +kernel
theorem D10_corks_158 : decode m10_corks.2.1 158 = .ok (.iconst 1, 1) := by decide +kernel
theorem D10_corks_159 : decode m10_corks.2.1 159 = .ok (.iload 4, 2) := by decide +kernel
theorem D10_corks_161 : decode m10_corks.2.1 161 = .ok (.ishl, 1) := by decide +kernel
theorem D10_corks_162 : decode m10_corks.2.1 162 = .ok (.goto 4, 3) := by decide +kernel
theorem D10_corks_165 : decode m10_corks.2.1 165 = .ok (.iconst 0, 1) := by decide +kernel
theorem D10_corks_166 : decode m10_corks.2.1 166 = .ok (.ior, 1) := by decide +kernel
theorem D10_corks_167 : decode m10_corks.2.1 167 = .ok (.istore_n 3, 1) := by decide +kernel
theorem D10_corks_168 : decode m10_corks.2.1 168 = .ok (.iinc 4 1, 3) := by decide +kernel
theorem D10_corks_171 : decode m10_corks.2.1 171 = .ok (.goto (-32), 3) := by decide +kernel
theorem D10_corks_174 : decode m10_corks.2.1 174 = .ok (.iload_n 3, 1) := by decide +kernel
theorem D10_corks_175 : decode m10_corks.2.1 175 = .ok (.ireturn, 1) := by decide +kernel
theorem D10_chance_0 : decode m10_chance.2.1 0 = .ok (.aload_n 0, 1) := by decide +kernel
theorem D10_chance_1 : decode m10_chance.2.1 1 = .ok (.iconst 0, 1) := by decide +kernel
theorem D10_chance_2 : decode m10_chance.2.1 2 = .ok (.putfield 139, 3) := by decide +kernel
theorem D10_chance_5 : decode m10_chance.2.1 5 = .ok (.iload_n 1, 1) := by decide +kernel
theorem D10_chance_6 : decode m10_chance.2.1 6 = .ok (.ifCond .lt 24, 3) := by decide +kernel
theorem D10_chance_9 : decode m10_chance.2.1 9 = .ok (.iload_n 2, 1) := by decide +kernel
theorem D10_chance_10 : decode m10_chance.2.1 10 = .ok (.iconst 1, 1) := by decide +kernel
theorem D10_chance_11 : decode m10_chance.2.1 11 = .ok (.if_icmp .lt 19, 3) := by decide +kernel
theorem D10_chance_14 : decode m10_chance.2.1 14 = .ok (.iload_n 2, 1) := by decide +kernel
theorem D10_chance_15 : decode m10_chance.2.1 15 = .ok (.bipush 99, 2) := by decide +kernel
theorem D10_chance_17 : decode m10_chance.2.1 17 = .ok (.if_icmp .gt 13, 3) := by decide +kernel
theorem D10_chance_20 : decode m10_chance.2.1 20 = .ok (.iload_n 3, 1) := by decide +kernel
theorem D10_chance_21 : decode m10_chance.2.1 21 = .ok (.ifCond .lt 9, 3) := by decide +kernel
theorem D10_chance_24 : decode m10_chance.2.1 24 = .ok (.iload_n 3, 1) := by decide +kernel
theorem D10_chance_25 : decode m10_chance.2.1 25 = .ok (.bipush 10, 2) := by decide +kernel
theorem D10_chance_27 : decode m10_chance.2.1 27 = .ok (.if_icmp .le 5, 3) := by decide +kernel
theorem D10_chance_30 : decode m10_chance.2.1 30 = .ok (.iconst (-1), 1) := by decide +kernel
theorem D10_chance_31 : decode m10_chance.2.1 31 = .ok (.ireturn, 1) := by decide +kernel
theorem D10_chance_32 : decode m10_chance.2.1 32 = .ok (.iload_n 1, 1) := by decide +kernel
theorem D10_chance_33 : decode m10_chance.2.1 33 = .ok (.istore 4, 2) := by decide +kernel
theorem D10_chance_35 : decode m10_chance.2.1 35 = .ok (.iconst 0, 1) := by decide +kernel
theorem D10_chance_36 : decode m10_chance.2.1 36 = .ok (.istore 5, 2) := by decide +kernel
theorem D10_chance_38 : decode m10_chance.2.1 38 = .ok (.iconst 0, 1) := by decide +kernel
theorem D10_chance_39 : decode m10_chance.2.1 39 = .ok (.istore 6, 2) := by decide +kernel
theorem D10_chance_41 : decode m10_chance.2.1 41 = .ok (.iload 6, 2) := by decide +kernel
theorem D10_chance_43 : decode m10_chance.2.1 43 = .ok (.bipush 10, 2) := by decide +kernel
theorem D10_chance_45 : decode m10_chance.2.1 45 = .ok (.if_icmp .ge 79, 3) := by decide +kernel
theorem D10_chance_48 : decode m10_chance.2.1 48 = .ok (.aload_n 0, 1) := by decide +kernel
theorem D10_chance_49 : decode m10_chance.2.1 49 = .ok (.iconst 1, 1) := by decide +kernel
theorem D10_chance_50 : decode m10_chance.2.1 50 = .ok (.iconst 0, 1) := by decide +kernel
theorem D10_chance_51 : decode m10_chance.2.1 51 = .ok (.invokevirtual 394, 3) := by decide +kernel
theorem D10_chance_54 : decode m10_chance.2.1 54 = .ok (.aload_n 0, 1) := by decide +kernel
theorem D10_chance_55 : decode m10_chance.2.1 55 = .ok (.getfield 78, 3) := by decide +kernel
theorem D10_chance_58 : decode m10_chance.2.1 58 = .ok (.iconst 1, 1) := by decide +kernel
theorem D10_chance_59 : decode m10_chance.2.1 59 = .ok (.iload 4, 2) := by decide +kernel
theorem D10_chance_61 : decode m10_chance.2.1 61 = .ok (.iastore, 1) := by decide +kernel
theorem D10_chance_62 : decode m10_chance.2.1 62 = .ok (.iconst 0, 1) := by decide +kernel
theorem D10_chance_63 : decode m10_chance.2.1 63 = .ok (.istore 7, 2) := by decide +kernel
theorem D10_chance_65 : decode m10_chance.2.1 65 = .ok (.iload 7, 2) := by decide +kernel
theorem D10_chance_67 : decode m10_chance.2.1 67 = .ok (.iload_n 2, 1) := by decide +kernel
theorem D10_chance_68 : decode m10_chance.2.1 68 = .ok (.if_icmp .ge 15, 3) := by decide +kernel
theorem D10_chance_71 : decode m10_chance.2.1 71 = .ok (.aload_n 0, 1) := by decide +kernel
theorem D10_chance_72 : decode m10_chance.2.1 72 = .ok (.iconst 1, 1) := by decide +kernel
theorem D10_chance_73 : decode m10_chance.2.1 73 = .ok (.iconst 1, 1) := by decide +kernel
theorem D10_chance_74 : decode m10_chance.2.1 74 = .ok (.invokevirtual 390, 3) := by decide +kernel
theorem D10_chance_77 : decode m10_chance.2.1 77 = .ok (.iinc 7 1, 3) := by decide +kernel
theorem D10_chance_80 : decode m10_chance.2.1 80 = .ok (.goto (-15), 3) := by decide +kernel
theorem D10_chance_83 : decode m10_chance.2.1 83 = .ok (.aload_n 0, 1) := by decide +kernel
theorem D10_chance_84 : decode m10_chance.2.1 84 = .ok (.getfield 78, 3) := by decide +kernel
theorem D10_chance_87 : decode m10_chance.2.1 87 = .ok (.iconst 1, 1) := by decide +kernel
theorem D10_chance_88 : decode m10_chance.2.1 88 = .ok (.iaload, 1) := by decide +kernel
theorem D10_chance_89 : decode m10_chance.2.1 89 = .ok (.istore 4, 2) := by decide +kernel
theorem D10_chance_91 : decode m10_chance.2.1 91 = .ok (.iload 5, 2) := by decide +kernel
theorem D10_chance_93 : decode m10_chance.2.1 93 = .ok (.aload_n 0, 1) := by decide +kernel
theorem D10_chance_94 : decode m10_chance.2.1 94 = .ok (.iconst 1, 1) := by decide +kernel
theorem D10_chance_95 : decode m10_chance.2.1 95 = .ok (.iconst 2, 1) := by decide +kernel
theorem D10_chance_96 : decode m10_chance.2.1 96 = .ok (.invokevirtual 431, 3) := by decide +kernel
theorem D10_chance_99 : decode m10_chance.2.1 99 = .ok (.aload_n 0, 1) := by decide +kernel
theorem D10_chance_100 : decode m10_chance.2.1 100 = .ok (.iconst 0, 1) := by decide +kernel
theorem D10_chance_101 : decode m10_chance.2.1 101 = .ok (.iconst 2, 1) := by decide +kernel
theorem D10_chance_102 : decode m10_chance.2.1 102 = .ok (.invokevirtual 431, 3) := by decide +kernel
theorem D10_chance_105 : decode m10_chance.2.1 105 = .ok (.isub, 1) := by decide +kernel
theorem D10_chance_106 : decode m10_chance.2.1 106 = .ok (.iload_n 3, 1) := by decide +kernel
theorem D10_chance_107 : decode m10_chance.2.1 107 = .ok (.if_icmp .lt 7, 3) := by decide +kernel
theorem D10_chance_110 : decode m10_chance.2.1 110 = .ok (.iconst 1, 1) := by decide +kernel
theorem D10_chance_111 : decode m10_chance.2.1 111 = .ok (.goto 4, 3) := by decide +kernel
theorem D10_chance_114 : decode m10_chance.2.1 114 = .ok (.iconst 0, 1) := by decide +kernel
theorem D10_chance_115 : decode m10_chance.2.1 115 = .ok (.iadd, 1) := by decide +kernel
theorem D10_chance_116 : decode m10_chance.2.1 116 = .ok (.istore 5, 2) := by decide +kernel
theorem D10_chance_118 : decode m10_chance.2.1 118 = .ok (.iinc 6 1, 3) := by decide +kernel
theorem D10_chance_121 : decode m10_chance.2.1 121 = .ok (.goto (-80), 3) := by decide +kernel
theorem D10_chance_124 : decode m10_chance.2.1 124 = .ok (.iload 5, 2) := by decide +kernel
theorem D10_chance_126 : decode m10_chance.2.1 126 = .ok (.ireturn, 1) := by decide +kernel
theorem D10_tried_0 : decode m10_tried.2.1 0 = .ok (.aload_n 0, 1) := by decide +kernel
theorem D10_tried_1 : decode m10_tried.2.1 1 = .ok (.iconst 0, 1) := by decide +kernel
theorem D10_tried_2 : decode m10_tried.2.1 2 = .ok (.putfield 139, 3) := by decide +kernel
theorem D10_tried_5 : decode m10_tried.2.1 5 = .ok (.iload_n 1, 1) := by decide +kernel
theorem D10_tried_6 : decode m10_tried.2.1 6 = .ok (.iconst 2, 1) := by decide +kernel
theorem D10_tried_7 : decode m10_tried.2.1 7 = .ok (.if_icmp .ne 11, 3) := by decide +kernel
theorem D10_tried_10 : decode m10_tried.2.1 10 = .ok (.aload_n 0, 1) := by decide +kernel
theorem D10_tried_11 : decode m10_tried.2.1 11 = .ok (.iload_n 2, 1) := by decide +kernel
theorem D10_tried_12 : decode m10_tried.2.1 12 = .ok (.invokevirtual 403, 3) := by decide +kernel
theorem D10_tried_15 : decode m10_tried.2.1 15 = .ok (.goto 21, 3) := by decide +kernel
theorem D10_tried_18 : decode m10_tried.2.1 18 = .ok (.iload_n 1, 1) := by decide +kernel
theorem D10_tried_19 : decode m10_tried.2.1 19 = .ok (.ifCond .lt 16, 3) := by decide +kernel
theorem D10_tried_22 : decode m10_tried.2.1 22 = .ok (.iload_n 1, 1) := by decide +kernel
theorem D10_tried_23 : decode m10_tried.2.1 23 = .ok (.iconst 5, 1) := by decide +kernel
theorem D10_tried_24 : decode m10_tried.2.1 24 = .ok (.if_icmp .gt 11, 3) := by decide +kernel
theorem D10_tried_27 : decode m10_tried.2.1 27 = .ok (.iload_n 2, 1) := by decide +kernel
theorem D10_tried_28 : decode m10_tried.2.1 28 = .ok (.ifCond .ne 7, 3) := by decide +kernel
theorem D10_tried_31 : decode m10_tried.2.1 31 = .ok (.iconst 1, 1) := by decide +kernel
theorem D10_tried_32 : decode m10_tried.2.1 32 = .ok (.goto 4, 3) := by decide +kernel
theorem D10_tried_35 : decode m10_tried.2.1 35 = .ok (.iconst 0, 1) := by decide +kernel
theorem D10_tried_36 : decode m10_tried.2.1 36 = .ok (.istore 4, 2) := by decide +kernel
theorem D10_tried_38 : decode m10_tried.2.1 38 = .ok (.iload 4, 2) := by decide +kernel
theorem D10_tried_40 : decode m10_tried.2.1 40 = .ok (.ifCond .eq 13, 3) := by decide +kernel
theorem D10_tried_43 : decode m10_tried.2.1 43 = .ok (.iload_n 3, 1) := by decide +kernel
theorem D10_tried_44 : decode m10_tried.2.1 44 = .ok (.ifCond .lt 9, 3) := by decide +kernel
theorem D10_tried_47 : decode m10_tried.2.1 47 = .ok (.iload_n 3, 1) := by decide +kernel
theorem D10_tried_48 : decode m10_tried.2.1 48 = .ok (.bipush 99, 2) := by decide +kernel
theorem D10_tried_50 : decode m10_tried.2.1 50 = .ok (.if_icmp .le 5, 3) := by decide +kernel
theorem D10_tried_53 : decode m10_tried.2.1 53 = .ok (.iconst (-1), 1) := by decide +kernel
theorem D10_tried_54 : decode m10_tried.2.1 54 = .ok (.ireturn, 1) := by decide +kernel
theorem D10_tried_55 : decode m10_tried.2.1 55 = .ok (.aload_n 0, 1) := by decide +kernel
theorem D10_tried_56 : decode m10_tried.2.1 56 = .ok (.iconst 1, 1) := by decide +kernel
theorem D10_tried_57 : decode m10_tried.2.1 57 = .ok (.iconst 0, 1) := by decide +kernel
theorem D10_tried_58 : decode m10_tried.2.1 58 = .ok (.invokevirtual 394, 3) := by decide +kernel
theorem D10_tried_61 : decode m10_tried.2.1 61 = .ok (.iload_n 1, 1) := by decide +kernel
theorem D10_tried_62 : decode m10_tried.2.1 62 = .ok (.iconst 2, 1) := by decide +kernel
theorem D10_tried_63 : decode m10_tried.2.1 63 = .ok (.if_icmp .ne 22, 3) := by decide +kernel
theorem D10_tried_66 : decode m10_tried.2.1 66 = .ok (.aload_n 0, 1) := by decide +kernel
theorem D10_tried_67 : decode m10_tried.2.1 67 = .ok (.iconst 1, 1) := by decide +kernel
theorem D10_tried_68 : decode m10_tried.2.1 68 = .ok (.iload_n 2, 1) := by decide +kernel
theorem D10_tried_69 : decode m10_tried.2.1 69 = .ok (.invokevirtual 328, 3) := by decide +kernel
theorem D10_tried_72 : decode m10_tried.2.1 72 = .ok (.ifCond .eq 13, 3) := by decide +kernel
theorem D10_tried_75 : decode m10_tried.2.1 75 = .ok (.aload_n 0, 1) := by decide +kernel
theorem D10_tried_76 : decode m10_tried.2.1 76 = .ok (.getfield 96, 3) := by decide +kernel
theorem D10_tried_79 : decode m10_tried.2.1 79 = .ok (.bipush 10, 2) := by decide +kernel
theorem D10_tried_81 : decode m10_tried.2.1 81 = .ok (.iload_n 2, 1) := by decide +kernel
theorem D10_tried_82 : decode m10_tried.2.1 82 = .ok (.iadd, 1) := by decide +kernel
theorem D10_tried_83 : decode m10_tried.2.1 83 = .ok (.iconst 1, 1) := by decide +kernel
theorem D10_tried_84 : decode m10_tried.2.1 84 = .ok (.iastore, 1) := by decide +kernel
theorem D10_tried_85 : decode m10_tried.2.1 85 = .ok (.iconst 0, 1) := by decide +kernel
theorem D10_tried_86 : decode m10_tried.2.1 86 = .ok (.istore 5, 2) := by decide +kernel
theorem D10_tried_88 : decode m10_tried.2.1 88 = .ok (.iload 5, 2) := by decide +kernel
theorem D10_tried_90 : decode m10_tried.2.1 90 = .ok (.aload_n 0, 1) := by decide +kernel
theorem D10_tried_91 : decode m10_tried.2.1 91 = .ok (.getfield 13, 3) := by decide +kernel
theorem D10_tried_94 : decode m10_tried.2.1 94 = .ok (.iconst 1, 1) := by decide +kernel
theorem D10_tried_95 : decode m10_tried.2.1 95 = .ok (.iaload, 1) := by decide +kernel
theorem D10_tried_96 : decode m10_tried.2.1 96 = .ok (.if_icmp .ge 26, 3) := by decide +kernel
theorem D10_tried_99 : decode m10_tried.2.1 99 = .ok (.iload_n 1, 1) := by decide +kernel
theorem D10_tried_100 : decode m10_tried.2.1 100 = .ok (.iconst 5, 1) := by decide +kernel
theorem D10_tried_101 : decode m10_tried.2.1 101 = .ok (.if_icmp .ne 21, 3) := by decide +kernel
theorem D10_tried_104 : decode m10_tried.2.1 104 = .ok (.aload_n 0, 1) := by decide +kernel
theorem D10_tried_105 : decode m10_tried.2.1 105 = .ok (.getfield 90, 3) := by decide +kernel
theorem D10_tried_108 : decode m10_tried.2.1 108 = .ok (.bipush 10, 2) := by decide +kernel
theorem D10_tried_110 : decode m10_tried.2.1 110 = .ok (.iload 5, 2) := by decide +kernel
theorem D10_tried_112 : decode m10_tried.2.1 112 = .ok (.iadd, 1) := by decide +kernel
theorem D10_tried_113 : decode m10_tried.2.1 113 = .ok (.bipush 9, 2) := by decide +kernel
theorem D10_tried_115 : decode m10_tried.2.1 115 = .ok (.iastore, 1) := by decide +kernel
theorem D10_tried_116 : decode m10_tried.2.1 116 = .ok (.iinc 5 1, 3) := by decide +kernel
theorem D10_tried_119 : decode m10_tried.2.1 119 = .ok (.goto (-31), 3) := by decide +kernel
theorem D10_tried_122 : decode m10_tried.2.1 122 = .ok (.aload_n 0, 1) := by decide +kernel
theorem D10_tried_123 : decode m10_tried.2.1 123 = .ok (.iload_n 1, 1) := by decide +kernel
theorem D10_tried_124 : decode m10_tried.2.1 124 = .ok (.putfield 356, 3) := by decide +kernel
theorem D10_tried_127 : decode m10_tried.2.1 127 = .ok (.aload_n 0, 1) := by decide +kernel
theorem D10_tried_128 : decode m10_tried.2.1 128 = .ok (.iload_n 3, 1) := by decide +kernel
theorem D10_tried_129 : decode m10_tried.2.1 129 = .ok (.invokevirtual 397, 3) := by decide +kernel
theorem D10_tried_132 : decode m10_tried.2.1 132 = .ok (.aload_n 0, 1) := by decide +kernel
theorem D10_tried_133 : decode m10_tried.2.1 133 = .ok (.iconst 0, 1) := by decide +kernel
theorem D10_tried_134 : decode m10_tried.2.1 134 = .ok (.putfield 356, 3) := by decide +kernel
theorem D10_tried_137 : decode m10_tried.2.1 137 = .ok (.aload_n 0, 1) := by decide +kernel
theorem D10_tried_138 : decode m10_tried.2.1 138 = .ok (.iconst 1, 1) := by decide +kernel
theorem D10_tried_139 : decode m10_tried.2.1 139 = .ok (.iconst 2, 1) := by decide +kernel
theorem D10_tried_140 : decode m10_tried.2.1 140 = .ok (.invokevirtual 431, 3) := by decide +kernel
theorem D10_tried_143 : decode m10_tried.2.1 143 = .ok (.aload_n 0, 1) := by decide +kernel
theorem D10_tried_144 : decode m10_tried.2.1 144 = .ok (.iconst 0, 1) := by decide +kernel
theorem D10_tried_145 : decode m10_tried.2.1 145 = .ok (.iconst 2, 1) := by decide +kernel
theorem D10_tried_146 : decode m10_tried.2.1 146 = .ok (.invokevirtual 431, 3) := by decide +kernel
theorem D10_tried_149 : decode m10_tried.2.1 149 = .ok (.isub, 1) := by decide +kernel
theorem D10_tried_150 : decode m10_tried.2.1 150 = .ok (.ireturn, 1) := by decide +kernel
theorem D10_undo_0 : decode m10_undo.2.1 0 = .ok (.aload_n 0, 1) := by decide +kernel
theorem D10_undo_1 : decode m10_undo.2.1 1 = .ok (.iconst 0, 1) := by decide +kernel
theorem D10_undo_2 : decode m10_undo.2.1 2 = .ok (.putfield 139, 3) := by decide +kernel
theorem D10_undo_5 : decode m10_undo.2.1 5 = .ok (.aload_n 0, 1) := by decide +kernel
theorem D10_undo_6 : decode m10_undo.2.1 6 = .ok (.getfield 302, 3) := by decide +kernel
theorem D10_undo_9 : decode m10_undo.2.1 9 = .ok (.ifCond .ne 5, 3) := by decide +kernel
theorem D10_undo_12 : decode m10_undo.2.1 12 = .ok (.iconst (-1), 1) := by decide +kernel
theorem D10_undo_13 : decode m10_undo.2.1 13 = .ok (.ireturn, 1) := by decide +kernel
theorem D10_undo_14 : decode m10_undo.2.1 14 = .ok (.aload_n 0, 1) := by decide +kernel
theorem D10_undo_15 : decode m10_undo.2.1 15 = .ok (.dup, 1) := by decide +kernel
theorem D10_undo_16 : decode m10_undo.2.1 16 = .ok (.getfield 302, 3) := by decide +kernel
theorem D10_undo_19 : decode m10_undo.2.1 19 = .ok (.iconst 1, 1) := by decide +kernel
theorem D10_undo_20 : decode m10_undo.2.1 20 = .ok (.isub, 1) := by decide +kernel
theorem D10_undo_21 : decode m10_undo.2.1 21 = .ok (.putfield 302, 3) := by decide +kernel
theorem D10_undo_24 : decode m10_undo.2.1 24 = .ok (.aload_n 0, 1) := by decide +kernel
theorem D10_undo_25 : decode m10_undo.2.1 25 = .ok (.iconst 0, 1) := by decide +kernel
theorem D10_undo_26 : decode m10_undo.2.1 26 = .ok (.iconst 3, 1) := by decide +kernel
theorem D10_undo_27 : decode m10_undo.2.1 27 = .ok (.aload_n 0, 1) := by decide +kernel
theorem D10_undo_28 : decode m10_undo.2.1 28 = .ok (.getfield 302, 3) := by decide +kernel
theorem D10_undo_31 : decode m10_undo.2.1 31 = .ok (.iadd, 1) := by decide +kernel
theorem D10_undo_32 : decode m10_undo.2.1 32 = .ok (.invokevirtual 394, 3) := by decide +kernel
theorem D10_undo_35 : decode m10_undo.2.1 35 = .ok (.aload_n 0, 1) := by decide +kernel
theorem D10_undo_36 : decode m10_undo.2.1 36 = .ok (.getfield 302, 3) := by decide +kernel
theorem D10_undo_39 : decode m10_undo.2.1 39 = .ok (.ireturn, 1) := by decide +kernel
theorem D10_keep_0 : decode m10_keep.2.1 0 = .ok (.aload_n 0, 1) := by decide +kernel
theorem D10_keep_1 : decode m10_keep.2.1 1 = .ok (.iconst 0, 1) := by decide +kernel
theorem D10_keep_2 : decode m10_keep.2.1 2 = .ok (.putfield 139, 3) := by decide +kernel
theorem D10_keep_5 : decode m10_keep.2.1 5 = .ok (.aload_n 0, 1) := by decide +kernel
theorem D10_keep_6 : decode m10_keep.2.1 6 = .ok (.iconst 2, 1) := by decide +kernel
theorem D10_keep_7 : decode m10_keep.2.1 7 = .ok (.iconst 0, 1) := by decide +kernel
theorem D10_keep_8 : decode m10_keep.2.1 8 = .ok (.invokevirtual 394, 3) := by decide +kernel
theorem D10_keep_11 : decode m10_keep.2.1 11 = .ok (.aload_n 0, 1) := by decide +kernel
theorem D10_keep_12 : decode m10_keep.2.1 12 = .ok (.iconst 1, 1) := by decide +kernel
theorem D10_keep_13 : decode m10_keep.2.1 13 = .ok (.putfield 298, 3) := by decide +kernel
theorem D10_keep_16 : decode m10_keep.2.1 16 = .ok (.aload_n 0, 1) := by decide +kernel
theorem D10_keep_17 : decode m10_keep.2.1 17 = .ok (.getfield 75, 3) := by decide +kernel
theorem D10_keep_20 : decode m10_keep.2.1 20 = .ok (.iconst 0, 1) := by decide +kernel
theorem D10_keep_21 : decode m10_keep.2.1 21 = .ok (.iaload, 1) := by decide +kernel
theorem D10_keep_22 : decode m10_keep.2.1 22 = .ok (.ireturn, 1) := by decide +kernel
theorem D10_back_0 : decode m10_back.2.1 0 = .ok (.aload_n 0, 1) := by decide +kernel
theorem D10_back_1 : decode m10_back.2.1 1 = .ok (.iconst 0, 1) := by decide +kernel
theorem D10_back_2 : decode m10_back.2.1 2 = .ok (.putfield 139, 3) := by decide +kernel
theorem D10_back_5 : decode m10_back.2.1 5 = .ok (.aload_n 0, 1) := by decide +kernel
theorem D10_back_6 : decode m10_back.2.1 6 = .ok (.getfield 298, 3) := by decide +kernel
theorem D10_back_9 : decode m10_back.2.1 9 = .ok (.ifCond .ne 5, 3) := by decide +kernel
theorem D10_back_12 : decode m10_back.2.1 12 = .ok (.iconst (-1), 1) := by decide +kernel
theorem D10_back_13 : decode m10_back.2.1 13 = .ok (.ireturn, 1) := by decide +kernel
theorem D10_back_14 : decode m10_back.2.1 14 = .ok (.aload_n 0, 1) := by decide +kernel
theorem D10_back_15 : decode m10_back.2.1 15 = .ok (.iconst 0, 1) := by decide +kernel
theorem D10_back_16 : decode m10_back.2.1 16 = .ok (.iconst 2, 1) := by decide +kernel
theorem D10_back_17 : decode m10_back.2.1 17 = .ok (.invokevirtual 394, 3) := by decide +kernel
theorem D10_back_20 : decode m10_back.2.1 20 = .ok (.aload_n 0, 1) := by decide +kernel
theorem D10_back_21 : decode m10_back.2.1 21 = .ok (.iconst 0, 1) := by decide +kernel
theorem D10_back_22 : decode m10_back.2.1 22 = .ok (.putfield 302, 3) := by decide +kernel
theorem D10_back_25 : decode m10_back.2.1 25 = .ok (.aload_n 0, 1) := by decide +kernel
theorem D10_back_26 : decode m10_back.2.1 26 = .ok (.getfield 75, 3) := by decide +kernel
theorem D10_back_29 : decode m10_back.2.1 29 = .ok (.iconst 0, 1) := by decide +kernel
theorem D10_back_30 : decode m10_back.2.1 30 = .ok (.iaload, 1) := by decide +kernel
theorem D10_back_31 : decode m10_back.2.1 31 = .ok (.ireturn, 1) := by decide +kernel
theorem D10_count_0 : decode m10_count.2.1 0 = .ok (.aload_n 0, 1) := by decide +kernel
theorem D10_count_1 : decode m10_count.2.1 1 = .ok (.iconst 0, 1) := by decide +kernel
theorem D10_count_2 : decode m10_count.2.1 2 = .ok (.putfield 139, 3) := by decide +kernel
theorem D10_count_5 : decode m10_count.2.1 5 = .ok (.iload_n 1, 1) := by decide +kernel
theorem D10_count_6 : decode m10_count.2.1 6 = .ok (.tableswitch 172 0 14 #[74, 81, 88, 95, 102, 109, 116, 123, 130, 137, 144, 151, 157, 162, 167], 74) := by decide +kernel
theorem D10_count_80 : decode m10_count.2.1 80 = .ok (.aload_n 0, 1) := by decide +kernel
theorem D10_count_81 : decode m10_count.2.1 81 = .ok (.getfield 13, 3) := by decide +kernel
theorem D10_count_84 : decode m10_count.2.1 84 = .ok (.iconst 0, 1) := by decide +kernel
theorem D10_count_85 : decode m10_count.2.1 85 = .ok (.iaload, 1) := by decide +kernel
theorem D10_count_86 : decode m10_count.2.1 86 = .ok (.ireturn, 1) := by decide +kernel
theorem D10_count_87 : decode m10_count.2.1 87 = .ok (.aload_n 0, 1) := by decide +kernel
theorem D10_count_88 : decode m10_count.2.1 88 = .ok (.getfield 13, 3) := by decide +kernel
theorem D10_count_91 : decode m10_count.2.1 91 = .ok (.iconst 1, 1) := by decide +kernel
theorem D10_count_92 : decode m10_count.2.1 92 = .ok (.iaload, 1) := by decide +kernel
theorem D10_count_93 : decode m10_count.2.1 93 = .ok (.ireturn, 1) := by decide +kernel
theorem D10_count_94 : decode m10_count.2.1 94 = .ok (.aload_n 0, 1) := by decide +kernel
theorem D10_count_95 : decode m10_count.2.1 95 = .ok (.getfield 13, 3) := by decide +kernel
theorem D10_count_98 : decode m10_count.2.1 98 = .ok (.iconst 2, 1) := by decide +kernel
theorem D10_count_99 : decode m10_count.2.1 99 = .ok (.iaload, 1) := by decide +kernel
theorem D10_count_100 : decode m10_count.2.1 100 = .ok (.ireturn, 1) := by decide +kernel
theorem D10_count_101 : decode m10_count.2.1 101 = .ok (.aload_n 0, 1) := by decide +kernel
theorem D10_count_102 : decode m10_count.2.1 102 = .ok (.getfield 13, 3) := by decide +kernel
theorem D10_count_105 : decode m10_count.2.1 105 = .ok (.iconst 5, 1) := by decide +kernel
theorem D10_count_106 : decode m10_count.2.1 106 = .ok (.iaload, 1) := by decide +kernel
theorem D10_count_107 : decode m10_count.2.1 107 = .ok (.ireturn, 1) := by decide +kernel
theorem D10_count_108 : decode m10_count.2.1 108 = .ok (.aload_n 0, 1) := by decide +kernel
theorem D10_count_109 : decode m10_count.2.1 109 = .ok (.getfield 75, 3) := by decide +kernel
theorem D10_count_112 : decode m10_count.2.1 112 = .ok (.iconst 0, 1) := by decide +kernel
theorem D10_count_113 : decode m10_count.2.1 113 = .ok (.iaload, 1) := by decide +kernel
theorem D10_count_114 : decode m10_count.2.1 114 = .ok (.ireturn, 1) := by decide +kernel
theorem D10_count_115 : decode m10_count.2.1 115 = .ok (.aload_n 0, 1) := by decide +kernel
theorem D10_count_116 : decode m10_count.2.1 116 = .ok (.iconst 0, 1) := by decide +kernel
theorem D10_count_117 : decode m10_count.2.1 117 = .ok (.iconst 0, 1) := by decide +kernel
theorem D10_count_118 : decode m10_count.2.1 118 = .ok (.invokevirtual 431, 3) := by decide +kernel
theorem D10_count_121 : decode m10_count.2.1 121 = .ok (.ireturn, 1) := by decide +kernel
theorem D10_count_122 : decode m10_count.2.1 122 = .ok (.aload_n 0, 1) := by decide +kernel
theorem D10_count_123 : decode m10_count.2.1 123 = .ok (.iconst 0, 1) := by decide +kernel
theorem D10_count_124 : decode m10_count.2.1 124 = .ok (.iconst 1, 1) := by decide +kernel
theorem D10_count_125 : decode m10_count.2.1 125 = .ok (.invokevirtual 431, 3) := by decide +kernel
theorem D10_count_128 : decode m10_count.2.1 128 = .ok (.ireturn, 1) := by decide +kernel
theorem D10_count_129 : decode m10_count.2.1 129 = .ok (.aload_n 0, 1) := by decide +kernel
theorem D10_count_130 : decode m10_count.2.1 130 = .ok (.iconst 0, 1) := by decide +kernel
theorem D10_count_131 : decode m10_count.2.1 131 = .ok (.iconst 2, 1) := by decide +kernel
theorem D10_count_132 : decode m10_count.2.1 132 = .ok (.invokevirtual 431, 3) := by decide +kernel
theorem D10_count_135 : decode m10_count.2.1 135 = .ok (.ireturn, 1) := by decide +kernel
theorem D10_count_136 : decode m10_count.2.1 136 = .ok (.aload_n 0, 1) := by decide +kernel
theorem D10_count_137 : decode m10_count.2.1 137 = .ok (.iconst 0, 1) := by decide +kernel
theorem D10_count_138 : decode m10_count.2.1 138 = .ok (.iconst 1, 1) := by decide +kernel
theorem D10_count_139 : decode m10_count.2.1 139 = .ok (.invokevirtual 434, 3) := by decide +kernel
theorem D10_count_142 : decode m10_count.2.1 142 = .ok (.ireturn, 1) := by decide +kernel
theorem D10_count_143 : decode m10_count.2.1 143 = .ok (.aload_n 0, 1) := by decide +kernel
theorem D10_count_144 : decode m10_count.2.1 144 = .ok (.iconst 0, 1) := by decide +kernel
theorem D10_count_145 : decode m10_count.2.1 145 = .ok (.iconst 0, 1) := by decide +kernel
theorem D10_count_146 : decode m10_count.2.1 146 = .ok (.invokevirtual 434, 3) := by decide +kernel
theorem D10_count_149 : decode m10_count.2.1 149 = .ok (.ireturn, 1) := by decide +kernel
theorem D10_count_150 : decode m10_count.2.1 150 = .ok (.aload_n 0, 1) := by decide +kernel
theorem D10_count_151 : decode m10_count.2.1 151 = .ok (.getfield 81, 3) := by decide +kernel
theorem D10_count_154 : decode m10_count.2.1 154 = .ok (.iconst 0, 1) := by decide +kernel
theorem D10_count_155 : decode m10_count.2.1 155 = .ok (.iaload, 1) := by decide +kernel
theorem D10_count_156 : decode m10_count.2.1 156 = .ok (.ireturn, 1) := by decide +kernel
theorem D10_count_157 : decode m10_count.2.1 157 = .ok (.aload_n 0, 1) := by decide +kernel
theorem D10_count_158 : decode m10_count.2.1 158 = .ok (.iconst 0, 1) := by decide +kernel
theorem D10_count_159 : decode m10_count.2.1 159 = .ok (.invokevirtual 438, 3) := by decide +kernel
theorem D10_count_162 : decode m10_count.2.1 162 = .ok (.ireturn, 1) := by decide +kernel
theorem D10_count_163 : decode m10_count.2.1 163 = .ok (.aload_n 0, 1) := by decide +kernel
theorem D10_count_164 : decode m10_count.2.1 164 = .ok (.getfield 295, 3) := by decide +kernel
theorem D10_count_167 : decode m10_count.2.1 167 = .ok (.ireturn, 1) := by decide +kernel
theorem D10_count_168 : decode m10_count.2.1 168 = .ok (.aload_n 0, 1) := by decide +kernel
theorem D10_count_169 : decode m10_count.2.1 169 = .ok (.invokevirtual 505, 3) := by decide +kernel
theorem D10_count_172 : decode m10_count.2.1 172 = .ok (.ireturn, 1) := by decide +kernel
theorem D10_count_173 : decode m10_count.2.1 173 = .ok (.aload_n 0, 1) := by decide +kernel
theorem D10_count_174 : decode m10_count.2.1 174 = .ok (.getfield 302, 3) := by decide +kernel
theorem D10_count_177 : decode m10_count.2.1 177 = .ok (.ireturn, 1) := by decide +kernel
theorem D10_count_178 : decode m10_count.2.1 178 = .ok (.iconst (-1), 1) := by decide +kernel
theorem D10_count_179 : decode m10_count.2.1 179 = .ok (.ireturn, 1) := by decide +kernel
