/-! DECODED instructions (own program gendec.py) -/
theorem D9_init_0 : decode m9_init.2.1 0 = .ok (.aload_n 0, 1) := by decide +kernel
theorem D9_init_1 : decode m9_init.2.1 1 = .ok (.invokespecial 3, 3) := by decide +kernel
theorem D9_init_4 : decode m9_init.2.1 4 = .ok (.aload_n 0, 1) := by decide +kernel
theorem D9_init_5 : decode m9_init.2.1 5 = .ok (.sipush 700, 3) := by decide +kernel
theorem D9_init_8 : decode m9_init.2.1 8 = .ok (.newarray .byte, 2) := by decide +kernel
theorem D9_init_10 : decode m9_init.2.1 10 = .ok (.putfield 11, 3) := by decide +kernel
theorem D9_init_13 : decode m9_init.2.1 13 = .ok (.aload_n 0, 1) := by decide +kernel
theorem D9_init_14 : decode m9_init.2.1 14 = .ok (.new 15, 3) := by decide +kernel
theorem D9_init_17 : decode m9_init.2.1 17 = .ok (.dup, 1) := by decide +kernel
theorem D9_init_18 : decode m9_init.2.1 18 = .ok (.invokespecial 17, 3) := by decide +kernel
theorem D9_init_21 : decode m9_init.2.1 21 = .ok (.putfield 18, 3) := by decide +kernel
theorem D9_init_24 : decode m9_init.2.1 24 = .ok (.aload_n 0, 1) := by decide +kernel
theorem D9_init_25 : decode m9_init.2.1 25 = .ok (.new 15, 3) := by decide +kernel
theorem D9_init_28 : decode m9_init.2.1 28 = .ok (.dup, 1) := by decide +kernel
theorem D9_init_29 : decode m9_init.2.1 29 = .ok (.invokespecial 17, 3) := by decide +kernel
theorem D9_init_32 : decode m9_init.2.1 32 = .ok (.putfield 22, 3) := by decide +kernel
theorem D9_init_35 : decode m9_init.2.1 35 = .ok (.aload_n 0, 1) := by decide +kernel
theorem D9_init_36 : decode m9_init.2.1 36 = .ok (.new 25, 3) := by decide +kernel
theorem D9_init_39 : decode m9_init.2.1 39 = .ok (.dup, 1) := by decide +kernel
theorem D9_init_40 : decode m9_init.2.1 40 = .ok (.aload_n 0, 1) := by decide +kernel
theorem D9_init_41 : decode m9_init.2.1 41 = .ok (.getfield 11, 3) := by decide +kernel
theorem D9_init_44 : decode m9_init.2.1 44 = .ok (.invokespecial 27, 3) := by decide +kernel
theorem D9_init_47 : decode m9_init.2.1 47 = .ok (.putfield 30, 3) := by decide +kernel
theorem D9_init_50 : decode m9_init.2.1 50 = .ok (.aload_n 0, 1) := by decide +kernel
theorem D9_init_51 : decode m9_init.2.1 51 = .ok (.new 34, 3) := by decide +kernel
theorem D9_init_54 : decode m9_init.2.1 54 = .ok (.dup, 1) := by decide +kernel
theorem D9_init_55 : decode m9_init.2.1 55 = .ok (.aload_n 0, 1) := by decide +kernel
theorem D9_init_56 : decode m9_init.2.1 56 = .ok (.getfield 30, 3) := by decide +kernel
theorem D9_init_59 : decode m9_init.2.1 59 = .ok (.aload_n 0, 1) := by decide +kernel
theorem D9_init_60 : decode m9_init.2.1 60 = .ok (.getfield 22, 3) := by decide +kernel
theorem D9_init_63 : decode m9_init.2.1 63 = .ok (.invokespecial 36, 3) := by decide +kernel
theorem D9_init_66 : decode m9_init.2.1 66 = .ok (.putfield 39, 3) := by decide +kernel
theorem D9_init_69 : decode m9_init.2.1 69 = .ok (.aload_n 0, 1) := by decide +kernel
theorem D9_init_70 : decode m9_init.2.1 70 = .ok (.new 43, 3) := by decide +kernel
theorem D9_init_73 : decode m9_init.2.1 73 = .ok (.dup, 1) := by decide +kernel
theorem D9_init_74 : decode m9_init.2.1 74 = .ok (.invokespecial 45, 3) := by decide +kernel
theorem D9_init_77 : decode m9_init.2.1 77 = .ok (.putfield 46, 3) := by decide +kernel
theorem D9_init_80 : decode m9_init.2.1 80 = .ok (.aload_n 0, 1) := by decide +kernel
theorem D9_init_81 : decode m9_init.2.1 81 = .ok (.new 43, 3) := by decide +kernel
theorem D9_init_84 : decode m9_init.2.1 84 = .ok (.dup, 1) := by decide +kernel
theorem D9_init_85 : decode m9_init.2.1 85 = .ok (.invokespecial 45, 3) := by decide +kernel
theorem D9_init_88 : decode m9_init.2.1 88 = .ok (.putfield 50, 3) := by decide +kernel
theorem D9_init_91 : decode m9_init.2.1 91 = .ok (.aload_n 0, 1) := by decide +kernel
theorem D9_init_92 : decode m9_init.2.1 92 = .ok (.new 43, 3) := by decide +kernel
theorem D9_init_95 : decode m9_init.2.1 95 = .ok (.dup, 1) := by decide +kernel
theorem D9_init_96 : decode m9_init.2.1 96 = .ok (.invokespecial 45, 3) := by decide +kernel
theorem D9_init_99 : decode m9_init.2.1 99 = .ok (.putfield 53, 3) := by decide +kernel
theorem D9_init_102 : decode m9_init.2.1 102 = .ok (.aload_n 0, 1) := by decide +kernel
theorem D9_init_103 : decode m9_init.2.1 103 = .ok (.new 56, 3) := by decide +kernel
theorem D9_init_106 : decode m9_init.2.1 106 = .ok (.dup, 1) := by decide +kernel
theorem D9_init_107 : decode m9_init.2.1 107 = .ok (.aload_n 0, 1) := by decide +kernel
theorem D9_init_108 : decode m9_init.2.1 108 = .ok (.getfield 18, 3) := by decide +kernel
theorem D9_init_111 : decode m9_init.2.1 111 = .ok (.aload_n 0, 1) := by decide +kernel
theorem D9_init_112 : decode m9_init.2.1 112 = .ok (.getfield 53, 3) := by decide +kernel
theorem D9_init_115 : decode m9_init.2.1 115 = .ok (.invokespecial 58, 3) := by decide +kernel
theorem D9_init_118 : decode m9_init.2.1 118 = .ok (.putfield 61, 3) := by decide +kernel
theorem D9_init_121 : decode m9_init.2.1 121 = .ok (.aload_n 0, 1) := by decide +kernel
theorem D9_init_122 : decode m9_init.2.1 122 = .ok (.new 65, 3) := by decide +kernel
theorem D9_init_125 : decode m9_init.2.1 125 = .ok (.dup, 1) := by decide +kernel
theorem D9_init_126 : decode m9_init.2.1 126 = .ok (.invokespecial 67, 3) := by decide +kernel
theorem D9_init_129 : decode m9_init.2.1 129 = .ok (.putfield 68, 3) := by decide +kernel
theorem D9_init_132 : decode m9_init.2.1 132 = .ok (.aload_n 0, 1) := by decide +kernel
theorem D9_init_133 : decode m9_init.2.1 133 = .ok (.new 72, 3) := by decide +kernel
theorem D9_init_136 : decode m9_init.2.1 136 = .ok (.dup, 1) := by decide +kernel
theorem D9_init_137 : decode m9_init.2.1 137 = .ok (.invokespecial 74, 3) := by decide +kernel
theorem D9_init_140 : decode m9_init.2.1 140 = .ok (.putfield 75, 3) := by decide +kernel
theorem D9_init_143 : decode m9_init.2.1 143 = .ok (.aload_n 0, 1) := by decide +kernel
theorem D9_init_144 : decode m9_init.2.1 144 = .ok (.new 79, 3) := by decide +kernel
theorem D9_init_147 : decode m9_init.2.1 147 = .ok (.dup, 1) := by decide +kernel
theorem D9_init_148 : decode m9_init.2.1 148 = .ok (.aload_n 0, 1) := by decide +kernel
theorem D9_init_149 : decode m9_init.2.1 149 = .ok (.getfield 18, 3) := by decide +kernel
theorem D9_init_152 : decode m9_init.2.1 152 = .ok (.aload_n 0, 1) := by decide +kernel
theorem D9_init_153 : decode m9_init.2.1 153 = .ok (.getfield 46, 3) := by decide +kernel
theorem D9_init_156 : decode m9_init.2.1 156 = .ok (.invokespecial 81, 3) := by decide +kernel
theorem D9_init_159 : decode m9_init.2.1 159 = .ok (.putfield 82, 3) := by decide +kernel
theorem D9_init_162 : decode m9_init.2.1 162 = .ok (.aload_n 0, 1) := by decide +kernel
theorem D9_init_163 : decode m9_init.2.1 163 = .ok (.iconst 4, 1) := by decide +kernel
theorem D9_init_164 : decode m9_init.2.1 164 = .ok (.newarray .int, 2) := by decide +kernel
theorem D9_init_166 : decode m9_init.2.1 166 = .ok (.putfield 86, 3) := by decide +kernel
theorem D9_init_169 : decode m9_init.2.1 169 = .ok (.aload_n 0, 1) := by decide +kernel
theorem D9_init_170 : decode m9_init.2.1 170 = .ok (.getfield 46, 3) := by decide +kernel
theorem D9_init_173 : decode m9_init.2.1 173 = .ok (.aload_n 0, 1) := by decide +kernel
theorem D9_init_174 : decode m9_init.2.1 174 = .ok (.getfield 18, 3) := by decide +kernel
theorem D9_init_177 : decode m9_init.2.1 177 = .ok (.invokevirtual 90, 3) := by decide +kernel
theorem D9_init_180 : decode m9_init.2.1 180 = .ok (.return_, 1) := by decide +kernel
theorem D9_feed_0 : decode m9_feed.2.1 0 = .ok (.aload_n 0, 1) := by decide +kernel
theorem D9_feed_1 : decode m9_feed.2.1 1 = .ok (.getfield 94, 3) := by decide +kernel
theorem D9_feed_4 : decode m9_feed.2.1 4 = .ok (.bipush 20, 2) := by decide +kernel
theorem D9_feed_6 : decode m9_feed.2.1 6 = .ok (.iadd, 1) := by decide +kernel
theorem D9_feed_7 : decode m9_feed.2.1 7 = .ok (.sipush 700, 3) := by decide +kernel
theorem D9_feed_10 : decode m9_feed.2.1 10 = .ok (.if_icmp .le 5, 3) := by decide +kernel
theorem D9_feed_13 : decode m9_feed.2.1 13 = .ok (.iconst (-1), 1) := by decide +kernel
theorem D9_feed_14 : decode m9_feed.2.1 14 = .ok (.ireturn, 1) := by decide +kernel
theorem D9_feed_15 : decode m9_feed.2.1 15 = .ok (.aload_n 0, 1) := by decide +kernel
theorem D9_feed_16 : decode m9_feed.2.1 16 = .ok (.iload_n 1, 1) := by decide +kernel
theorem D9_feed_17 : decode m9_feed.2.1 17 = .ok (.invokevirtual 98, 3) := by decide +kernel
theorem D9_feed_20 : decode m9_feed.2.1 20 = .ok (.aload_n 0, 1) := by decide +kernel
theorem D9_feed_21 : decode m9_feed.2.1 21 = .ok (.iload_n 2, 1) := by decide +kernel
theorem D9_feed_22 : decode m9_feed.2.1 22 = .ok (.invokevirtual 98, 3) := by decide +kernel
theorem D9_feed_25 : decode m9_feed.2.1 25 = .ok (.aload_n 0, 1) := by decide +kernel
theorem D9_feed_26 : decode m9_feed.2.1 26 = .ok (.iload_n 3, 1) := by decide +kernel
theorem D9_feed_27 : decode m9_feed.2.1 27 = .ok (.invokevirtual 98, 3) := by decide +kernel
theorem D9_feed_30 : decode m9_feed.2.1 30 = .ok (.aload_n 0, 1) := by decide +kernel
theorem D9_feed_31 : decode m9_feed.2.1 31 = .ok (.iload 4, 2) := by decide +kernel
theorem D9_feed_33 : decode m9_feed.2.1 33 = .ok (.invokevirtual 98, 3) := by decide +kernel
theorem D9_feed_36 : decode m9_feed.2.1 36 = .ok (.aload_n 0, 1) := by decide +kernel
theorem D9_feed_37 : decode m9_feed.2.1 37 = .ok (.iload 5, 2) := by decide +kernel
theorem D9_feed_39 : decode m9_feed.2.1 39 = .ok (.invokevirtual 98, 3) := by decide +kernel
theorem D9_feed_42 : decode m9_feed.2.1 42 = .ok (.aload_n 0, 1) := by decide +kernel
theorem D9_feed_43 : decode m9_feed.2.1 43 = .ok (.getfield 94, 3) := by decide +kernel
theorem D9_feed_46 : decode m9_feed.2.1 46 = .ok (.ireturn, 1) := by decide +kernel
theorem D9_putBytes_0 : decode m9_putBytes.2.1 0 = .ok (.bipush 24, 2) := by decide +kernel
theorem D9_putBytes_2 : decode m9_putBytes.2.1 2 = .ok (.istore_n 2, 1) := by decide +kernel
theorem D9_putBytes_3 : decode m9_putBytes.2.1 3 = .ok (.iload_n 2, 1) := by decide +kernel
theorem D9_putBytes_4 : decode m9_putBytes.2.1 4 = .ok (.ifCond .lt 42, 3) := by decide +kernel
theorem D9_putBytes_7 : decode m9_putBytes.2.1 7 = .ok (.aload_n 0, 1) := by decide +kernel
theorem D9_putBytes_8 : decode m9_putBytes.2.1 8 = .ok (.getfield 94, 3) := by decide +kernel
theorem D9_putBytes_11 : decode m9_putBytes.2.1 11 = .ok (.sipush 700, 3) := by decide +kernel
theorem D9_putBytes_14 : decode m9_putBytes.2.1 14 = .ok (.if_icmp .ge 32, 3) := by decide +kernel
theorem D9_putBytes_17 : decode m9_putBytes.2.1 17 = .ok (.aload_n 0, 1) := by decide +kernel
theorem D9_putBytes_18 : decode m9_putBytes.2.1 18 = .ok (.getfield 11, 3) := by decide +kernel
theorem D9_putBytes_21 : decode m9_putBytes.2.1 21 = .ok (.aload_n 0, 1) := by decide +kernel
theorem D9_putBytes_22 : decode m9_putBytes.2.1 22 = .ok (.getfield 94, 3) := by decide +kernel
theorem D9_putBytes_25 : decode m9_putBytes.2.1 25 = .ok (.iload_n 1, 1) := by decide +kernel
theorem D9_putBytes_26 : decode m9_putBytes.2.1 26 = .ok (.iload_n 2, 1) := by decide +kernel
theorem D9_putBytes_27 : decode m9_putBytes.2.1 27 = .ok (.ishr, 1) := by decide +kernel
theorem D9_putBytes_28 : decode m9_putBytes.2.1 28 = .ok (.i2b, 1) := by decide +kernel
theorem D9_putBytes_29 : decode m9_putBytes.2.1 29 = .ok (.bastore, 1) := by decide +kernel
theorem D9_putBytes_30 : decode m9_putBytes.2.1 30 = .ok (.aload_n 0, 1) := by decide +kernel
theorem D9_putBytes_31 : decode m9_putBytes.2.1 31 = .ok (.dup, 1) := by decide +kernel
theorem D9_putBytes_32 : decode m9_putBytes.2.1 32 = .ok (.getfield 94, 3) := by decide +kernel
theorem D9_putBytes_35 : decode m9_putBytes.2.1 35 = .ok (.iconst 1, 1) := by decide +kernel
theorem D9_putBytes_36 : decode m9_putBytes.2.1 36 = .ok (.iadd, 1) := by decide +kernel
theorem D9_putBytes_37 : decode m9_putBytes.2.1 37 = .ok (.putfield 94, 3) := by decide +kernel
theorem D9_putBytes_40 : decode m9_putBytes.2.1 40 = .ok (.iinc 2 (-8), 3) := by decide +kernel
theorem D9_putBytes_43 : decode m9_putBytes.2.1 43 = .ok (.goto (-40), 3) := by decide +kernel
theorem D9_putBytes_46 : decode m9_putBytes.2.1 46 = .ok (.return_, 1) := by decide +kernel
theorem D9_text_0 : decode m9_text.2.1 0 = .ok (.iload_n 1, 1) := by decide +kernel
theorem D9_text_1 : decode m9_text.2.1 1 = .ok (.ifCond .lt 11, 3) := by decide +kernel
theorem D9_text_4 : decode m9_text.2.1 4 = .ok (.iload_n 1, 1) := by decide +kernel
theorem D9_text_5 : decode m9_text.2.1 5 = .ok (.aload_n 0, 1) := by decide +kernel
theorem D9_text_6 : decode m9_text.2.1 6 = .ok (.getfield 94, 3) := by decide +kernel
theorem D9_text_9 : decode m9_text.2.1 9 = .ok (.if_icmp .le 6, 3) := by decide +kernel
theorem D9_text_12 : decode m9_text.2.1 12 = .ok (.bipush (-2), 2) := by decide +kernel
theorem D9_text_14 : decode m9_text.2.1 14 = .ok (.ireturn, 1) := by decide +kernel
theorem D9_text_15 : decode m9_text.2.1 15 = .ok (.aload_n 0, 1) := by decide +kernel
theorem D9_text_16 : decode m9_text.2.1 16 = .ok (.iconst 0, 1) := by decide +kernel
theorem D9_text_17 : decode m9_text.2.1 17 = .ok (.putfield 94, 3) := by decide +kernel
theorem D9_text_20 : decode m9_text.2.1 20 = .ok (.aload_n 0, 1) := by decide +kernel
theorem D9_text_21 : decode m9_text.2.1 21 = .ok (.getfield 30, 3) := by decide +kernel
theorem D9_text_24 : decode m9_text.2.1 24 = .ok (.iload_n 1, 1) := by decide +kernel
theorem D9_text_25 : decode m9_text.2.1 25 = .ok (.invokevirtual 102, 3) := by decide +kernel
theorem D9_text_28 : decode m9_text.2.1 28 = .ok (.aload_n 0, 1) := by decide +kernel
theorem D9_text_29 : decode m9_text.2.1 29 = .ok (.getfield 39, 3) := by decide +kernel
theorem D9_text_32 : decode m9_text.2.1 32 = .ok (.aload_n 0, 1) := by decide +kernel
theorem D9_text_33 : decode m9_text.2.1 33 = .ok (.getfield 22, 3) := by decide +kernel
theorem D9_text_36 : decode m9_text.2.1 36 = .ok (.invokevirtual 105, 3) := by decide +kernel
theorem D9_text_39 : decode m9_text.2.1 39 = .ok (.istore_n 2, 1) := by decide +kernel
theorem D9_text_40 : decode m9_text.2.1 40 = .ok (.iload_n 2, 1) := by decide +kernel
theorem D9_text_41 : decode m9_text.2.1 41 = .ok (.iconst (-1), 1) := by decide +kernel
theorem D9_text_42 : decode m9_text.2.1 42 = .ok (.if_icmp .ne 5, 3) := by decide +kernel
theorem D9_text_45 : decode m9_text.2.1 45 = .ok (.iconst (-1), 1) := by decide +kernel
theorem D9_text_46 : decode m9_text.2.1 46 = .ok (.ireturn, 1) := by decide +kernel
theorem D9_text_47 : decode m9_text.2.1 47 = .ok (.aload_n 0, 1) := by decide +kernel
theorem D9_text_48 : decode m9_text.2.1 48 = .ok (.getfield 18, 3) := by decide +kernel
theorem D9_text_51 : decode m9_text.2.1 51 = .ok (.astore_n 3, 1) := by decide +kernel
theorem D9_text_52 : decode m9_text.2.1 52 = .ok (.aload_n 0, 1) := by decide +kernel
theorem D9_text_53 : decode m9_text.2.1 53 = .ok (.aload_n 0, 1) := by decide +kernel
theorem D9_text_54 : decode m9_text.2.1 54 = .ok (.getfield 22, 3) := by decide +kernel
theorem D9_text_57 : decode m9_text.2.1 57 = .ok (.putfield 18, 3) := by decide +kernel
theorem D9_text_60 : decode m9_text.2.1 60 = .ok (.aload_n 0, 1) := by decide +kernel
theorem D9_text_61 : decode m9_text.2.1 61 = .ok (.aload_n 3, 1) := by decide +kernel
theorem D9_text_62 : decode m9_text.2.1 62 = .ok (.putfield 22, 3) := by decide +kernel
theorem D9_text_65 : decode m9_text.2.1 65 = .ok (.aload_n 0, 1) := by decide +kernel
theorem D9_text_66 : decode m9_text.2.1 66 = .ok (.getfield 46, 3) := by decide +kernel
theorem D9_text_69 : decode m9_text.2.1 69 = .ok (.aload_n 0, 1) := by decide +kernel
theorem D9_text_70 : decode m9_text.2.1 70 = .ok (.getfield 18, 3) := by decide +kernel
theorem D9_text_73 : decode m9_text.2.1 73 = .ok (.invokevirtual 90, 3) := by decide +kernel
theorem D9_text_76 : decode m9_text.2.1 76 = .ok (.aload_n 0, 1) := by decide +kernel
theorem D9_text_77 : decode m9_text.2.1 77 = .ok (.getfield 75, 3) := by decide +kernel
theorem D9_text_80 : decode m9_text.2.1 80 = .ok (.invokevirtual 109, 3) := by decide +kernel
theorem D9_text_83 : decode m9_text.2.1 83 = .ok (.aload_n 0, 1) := by decide +kernel
theorem D9_text_84 : decode m9_text.2.1 84 = .ok (.getfield 68, 3) := by decide +kernel
theorem D9_text_87 : decode m9_text.2.1 87 = .ok (.invokevirtual 112, 3) := by decide +kernel
theorem D9_text_90 : decode m9_text.2.1 90 = .ok (.aload_n 0, 1) := by decide +kernel
theorem D9_text_91 : decode m9_text.2.1 91 = .ok (.iconst 0, 1) := by decide +kernel
theorem D9_text_92 : decode m9_text.2.1 92 = .ok (.putfield 113, 3) := by decide +kernel
theorem D9_text_95 : decode m9_text.2.1 95 = .ok (.iload_n 2, 1) := by decide +kernel
theorem D9_text_96 : decode m9_text.2.1 96 = .ok (.ireturn, 1) := by decide +kernel
theorem D9_fault_0 : decode m9_fault.2.1 0 = .ok (.iload_n 1, 1) := by decide +kernel
theorem D9_fault_1 : decode m9_fault.2.1 1 = .ok (.ifCond .ne 11, 3) := by decide +kernel
theorem D9_fault_4 : decode m9_fault.2.1 4 = .ok (.aload_n 0, 1) := by decide +kernel
theorem D9_fault_5 : decode m9_fault.2.1 5 = .ok (.getfield 39, 3) := by decide +kernel
theorem D9_fault_8 : decode m9_fault.2.1 8 = .ok (.getfield 117, 3) := by decide +kernel
theorem D9_fault_11 : decode m9_fault.2.1 11 = .ok (.ireturn, 1) := by decide +kernel
theorem D9_fault_12 : decode m9_fault.2.1 12 = .ok (.iload_n 1, 1) := by decide +kernel
theorem D9_fault_13 : decode m9_fault.2.1 13 = .ok (.iconst 1, 1) := by decide +kernel
theorem D9_fault_14 : decode m9_fault.2.1 14 = .ok (.if_icmp .ne 13, 3) := by decide +kernel
theorem D9_fault_17 : decode m9_fault.2.1 17 = .ok (.aload_n 0, 1) := by decide +kernel
theorem D9_fault_18 : decode m9_fault.2.1 18 = .ok (.getfield 39, 3) := by decide +kernel
theorem D9_fault_21 : decode m9_fault.2.1 21 = .ok (.getfield 120, 3) := by decide +kernel
theorem D9_fault_24 : decode m9_fault.2.1 24 = .ok (.goto 4, 3) := by decide +kernel
theorem D9_fault_27 : decode m9_fault.2.1 27 = .ok (.iconst (-1), 1) := by decide +kernel
theorem D9_fault_28 : decode m9_fault.2.1 28 = .ok (.ireturn, 1) := by decide +kernel
theorem D9_named_0 : decode m9_named.2.1 0 = .ok (.iload_n 1, 1) := by decide +kernel
theorem D9_named_1 : decode m9_named.2.1 1 = .ok (.ifCond .ne 12, 3) := by decide +kernel
theorem D9_named_4 : decode m9_named.2.1 4 = .ok (.aload_n 0, 1) := by decide +kernel
theorem D9_named_5 : decode m9_named.2.1 5 = .ok (.getfield 18, 3) := by decide +kernel
theorem D9_named_8 : decode m9_named.2.1 8 = .ok (.iload_n 2, 1) := by decide +kernel
theorem D9_named_9 : decode m9_named.2.1 9 = .ok (.invokevirtual 123, 3) := by decide +kernel
theorem D9_named_12 : decode m9_named.2.1 12 = .ok (.ireturn, 1) := by decide +kernel
theorem D9_named_13 : decode m9_named.2.1 13 = .ok (.iload_n 1, 1) := by decide +kernel
theorem D9_named_14 : decode m9_named.2.1 14 = .ok (.iconst 1, 1) := by decide +kernel
theorem D9_named_15 : decode m9_named.2.1 15 = .ok (.if_icmp .ne 14, 3) := by decide +kernel
theorem D9_named_18 : decode m9_named.2.1 18 = .ok (.aload_n 0, 1) := by decide +kernel
theorem D9_named_19 : decode m9_named.2.1 19 = .ok (.getfield 18, 3) := by decide +kernel
theorem D9_named_22 : decode m9_named.2.1 22 = .ok (.iload_n 2, 1) := by decide +kernel
theorem D9_named_23 : decode m9_named.2.1 23 = .ok (.invokevirtual 127, 3) := by decide +kernel
theorem D9_named_26 : decode m9_named.2.1 26 = .ok (.goto 4, 3) := by decide +kernel
theorem D9_named_29 : decode m9_named.2.1 29 = .ok (.iconst (-1), 1) := by decide +kernel
theorem D9_named_30 : decode m9_named.2.1 30 = .ok (.ireturn, 1) := by decide +kernel
theorem D9_bottle_0 : decode m9_bottle.2.1 0 = .ok (.aload_n 0, 1) := by decide +kernel
theorem D9_bottle_1 : decode m9_bottle.2.1 1 = .ok (.iload_n 1, 1) := by decide +kernel
theorem D9_bottle_2 : decode m9_bottle.2.1 2 = .ok (.invokevirtual 130, 3) := by decide +kernel
theorem D9_bottle_5 : decode m9_bottle.2.1 5 = .ok (.ifCond .ne 13, 3) := by decide +kernel
theorem D9_bottle_8 : decode m9_bottle.2.1 8 = .ok (.new 134, 3) := by decide +kernel
theorem D9_bottle_11 : decode m9_bottle.2.1 11 = .ok (.dup, 1) := by decide +kernel
theorem D9_bottle_12 : decode m9_bottle.2.1 12 = .ok (.ldc 136, 2) := by decide +kernel
theorem D9_bottle_14 : decode m9_bottle.2.1 14 = .ok (.invokespecial 138, 3) := by decide +kernel
theorem D9_bottle_17 : decode m9_bottle.2.1 17 = .ok (.athrow, 1) := by decide +kernel
theorem D9_bottle_18 : decode m9_bottle.2.1 18 = .ok (.iload_n 2, 1) := by decide +kernel
theorem D9_bottle_19 : decode m9_bottle.2.1 19 = .ok (.tableswitch 111 0 6 #[41, 51, 61, 71, 81, 91, 101], 41) := by decide +kernel
theorem D9_bottle_60 : decode m9_bottle.2.1 60 = .ok (.aload_n 0, 1) := by decide +kernel
theorem D9_bottle_61 : decode m9_bottle.2.1 61 = .ok (.getfield 18, 3) := by decide +kernel
theorem D9_bottle_64 : decode m9_bottle.2.1 64 = .ok (.getfield 141, 3) := by decide +kernel
theorem D9_bottle_67 : decode m9_bottle.2.1 67 = .ok (.iload_n 1, 1) := by decide +kernel
theorem D9_bottle_68 : decode m9_bottle.2.1 68 = .ok (.iaload, 1) := by decide +kernel
theorem D9_bottle_69 : decode m9_bottle.2.1 69 = .ok (.ireturn, 1) := by decide +kernel
theorem D9_bottle_70 : decode m9_bottle.2.1 70 = .ok (.aload_n 0, 1) := by decide +kernel
theorem D9_bottle_71 : decode m9_bottle.2.1 71 = .ok (.getfield 18, 3) := by decide +kernel
theorem D9_bottle_74 : decode m9_bottle.2.1 74 = .ok (.getfield 144, 3) := by decide +kernel
theorem D9_bottle_77 : decode m9_bottle.2.1 77 = .ok (.iload_n 1, 1) := by decide +kernel
theorem D9_bottle_78 : decode m9_bottle.2.1 78 = .ok (.iaload, 1) := by decide +kernel
theorem D9_bottle_79 : decode m9_bottle.2.1 79 = .ok (.ireturn, 1) := by decide +kernel
theorem D9_bottle_80 : decode m9_bottle.2.1 80 = .ok (.aload_n 0, 1) := by decide +kernel
theorem D9_bottle_81 : decode m9_bottle.2.1 81 = .ok (.getfield 46, 3) := by decide +kernel
theorem D9_bottle_84 : decode m9_bottle.2.1 84 = .ok (.getfield 147, 3) := by decide +kernel
theorem D9_bottle_87 : decode m9_bottle.2.1 87 = .ok (.iload_n 1, 1) := by decide +kernel
theorem D9_bottle_88 : decode m9_bottle.2.1 88 = .ok (.iaload, 1) := by decide +kernel
theorem D9_bottle_89 : decode m9_bottle.2.1 89 = .ok (.ireturn, 1) := by decide +kernel
theorem D9_bottle_90 : decode m9_bottle.2.1 90 = .ok (.aload_n 0, 1) := by decide +kernel
theorem D9_bottle_91 : decode m9_bottle.2.1 91 = .ok (.getfield 46, 3) := by decide +kernel
theorem D9_bottle_94 : decode m9_bottle.2.1 94 = .ok (.getfield 150, 3) := by decide +kernel
theorem D9_bottle_97 : decode m9_bottle.2.1 97 = .ok (.iload_n 1, 1) := by decide +kernel
theorem D9_bottle_98 : decode m9_bottle.2.1 98 = .ok (.iaload, 1) := by decide +kernel
theorem D9_bottle_99 : decode m9_bottle.2.1 99 = .ok (.ireturn, 1) := by decide +kernel
theorem D9_bottle_100 : decode m9_bottle.2.1 100 = .ok (.aload_n 0, 1) := by decide +kernel
theorem D9_bottle_101 : decode m9_bottle.2.1 101 = .ok (.getfield 46, 3) := by decide +kernel
theorem D9_bottle_104 : decode m9_bottle.2.1 104 = .ok (.getfield 153, 3) := by decide +kernel
theorem D9_bottle_107 : decode m9_bottle.2.1 107 = .ok (.iload_n 1, 1) := by decide +kernel
theorem D9_bottle_108 : decode m9_bottle.2.1 108 = .ok (.iaload, 1) := by decide +kernel
theorem D9_bottle_109 : decode m9_bottle.2.1 109 = .ok (.ireturn, 1) := by decide +kernel
theorem D9_bottle_110 : decode m9_bottle.2.1 110 = .ok (.aload_n 0, 1) := by decide +kernel
theorem D9_bottle_111 : decode m9_bottle.2.1 111 = .ok (.getfield 46, 3) := by decide +kernel
theorem D9_bottle_114 : decode m9_bottle.2.1 114 = .ok (.getfield 156, 3) := by decide +kernel
theorem D9_bottle_117 : decode m9_bottle.2.1 117 = .ok (.iload_n 1, 1) := by decide +kernel
theorem D9_bottle_118 : decode m9_bottle.2.1 118 = .ok (.iaload, 1) := by decide +kernel
theorem D9_bottle_119 : decode m9_bottle.2.1 119 = .ok (.ireturn, 1) := by decide +kernel
theorem D9_bottle_120 : decode m9_bottle.2.1 120 = .ok (.aload_n 0, 1) := by decide +kernel
theorem D9_bottle_121 : decode m9_bottle.2.1 121 = .ok (.getfield 46, 3) := by decide +kernel
theorem D9_bottle_124 : decode m9_bottle.2.1 124 = .ok (.getfield 159, 3) := by decide +kernel
theorem D9_bottle_127 : decode m9_bottle.2.1 127 = .ok (.iload_n 1, 1) := by decide +kernel
theorem D9_bottle_128 : decode m9_bottle.2.1 128 = .ok (.iaload, 1) := by decide +kernel
theorem D9_bottle_129 : decode m9_bottle.2.1 129 = .ok (.ireturn, 1) := by decide +kernel
theorem D9_bottle_130 : decode m9_bottle.2.1 130 = .ok (.new 162, 3) := by decide +kernel
theorem D9_bottle_133 : decode m9_bottle.2.1 133 = .ok (.dup, 1) := by decide +kernel
theorem D9_bottle_134 : decode m9_bottle.2.1 134 = .ok (.ldc 164, 2) := by decide +kernel
theorem D9_bottle_136 : decode m9_bottle.2.1 136 = .ok (.invokespecial 166, 3) := by decide +kernel
theorem D9_bottle_139 : decode m9_bottle.2.1 139 = .ok (.athrow, 1) := by decide +kernel
theorem D9_man_0 : decode m9_man.2.1 0 = .ok (.aload_n 0, 1) := by decide +kernel
theorem D9_man_1 : decode m9_man.2.1 1 = .ok (.iload_n 1, 1) := by decide +kernel
theorem D9_man_2 : decode m9_man.2.1 2 = .ok (.invokevirtual 167, 3) := by decide +kernel
theorem D9_man_5 : decode m9_man.2.1 5 = .ok (.ifCond .ne 5, 3) := by decide +kernel
theorem D9_man_8 : decode m9_man.2.1 8 = .ok (.iconst (-1), 1) := by decide +kernel
theorem D9_man_9 : decode m9_man.2.1 9 = .ok (.ireturn, 1) := by decide +kernel
theorem D9_man_10 : decode m9_man.2.1 10 = .ok (.iload_n 2, 1) := by decide +kernel
theorem D9_man_11 : decode m9_man.2.1 11 = .ok (.tableswitch 68 0 3 #[29, 39, 48, 58], 29) := by decide +kernel
theorem D9_man_40 : decode m9_man.2.1 40 = .ok (.aload_n 0, 1) := by decide +kernel
theorem D9_man_41 : decode m9_man.2.1 41 = .ok (.getfield 18, 3) := by decide +kernel
theorem D9_man_44 : decode m9_man.2.1 44 = .ok (.getfield 170, 3) := by decide +kernel
theorem D9_man_47 : decode m9_man.2.1 47 = .ok (.iload_n 1, 1) := by decide +kernel
theorem D9_man_48 : decode m9_man.2.1 48 = .ok (.iaload, 1) := by decide +kernel
theorem D9_man_49 : decode m9_man.2.1 49 = .ok (.ireturn, 1) := by decide +kernel
theorem D9_man_50 : decode m9_man.2.1 50 = .ok (.aload_n 0, 1) := by decide +kernel
theorem D9_man_51 : decode m9_man.2.1 51 = .ok (.iload_n 1, 1) := by decide +kernel
theorem D9_man_52 : decode m9_man.2.1 52 = .ok (.invokevirtual 173, 3) := by decide +kernel
theorem D9_man_55 : decode m9_man.2.1 55 = .ok (.invokestatic 176, 3) := by decide +kernel
theorem D9_man_58 : decode m9_man.2.1 58 = .ok (.ireturn, 1) := by decide +kernel
theorem D9_man_59 : decode m9_man.2.1 59 = .ok (.aload_n 0, 1) := by decide +kernel
theorem D9_man_60 : decode m9_man.2.1 60 = .ok (.aload_n 0, 1) := by decide +kernel
theorem D9_man_61 : decode m9_man.2.1 61 = .ok (.iload_n 1, 1) := by decide +kernel
theorem D9_man_62 : decode m9_man.2.1 62 = .ok (.invokevirtual 173, 3) := by decide +kernel
theorem D9_man_65 : decode m9_man.2.1 65 = .ok (.invokevirtual 181, 3) := by decide +kernel
theorem D9_man_68 : decode m9_man.2.1 68 = .ok (.ireturn, 1) := by decide +kernel
theorem D9_man_69 : decode m9_man.2.1 69 = .ok (.aload_n 0, 1) := by decide +kernel
theorem D9_man_70 : decode m9_man.2.1 70 = .ok (.getfield 46, 3) := by decide +kernel
theorem D9_man_73 : decode m9_man.2.1 73 = .ok (.getfield 184, 3) := by decide +kernel
theorem D9_man_76 : decode m9_man.2.1 76 = .ok (.iload_n 1, 1) := by decide +kernel
theorem D9_man_77 : decode m9_man.2.1 77 = .ok (.iaload, 1) := by decide +kernel
theorem D9_man_78 : decode m9_man.2.1 78 = .ok (.ireturn, 1) := by decide +kernel
theorem D9_man_79 : decode m9_man.2.1 79 = .ok (.iconst (-1), 1) := by decide +kernel
theorem D9_man_80 : decode m9_man.2.1 80 = .ok (.ireturn, 1) := by decide +kernel
theorem D9_need_0 : decode m9_need.2.1 0 = .ok (.aload_n 0, 1) := by decide +kernel
theorem D9_need_1 : decode m9_need.2.1 1 = .ok (.iload_n 1, 1) := by decide +kernel
theorem D9_need_2 : decode m9_need.2.1 2 = .ok (.invokevirtual 187, 3) := by decide +kernel
theorem D9_need_5 : decode m9_need.2.1 5 = .ok (.ifCond .ne 5, 3) := by decide +kernel
theorem D9_need_8 : decode m9_need.2.1 8 = .ok (.iconst (-1), 1) := by decide +kernel
theorem D9_need_9 : decode m9_need.2.1 9 = .ok (.ireturn, 1) := by decide +kernel
theorem D9_need_10 : decode m9_need.2.1 10 = .ok (.iload_n 2, 1) := by decide +kernel
theorem D9_need_11 : decode m9_need.2.1 11 = .ok (.tableswitch 83 0 4 #[33, 43, 53, 63, 73], 33) := by decide +kernel
theorem D9_need_44 : decode m9_need.2.1 44 = .ok (.aload_n 0, 1) := by decide +kernel
theorem D9_need_45 : decode m9_need.2.1 45 = .ok (.getfield 18, 3) := by decide +kernel
theorem D9_need_48 : decode m9_need.2.1 48 = .ok (.getfield 190, 3) := by decide +kernel
theorem D9_need_51 : decode m9_need.2.1 51 = .ok (.iload_n 1, 1) := by decide +kernel
theorem D9_need_52 : decode m9_need.2.1 52 = .ok (.iaload, 1) := by decide +kernel
theorem D9_need_53 : decode m9_need.2.1 53 = .ok (.ireturn, 1) := by decide +kernel
theorem D9_need_54 : decode m9_need.2.1 54 = .ok (.aload_n 0, 1) := by decide +kernel
theorem D9_need_55 : decode m9_need.2.1 55 = .ok (.getfield 18, 3) := by decide +kernel
theorem D9_need_58 : decode m9_need.2.1 58 = .ok (.getfield 193, 3) := by decide +kernel
theorem D9_need_61 : decode m9_need.2.1 61 = .ok (.iload_n 1, 1) := by decide +kernel
theorem D9_need_62 : decode m9_need.2.1 62 = .ok (.iaload, 1) := by decide +kernel
theorem D9_need_63 : decode m9_need.2.1 63 = .ok (.ireturn, 1) := by decide +kernel
theorem D9_need_64 : decode m9_need.2.1 64 = .ok (.aload_n 0, 1) := by decide +kernel
theorem D9_need_65 : decode m9_need.2.1 65 = .ok (.getfield 18, 3) := by decide +kernel
theorem D9_need_68 : decode m9_need.2.1 68 = .ok (.getfield 196, 3) := by decide +kernel
theorem D9_need_71 : decode m9_need.2.1 71 = .ok (.iload_n 1, 1) := by decide +kernel
theorem D9_need_72 : decode m9_need.2.1 72 = .ok (.iaload, 1) := by decide +kernel
theorem D9_need_73 : decode m9_need.2.1 73 = .ok (.ireturn, 1) := by decide +kernel
theorem D9_need_74 : decode m9_need.2.1 74 = .ok (.aload_n 0, 1) := by decide +kernel
theorem D9_need_75 : decode m9_need.2.1 75 = .ok (.getfield 18, 3) := by decide +kernel
theorem D9_need_78 : decode m9_need.2.1 78 = .ok (.getfield 199, 3) := by decide +kernel
theorem D9_need_81 : decode m9_need.2.1 81 = .ok (.iload_n 1, 1) := by decide +kernel
theorem D9_need_82 : decode m9_need.2.1 82 = .ok (.iaload, 1) := by decide +kernel
theorem D9_need_83 : decode m9_need.2.1 83 = .ok (.ireturn, 1) := by decide +kernel
theorem D9_need_84 : decode m9_need.2.1 84 = .ok (.aload_n 0, 1) := by decide +kernel
theorem D9_need_85 : decode m9_need.2.1 85 = .ok (.getfield 46, 3) := by decide +kernel
theorem D9_need_88 : decode m9_need.2.1 88 = .ok (.getfield 202, 3) := by decide +kernel
theorem D9_need_91 : decode m9_need.2.1 91 = .ok (.iload_n 1, 1) := by decide +kernel
theorem D9_need_92 : decode m9_need.2.1 92 = .ok (.iaload, 1) := by decide +kernel
theorem D9_need_93 : decode m9_need.2.1 93 = .ok (.ireturn, 1) := by decide +kernel
theorem D9_need_94 : decode m9_need.2.1 94 = .ok (.iconst (-1), 1) := by decide +kernel
theorem D9_need_95 : decode m9_need.2.1 95 = .ok (.ireturn, 1) := by decide +kernel
theorem D9_bin_0 : decode m9_bin.2.1 0 = .ok (.iload_n 1, 1) := by decide +kernel
theorem D9_bin_1 : decode m9_bin.2.1 1 = .ok (.invokestatic 205, 3) := by decide +kernel
theorem D9_bin_4 : decode m9_bin.2.1 4 = .ok (.ifCond .ne 5, 3) := by decide +kernel
theorem D9_bin_7 : decode m9_bin.2.1 7 = .ok (.iconst (-1), 1) := by decide +kernel
theorem D9_bin_8 : decode m9_bin.2.1 8 = .ok (.ireturn, 1) := by decide +kernel
theorem D9_bin_9 : decode m9_bin.2.1 9 = .ok (.iconst 0, 1) := by decide +kernel
theorem D9_bin_10 : decode m9_bin.2.1 10 = .ok (.istore_n 2, 1) := by decide +kernel
theorem D9_bin_11 : decode m9_bin.2.1 11 = .ok (.iconst 0, 1) := by decide +kernel
theorem D9_bin_12 : decode m9_bin.2.1 12 = .ok (.istore_n 3, 1) := by decide +kernel
theorem D9_bin_13 : decode m9_bin.2.1 13 = .ok (.iload_n 3, 1) := by decide +kernel
theorem D9_bin_14 : decode m9_bin.2.1 14 = .ok (.aload_n 0, 1) := by decide +kernel
theorem D9_bin_15 : decode m9_bin.2.1 15 = .ok (.getfield 18, 3) := by decide +kernel
theorem D9_bin_18 : decode m9_bin.2.1 18 = .ok (.getfield 208, 3) := by decide +kernel
theorem D9_bin_21 : decode m9_bin.2.1 21 = .ok (.if_icmp .ge 39, 3) := by decide +kernel
theorem D9_bin_24 : decode m9_bin.2.1 24 = .ok (.aload_n 0, 1) := by decide +kernel
theorem D9_bin_25 : decode m9_bin.2.1 25 = .ok (.getfield 46, 3) := by decide +kernel
theorem D9_bin_28 : decode m9_bin.2.1 28 = .ok (.iload_n 3, 1) := by decide +kernel
theorem D9_bin_29 : decode m9_bin.2.1 29 = .ok (.invokevirtual 211, 3) := by decide +kernel
theorem D9_bin_32 : decode m9_bin.2.1 32 = .ok (.ifCond .eq 22, 3) := by decide +kernel
theorem D9_bin_35 : decode m9_bin.2.1 35 = .ok (.aload_n 0, 1) := by decide +kernel
theorem D9_bin_36 : decode m9_bin.2.1 36 = .ok (.getfield 46, 3) := by decide +kernel
theorem D9_bin_39 : decode m9_bin.2.1 39 = .ok (.getfield 147, 3) := by decide +kernel
theorem D9_bin_42 : decode m9_bin.2.1 42 = .ok (.iload_n 3, 1) := by decide +kernel
theorem D9_bin_43 : decode m9_bin.2.1 43 = .ok (.iaload, 1) := by decide +kernel
theorem D9_bin_44 : decode m9_bin.2.1 44 = .ok (.iload_n 1, 1) := by decide +kernel
theorem D9_bin_45 : decode m9_bin.2.1 45 = .ok (.if_icmp .ne 9, 3) := by decide +kernel
theorem D9_bin_48 : decode m9_bin.2.1 48 = .ok (.iload_n 2, 1) := by decide +kernel
theorem D9_bin_49 : decode m9_bin.2.1 49 = .ok (.iconst 1, 1) := by decide +kernel
theorem D9_bin_50 : decode m9_bin.2.1 50 = .ok (.iload_n 3, 1) := by decide +kernel
theorem D9_bin_51 : decode m9_bin.2.1 51 = .ok (.ishl, 1) := by decide +kernel
theorem D9_bin_52 : decode m9_bin.2.1 52 = .ok (.ior, 1) := by decide +kernel
theorem D9_bin_53 : decode m9_bin.2.1 53 = .ok (.istore_n 2, 1) := by decide +kernel
theorem D9_bin_54 : decode m9_bin.2.1 54 = .ok (.iinc 3 1, 3) := by decide +kernel
theorem D9_bin_57 : decode m9_bin.2.1 57 = .ok (.goto (-44), 3) := by decide +kernel
theorem D9_bin_60 : decode m9_bin.2.1 60 = .ok (.iload_n 2, 1) := by decide +kernel
theorem D9_bin_61 : decode m9_bin.2.1 61 = .ok (.ireturn, 1) := by decide +kernel
theorem D9_law_0 : decode m9_law.2.1 0 = .ok (.iload_n 1, 1) := by decide +kernel
theorem D9_law_1 : decode m9_law.2.1 1 = .ok (.ifCond .lt 16, 3) := by decide +kernel
theorem D9_law_4 : decode m9_law.2.1 4 = .ok (.iload_n 1, 1) := by decide +kernel
theorem D9_law_5 : decode m9_law.2.1 5 = .ok (.iconst 2, 1) := by decide +kernel
theorem D9_law_6 : decode m9_law.2.1 6 = .ok (.if_icmp .gt 11, 3) := by decide +kernel
theorem D9_law_9 : decode m9_law.2.1 9 = .ok (.aload_n 0, 1) := by decide +kernel
theorem D9_law_10 : decode m9_law.2.1 10 = .ok (.iload_n 2, 1) := by decide +kernel
theorem D9_law_11 : decode m9_law.2.1 11 = .ok (.invokevirtual 214, 3) := by decide +kernel
theorem D9_law_14 : decode m9_law.2.1 14 = .ok (.ifCond .ne 7, 3) := by decide +kernel
theorem D9_law_17 : decode m9_law.2.1 17 = .ok (.ldc2_w 217, 3) := by decide +kernel
theorem D9_law_20 : decode m9_law.2.1 20 = .ok (.lreturn, 1) := by decide +kernel
theorem D9_law_21 : decode m9_law.2.1 21 = .ok (.aload_n 0, 1) := by decide +kernel
theorem D9_law_22 : decode m9_law.2.1 22 = .ok (.getfield 61, 3) := by decide +kernel
theorem D9_law_25 : decode m9_law.2.1 25 = .ok (.aload_n 0, 1) := by decide +kernel
theorem D9_law_26 : decode m9_law.2.1 26 = .ok (.getfield 18, 3) := by decide +kernel
theorem D9_law_29 : decode m9_law.2.1 29 = .ok (.aload_n 0, 1) := by decide +kernel
theorem D9_law_30 : decode m9_law.2.1 30 = .ok (.getfield 46, 3) := by decide +kernel
theorem D9_law_33 : decode m9_law.2.1 33 = .ok (.iconst 1, 1) := by decide +kernel
theorem D9_law_34 : decode m9_law.2.1 34 = .ok (.invokevirtual 219, 3) := by decide +kernel
theorem D9_law_37 : decode m9_law.2.1 37 = .ok (.aload_n 0, 1) := by decide +kernel
theorem D9_law_38 : decode m9_law.2.1 38 = .ok (.getfield 61, 3) := by decide +kernel
theorem D9_law_41 : decode m9_law.2.1 41 = .ok (.iload_n 1, 1) := by decide +kernel
theorem D9_law_42 : decode m9_law.2.1 42 = .ok (.iload_n 2, 1) := by decide +kernel
theorem D9_law_43 : decode m9_law.2.1 43 = .ok (.invokevirtual 223, 3) := by decide +kernel
theorem D9_law_46 : decode m9_law.2.1 46 = .ok (.lreturn, 1) := by decide +kernel
theorem D9_rack_0 : decode m9_rack.2.1 0 = .ok (.aload_n 0, 1) := by decide +kernel
theorem D9_rack_1 : decode m9_rack.2.1 1 = .ok (.iload_n 1, 1) := by decide +kernel
theorem D9_rack_2 : decode m9_rack.2.1 2 = .ok (.invokevirtual 214, 3) := by decide +kernel
theorem D9_rack_5 : decode m9_rack.2.1 5 = .ok (.ifCond .eq 23, 3) := by decide +kernel
theorem D9_rack_8 : decode m9_rack.2.1 8 = .ok (.iload_n 2, 1) := by decide +kernel
theorem D9_rack_9 : decode m9_rack.2.1 9 = .ok (.invokestatic 205, 3) := by decide +kernel
theorem D9_rack_12 : decode m9_rack.2.1 12 = .ok (.ifCond .eq 16, 3) := by decide +kernel
theorem D9_rack_15 : decode m9_rack.2.1 15 = .ok (.aload_n 0, 1) := by decide +kernel
theorem D9_rack_16 : decode m9_rack.2.1 16 = .ok (.getfield 46, 3) := by decide +kernel
theorem D9_rack_19 : decode m9_rack.2.1 19 = .ok (.getfield 147, 3) := by decide +kernel
theorem D9_rack_22 : decode m9_rack.2.1 22 = .ok (.iload_n 1, 1) := by decide +kernel
theorem D9_rack_23 : decode m9_rack.2.1 23 = .ok (.iaload, 1) := by decide +kernel
theorem D9_rack_24 : decode m9_rack.2.1 24 = .ok (.iload_n 2, 1) := by decide +kernel
theorem D9_rack_25 : decode m9_rack.2.1 25 = .ok (.if_icmp .ne 5, 3) := by decide +kernel
theorem D9_rack_28 : decode m9_rack.2.1 28 = .ok (.iconst 0, 1) := by decide +kernel
theorem D9_rack_29 : decode m9_rack.2.1 29 = .ok (.ireturn, 1) := by decide +kernel
theorem D9_rack_30 : decode m9_rack.2.1 30 = .ok (.aload_n 0, 1) := by decide +kernel
theorem D9_rack_31 : decode m9_rack.2.1 31 = .ok (.getfield 68, 3) := by decide +kernel
theorem D9_rack_34 : decode m9_rack.2.1 34 = .ok (.iconst 0, 1) := by decide +kernel
theorem D9_rack_35 : decode m9_rack.2.1 35 = .ok (.iload_n 1, 1) := by decide +kernel
theorem D9_rack_36 : decode m9_rack.2.1 36 = .ok (.aload_n 0, 1) := by decide +kernel
theorem D9_rack_37 : decode m9_rack.2.1 37 = .ok (.getfield 46, 3) := by decide +kernel
theorem D9_rack_40 : decode m9_rack.2.1 40 = .ok (.getfield 147, 3) := by decide +kernel
theorem D9_rack_43 : decode m9_rack.2.1 43 = .ok (.iload_n 1, 1) := by decide +kernel
theorem D9_rack_44 : decode m9_rack.2.1 44 = .ok (.iaload, 1) := by decide +kernel
theorem D9_rack_45 : decode m9_rack.2.1 45 = .ok (.invokevirtual 227, 3) := by decide +kernel
theorem D9_rack_48 : decode m9_rack.2.1 48 = .ok (.aload_n 0, 1) := by decide +kernel
theorem D9_rack_49 : decode m9_rack.2.1 49 = .ok (.getfield 46, 3) := by decide +kernel
theorem D9_rack_52 : decode m9_rack.2.1 52 = .ok (.iload_n 1, 1) := by decide +kernel
theorem D9_rack_53 : decode m9_rack.2.1 53 = .ok (.iload_n 2, 1) := by decide +kernel
theorem D9_rack_54 : decode m9_rack.2.1 54 = .ok (.invokevirtual 231, 3) := by decide +kernel
theorem D9_rack_57 : decode m9_rack.2.1 57 = .ok (.iconst 1, 1) := by decide +kernel
theorem D9_rack_58 : decode m9_rack.2.1 58 = .ok (.ireturn, 1) := by decide +kernel
theorem D9_seal_0 : decode m9_seal.2.1 0 = .ok (.aload_n 0, 1) := by decide +kernel
theorem D9_seal_1 : decode m9_seal.2.1 1 = .ok (.iload_n 1, 1) := by decide +kernel
theorem D9_seal_2 : decode m9_seal.2.1 2 = .ok (.invokevirtual 130, 3) := by decide +kernel
theorem D9_seal_5 : decode m9_seal.2.1 5 = .ok (.ifCond .ne 5, 3) := by decide +kernel
theorem D9_seal_8 : decode m9_seal.2.1 8 = .ok (.iconst (-1), 1) := by decide +kernel
theorem D9_seal_9 : decode m9_seal.2.1 9 = .ok (.ireturn, 1) := by decide +kernel
theorem D9_seal_10 : decode m9_seal.2.1 10 = .ok (.aload_n 0, 1) := by decide +kernel
theorem D9_seal_11 : decode m9_seal.2.1 11 = .ok (.getfield 46, 3) := by decide +kernel
theorem D9_seal_14 : decode m9_seal.2.1 14 = .ok (.iload_n 1, 1) := by decide +kernel
theorem D9_seal_15 : decode m9_seal.2.1 15 = .ok (.invokevirtual 211, 3) := by decide +kernel
theorem D9_seal_18 : decode m9_seal.2.1 18 = .ok (.ifCond .eq 24, 3) := by decide +kernel
theorem D9_seal_21 : decode m9_seal.2.1 21 = .ok (.aload_n 0, 1) := by decide +kernel
theorem D9_seal_22 : decode m9_seal.2.1 22 = .ok (.getfield 46, 3) := by decide +kernel
theorem D9_seal_25 : decode m9_seal.2.1 25 = .ok (.getfield 153, 3) := by decide +kernel
theorem D9_seal_28 : decode m9_seal.2.1 28 = .ok (.iload_n 1, 1) := by decide +kernel
theorem D9_seal_29 : decode m9_seal.2.1 29 = .ok (.iaload, 1) := by decide +kernel
theorem D9_seal_30 : decode m9_seal.2.1 30 = .ok (.aload_n 0, 1) := by decide +kernel
theorem D9_seal_31 : decode m9_seal.2.1 31 = .ok (.getfield 18, 3) := by decide +kernel
theorem D9_seal_34 : decode m9_seal.2.1 34 = .ok (.getfield 235, 3) := by decide +kernel
theorem D9_seal_37 : decode m9_seal.2.1 37 = .ok (.iload_n 1, 1) := by decide +kernel
theorem D9_seal_38 : decode m9_seal.2.1 38 = .ok (.iaload, 1) := by decide +kernel
theorem D9_seal_39 : decode m9_seal.2.1 39 = .ok (.if_icmp .ne 6, 3) := by decide +kernel
theorem D9_seal_42 : decode m9_seal.2.1 42 = .ok (.bipush (-2), 2) := by decide +kernel
theorem D9_seal_44 : decode m9_seal.2.1 44 = .ok (.ireturn, 1) := by decide +kernel
theorem D9_seal_45 : decode m9_seal.2.1 45 = .ok (.aload_n 0, 1) := by decide +kernel
theorem D9_seal_46 : decode m9_seal.2.1 46 = .ok (.getfield 68, 3) := by decide +kernel
theorem D9_seal_49 : decode m9_seal.2.1 49 = .ok (.iconst 1, 1) := by decide +kernel
theorem D9_seal_50 : decode m9_seal.2.1 50 = .ok (.iload_n 1, 1) := by decide +kernel
theorem D9_seal_51 : decode m9_seal.2.1 51 = .ok (.aload_n 0, 1) := by decide +kernel
theorem D9_seal_52 : decode m9_seal.2.1 52 = .ok (.getfield 46, 3) := by decide +kernel
theorem D9_seal_55 : decode m9_seal.2.1 55 = .ok (.getfield 153, 3) := by decide +kernel
theorem D9_seal_58 : decode m9_seal.2.1 58 = .ok (.iload_n 1, 1) := by decide +kernel
theorem D9_seal_59 : decode m9_seal.2.1 59 = .ok (.iaload, 1) := by decide +kernel
theorem D9_seal_60 : decode m9_seal.2.1 60 = .ok (.invokevirtual 227, 3) := by decide +kernel
theorem D9_seal_63 : decode m9_seal.2.1 63 = .ok (.aload_n 0, 1) := by decide +kernel
theorem D9_seal_64 : decode m9_seal.2.1 64 = .ok (.getfield 46, 3) := by decide +kernel
theorem D9_seal_67 : decode m9_seal.2.1 67 = .ok (.getfield 153, 3) := by decide +kernel
theorem D9_seal_70 : decode m9_seal.2.1 70 = .ok (.iload_n 1, 1) := by decide +kernel
theorem D9_seal_71 : decode m9_seal.2.1 71 = .ok (.aload_n 0, 1) := by decide +kernel
theorem D9_seal_72 : decode m9_seal.2.1 72 = .ok (.getfield 18, 3) := by decide +kernel
theorem D9_seal_75 : decode m9_seal.2.1 75 = .ok (.getfield 235, 3) := by decide +kernel
theorem D9_seal_78 : decode m9_seal.2.1 78 = .ok (.iload_n 1, 1) := by decide +kernel
theorem D9_seal_79 : decode m9_seal.2.1 79 = .ok (.iaload, 1) := by decide +kernel
theorem D9_seal_80 : decode m9_seal.2.1 80 = .ok (.iastore, 1) := by decide +kernel
theorem D9_seal_81 : decode m9_seal.2.1 81 = .ok (.aload_n 0, 1) := by decide +kernel
theorem D9_seal_82 : decode m9_seal.2.1 82 = .ok (.getfield 46, 3) := by decide +kernel
theorem D9_seal_85 : decode m9_seal.2.1 85 = .ok (.getfield 153, 3) := by decide +kernel
theorem D9_seal_88 : decode m9_seal.2.1 88 = .ok (.iload_n 1, 1) := by decide +kernel
theorem D9_seal_89 : decode m9_seal.2.1 89 = .ok (.iaload, 1) := by decide +kernel
theorem D9_seal_90 : decode m9_seal.2.1 90 = .ok (.ireturn, 1) := by decide +kernel
theorem D9_open_0 : decode m9_open.2.1 0 = .ok (.aload_n 0, 1) := by decide +kernel
theorem D9_open_1 : decode m9_open.2.1 1 = .ok (.iload_n 1, 1) := by decide +kernel
theorem D9_open_2 : decode m9_open.2.1 2 = .ok (.invokevirtual 130, 3) := by decide +kernel
theorem D9_open_5 : decode m9_open.2.1 5 = .ok (.ifCond .ne 5, 3) := by decide +kernel
theorem D9_open_8 : decode m9_open.2.1 8 = .ok (.iconst (-1), 1) := by decide +kernel
theorem D9_open_9 : decode m9_open.2.1 9 = .ok (.ireturn, 1) := by decide +kernel
theorem D9_open_10 : decode m9_open.2.1 10 = .ok (.aload_n 0, 1) := by decide +kernel
theorem D9_open_11 : decode m9_open.2.1 11 = .ok (.getfield 46, 3) := by decide +kernel
theorem D9_open_14 : decode m9_open.2.1 14 = .ok (.iload_n 1, 1) := by decide +kernel
theorem D9_open_15 : decode m9_open.2.1 15 = .ok (.invokevirtual 211, 3) := by decide +kernel
theorem D9_open_18 : decode m9_open.2.1 18 = .ok (.ifCond .ne 6, 3) := by decide +kernel
theorem D9_open_21 : decode m9_open.2.1 21 = .ok (.bipush (-2), 2) := by decide +kernel
theorem D9_open_23 : decode m9_open.2.1 23 = .ok (.ireturn, 1) := by decide +kernel
theorem D9_open_24 : decode m9_open.2.1 24 = .ok (.aload_n 0, 1) := by decide +kernel
theorem D9_open_25 : decode m9_open.2.1 25 = .ok (.getfield 68, 3) := by decide +kernel
theorem D9_open_28 : decode m9_open.2.1 28 = .ok (.iconst 2, 1) := by decide +kernel
theorem D9_open_29 : decode m9_open.2.1 29 = .ok (.iload_n 1, 1) := by decide +kernel
theorem D9_open_30 : decode m9_open.2.1 30 = .ok (.iconst 0, 1) := by decide +kernel
theorem D9_open_31 : decode m9_open.2.1 31 = .ok (.invokevirtual 227, 3) := by decide +kernel
theorem D9_open_34 : decode m9_open.2.1 34 = .ok (.aload_n 0, 1) := by decide +kernel
theorem D9_open_35 : decode m9_open.2.1 35 = .ok (.getfield 46, 3) := by decide +kernel
theorem D9_open_38 : decode m9_open.2.1 38 = .ok (.iload_n 1, 1) := by decide +kernel
theorem D9_open_39 : decode m9_open.2.1 39 = .ok (.iconst 1, 1) := by decide +kernel
theorem D9_open_40 : decode m9_open.2.1 40 = .ok (.invokevirtual 236, 3) := by decide +kernel
theorem D9_open_43 : decode m9_open.2.1 43 = .ok (.aload_n 0, 1) := by decide +kernel
theorem D9_open_44 : decode m9_open.2.1 44 = .ok (.getfield 46, 3) := by decide +kernel
theorem D9_open_47 : decode m9_open.2.1 47 = .ok (.getfield 150, 3) := by decide +kernel
theorem D9_open_50 : decode m9_open.2.1 50 = .ok (.iload_n 1, 1) := by decide +kernel
theorem D9_open_51 : decode m9_open.2.1 51 = .ok (.iaload, 1) := by decide +kernel
theorem D9_open_52 : decode m9_open.2.1 52 = .ok (.ireturn, 1) := by decide +kernel
theorem D9_go_0 : decode m9_go.2.1 0 = .ok (.iload_n 1, 1) := by decide +kernel
theorem D9_go_1 : decode m9_go.2.1 1 = .ok (.iconst 0, 1) := by decide +kernel
theorem D9_go_2 : decode m9_go.2.1 2 = .ok (.bipush 99, 2) := by decide +kernel
theorem D9_go_4 : decode m9_go.2.1 4 = .ok (.invokestatic 239, 3) := by decide +kernel
theorem D9_go_7 : decode m9_go.2.1 7 = .ok (.ifCond .eq 18, 3) := by decide +kernel
theorem D9_go_10 : decode m9_go.2.1 10 = .ok (.aload_n 0, 1) := by decide +kernel
theorem D9_go_11 : decode m9_go.2.1 11 = .ok (.getfield 46, 3) := by decide +kernel
theorem D9_go_14 : decode m9_go.2.1 14 = .ok (.getfield 243, 3) := by decide +kernel
theorem D9_go_17 : decode m9_go.2.1 17 = .ok (.iload_n 1, 1) := by decide +kernel
theorem D9_go_18 : decode m9_go.2.1 18 = .ok (.iadd, 1) := by decide +kernel
theorem D9_go_19 : decode m9_go.2.1 19 = .ok (.sipush 9900, 3) := by decide +kernel
theorem D9_go_22 : decode m9_go.2.1 22 = .ok (.if_icmp .le 5, 3) := by decide +kernel
theorem D9_go_25 : decode m9_go.2.1 25 = .ok (.iconst (-1), 1) := by decide +kernel
theorem D9_go_26 : decode m9_go.2.1 26 = .ok (.ireturn, 1) := by decide +kernel
theorem D9_go_27 : decode m9_go.2.1 27 = .ok (.iload_n 1, 1) := by decide +kernel
theorem D9_go_28 : decode m9_go.2.1 28 = .ok (.ifCond .le 10, 3) := by decide +kernel
theorem D9_go_31 : decode m9_go.2.1 31 = .ok (.aload_n 0, 1) := by decide +kernel
theorem D9_go_32 : decode m9_go.2.1 32 = .ok (.getfield 68, 3) := by decide +kernel
theorem D9_go_35 : decode m9_go.2.1 35 = .ok (.invokevirtual 112, 3) := by decide +kernel
theorem D9_go_38 : decode m9_go.2.1 38 = .ok (.aload_n 0, 1) := by decide +kernel
theorem D9_go_39 : decode m9_go.2.1 39 = .ok (.getfield 61, 3) := by decide +kernel
theorem D9_go_42 : decode m9_go.2.1 42 = .ok (.aload_n 0, 1) := by decide +kernel
theorem D9_go_43 : decode m9_go.2.1 43 = .ok (.getfield 18, 3) := by decide +kernel
theorem D9_go_46 : decode m9_go.2.1 46 = .ok (.aload_n 0, 1) := by decide +kernel
theorem D9_go_47 : decode m9_go.2.1 47 = .ok (.getfield 46, 3) := by decide +kernel
theorem D9_go_50 : decode m9_go.2.1 50 = .ok (.iconst 0, 1) := by decide +kernel
theorem D9_go_51 : decode m9_go.2.1 51 = .ok (.invokevirtual 219, 3) := by decide +kernel
theorem D9_go_54 : decode m9_go.2.1 54 = .ok (.aload_n 0, 1) := by decide +kernel
theorem D9_go_55 : decode m9_go.2.1 55 = .ok (.getfield 61, 3) := by decide +kernel
theorem D9_go_58 : decode m9_go.2.1 58 = .ok (.iload_n 1, 1) := by decide +kernel
theorem D9_go_59 : decode m9_go.2.1 59 = .ok (.invokevirtual 246, 3) := by decide +kernel
theorem D9_go_62 : decode m9_go.2.1 62 = .ok (.aload_n 0, 1) := by decide +kernel
theorem D9_go_63 : decode m9_go.2.1 63 = .ok (.getfield 46, 3) := by decide +kernel
theorem D9_go_66 : decode m9_go.2.1 66 = .ok (.getfield 243, 3) := by decide +kernel
theorem D9_go_69 : decode m9_go.2.1 69 = .ok (.ireturn, 1) := by decide +kernel
theorem D9_ahead_0 : decode m9_ahead.2.1 0 = .ok (.iload_n 1, 1) := by decide +kernel
theorem D9_ahead_1 : decode m9_ahead.2.1 1 = .ok (.iconst 0, 1) := by decide +kernel
theorem D9_ahead_2 : decode m9_ahead.2.1 2 = .ok (.bipush 99, 2) := by decide +kernel
theorem D9_ahead_4 : decode m9_ahead.2.1 4 = .ok (.invokestatic 239, 3) := by decide +kernel
theorem D9_ahead_7 : decode m9_ahead.2.1 7 = .ok (.ifCond .eq 25, 3) := by decide +kernel
theorem D9_ahead_10 : decode m9_ahead.2.1 10 = .ok (.iload_n 2, 1) := by decide +kernel
theorem D9_ahead_11 : decode m9_ahead.2.1 11 = .ok (.iconst 0, 1) := by decide +kernel
theorem D9_ahead_12 : decode m9_ahead.2.1 12 = .ok (.iconst 4, 1) := by decide +kernel
theorem D9_ahead_13 : decode m9_ahead.2.1 13 = .ok (.invokestatic 239, 3) := by decide +kernel
theorem D9_ahead_16 : decode m9_ahead.2.1 16 = .ok (.ifCond .eq 16, 3) := by decide +kernel
theorem D9_ahead_19 : decode m9_ahead.2.1 19 = .ok (.iload_n 2, 1) := by decide +kernel
theorem D9_ahead_20 : decode m9_ahead.2.1 20 = .ok (.iconst 4, 1) := by decide +kernel
theorem D9_ahead_21 : decode m9_ahead.2.1 21 = .ok (.if_icmp .ne 13, 3) := by decide +kernel
theorem D9_ahead_24 : decode m9_ahead.2.1 24 = .ok (.aload_n 0, 1) := by decide +kernel
theorem D9_ahead_25 : decode m9_ahead.2.1 25 = .ok (.iload_n 3, 1) := by decide +kernel
theorem D9_ahead_26 : decode m9_ahead.2.1 26 = .ok (.invokevirtual 130, 3) := by decide +kernel
theorem D9_ahead_29 : decode m9_ahead.2.1 29 = .ok (.ifCond .ne 5, 3) := by decide +kernel
theorem D9_ahead_32 : decode m9_ahead.2.1 32 = .ok (.iconst (-1), 1) := by decide +kernel
theorem D9_ahead_33 : decode m9_ahead.2.1 33 = .ok (.ireturn, 1) := by decide +kernel
theorem D9_ahead_34 : decode m9_ahead.2.1 34 = .ok (.aload_n 0, 1) := by decide +kernel
theorem D9_ahead_35 : decode m9_ahead.2.1 35 = .ok (.iconst 1, 1) := by decide +kernel
theorem D9_ahead_36 : decode m9_ahead.2.1 36 = .ok (.invokevirtual 249, 3) := by decide +kernel
theorem D9_ahead_39 : decode m9_ahead.2.1 39 = .ok (.aload_n 0, 1) := by decide +kernel
theorem D9_ahead_40 : decode m9_ahead.2.1 40 = .ok (.getfield 61, 3) := by decide +kernel
theorem D9_ahead_43 : decode m9_ahead.2.1 43 = .ok (.iload_n 1, 1) := by decide +kernel
theorem D9_ahead_44 : decode m9_ahead.2.1 44 = .ok (.invokevirtual 246, 3) := by decide +kernel
theorem D9_ahead_47 : decode m9_ahead.2.1 47 = .ok (.iload_n 2, 1) := by decide +kernel
theorem D9_ahead_48 : decode m9_ahead.2.1 48 = .ok (.tableswitch 85 0 3 #[32, 37, 53, 69], 32) := by decide +kernel
theorem D9_ahead_80 : decode m9_ahead.2.1 80 = .ok (.aload_n 0, 1) := by decide +kernel
theorem D9_ahead_81 : decode m9_ahead.2.1 81 = .ok (.invokevirtual 252, 3) := by decide +kernel
theorem D9_ahead_84 : decode m9_ahead.2.1 84 = .ok (.ireturn, 1) := by decide +kernel
theorem D9_ahead_85 : decode m9_ahead.2.1 85 = .ok (.aload_n 0, 1) := by decide +kernel
theorem D9_ahead_86 : decode m9_ahead.2.1 86 = .ok (.getfield 53, 3) := by decide +kernel
theorem D9_ahead_89 : decode m9_ahead.2.1 89 = .ok (.invokevirtual 256, 3) := by decide +kernel
theorem D9_ahead_92 : decode m9_ahead.2.1 92 = .ok (.aload_n 0, 1) := by decide +kernel
theorem D9_ahead_93 : decode m9_ahead.2.1 93 = .ok (.getfield 46, 3) := by decide +kernel
theorem D9_ahead_96 : decode m9_ahead.2.1 96 = .ok (.invokevirtual 256, 3) := by decide +kernel
theorem D9_ahead_99 : decode m9_ahead.2.1 99 = .ok (.isub, 1) := by decide +kernel
theorem D9_ahead_100 : decode m9_ahead.2.1 100 = .ok (.ireturn, 1) := by decide +kernel
theorem D9_ahead_101 : decode m9_ahead.2.1 101 = .ok (.aload_n 0, 1) := by decide +kernel
theorem D9_ahead_102 : decode m9_ahead.2.1 102 = .ok (.getfield 53, 3) := by decide +kernel
theorem D9_ahead_105 : decode m9_ahead.2.1 105 = .ok (.invokevirtual 259, 3) := by decide +kernel
theorem D9_ahead_108 : decode m9_ahead.2.1 108 = .ok (.aload_n 0, 1) := by decide +kernel
theorem D9_ahead_109 : decode m9_ahead.2.1 109 = .ok (.getfield 46, 3) := by decide +kernel
theorem D9_ahead_112 : decode m9_ahead.2.1 112 = .ok (.invokevirtual 259, 3) := by decide +kernel
theorem D9_ahead_115 : decode m9_ahead.2.1 115 = .ok (.isub, 1) := by decide +kernel
theorem D9_ahead_116 : decode m9_ahead.2.1 116 = .ok (.ireturn, 1) := by decide +kernel
theorem D9_ahead_117 : decode m9_ahead.2.1 117 = .ok (.aload_n 0, 1) := by decide +kernel
theorem D9_ahead_118 : decode m9_ahead.2.1 118 = .ok (.getfield 53, 3) := by decide +kernel
theorem D9_ahead_121 : decode m9_ahead.2.1 121 = .ok (.invokevirtual 262, 3) := by decide +kernel
theorem D9_ahead_124 : decode m9_ahead.2.1 124 = .ok (.aload_n 0, 1) := by decide +kernel
theorem D9_ahead_125 : decode m9_ahead.2.1 125 = .ok (.getfield 46, 3) := by decide +kernel
theorem D9_ahead_128 : decode m9_ahead.2.1 128 = .ok (.invokevirtual 262, 3) := by decide +kernel
theorem D9_ahead_131 : decode m9_ahead.2.1 131 = .ok (.isub, 1) := by decide +kernel
theorem D9_ahead_132 : decode m9_ahead.2.1 132 = .ok (.ireturn, 1) := by decide +kernel
theorem D9_ahead_133 : decode m9_ahead.2.1 133 = .ok (.aload_n 0, 1) := by decide +kernel
theorem D9_ahead_134 : decode m9_ahead.2.1 134 = .ok (.getfield 53, 3) := by decide +kernel
theorem D9_ahead_137 : decode m9_ahead.2.1 137 = .ok (.getfield 150, 3) := by decide +kernel
theorem D9_ahead_140 : decode m9_ahead.2.1 140 = .ok (.iload_n 3, 1) := by decide +kernel
theorem D9_ahead_141 : decode m9_ahead.2.1 141 = .ok (.iaload, 1) := by decide +kernel
theorem D9_ahead_142 : decode m9_ahead.2.1 142 = .ok (.ireturn, 1) := by decide +kernel
theorem D9_firstOff_0 : decode m9_firstOff.2.1 0 = .ok (.iload_n 1, 1) := by decide +kernel
theorem D9_firstOff_1 : decode m9_firstOff.2.1 1 = .ok (.iconst 0, 1) := by decide +kernel
theorem D9_firstOff_2 : decode m9_firstOff.2.1 2 = .ok (.iconst 1, 1) := by decide +kernel
theorem D9_firstOff_3 : decode m9_firstOff.2.1 3 = .ok (.invokestatic 239, 3) := by decide +kernel
theorem D9_firstOff_6 : decode m9_firstOff.2.1 6 = .ok (.ifCond .ne 5, 3) := by decide +kernel
theorem D9_firstOff_9 : decode m9_firstOff.2.1 9 = .ok (.iconst (-1), 1) := by decide +kernel
theorem D9_firstOff_10 : decode m9_firstOff.2.1 10 = .ok (.ireturn, 1) := by decide +kernel
theorem D9_firstOff_11 : decode m9_firstOff.2.1 11 = .ok (.aload_n 0, 1) := by decide +kernel
theorem D9_firstOff_12 : decode m9_firstOff.2.1 12 = .ok (.iconst 1, 1) := by decide +kernel
theorem D9_firstOff_13 : decode m9_firstOff.2.1 13 = .ok (.invokevirtual 249, 3) := by decide +kernel
theorem D9_firstOff_16 : decode m9_firstOff.2.1 16 = .ok (.aload_n 0, 1) := by decide +kernel
theorem D9_firstOff_17 : decode m9_firstOff.2.1 17 = .ok (.getfield 46, 3) := by decide +kernel
theorem D9_firstOff_20 : decode m9_firstOff.2.1 20 = .ok (.iconst 2, 1) := by decide +kernel
theorem D9_firstOff_21 : decode m9_firstOff.2.1 21 = .ok (.invokevirtual 265, 3) := by decide +kernel
theorem D9_firstOff_24 : decode m9_firstOff.2.1 24 = .ok (.istore_n 2, 1) := by decide +kernel
theorem D9_firstOff_25 : decode m9_firstOff.2.1 25 = .ok (.iconst 1, 1) := by decide +kernel
theorem D9_firstOff_26 : decode m9_firstOff.2.1 26 = .ok (.istore_n 3, 1) := by decide +kernel
theorem D9_firstOff_27 : decode m9_firstOff.2.1 27 = .ok (.iload_n 3, 1) := by decide +kernel
theorem D9_firstOff_28 : decode m9_firstOff.2.1 28 = .ok (.bipush 99, 2) := by decide +kernel
theorem D9_firstOff_30 : decode m9_firstOff.2.1 30 = .ok (.if_icmp .gt 46, 3) := by decide +kernel
theorem D9_firstOff_33 : decode m9_firstOff.2.1 33 = .ok (.aload_n 0, 1) := by decide +kernel
theorem D9_firstOff_34 : decode m9_firstOff.2.1 34 = .ok (.getfield 61, 3) := by decide +kernel
theorem D9_firstOff_37 : decode m9_firstOff.2.1 37 = .ok (.invokevirtual 268, 3) := by decide +kernel
theorem D9_firstOff_40 : decode m9_firstOff.2.1 40 = .ok (.aload_n 0, 1) := by decide +kernel
theorem D9_firstOff_41 : decode m9_firstOff.2.1 41 = .ok (.getfield 53, 3) := by decide +kernel
theorem D9_firstOff_44 : decode m9_firstOff.2.1 44 = .ok (.iconst 2, 1) := by decide +kernel
theorem D9_firstOff_45 : decode m9_firstOff.2.1 45 = .ok (.invokevirtual 265, 3) := by decide +kernel
theorem D9_firstOff_48 : decode m9_firstOff.2.1 48 = .ok (.iload_n 2, 1) := by decide +kernel
theorem D9_firstOff_49 : decode m9_firstOff.2.1 49 = .ok (.iconst (-1), 1) := by decide +kernel
theorem D9_firstOff_50 : decode m9_firstOff.2.1 50 = .ok (.ixor, 1) := by decide +kernel
theorem D9_firstOff_51 : decode m9_firstOff.2.1 51 = .ok (.iand, 1) := by decide +kernel
theorem D9_firstOff_52 : decode m9_firstOff.2.1 52 = .ok (.istore 4, 2) := by decide +kernel
theorem D9_firstOff_54 : decode m9_firstOff.2.1 54 = .ok (.iload 4, 2) := by decide +kernel
theorem D9_firstOff_56 : decode m9_firstOff.2.1 56 = .ok (.ifCond .eq 14, 3) := by decide +kernel
theorem D9_firstOff_59 : decode m9_firstOff.2.1 59 = .ok (.iload_n 1, 1) := by decide +kernel
theorem D9_firstOff_60 : decode m9_firstOff.2.1 60 = .ok (.ifCond .ne 7, 3) := by decide +kernel
theorem D9_firstOff_63 : decode m9_firstOff.2.1 63 = .ok (.iload_n 3, 1) := by decide +kernel
theorem D9_firstOff_64 : decode m9_firstOff.2.1 64 = .ok (.goto 5, 3) := by decide +kernel
theorem D9_firstOff_67 : decode m9_firstOff.2.1 67 = .ok (.iload 4, 2) := by decide +kernel
theorem D9_firstOff_69 : decode m9_firstOff.2.1 69 = .ok (.ireturn, 1) := by decide +kernel
theorem D9_firstOff_70 : decode m9_firstOff.2.1 70 = .ok (.iinc 3 1, 3) := by decide +kernel
theorem D9_firstOff_73 : decode m9_firstOff.2.1 73 = .ok (.goto (-46), 3) := by decide +kernel
theorem D9_firstOff_76 : decode m9_firstOff.2.1 76 = .ok (.bipush (-2), 2) := by decide +kernel
theorem D9_firstOff_78 : decode m9_firstOff.2.1 78 = .ok (.ireturn, 1) := by decide +kernel
theorem D9_chain_0 : decode m9_chain.2.1 0 = .ok (.aload_n 0, 1) := by decide +kernel
theorem D9_chain_1 : decode m9_chain.2.1 1 = .ok (.iload_n 1, 1) := by decide +kernel
theorem D9_chain_2 : decode m9_chain.2.1 2 = .ok (.invokevirtual 130, 3) := by decide +kernel
theorem D9_chain_5 : decode m9_chain.2.1 5 = .ok (.ifCond .ne 5, 3) := by decide +kernel
theorem D9_chain_8 : decode m9_chain.2.1 8 = .ok (.iconst (-1), 1) := by decide +kernel
theorem D9_chain_9 : decode m9_chain.2.1 9 = .ok (.ireturn, 1) := by decide +kernel
theorem D9_chain_10 : decode m9_chain.2.1 10 = .ok (.aload_n 0, 1) := by decide +kernel
theorem D9_chain_11 : decode m9_chain.2.1 11 = .ok (.getfield 46, 3) := by decide +kernel
theorem D9_chain_14 : decode m9_chain.2.1 14 = .ok (.iload_n 1, 1) := by decide +kernel
theorem D9_chain_15 : decode m9_chain.2.1 15 = .ok (.invokevirtual 211, 3) := by decide +kernel
theorem D9_chain_18 : decode m9_chain.2.1 18 = .ok (.ifCond .ne 6, 3) := by decide +kernel
theorem D9_chain_21 : decode m9_chain.2.1 21 = .ok (.bipush (-2), 2) := by decide +kernel
theorem D9_chain_23 : decode m9_chain.2.1 23 = .ok (.ireturn, 1) := by decide +kernel
theorem D9_chain_24 : decode m9_chain.2.1 24 = .ok (.aload_n 0, 1) := by decide +kernel
theorem D9_chain_25 : decode m9_chain.2.1 25 = .ok (.iconst 1, 1) := by decide +kernel
theorem D9_chain_26 : decode m9_chain.2.1 26 = .ok (.invokevirtual 249, 3) := by decide +kernel
theorem D9_chain_29 : decode m9_chain.2.1 29 = .ok (.aload_n 0, 1) := by decide +kernel
theorem D9_chain_30 : decode m9_chain.2.1 30 = .ok (.getfield 61, 3) := by decide +kernel
theorem D9_chain_33 : decode m9_chain.2.1 33 = .ok (.iload_n 1, 1) := by decide +kernel
theorem D9_chain_34 : decode m9_chain.2.1 34 = .ok (.invokevirtual 271, 3) := by decide +kernel
theorem D9_chain_37 : decode m9_chain.2.1 37 = .ok (.aload_n 0, 1) := by decide +kernel
theorem D9_chain_38 : decode m9_chain.2.1 38 = .ok (.getfield 53, 3) := by decide +kernel
theorem D9_chain_41 : decode m9_chain.2.1 41 = .ok (.iconst 2, 1) := by decide +kernel
theorem D9_chain_42 : decode m9_chain.2.1 42 = .ok (.invokevirtual 265, 3) := by decide +kernel
theorem D9_chain_45 : decode m9_chain.2.1 45 = .ok (.aload_n 0, 1) := by decide +kernel
theorem D9_chain_46 : decode m9_chain.2.1 46 = .ok (.getfield 46, 3) := by decide +kernel
theorem D9_chain_49 : decode m9_chain.2.1 49 = .ok (.iconst 2, 1) := by decide +kernel
theorem D9_chain_50 : decode m9_chain.2.1 50 = .ok (.invokevirtual 265, 3) := by decide +kernel
theorem D9_chain_53 : decode m9_chain.2.1 53 = .ok (.iconst (-1), 1) := by decide +kernel
theorem D9_chain_54 : decode m9_chain.2.1 54 = .ok (.ixor, 1) := by decide +kernel
theorem D9_chain_55 : decode m9_chain.2.1 55 = .ok (.iand, 1) := by decide +kernel
theorem D9_chain_56 : decode m9_chain.2.1 56 = .ok (.ireturn, 1) := by decide +kernel
theorem D9_racking_0 : decode m9_racking.2.1 0 = .ok (.iload_n 1, 1) := by decide +kernel
theorem D9_racking_1 : decode m9_racking.2.1 1 = .ok (.iconst 1, 1) := by decide +kernel
theorem D9_racking_2 : decode m9_racking.2.1 2 = .ok (.bipush 60, 2) := by decide +kernel
theorem D9_racking_4 : decode m9_racking.2.1 4 = .ok (.invokestatic 239, 3) := by decide +kernel
theorem D9_racking_7 : decode m9_racking.2.1 7 = .ok (.ifCond .eq 12, 3) := by decide +kernel
theorem D9_racking_10 : decode m9_racking.2.1 10 = .ok (.iload_n 2, 1) := by decide +kernel
theorem D9_racking_11 : decode m9_racking.2.1 11 = .ok (.iconst 0, 1) := by decide +kernel
theorem D9_racking_12 : decode m9_racking.2.1 12 = .ok (.iconst 4, 1) := by decide +kernel
theorem D9_racking_13 : decode m9_racking.2.1 13 = .ok (.invokestatic 239, 3) := by decide +kernel
theorem D9_racking_16 : decode m9_racking.2.1 16 = .ok (.ifCond .ne 5, 3) := by decide +kernel
theorem D9_racking_19 : decode m9_racking.2.1 19 = .ok (.iconst (-1), 1) := by decide +kernel
theorem D9_racking_20 : decode m9_racking.2.1 20 = .ok (.ireturn, 1) := by decide +kernel
theorem D9_racking_21 : decode m9_racking.2.1 21 = .ok (.aload_n 0, 1) := by decide +kernel
theorem D9_racking_22 : decode m9_racking.2.1 22 = .ok (.invokevirtual 274, 3) := by decide +kernel
theorem D9_racking_25 : decode m9_racking.2.1 25 = .ok (.istore_n 3, 1) := by decide +kernel
theorem D9_racking_26 : decode m9_racking.2.1 26 = .ok (.iload_n 2, 1) := by decide +kernel
theorem D9_racking_27 : decode m9_racking.2.1 27 = .ok (.iconst 4, 1) := by decide +kernel
theorem D9_racking_28 : decode m9_racking.2.1 28 = .ok (.if_icmp .ge 11, 3) := by decide +kernel
theorem D9_racking_31 : decode m9_racking.2.1 31 = .ok (.iload_n 2, 1) := by decide +kernel
theorem D9_racking_32 : decode m9_racking.2.1 32 = .ok (.iload_n 3, 1) := by decide +kernel
theorem D9_racking_33 : decode m9_racking.2.1 33 = .ok (.if_icmp .lt 6, 3) := by decide +kernel
theorem D9_racking_36 : decode m9_racking.2.1 36 = .ok (.bipush (-2), 2) := by decide +kernel
theorem D9_racking_38 : decode m9_racking.2.1 38 = .ok (.ireturn, 1) := by decide +kernel
theorem D9_racking_39 : decode m9_racking.2.1 39 = .ok (.iconst 1, 1) := by decide +kernel
theorem D9_racking_40 : decode m9_racking.2.1 40 = .ok (.iconst 2, 1) := by decide +kernel
theorem D9_racking_41 : decode m9_racking.2.1 41 = .ok (.iload_n 3, 1) := by decide +kernel
theorem D9_racking_42 : decode m9_racking.2.1 42 = .ok (.imul, 1) := by decide +kernel
theorem D9_racking_43 : decode m9_racking.2.1 43 = .ok (.ishl, 1) := by decide +kernel
theorem D9_racking_44 : decode m9_racking.2.1 44 = .ok (.istore 4, 2) := by decide +kernel
theorem D9_racking_46 : decode m9_racking.2.1 46 = .ok (.bipush 11, 2) := by decide +kernel
theorem D9_racking_48 : decode m9_racking.2.1 48 = .ok (.istore 5, 2) := by decide +kernel
theorem D9_racking_50 : decode m9_racking.2.1 50 = .ok (.iconst 0, 1) := by decide +kernel
theorem D9_racking_51 : decode m9_racking.2.1 51 = .ok (.istore 6, 2) := by decide +kernel
theorem D9_racking_53 : decode m9_racking.2.1 53 = .ok (.iconst 0, 1) := by decide +kernel
theorem D9_racking_54 : decode m9_racking.2.1 54 = .ok (.istore 7, 2) := by decide +kernel
theorem D9_racking_56 : decode m9_racking.2.1 56 = .ok (.iload 7, 2) := by decide +kernel
theorem D9_racking_58 : decode m9_racking.2.1 58 = .ok (.iload 4, 2) := by decide +kernel
theorem D9_racking_60 : decode m9_racking.2.1 60 = .ok (.if_icmp .ge 41, 3) := by decide +kernel
theorem D9_racking_63 : decode m9_racking.2.1 63 = .ok (.iload 5, 2) := by decide +kernel
theorem D9_racking_65 : decode m9_racking.2.1 65 = .ok (.ifCond .le 36, 3) := by decide +kernel
theorem D9_racking_68 : decode m9_racking.2.1 68 = .ok (.aload_n 0, 1) := by decide +kernel
theorem D9_racking_69 : decode m9_racking.2.1 69 = .ok (.iload 7, 2) := by decide +kernel
theorem D9_racking_71 : decode m9_racking.2.1 71 = .ok (.iload_n 3, 1) := by decide +kernel
theorem D9_racking_72 : decode m9_racking.2.1 72 = .ok (.iload_n 1, 1) := by decide +kernel
theorem D9_racking_73 : decode m9_racking.2.1 73 = .ok (.iload 5, 2) := by decide +kernel
theorem D9_racking_75 : decode m9_racking.2.1 75 = .ok (.invokevirtual 277, 3) := by decide +kernel
theorem D9_racking_78 : decode m9_racking.2.1 78 = .ok (.istore 8, 2) := by decide +kernel
theorem D9_racking_80 : decode m9_racking.2.1 80 = .ok (.iload 8, 2) := by decide +kernel
theorem D9_racking_82 : decode m9_racking.2.1 82 = .ok (.iload 5, 2) := by decide +kernel
theorem D9_racking_84 : decode m9_racking.2.1 84 = .ok (.if_icmp .ge 11, 3) := by decide +kernel
theorem D9_racking_87 : decode m9_racking.2.1 87 = .ok (.iload 8, 2) := by decide +kernel
theorem D9_racking_89 : decode m9_racking.2.1 89 = .ok (.istore 5, 2) := by decide +kernel
theorem D9_racking_91 : decode m9_racking.2.1 91 = .ok (.iload 7, 2) := by decide +kernel
theorem D9_racking_93 : decode m9_racking.2.1 93 = .ok (.istore 6, 2) := by decide +kernel
theorem D9_racking_95 : decode m9_racking.2.1 95 = .ok (.iinc 7 1, 3) := by decide +kernel
theorem D9_racking_98 : decode m9_racking.2.1 98 = .ok (.goto (-42), 3) := by decide +kernel
theorem D9_racking_101 : decode m9_racking.2.1 101 = .ok (.iload_n 2, 1) := by decide +kernel
theorem D9_racking_102 : decode m9_racking.2.1 102 = .ok (.iconst 4, 1) := by decide +kernel
theorem D9_racking_103 : decode m9_racking.2.1 103 = .ok (.if_icmp .ne 8, 3) := by decide +kernel
theorem D9_racking_106 : decode m9_racking.2.1 106 = .ok (.iload 5, 2) := by decide +kernel
theorem D9_racking_108 : decode m9_racking.2.1 108 = .ok (.goto 10, 3) := by decide +kernel
theorem D9_racking_111 : decode m9_racking.2.1 111 = .ok (.iload 6, 2) := by decide +kernel
theorem D9_racking_113 : decode m9_racking.2.1 113 = .ok (.iload_n 3, 1) := by decide +kernel
theorem D9_racking_114 : decode m9_racking.2.1 114 = .ok (.iload_n 2, 1) := by decide +kernel
theorem D9_racking_115 : decode m9_racking.2.1 115 = .ok (.invokestatic 281, 3) := by decide +kernel
theorem D9_racking_118 : decode m9_racking.2.1 118 = .ok (.ireturn, 1) := by decide +kernel
theorem D9_findRacked_0 : decode m9_findRacked.2.1 0 = .ok (.iconst 0, 1) := by decide +kernel
theorem D9_findRacked_1 : decode m9_findRacked.2.1 1 = .ok (.istore_n 1, 1) := by decide +kernel
theorem D9_findRacked_2 : decode m9_findRacked.2.1 2 = .ok (.iconst 0, 1) := by decide +kernel
theorem D9_findRacked_3 : decode m9_findRacked.2.1 3 = .ok (.istore_n 2, 1) := by decide +kernel
theorem D9_findRacked_4 : decode m9_findRacked.2.1 4 = .ok (.iload_n 2, 1) := by decide +kernel
theorem D9_findRacked_5 : decode m9_findRacked.2.1 5 = .ok (.aload_n 0, 1) := by decide +kernel
theorem D9_findRacked_6 : decode m9_findRacked.2.1 6 = .ok (.getfield 18, 3) := by decide +kernel
theorem D9_findRacked_9 : decode m9_findRacked.2.1 9 = .ok (.getfield 208, 3) := by decide +kernel
theorem D9_findRacked_12 : decode m9_findRacked.2.1 12 = .ok (.if_icmp .ge 35, 3) := by decide +kernel
theorem D9_findRacked_15 : decode m9_findRacked.2.1 15 = .ok (.iload_n 1, 1) := by decide +kernel
theorem D9_findRacked_16 : decode m9_findRacked.2.1 16 = .ok (.iconst 4, 1) := by decide +kernel
theorem D9_findRacked_17 : decode m9_findRacked.2.1 17 = .ok (.if_icmp .ge 30, 3) := by decide +kernel
theorem D9_findRacked_20 : decode m9_findRacked.2.1 20 = .ok (.aload_n 0, 1) := by decide +kernel
theorem D9_findRacked_21 : decode m9_findRacked.2.1 21 = .ok (.getfield 46, 3) := by decide +kernel
theorem D9_findRacked_24 : decode m9_findRacked.2.1 24 = .ok (.iload_n 2, 1) := by decide +kernel
theorem D9_findRacked_25 : decode m9_findRacked.2.1 25 = .ok (.invokevirtual 211, 3) := by decide +kernel
theorem D9_findRacked_28 : decode m9_findRacked.2.1 28 = .ok (.ifCond .eq 13, 3) := by decide +kernel
theorem D9_findRacked_31 : decode m9_findRacked.2.1 31 = .ok (.aload_n 0, 1) := by decide +kernel
theorem D9_findRacked_32 : decode m9_findRacked.2.1 32 = .ok (.getfield 86, 3) := by decide +kernel
theorem D9_findRacked_35 : decode m9_findRacked.2.1 35 = .ok (.iload_n 1, 1) := by decide +kernel
theorem D9_findRacked_36 : decode m9_findRacked.2.1 36 = .ok (.iload_n 2, 1) := by decide +kernel
theorem D9_findRacked_37 : decode m9_findRacked.2.1 37 = .ok (.iastore, 1) := by decide +kernel
theorem D9_findRacked_38 : decode m9_findRacked.2.1 38 = .ok (.iinc 1 1, 3) := by decide +kernel
theorem D9_findRacked_41 : decode m9_findRacked.2.1 41 = .ok (.iinc 2 1, 3) := by decide +kernel
theorem D9_findRacked_44 : decode m9_findRacked.2.1 44 = .ok (.goto (-40), 3) := by decide +kernel
theorem D9_findRacked_47 : decode m9_findRacked.2.1 47 = .ok (.iload_n 1, 1) := by decide +kernel
theorem D9_findRacked_48 : decode m9_findRacked.2.1 48 = .ok (.ireturn, 1) := by decide +kernel
theorem D9_binByWay_0 : decode m9_binByWay.2.1 0 = .ok (.iload_n 0, 1) := by decide +kernel
theorem D9_binByWay_1 : decode m9_binByWay.2.1 1 = .ok (.iconst 2, 1) := by decide +kernel
theorem D9_binByWay_2 : decode m9_binByWay.2.1 2 = .ok (.iload_n 1, 1) := by decide +kernel
theorem D9_binByWay_3 : decode m9_binByWay.2.1 3 = .ok (.iconst 1, 1) := by decide +kernel
theorem D9_binByWay_4 : decode m9_binByWay.2.1 4 = .ok (.isub, 1) := by decide +kernel
theorem D9_binByWay_5 : decode m9_binByWay.2.1 5 = .ok (.iload_n 2, 1) := by decide +kernel
theorem D9_binByWay_6 : decode m9_binByWay.2.1 6 = .ok (.isub, 1) := by decide +kernel
theorem D9_binByWay_7 : decode m9_binByWay.2.1 7 = .ok (.imul, 1) := by decide +kernel
theorem D9_binByWay_8 : decode m9_binByWay.2.1 8 = .ok (.ishr, 1) := by decide +kernel
theorem D9_binByWay_9 : decode m9_binByWay.2.1 9 = .ok (.iconst 3, 1) := by decide +kernel
theorem D9_binByWay_10 : decode m9_binByWay.2.1 10 = .ok (.iand, 1) := by decide +kernel
theorem D9_binByWay_11 : decode m9_binByWay.2.1 11 = .ok (.ireturn, 1) := by decide +kernel
theorem D9_offIfRacked_0 : decode m9_offIfRacked.2.1 0 = .ok (.aload_n 0, 1) := by decide +kernel
theorem D9_offIfRacked_1 : decode m9_offIfRacked.2.1 1 = .ok (.iconst 1, 1) := by decide +kernel
theorem D9_offIfRacked_2 : decode m9_offIfRacked.2.1 2 = .ok (.invokevirtual 249, 3) := by decide +kernel
theorem D9_offIfRacked_5 : decode m9_offIfRacked.2.1 5 = .ok (.iconst 0, 1) := by decide +kernel
theorem D9_offIfRacked_6 : decode m9_offIfRacked.2.1 6 = .ok (.istore 5, 2) := by decide +kernel
theorem D9_offIfRacked_8 : decode m9_offIfRacked.2.1 8 = .ok (.iload 5, 2) := by decide +kernel
theorem D9_offIfRacked_10 : decode m9_offIfRacked.2.1 10 = .ok (.iload_n 2, 1) := by decide +kernel
theorem D9_offIfRacked_11 : decode m9_offIfRacked.2.1 11 = .ok (.if_icmp .ge 30, 3) := by decide +kernel
theorem D9_offIfRacked_14 : decode m9_offIfRacked.2.1 14 = .ok (.aload_n 0, 1) := by decide +kernel
theorem D9_offIfRacked_15 : decode m9_offIfRacked.2.1 15 = .ok (.getfield 53, 3) := by decide +kernel
theorem D9_offIfRacked_18 : decode m9_offIfRacked.2.1 18 = .ok (.aload_n 0, 1) := by decide +kernel
theorem D9_offIfRacked_19 : decode m9_offIfRacked.2.1 19 = .ok (.getfield 86, 3) := by decide +kernel
theorem D9_offIfRacked_22 : decode m9_offIfRacked.2.1 22 = .ok (.iload 5, 2) := by decide +kernel
theorem D9_offIfRacked_24 : decode m9_offIfRacked.2.1 24 = .ok (.iaload, 1) := by decide +kernel
theorem D9_offIfRacked_25 : decode m9_offIfRacked.2.1 25 = .ok (.iload_n 1, 1) := by decide +kernel
theorem D9_offIfRacked_26 : decode m9_offIfRacked.2.1 26 = .ok (.iload_n 2, 1) := by decide +kernel
theorem D9_offIfRacked_27 : decode m9_offIfRacked.2.1 27 = .ok (.iload 5, 2) := by decide +kernel
theorem D9_offIfRacked_29 : decode m9_offIfRacked.2.1 29 = .ok (.invokestatic 281, 3) := by decide +kernel
theorem D9_offIfRacked_32 : decode m9_offIfRacked.2.1 32 = .ok (.invokevirtual 231, 3) := by decide +kernel
theorem D9_offIfRacked_35 : decode m9_offIfRacked.2.1 35 = .ok (.iinc 5 1, 3) := by decide +kernel
theorem D9_offIfRacked_38 : decode m9_offIfRacked.2.1 38 = .ok (.goto (-30), 3) := by decide +kernel
theorem D9_offIfRacked_41 : decode m9_offIfRacked.2.1 41 = .ok (.iconst 0, 1) := by decide +kernel
theorem D9_offIfRacked_42 : decode m9_offIfRacked.2.1 42 = .ok (.istore 5, 2) := by decide +kernel
theorem D9_offIfRacked_44 : decode m9_offIfRacked.2.1 44 = .ok (.iconst 0, 1) := by decide +kernel
theorem D9_offIfRacked_45 : decode m9_offIfRacked.2.1 45 = .ok (.istore 6, 2) := by decide +kernel
theorem D9_offIfRacked_47 : decode m9_offIfRacked.2.1 47 = .ok (.iload 6, 2) := by decide +kernel
theorem D9_offIfRacked_49 : decode m9_offIfRacked.2.1 49 = .ok (.iload_n 3, 1) := by decide +kernel
theorem D9_offIfRacked_50 : decode m9_offIfRacked.2.1 50 = .ok (.if_icmp .ge 29, 3) := by decide +kernel
theorem D9_offIfRacked_53 : decode m9_offIfRacked.2.1 53 = .ok (.iload 5, 2) := by decide +kernel
theorem D9_offIfRacked_55 : decode m9_offIfRacked.2.1 55 = .ok (.iload 4, 2) := by decide +kernel
theorem D9_offIfRacked_57 : decode m9_offIfRacked.2.1 57 = .ok (.if_icmp .ge 22, 3) := by decide +kernel
theorem D9_offIfRacked_60 : decode m9_offIfRacked.2.1 60 = .ok (.aload_n 0, 1) := by decide +kernel
theorem D9_offIfRacked_61 : decode m9_offIfRacked.2.1 61 = .ok (.getfield 61, 3) := by decide +kernel
theorem D9_offIfRacked_64 : decode m9_offIfRacked.2.1 64 = .ok (.invokevirtual 268, 3) := by decide +kernel
theorem D9_offIfRacked_67 : decode m9_offIfRacked.2.1 67 = .ok (.aload_n 0, 1) := by decide +kernel
theorem D9_offIfRacked_68 : decode m9_offIfRacked.2.1 68 = .ok (.invokevirtual 252, 3) := by decide +kernel
theorem D9_offIfRacked_71 : decode m9_offIfRacked.2.1 71 = .ok (.istore 5, 2) := by decide +kernel
theorem D9_offIfRacked_73 : decode m9_offIfRacked.2.1 73 = .ok (.iinc 6 1, 3) := by decide +kernel
theorem D9_offIfRacked_76 : decode m9_offIfRacked.2.1 76 = .ok (.goto (-29), 3) := by decide +kernel
theorem D9_offIfRacked_79 : decode m9_offIfRacked.2.1 79 = .ok (.iload 5, 2) := by decide +kernel
theorem D9_offIfRacked_81 : decode m9_offIfRacked.2.1 81 = .ok (.ireturn, 1) := by decide +kernel
theorem D9_serve_0 : decode m9_serve.2.1 0 = .ok (.aload_n 0, 1) := by decide +kernel
theorem D9_serve_1 : decode m9_serve.2.1 1 = .ok (.iload_n 1, 1) := by decide +kernel
theorem D9_serve_2 : decode m9_serve.2.1 2 = .ok (.invokevirtual 187, 3) := by decide +kernel
theorem D9_serve_5 : decode m9_serve.2.1 5 = .ok (.ifCond .eq 16, 3) := by decide +kernel
theorem D9_serve_8 : decode m9_serve.2.1 8 = .ok (.aload_n 0, 1) := by decide +kernel
theorem D9_serve_9 : decode m9_serve.2.1 9 = .ok (.getfield 46, 3) := by decide +kernel
theorem D9_serve_12 : decode m9_serve.2.1 12 = .ok (.getfield 202, 3) := by decide +kernel
theorem D9_serve_15 : decode m9_serve.2.1 15 = .ok (.iload_n 1, 1) := by decide +kernel
theorem D9_serve_16 : decode m9_serve.2.1 16 = .ok (.iaload, 1) := by decide +kernel
theorem D9_serve_17 : decode m9_serve.2.1 17 = .ok (.iconst (-1), 1) := by decide +kernel
theorem D9_serve_18 : decode m9_serve.2.1 18 = .ok (.if_icmp .eq 5, 3) := by decide +kernel
theorem D9_serve_21 : decode m9_serve.2.1 21 = .ok (.iconst (-1), 1) := by decide +kernel
theorem D9_serve_22 : decode m9_serve.2.1 22 = .ok (.ireturn, 1) := by decide +kernel
theorem D9_serve_23 : decode m9_serve.2.1 23 = .ok (.aload_n 0, 1) := by decide +kernel
theorem D9_serve_24 : decode m9_serve.2.1 24 = .ok (.getfield 82, 3) := by decide +kernel
theorem D9_serve_27 : decode m9_serve.2.1 27 = .ok (.aload_n 0, 1) := by decide +kernel
theorem D9_serve_28 : decode m9_serve.2.1 28 = .ok (.getfield 18, 3) := by decide +kernel
theorem D9_serve_31 : decode m9_serve.2.1 31 = .ok (.aload_n 0, 1) := by decide +kernel
theorem D9_serve_32 : decode m9_serve.2.1 32 = .ok (.getfield 46, 3) := by decide +kernel
theorem D9_serve_35 : decode m9_serve.2.1 35 = .ok (.invokevirtual 285, 3) := by decide +kernel
theorem D9_serve_38 : decode m9_serve.2.1 38 = .ok (.aload_n 0, 1) := by decide +kernel
theorem D9_serve_39 : decode m9_serve.2.1 39 = .ok (.getfield 82, 3) := by decide +kernel
theorem D9_serve_42 : decode m9_serve.2.1 42 = .ok (.getfield 288, 3) := by decide +kernel
theorem D9_serve_45 : decode m9_serve.2.1 45 = .ok (.iload_n 1, 1) := by decide +kernel
theorem D9_serve_46 : decode m9_serve.2.1 46 = .ok (.iaload, 1) := by decide +kernel
theorem D9_serve_47 : decode m9_serve.2.1 47 = .ok (.istore_n 2, 1) := by decide +kernel
theorem D9_serve_48 : decode m9_serve.2.1 48 = .ok (.iload_n 2, 1) := by decide +kernel
theorem D9_serve_49 : decode m9_serve.2.1 49 = .ok (.iconst (-1), 1) := by decide +kernel
theorem D9_serve_50 : decode m9_serve.2.1 50 = .ok (.if_icmp .ne 8, 3) := by decide +kernel
theorem D9_serve_53 : decode m9_serve.2.1 53 = .ok (.bipush (-2), 2) := by decide +kernel
theorem D9_serve_55 : decode m9_serve.2.1 55 = .ok (.goto 4, 3) := by decide +kernel
theorem D9_serve_58 : decode m9_serve.2.1 58 = .ok (.iload_n 2, 1) := by decide +kernel
theorem D9_serve_59 : decode m9_serve.2.1 59 = .ok (.ireturn, 1) := by decide +kernel
theorem D9_served_0 : decode m9_served.2.1 0 = .ok (.aload_n 0, 1) := by decide +kernel
theorem D9_served_1 : decode m9_served.2.1 1 = .ok (.getfield 82, 3) := by decide +kernel
theorem D9_served_4 : decode m9_served.2.1 4 = .ok (.aload_n 0, 1) := by decide +kernel
theorem D9_served_5 : decode m9_served.2.1 5 = .ok (.getfield 18, 3) := by decide +kernel
theorem D9_served_8 : decode m9_served.2.1 8 = .ok (.aload_n 0, 1) := by decide +kernel
theorem D9_served_9 : decode m9_served.2.1 9 = .ok (.getfield 46, 3) := by decide +kernel
theorem D9_served_12 : decode m9_served.2.1 12 = .ok (.invokevirtual 285, 3) := by decide +kernel
theorem D9_served_15 : decode m9_served.2.1 15 = .ok (.aload_n 0, 1) := by decide +kernel
theorem D9_served_16 : decode m9_served.2.1 16 = .ok (.getfield 82, 3) := by decide +kernel
theorem D9_served_19 : decode m9_served.2.1 19 = .ok (.getfield 291, 3) := by decide +kernel
theorem D9_served_22 : decode m9_served.2.1 22 = .ok (.ireturn, 1) := by decide +kernel
theorem D9_pour_0 : decode m9_pour.2.1 0 = .ok (.iload_n 1, 1) := by decide +kernel
theorem D9_pour_1 : decode m9_pour.2.1 1 = .ok (.invokestatic 294, 3) := by decide +kernel
theorem D9_pour_4 : decode m9_pour.2.1 4 = .ok (.ifCond .eq 15, 3) := by decide +kernel
theorem D9_pour_7 : decode m9_pour.2.1 7 = .ok (.iload_n 2, 1) := by decide +kernel
theorem D9_pour_8 : decode m9_pour.2.1 8 = .ok (.invokestatic 294, 3) := by decide +kernel
theorem D9_pour_11 : decode m9_pour.2.1 11 = .ok (.ifCond .eq 8, 3) := by decide +kernel
theorem D9_pour_14 : decode m9_pour.2.1 14 = .ok (.iload_n 2, 1) := by decide +kernel
theorem D9_pour_15 : decode m9_pour.2.1 15 = .ok (.iload_n 1, 1) := by decide +kernel
theorem D9_pour_16 : decode m9_pour.2.1 16 = .ok (.if_icmp .ge 5, 3) := by decide +kernel
theorem D9_pour_19 : decode m9_pour.2.1 19 = .ok (.iconst (-1), 1) := by decide +kernel
theorem D9_pour_20 : decode m9_pour.2.1 20 = .ok (.ireturn, 1) := by decide +kernel
theorem D9_pour_21 : decode m9_pour.2.1 21 = .ok (.iconst 0, 1) := by decide +kernel
theorem D9_pour_22 : decode m9_pour.2.1 22 = .ok (.istore_n 3, 1) := by decide +kernel
theorem D9_pour_23 : decode m9_pour.2.1 23 = .ok (.iload_n 3, 1) := by decide +kernel
theorem D9_pour_24 : decode m9_pour.2.1 24 = .ok (.aload_n 0, 1) := by decide +kernel
theorem D9_pour_25 : decode m9_pour.2.1 25 = .ok (.getfield 18, 3) := by decide +kernel
theorem D9_pour_28 : decode m9_pour.2.1 28 = .ok (.getfield 208, 3) := by decide +kernel
theorem D9_pour_31 : decode m9_pour.2.1 31 = .ok (.if_icmp .ge 97, 3) := by decide +kernel
theorem D9_pour_34 : decode m9_pour.2.1 34 = .ok (.iload_n 3, 1) := by decide +kernel
theorem D9_pour_35 : decode m9_pour.2.1 35 = .ok (.iconst 1, 1) := by decide +kernel
theorem D9_pour_36 : decode m9_pour.2.1 36 = .ok (.iadd, 1) := by decide +kernel
theorem D9_pour_37 : decode m9_pour.2.1 37 = .ok (.istore 4, 2) := by decide +kernel
theorem D9_pour_39 : decode m9_pour.2.1 39 = .ok (.iload 4, 2) := by decide +kernel
theorem D9_pour_41 : decode m9_pour.2.1 41 = .ok (.aload_n 0, 1) := by decide +kernel
theorem D9_pour_42 : decode m9_pour.2.1 42 = .ok (.getfield 18, 3) := by decide +kernel
theorem D9_pour_45 : decode m9_pour.2.1 45 = .ok (.getfield 208, 3) := by decide +kernel
theorem D9_pour_48 : decode m9_pour.2.1 48 = .ok (.if_icmp .ge 74, 3) := by decide +kernel
theorem D9_pour_51 : decode m9_pour.2.1 51 = .ok (.aload_n 0, 1) := by decide +kernel
theorem D9_pour_52 : decode m9_pour.2.1 52 = .ok (.getfield 46, 3) := by decide +kernel
theorem D9_pour_55 : decode m9_pour.2.1 55 = .ok (.getfield 150, 3) := by decide +kernel
theorem D9_pour_58 : decode m9_pour.2.1 58 = .ok (.iload_n 3, 1) := by decide +kernel
theorem D9_pour_59 : decode m9_pour.2.1 59 = .ok (.iaload, 1) := by decide +kernel
theorem D9_pour_60 : decode m9_pour.2.1 60 = .ok (.aload_n 0, 1) := by decide +kernel
theorem D9_pour_61 : decode m9_pour.2.1 61 = .ok (.getfield 46, 3) := by decide +kernel
theorem D9_pour_64 : decode m9_pour.2.1 64 = .ok (.getfield 150, 3) := by decide +kernel
theorem D9_pour_67 : decode m9_pour.2.1 67 = .ok (.iload 4, 2) := by decide +kernel
theorem D9_pour_69 : decode m9_pour.2.1 69 = .ok (.iaload, 1) := by decide +kernel
theorem D9_pour_70 : decode m9_pour.2.1 70 = .ok (.iadd, 1) := by decide +kernel
theorem D9_pour_71 : decode m9_pour.2.1 71 = .ok (.iconst 2, 1) := by decide +kernel
theorem D9_pour_72 : decode m9_pour.2.1 72 = .ok (.idiv, 1) := by decide +kernel
theorem D9_pour_73 : decode m9_pour.2.1 73 = .ok (.istore 5, 2) := by decide +kernel
theorem D9_pour_75 : decode m9_pour.2.1 75 = .ok (.aload_n 0, 1) := by decide +kernel
theorem D9_pour_76 : decode m9_pour.2.1 76 = .ok (.getfield 46, 3) := by decide +kernel
theorem D9_pour_79 : decode m9_pour.2.1 79 = .ok (.iload_n 3, 1) := by decide +kernel
theorem D9_pour_80 : decode m9_pour.2.1 80 = .ok (.invokevirtual 211, 3) := by decide +kernel
theorem D9_pour_83 : decode m9_pour.2.1 83 = .ok (.ifCond .eq 33, 3) := by decide +kernel
theorem D9_pour_86 : decode m9_pour.2.1 86 = .ok (.aload_n 0, 1) := by decide +kernel
theorem D9_pour_87 : decode m9_pour.2.1 87 = .ok (.getfield 46, 3) := by decide +kernel
theorem D9_pour_90 : decode m9_pour.2.1 90 = .ok (.iload 4, 2) := by decide +kernel
theorem D9_pour_92 : decode m9_pour.2.1 92 = .ok (.invokevirtual 211, 3) := by decide +kernel
theorem D9_pour_95 : decode m9_pour.2.1 95 = .ok (.ifCond .eq 21, 3) := by decide +kernel
theorem D9_pour_98 : decode m9_pour.2.1 98 = .ok (.iload 5, 2) := by decide +kernel
theorem D9_pour_100 : decode m9_pour.2.1 100 = .ok (.iload_n 1, 1) := by decide +kernel
theorem D9_pour_101 : decode m9_pour.2.1 101 = .ok (.iload_n 2, 1) := by decide +kernel
theorem D9_pour_102 : decode m9_pour.2.1 102 = .ok (.invokestatic 239, 3) := by decide +kernel
theorem D9_pour_105 : decode m9_pour.2.1 105 = .ok (.ifCond .eq 11, 3) := by decide +kernel
theorem D9_pour_108 : decode m9_pour.2.1 108 = .ok (.bipush 10, 2) := by decide +kernel
theorem D9_pour_110 : decode m9_pour.2.1 110 = .ok (.iload_n 3, 1) := by decide +kernel
theorem D9_pour_111 : decode m9_pour.2.1 111 = .ok (.imul, 1) := by decide +kernel
theorem D9_pour_112 : decode m9_pour.2.1 112 = .ok (.iload 4, 2) := by decide +kernel
theorem D9_pour_114 : decode m9_pour.2.1 114 = .ok (.iadd, 1) := by decide +kernel
theorem D9_pour_115 : decode m9_pour.2.1 115 = .ok (.ireturn, 1) := by decide +kernel
theorem D9_pour_116 : decode m9_pour.2.1 116 = .ok (.iinc 4 1, 3) := by decide +kernel
theorem D9_pour_119 : decode m9_pour.2.1 119 = .ok (.goto (-80), 3) := by decide +kernel
theorem D9_pour_122 : decode m9_pour.2.1 122 = .ok (.iinc 3 1, 3) := by decide +kernel
theorem D9_pour_125 : decode m9_pour.2.1 125 = .ok (.goto (-102), 3) := by decide +kernel
theorem D9_pour_128 : decode m9_pour.2.1 128 = .ok (.bipush (-2), 2) := by decide +kernel
theorem D9_pour_130 : decode m9_pour.2.1 130 = .ok (.ireturn, 1) := by decide +kernel
theorem D9_ripe_0 : decode m9_ripe.2.1 0 = .ok (.aload_n 0, 1) := by decide +kernel
theorem D9_ripe_1 : decode m9_ripe.2.1 1 = .ok (.iload_n 1, 1) := by decide +kernel
theorem D9_ripe_2 : decode m9_ripe.2.1 2 = .ok (.invokevirtual 130, 3) := by decide +kernel
theorem D9_ripe_5 : decode m9_ripe.2.1 5 = .ok (.ifCond .eq 10, 3) := by decide +kernel
theorem D9_ripe_8 : decode m9_ripe.2.1 8 = .ok (.iload_n 2, 1) := by decide +kernel
theorem D9_ripe_9 : decode m9_ripe.2.1 9 = .ok (.invokestatic 294, 3) := by decide +kernel
theorem D9_ripe_12 : decode m9_ripe.2.1 12 = .ok (.ifCond .ne 5, 3) := by decide +kernel
theorem D9_ripe_15 : decode m9_ripe.2.1 15 = .ok (.iconst (-1), 1) := by decide +kernel
theorem D9_ripe_16 : decode m9_ripe.2.1 16 = .ok (.ireturn, 1) := by decide +kernel
theorem D9_ripe_17 : decode m9_ripe.2.1 17 = .ok (.aload_n 0, 1) := by decide +kernel
theorem D9_ripe_18 : decode m9_ripe.2.1 18 = .ok (.iconst 1, 1) := by decide +kernel
theorem D9_ripe_19 : decode m9_ripe.2.1 19 = .ok (.invokevirtual 249, 3) := by decide +kernel
theorem D9_ripe_22 : decode m9_ripe.2.1 22 = .ok (.iconst 0, 1) := by decide +kernel
theorem D9_ripe_23 : decode m9_ripe.2.1 23 = .ok (.istore_n 3, 1) := by decide +kernel
theorem D9_ripe_24 : decode m9_ripe.2.1 24 = .ok (.iload_n 3, 1) := by decide +kernel
theorem D9_ripe_25 : decode m9_ripe.2.1 25 = .ok (.bipush 99, 2) := by decide +kernel
theorem D9_ripe_27 : decode m9_ripe.2.1 27 = .ok (.if_icmp .gt 42, 3) := by decide +kernel
theorem D9_ripe_30 : decode m9_ripe.2.1 30 = .ok (.aload_n 0, 1) := by decide +kernel
theorem D9_ripe_31 : decode m9_ripe.2.1 31 = .ok (.getfield 53, 3) := by decide +kernel
theorem D9_ripe_34 : decode m9_ripe.2.1 34 = .ok (.iload_n 1, 1) := by decide +kernel
theorem D9_ripe_35 : decode m9_ripe.2.1 35 = .ok (.invokevirtual 211, 3) := by decide +kernel
theorem D9_ripe_38 : decode m9_ripe.2.1 38 = .ok (.ifCond .eq 31, 3) := by decide +kernel
theorem D9_ripe_41 : decode m9_ripe.2.1 41 = .ok (.aload_n 0, 1) := by decide +kernel
theorem D9_ripe_42 : decode m9_ripe.2.1 42 = .ok (.getfield 53, 3) := by decide +kernel
theorem D9_ripe_45 : decode m9_ripe.2.1 45 = .ok (.getfield 150, 3) := by decide +kernel
theorem D9_ripe_48 : decode m9_ripe.2.1 48 = .ok (.iload_n 1, 1) := by decide +kernel
theorem D9_ripe_49 : decode m9_ripe.2.1 49 = .ok (.iaload, 1) := by decide +kernel
theorem D9_ripe_50 : decode m9_ripe.2.1 50 = .ok (.iload_n 2, 1) := by decide +kernel
theorem D9_ripe_51 : decode m9_ripe.2.1 51 = .ok (.if_icmp .lt 5, 3) := by decide +kernel
theorem D9_ripe_54 : decode m9_ripe.2.1 54 = .ok (.iload_n 3, 1) := by decide +kernel
theorem D9_ripe_55 : decode m9_ripe.2.1 55 = .ok (.ireturn, 1) := by decide +kernel
theorem D9_ripe_56 : decode m9_ripe.2.1 56 = .ok (.aload_n 0, 1) := by decide +kernel
theorem D9_ripe_57 : decode m9_ripe.2.1 57 = .ok (.getfield 61, 3) := by decide +kernel
theorem D9_ripe_60 : decode m9_ripe.2.1 60 = .ok (.invokevirtual 268, 3) := by decide +kernel
theorem D9_ripe_63 : decode m9_ripe.2.1 63 = .ok (.iinc 3 1, 3) := by decide +kernel
theorem D9_ripe_66 : decode m9_ripe.2.1 66 = .ok (.goto (-42), 3) := by decide +kernel
theorem D9_ripe_69 : decode m9_ripe.2.1 69 = .ok (.bipush (-2), 2) := by decide +kernel
theorem D9_ripe_71 : decode m9_ripe.2.1 71 = .ok (.ireturn, 1) := by decide +kernel
theorem D9_dowry_0 : decode m9_dowry.2.1 0 = .ok (.aload_n 0, 1) := by decide +kernel
theorem D9_dowry_1 : decode m9_dowry.2.1 1 = .ok (.iload_n 1, 1) := by decide +kernel
theorem D9_dowry_2 : decode m9_dowry.2.1 2 = .ok (.invokevirtual 167, 3) := by decide +kernel
theorem D9_dowry_5 : decode m9_dowry.2.1 5 = .ok (.ifCond .eq 12, 3) := by decide +kernel
theorem D9_dowry_8 : decode m9_dowry.2.1 8 = .ok (.iload_n 2, 1) := by decide +kernel
theorem D9_dowry_9 : decode m9_dowry.2.1 9 = .ok (.iconst 0, 1) := by decide +kernel
theorem D9_dowry_10 : decode m9_dowry.2.1 10 = .ok (.iconst 1, 1) := by decide +kernel
theorem D9_dowry_11 : decode m9_dowry.2.1 11 = .ok (.invokestatic 239, 3) := by decide +kernel
theorem D9_dowry_14 : decode m9_dowry.2.1 14 = .ok (.ifCond .ne 5, 3) := by decide +kernel
theorem D9_dowry_17 : decode m9_dowry.2.1 17 = .ok (.iconst (-1), 1) := by decide +kernel
theorem D9_dowry_18 : decode m9_dowry.2.1 18 = .ok (.ireturn, 1) := by decide +kernel
theorem D9_dowry_19 : decode m9_dowry.2.1 19 = .ok (.aload_n 0, 1) := by decide +kernel
theorem D9_dowry_20 : decode m9_dowry.2.1 20 = .ok (.iload_n 1, 1) := by decide +kernel
theorem D9_dowry_21 : decode m9_dowry.2.1 21 = .ok (.invokevirtual 173, 3) := by decide +kernel
theorem D9_dowry_24 : decode m9_dowry.2.1 24 = .ok (.istore_n 3, 1) := by decide +kernel
theorem D9_dowry_25 : decode m9_dowry.2.1 25 = .ok (.aload_n 0, 1) := by decide +kernel
theorem D9_dowry_26 : decode m9_dowry.2.1 26 = .ok (.iload_n 3, 1) := by decide +kernel
theorem D9_dowry_27 : decode m9_dowry.2.1 27 = .ok (.invokevirtual 181, 3) := by decide +kernel
theorem D9_dowry_30 : decode m9_dowry.2.1 30 = .ok (.istore 4, 2) := by decide +kernel
theorem D9_dowry_32 : decode m9_dowry.2.1 32 = .ok (.iconst 0, 1) := by decide +kernel
theorem D9_dowry_33 : decode m9_dowry.2.1 33 = .ok (.istore 5, 2) := by decide +kernel
theorem D9_dowry_35 : decode m9_dowry.2.1 35 = .ok (.iload 4, 2) := by decide +kernel
theorem D9_dowry_37 : decode m9_dowry.2.1 37 = .ok (.istore 6, 2) := by decide +kernel
theorem D9_dowry_39 : decode m9_dowry.2.1 39 = .ok (.iconst 1, 1) := by decide +kernel
theorem D9_dowry_40 : decode m9_dowry.2.1 40 = .ok (.istore 7, 2) := by decide +kernel
theorem D9_dowry_42 : decode m9_dowry.2.1 42 = .ok (.iload 7, 2) := by decide +kernel
theorem D9_dowry_44 : decode m9_dowry.2.1 44 = .ok (.iload_n 3, 1) := by decide +kernel
theorem D9_dowry_45 : decode m9_dowry.2.1 45 = .ok (.if_icmp .gt 49, 3) := by decide +kernel
theorem D9_dowry_48 : decode m9_dowry.2.1 48 = .ok (.iload 7, 2) := by decide +kernel
theorem D9_dowry_50 : decode m9_dowry.2.1 50 = .ok (.iload_n 3, 1) := by decide +kernel
theorem D9_dowry_51 : decode m9_dowry.2.1 51 = .ok (.iconst (-1), 1) := by decide +kernel
theorem D9_dowry_52 : decode m9_dowry.2.1 52 = .ok (.ixor, 1) := by decide +kernel
theorem D9_dowry_53 : decode m9_dowry.2.1 53 = .ok (.iand, 1) := by decide +kernel
theorem D9_dowry_54 : decode m9_dowry.2.1 54 = .ok (.ifCond .ne 34, 3) := by decide +kernel
theorem D9_dowry_57 : decode m9_dowry.2.1 57 = .ok (.iload 4, 2) := by decide +kernel
theorem D9_dowry_59 : decode m9_dowry.2.1 59 = .ok (.iconst 2, 1) := by decide +kernel
theorem D9_dowry_60 : decode m9_dowry.2.1 60 = .ok (.aload_n 0, 1) := by decide +kernel
theorem D9_dowry_61 : decode m9_dowry.2.1 61 = .ok (.iload 7, 2) := by decide +kernel
theorem D9_dowry_63 : decode m9_dowry.2.1 63 = .ok (.invokevirtual 181, 3) := by decide +kernel
theorem D9_dowry_66 : decode m9_dowry.2.1 66 = .ok (.imul, 1) := by decide +kernel
theorem D9_dowry_67 : decode m9_dowry.2.1 67 = .ok (.isub, 1) := by decide +kernel
theorem D9_dowry_68 : decode m9_dowry.2.1 68 = .ok (.invokestatic 297, 3) := by decide +kernel
theorem D9_dowry_71 : decode m9_dowry.2.1 71 = .ok (.istore 8, 2) := by decide +kernel
theorem D9_dowry_73 : decode m9_dowry.2.1 73 = .ok (.iload 8, 2) := by decide +kernel
theorem D9_dowry_75 : decode m9_dowry.2.1 75 = .ok (.iload 6, 2) := by decide +kernel
theorem D9_dowry_77 : decode m9_dowry.2.1 77 = .ok (.if_icmp .ge 11, 3) := by decide +kernel
theorem D9_dowry_80 : decode m9_dowry.2.1 80 = .ok (.iload 8, 2) := by decide +kernel
theorem D9_dowry_82 : decode m9_dowry.2.1 82 = .ok (.istore 6, 2) := by decide +kernel
theorem D9_dowry_84 : decode m9_dowry.2.1 84 = .ok (.iload 7, 2) := by decide +kernel
theorem D9_dowry_86 : decode m9_dowry.2.1 86 = .ok (.istore 5, 2) := by decide +kernel
theorem D9_dowry_88 : decode m9_dowry.2.1 88 = .ok (.iinc 7 1, 3) := by decide +kernel
theorem D9_dowry_91 : decode m9_dowry.2.1 91 = .ok (.goto (-49), 3) := by decide +kernel
theorem D9_dowry_94 : decode m9_dowry.2.1 94 = .ok (.iload_n 2, 1) := by decide +kernel
theorem D9_dowry_95 : decode m9_dowry.2.1 95 = .ok (.ifCond .ne 8, 3) := by decide +kernel
theorem D9_dowry_98 : decode m9_dowry.2.1 98 = .ok (.iload 5, 2) := by decide +kernel
theorem D9_dowry_100 : decode m9_dowry.2.1 100 = .ok (.goto 5, 3) := by decide +kernel
theorem D9_dowry_103 : decode m9_dowry.2.1 103 = .ok (.iload 6, 2) := by decide +kernel
theorem D9_dowry_105 : decode m9_dowry.2.1 105 = .ok (.ireturn, 1) := by decide +kernel
theorem D9_ring_0 : decode m9_ring.2.1 0 = .ok (.iconst 0, 1) := by decide +kernel
theorem D9_ring_1 : decode m9_ring.2.1 1 = .ok (.istore_n 1, 1) := by decide +kernel
theorem D9_ring_2 : decode m9_ring.2.1 2 = .ok (.iconst 0, 1) := by decide +kernel
theorem D9_ring_3 : decode m9_ring.2.1 3 = .ok (.istore_n 2, 1) := by decide +kernel
theorem D9_ring_4 : decode m9_ring.2.1 4 = .ok (.iload_n 2, 1) := by decide +kernel
theorem D9_ring_5 : decode m9_ring.2.1 5 = .ok (.aload_n 0, 1) := by decide +kernel
theorem D9_ring_6 : decode m9_ring.2.1 6 = .ok (.getfield 18, 3) := by decide +kernel
theorem D9_ring_9 : decode m9_ring.2.1 9 = .ok (.getfield 302, 3) := by decide +kernel
theorem D9_ring_12 : decode m9_ring.2.1 12 = .ok (.if_icmp .ge 23, 3) := by decide +kernel
theorem D9_ring_15 : decode m9_ring.2.1 15 = .ok (.aload_n 0, 1) := by decide +kernel
theorem D9_ring_16 : decode m9_ring.2.1 16 = .ok (.iload_n 2, 1) := by decide +kernel
theorem D9_ring_17 : decode m9_ring.2.1 17 = .ok (.invokevirtual 305, 3) := by decide +kernel
theorem D9_ring_20 : decode m9_ring.2.1 20 = .ok (.ifCond .eq 9, 3) := by decide +kernel
theorem D9_ring_23 : decode m9_ring.2.1 23 = .ok (.iload_n 1, 1) := by decide +kernel
theorem D9_ring_24 : decode m9_ring.2.1 24 = .ok (.iconst 1, 1) := by decide +kernel
theorem D9_ring_25 : decode m9_ring.2.1 25 = .ok (.iload_n 2, 1) := by decide +kernel
theorem D9_ring_26 : decode m9_ring.2.1 26 = .ok (.ishl, 1) := by decide +kernel
theorem D9_ring_27 : decode m9_ring.2.1 27 = .ok (.ior, 1) := by decide +kernel
theorem D9_ring_28 : decode m9_ring.2.1 28 = .ok (.istore_n 1, 1) := by decide +kernel
theorem D9_ring_29 : decode m9_ring.2.1 29 = .ok (.iinc 2 1, 3) := by decide +kernel
theorem D9_ring_32 : decode m9_ring.2.1 32 = .ok (.goto (-28), 3) := by decide +kernel
theorem D9_ring_35 : decode m9_ring.2.1 35 = .ok (.iload_n 1, 1) := by decide +kernel
theorem D9_ring_36 : decode m9_ring.2.1 36 = .ok (.ireturn, 1) := by decide +kernel
theorem D9_comesBack_0 : decode m9_comesBack.2.1 0 = .ok (.iload_n 1, 1) := by decide +kernel
theorem D9_comesBack_1 : decode m9_comesBack.2.1 1 = .ok (.istore_n 2, 1) := by decide +kernel
theorem D9_comesBack_2 : decode m9_comesBack.2.1 2 = .ok (.iconst 0, 1) := by decide +kernel
theorem D9_comesBack_3 : decode m9_comesBack.2.1 3 = .ok (.istore_n 3, 1) := by decide +kernel
theorem D9_comesBack_4 : decode m9_comesBack.2.1 4 = .ok (.iload_n 3, 1) := by decide +kernel
theorem D9_comesBack_5 : decode m9_comesBack.2.1 5 = .ok (.iconst 5, 1) := by decide +kernel
theorem D9_comesBack_6 : decode m9_comesBack.2.1 6 = .ok (.if_icmp .ge 49, 3) := by decide +kernel
theorem D9_comesBack_9 : decode m9_comesBack.2.1 9 = .ok (.iload_n 2, 1) := by decide +kernel
theorem D9_comesBack_10 : decode m9_comesBack.2.1 10 = .ok (.iconst (-1), 1) := by decide +kernel
theorem D9_comesBack_11 : decode m9_comesBack.2.1 11 = .ok (.if_icmp .eq 44, 3) := by decide +kernel
theorem D9_comesBack_14 : decode m9_comesBack.2.1 14 = .ok (.aload_n 0, 1) := by decide +kernel
theorem D9_comesBack_15 : decode m9_comesBack.2.1 15 = .ok (.iload_n 2, 1) := by decide +kernel
theorem D9_comesBack_16 : decode m9_comesBack.2.1 16 = .ok (.invokevirtual 308, 3) := by decide +kernel
theorem D9_comesBack_19 : decode m9_comesBack.2.1 19 = .ok (.istore 4, 2) := by decide +kernel
theorem D9_comesBack_21 : decode m9_comesBack.2.1 21 = .ok (.iload 4, 2) := by decide +kernel
theorem D9_comesBack_23 : decode m9_comesBack.2.1 23 = .ok (.iconst (-1), 1) := by decide +kernel
theorem D9_comesBack_24 : decode m9_comesBack.2.1 24 = .ok (.if_icmp .ne 7, 3) := by decide +kernel
theorem D9_comesBack_27 : decode m9_comesBack.2.1 27 = .ok (.iconst (-1), 1) := by decide +kernel
theorem D9_comesBack_28 : decode m9_comesBack.2.1 28 = .ok (.goto 13, 3) := by decide +kernel
theorem D9_comesBack_31 : decode m9_comesBack.2.1 31 = .ok (.aload_n 0, 1) := by decide +kernel
theorem D9_comesBack_32 : decode m9_comesBack.2.1 32 = .ok (.getfield 18, 3) := by decide +kernel
theorem D9_comesBack_35 : decode m9_comesBack.2.1 35 = .ok (.getfield 144, 3) := by decide +kernel
theorem D9_comesBack_38 : decode m9_comesBack.2.1 38 = .ok (.iload 4, 2) := by decide +kernel
theorem D9_comesBack_40 : decode m9_comesBack.2.1 40 = .ok (.iaload, 1) := by decide +kernel
theorem D9_comesBack_41 : decode m9_comesBack.2.1 41 = .ok (.istore_n 2, 1) := by decide +kernel
theorem D9_comesBack_42 : decode m9_comesBack.2.1 42 = .ok (.iload_n 2, 1) := by decide +kernel
theorem D9_comesBack_43 : decode m9_comesBack.2.1 43 = .ok (.iload_n 1, 1) := by decide +kernel
theorem D9_comesBack_44 : decode m9_comesBack.2.1 44 = .ok (.if_icmp .ne 5, 3) := by decide +kernel
theorem D9_comesBack_47 : decode m9_comesBack.2.1 47 = .ok (.iconst 1, 1) := by decide +kernel
theorem D9_comesBack_48 : decode m9_comesBack.2.1 48 = .ok (.ireturn, 1) := by decide +kernel
theorem D9_comesBack_49 : decode m9_comesBack.2.1 49 = .ok (.iinc 3 1, 3) := by decide +kernel
theorem D9_comesBack_52 : decode m9_comesBack.2.1 52 = .ok (.goto (-48), 3) := by decide +kernel
theorem D9_comesBack_55 : decode m9_comesBack.2.1 55 = .ok (.iconst 0, 1) := by decide +kernel
theorem D9_comesBack_56 : decode m9_comesBack.2.1 56 = .ok (.ireturn, 1) := by decide +kernel
theorem D9_rests_0 : decode m9_rests.2.1 0 = .ok (.aload_n 0, 1) := by decide +kernel
theorem D9_rests_1 : decode m9_rests.2.1 1 = .ok (.iload_n 1, 1) := by decide +kernel
theorem D9_rests_2 : decode m9_rests.2.1 2 = .ok (.invokevirtual 167, 3) := by decide +kernel
theorem D9_rests_5 : decode m9_rests.2.1 5 = .ok (.ifCond .eq 16, 3) := by decide +kernel
theorem D9_rests_8 : decode m9_rests.2.1 8 = .ok (.aload_n 0, 1) := by decide +kernel
theorem D9_rests_9 : decode m9_rests.2.1 9 = .ok (.iload_n 2, 1) := by decide +kernel
theorem D9_rests_10 : decode m9_rests.2.1 10 = .ok (.invokevirtual 167, 3) := by decide +kernel
theorem D9_rests_13 : decode m9_rests.2.1 13 = .ok (.ifCond .eq 8, 3) := by decide +kernel
theorem D9_rests_16 : decode m9_rests.2.1 16 = .ok (.iload_n 1, 1) := by decide +kernel
theorem D9_rests_17 : decode m9_rests.2.1 17 = .ok (.iload_n 2, 1) := by decide +kernel
theorem D9_rests_18 : decode m9_rests.2.1 18 = .ok (.if_icmp .ne 5, 3) := by decide +kernel
theorem D9_rests_21 : decode m9_rests.2.1 21 = .ok (.iconst (-1), 1) := by decide +kernel
theorem D9_rests_22 : decode m9_rests.2.1 22 = .ok (.ireturn, 1) := by decide +kernel
theorem D9_rests_23 : decode m9_rests.2.1 23 = .ok (.iconst 0, 1) := by decide +kernel
theorem D9_rests_24 : decode m9_rests.2.1 24 = .ok (.istore_n 3, 1) := by decide +kernel
theorem D9_rests_25 : decode m9_rests.2.1 25 = .ok (.iconst 0, 1) := by decide +kernel
theorem D9_rests_26 : decode m9_rests.2.1 26 = .ok (.istore 4, 2) := by decide +kernel
theorem D9_rests_28 : decode m9_rests.2.1 28 = .ok (.iload 4, 2) := by decide +kernel
theorem D9_rests_30 : decode m9_rests.2.1 30 = .ok (.iconst 4, 1) := by decide +kernel
theorem D9_rests_31 : decode m9_rests.2.1 31 = .ok (.if_icmp .ge 23, 3) := by decide +kernel
theorem D9_rests_34 : decode m9_rests.2.1 34 = .ok (.aload_n 0, 1) := by decide +kernel
theorem D9_rests_35 : decode m9_rests.2.1 35 = .ok (.iload_n 1, 1) := by decide +kernel
theorem D9_rests_36 : decode m9_rests.2.1 36 = .ok (.iload_n 2, 1) := by decide +kernel
theorem D9_rests_37 : decode m9_rests.2.1 37 = .ok (.iload 4, 2) := by decide +kernel
theorem D9_rests_39 : decode m9_rests.2.1 39 = .ok (.invokevirtual 311, 3) := by decide +kernel
theorem D9_rests_42 : decode m9_rests.2.1 42 = .ok (.ifCond .eq 6, 3) := by decide +kernel
theorem D9_rests_45 : decode m9_rests.2.1 45 = .ok (.iinc 3 1, 3) := by decide +kernel
theorem D9_rests_48 : decode m9_rests.2.1 48 = .ok (.iinc 4 1, 3) := by decide +kernel
theorem D9_rests_51 : decode m9_rests.2.1 51 = .ok (.goto (-23), 3) := by decide +kernel
theorem D9_rests_54 : decode m9_rests.2.1 54 = .ok (.iload_n 3, 1) := by decide +kernel
theorem D9_rests_55 : decode m9_rests.2.1 55 = .ok (.ireturn, 1) := by decide +kernel
theorem D9_rest_0 : decode m9_rest.2.1 0 = .ok (.aload_n 0, 1) := by decide +kernel
theorem D9_rest_1 : decode m9_rest.2.1 1 = .ok (.iload_n 1, 1) := by decide +kernel
theorem D9_rest_2 : decode m9_rest.2.1 2 = .ok (.invokevirtual 167, 3) := by decide +kernel
theorem D9_rest_5 : decode m9_rest.2.1 5 = .ok (.ifCond .eq 20, 3) := by decide +kernel
theorem D9_rest_8 : decode m9_rest.2.1 8 = .ok (.aload_n 0, 1) := by decide +kernel
theorem D9_rest_9 : decode m9_rest.2.1 9 = .ok (.iload_n 2, 1) := by decide +kernel
theorem D9_rest_10 : decode m9_rest.2.1 10 = .ok (.invokevirtual 167, 3) := by decide +kernel
theorem D9_rest_13 : decode m9_rest.2.1 13 = .ok (.ifCond .eq 12, 3) := by decide +kernel
theorem D9_rest_16 : decode m9_rest.2.1 16 = .ok (.iload_n 1, 1) := by decide +kernel
theorem D9_rest_17 : decode m9_rest.2.1 17 = .ok (.iload_n 2, 1) := by decide +kernel
theorem D9_rest_18 : decode m9_rest.2.1 18 = .ok (.if_icmp .eq 7, 3) := by decide +kernel
theorem D9_rest_21 : decode m9_rest.2.1 21 = .ok (.iload_n 3, 1) := by decide +kernel
theorem D9_rest_22 : decode m9_rest.2.1 22 = .ok (.ifCond .ge 5, 3) := by decide +kernel
theorem D9_rest_25 : decode m9_rest.2.1 25 = .ok (.iconst (-1), 1) := by decide +kernel
theorem D9_rest_26 : decode m9_rest.2.1 26 = .ok (.ireturn, 1) := by decide +kernel
theorem D9_rest_27 : decode m9_rest.2.1 27 = .ok (.iconst 0, 1) := by decide +kernel
theorem D9_rest_28 : decode m9_rest.2.1 28 = .ok (.istore 4, 2) := by decide +kernel
theorem D9_rest_30 : decode m9_rest.2.1 30 = .ok (.iconst 0, 1) := by decide +kernel
theorem D9_rest_31 : decode m9_rest.2.1 31 = .ok (.istore 5, 2) := by decide +kernel
theorem D9_rest_33 : decode m9_rest.2.1 33 = .ok (.iload 5, 2) := by decide +kernel
theorem D9_rest_35 : decode m9_rest.2.1 35 = .ok (.iconst 4, 1) := by decide +kernel
theorem D9_rest_36 : decode m9_rest.2.1 36 = .ok (.if_icmp .ge 42, 3) := by decide +kernel
theorem D9_rest_39 : decode m9_rest.2.1 39 = .ok (.aload_n 0, 1) := by decide +kernel
theorem D9_rest_40 : decode m9_rest.2.1 40 = .ok (.iload_n 1, 1) := by decide +kernel
theorem D9_rest_41 : decode m9_rest.2.1 41 = .ok (.iload_n 2, 1) := by decide +kernel
theorem D9_rest_42 : decode m9_rest.2.1 42 = .ok (.iload 5, 2) := by decide +kernel
theorem D9_rest_44 : decode m9_rest.2.1 44 = .ok (.invokevirtual 311, 3) := by decide +kernel
theorem D9_rest_47 : decode m9_rest.2.1 47 = .ok (.ifCond .eq 25, 3) := by decide +kernel
theorem D9_rest_50 : decode m9_rest.2.1 50 = .ok (.iload 4, 2) := by decide +kernel
theorem D9_rest_52 : decode m9_rest.2.1 52 = .ok (.iload_n 3, 1) := by decide +kernel
theorem D9_rest_53 : decode m9_rest.2.1 53 = .ok (.if_icmp .ne 16, 3) := by decide +kernel
theorem D9_rest_56 : decode m9_rest.2.1 56 = .ok (.bipush 10, 2) := by decide +kernel
theorem D9_rest_58 : decode m9_rest.2.1 58 = .ok (.iload 5, 2) := by decide +kernel
theorem D9_rest_60 : decode m9_rest.2.1 60 = .ok (.iconst 1, 1) := by decide +kernel
theorem D9_rest_61 : decode m9_rest.2.1 61 = .ok (.ishr, 1) := by decide +kernel
theorem D9_rest_62 : decode m9_rest.2.1 62 = .ok (.imul, 1) := by decide +kernel
theorem D9_rest_63 : decode m9_rest.2.1 63 = .ok (.iload 5, 2) := by decide +kernel
theorem D9_rest_65 : decode m9_rest.2.1 65 = .ok (.iconst 1, 1) := by decide +kernel
theorem D9_rest_66 : decode m9_rest.2.1 66 = .ok (.iand, 1) := by decide +kernel
theorem D9_rest_67 : decode m9_rest.2.1 67 = .ok (.iadd, 1) := by decide +kernel
theorem D9_rest_68 : decode m9_rest.2.1 68 = .ok (.ireturn, 1) := by decide +kernel
theorem D9_rest_69 : decode m9_rest.2.1 69 = .ok (.iinc 4 1, 3) := by decide +kernel
theorem D9_rest_72 : decode m9_rest.2.1 72 = .ok (.iinc 5 1, 3) := by decide +kernel
theorem D9_rest_75 : decode m9_rest.2.1 75 = .ok (.goto (-42), 3) := by decide +kernel
theorem D9_rest_78 : decode m9_rest.2.1 78 = .ok (.bipush (-2), 2) := by decide +kernel
theorem D9_rest_80 : decode m9_rest.2.1 80 = .ok (.ireturn, 1) := by decide +kernel
theorem D9_isRest_0 : decode m9_isRest.2.1 0 = .ok (.aload_n 0, 1) := by decide +kernel
theorem D9_isRest_1 : decode m9_isRest.2.1 1 = .ok (.iload_n 1, 1) := by decide +kernel
theorem D9_isRest_2 : decode m9_isRest.2.1 2 = .ok (.invokevirtual 314, 3) := by decide +kernel
theorem D9_isRest_5 : decode m9_isRest.2.1 5 = .ok (.istore 4, 2) := by decide +kernel
theorem D9_isRest_7 : decode m9_isRest.2.1 7 = .ok (.aload_n 0, 1) := by decide +kernel
theorem D9_isRest_8 : decode m9_isRest.2.1 8 = .ok (.iload_n 2, 1) := by decide +kernel
theorem D9_isRest_9 : decode m9_isRest.2.1 9 = .ok (.invokevirtual 314, 3) := by decide +kernel
theorem D9_isRest_12 : decode m9_isRest.2.1 12 = .ok (.istore 5, 2) := by decide +kernel
theorem D9_isRest_14 : decode m9_isRest.2.1 14 = .ok (.iload_n 3, 1) := by decide +kernel
theorem D9_isRest_15 : decode m9_isRest.2.1 15 = .ok (.iconst 2, 1) := by decide +kernel
theorem D9_isRest_16 : decode m9_isRest.2.1 16 = .ok (.iand, 1) := by decide +kernel
theorem D9_isRest_17 : decode m9_isRest.2.1 17 = .ok (.ifCond .eq 7, 3) := by decide +kernel
theorem D9_isRest_20 : decode m9_isRest.2.1 20 = .ok (.iconst 1, 1) := by decide +kernel
theorem D9_isRest_21 : decode m9_isRest.2.1 21 = .ok (.goto 4, 3) := by decide +kernel
theorem D9_isRest_24 : decode m9_isRest.2.1 24 = .ok (.iconst 0, 1) := by decide +kernel
theorem D9_isRest_25 : decode m9_isRest.2.1 25 = .ok (.istore 6, 2) := by decide +kernel
theorem D9_isRest_27 : decode m9_isRest.2.1 27 = .ok (.iload_n 3, 1) := by decide +kernel
theorem D9_isRest_28 : decode m9_isRest.2.1 28 = .ok (.iconst 1, 1) := by decide +kernel
theorem D9_isRest_29 : decode m9_isRest.2.1 29 = .ok (.iand, 1) := by decide +kernel
theorem D9_isRest_30 : decode m9_isRest.2.1 30 = .ok (.ifCond .eq 7, 3) := by decide +kernel
theorem D9_isRest_33 : decode m9_isRest.2.1 33 = .ok (.iconst 1, 1) := by decide +kernel
theorem D9_isRest_34 : decode m9_isRest.2.1 34 = .ok (.goto 4, 3) := by decide +kernel
theorem D9_isRest_37 : decode m9_isRest.2.1 37 = .ok (.iconst 0, 1) := by decide +kernel
theorem D9_isRest_38 : decode m9_isRest.2.1 38 = .ok (.istore 7, 2) := by decide +kernel
theorem D9_isRest_40 : decode m9_isRest.2.1 40 = .ok (.iload 4, 2) := by decide +kernel
theorem D9_isRest_42 : decode m9_isRest.2.1 42 = .ok (.iload 5, 2) := by decide +kernel
theorem D9_isRest_44 : decode m9_isRest.2.1 44 = .ok (.iload 6, 2) := by decide +kernel
theorem D9_isRest_46 : decode m9_isRest.2.1 46 = .ok (.iload 7, 2) := by decide +kernel
theorem D9_isRest_48 : decode m9_isRest.2.1 48 = .ok (.invokestatic 317, 3) := by decide +kernel
theorem D9_isRest_51 : decode m9_isRest.2.1 51 = .ok (.iload 4, 2) := by decide +kernel
theorem D9_isRest_53 : decode m9_isRest.2.1 53 = .ok (.iload 5, 2) := by decide +kernel
theorem D9_isRest_55 : decode m9_isRest.2.1 55 = .ok (.iload 6, 2) := by decide +kernel
theorem D9_isRest_57 : decode m9_isRest.2.1 57 = .ok (.ifCond .ne 7, 3) := by decide +kernel
theorem D9_isRest_60 : decode m9_isRest.2.1 60 = .ok (.iconst 1, 1) := by decide +kernel
theorem D9_isRest_61 : decode m9_isRest.2.1 61 = .ok (.goto 4, 3) := by decide +kernel
theorem D9_isRest_64 : decode m9_isRest.2.1 64 = .ok (.iconst 0, 1) := by decide +kernel
theorem D9_isRest_65 : decode m9_isRest.2.1 65 = .ok (.iload 7, 2) := by decide +kernel
theorem D9_isRest_67 : decode m9_isRest.2.1 67 = .ok (.invokestatic 317, 3) := by decide +kernel
theorem D9_isRest_70 : decode m9_isRest.2.1 70 = .ok (.if_icmp .lt 40, 3) := by decide +kernel
theorem D9_isRest_73 : decode m9_isRest.2.1 73 = .ok (.iload 5, 2) := by decide +kernel
theorem D9_isRest_75 : decode m9_isRest.2.1 75 = .ok (.iload 4, 2) := by decide +kernel
theorem D9_isRest_77 : decode m9_isRest.2.1 77 = .ok (.iload 7, 2) := by decide +kernel
theorem D9_isRest_79 : decode m9_isRest.2.1 79 = .ok (.iload 6, 2) := by decide +kernel
theorem D9_isRest_81 : decode m9_isRest.2.1 81 = .ok (.invokestatic 317, 3) := by decide +kernel
theorem D9_isRest_84 : decode m9_isRest.2.1 84 = .ok (.iload 5, 2) := by decide +kernel
theorem D9_isRest_86 : decode m9_isRest.2.1 86 = .ok (.iload 4, 2) := by decide +kernel
theorem D9_isRest_88 : decode m9_isRest.2.1 88 = .ok (.iload 7, 2) := by decide +kernel
theorem D9_isRest_90 : decode m9_isRest.2.1 90 = .ok (.ifCond .ne 7, 3) := by decide +kernel
theorem D9_isRest_93 : decode m9_isRest.2.1 93 = .ok (.iconst 1, 1) := by decide +kernel
theorem D9_isRest_94 : decode m9_isRest.2.1 94 = .ok (.goto 4, 3) := by decide +kernel
theorem D9_isRest_97 : decode m9_isRest.2.1 97 = .ok (.iconst 0, 1) := by decide +kernel
theorem D9_isRest_98 : decode m9_isRest.2.1 98 = .ok (.iload 6, 2) := by decide +kernel
theorem D9_isRest_100 : decode m9_isRest.2.1 100 = .ok (.invokestatic 317, 3) := by decide +kernel
theorem D9_isRest_103 : decode m9_isRest.2.1 103 = .ok (.if_icmp .lt 7, 3) := by decide +kernel
theorem D9_isRest_106 : decode m9_isRest.2.1 106 = .ok (.iconst 1, 1) := by decide +kernel
theorem D9_isRest_107 : decode m9_isRest.2.1 107 = .ok (.goto 4, 3) := by decide +kernel
theorem D9_isRest_110 : decode m9_isRest.2.1 110 = .ok (.iconst 0, 1) := by decide +kernel
theorem D9_isRest_111 : decode m9_isRest.2.1 111 = .ok (.ireturn, 1) := by decide +kernel
theorem D9_gain_0 : decode m9_gain.2.1 0 = .ok (.iload_n 2, 1) := by decide +kernel
theorem D9_gain_1 : decode m9_gain.2.1 1 = .ok (.ifCond .eq 7, 3) := by decide +kernel
theorem D9_gain_4 : decode m9_gain.2.1 4 = .ok (.iload_n 0, 1) := by decide +kernel
theorem D9_gain_5 : decode m9_gain.2.1 5 = .ok (.goto 6, 3) := by decide +kernel
theorem D9_gain_8 : decode m9_gain.2.1 8 = .ok (.iload_n 0, 1) := by decide +kernel
theorem D9_gain_9 : decode m9_gain.2.1 9 = .ok (.iconst 4, 1) := by decide +kernel
theorem D9_gain_10 : decode m9_gain.2.1 10 = .ok (.idiv, 1) := by decide +kernel
theorem D9_gain_11 : decode m9_gain.2.1 11 = .ok (.istore 4, 2) := by decide +kernel
theorem D9_gain_13 : decode m9_gain.2.1 13 = .ok (.iload_n 3, 1) := by decide +kernel
theorem D9_gain_14 : decode m9_gain.2.1 14 = .ok (.ifCond .eq 12, 3) := by decide +kernel
theorem D9_gain_17 : decode m9_gain.2.1 17 = .ok (.iload 4, 2) := by decide +kernel
theorem D9_gain_19 : decode m9_gain.2.1 19 = .ok (.iload_n 1, 1) := by decide +kernel
theorem D9_gain_20 : decode m9_gain.2.1 20 = .ok (.iconst 2, 1) := by decide +kernel
theorem D9_gain_21 : decode m9_gain.2.1 21 = .ok (.idiv, 1) := by decide +kernel
theorem D9_gain_22 : decode m9_gain.2.1 22 = .ok (.isub, 1) := by decide +kernel
theorem D9_gain_23 : decode m9_gain.2.1 23 = .ok (.goto 5, 3) := by decide +kernel
theorem D9_gain_26 : decode m9_gain.2.1 26 = .ok (.iload 4, 2) := by decide +kernel
theorem D9_gain_28 : decode m9_gain.2.1 28 = .ok (.ireturn, 1) := by decide +kernel
theorem D9_highestForceOf_0 : decode m9_highestForceOf.2.1 0 = .ok (.aload_n 0, 1) := by decide +kernel
theorem D9_highestForceOf_1 : decode m9_highestForceOf.2.1 1 = .ok (.iload_n 1, 1) := by decide +kernel
theorem D9_highestForceOf_2 : decode m9_highestForceOf.2.1 2 = .ok (.invokevirtual 308, 3) := by decide +kernel
theorem D9_highestForceOf_5 : decode m9_highestForceOf.2.1 5 = .ok (.istore_n 2, 1) := by decide +kernel
theorem D9_highestForceOf_6 : decode m9_highestForceOf.2.1 6 = .ok (.iload_n 2, 1) := by decide +kernel
theorem D9_highestForceOf_7 : decode m9_highestForceOf.2.1 7 = .ok (.iconst (-1), 1) := by decide +kernel
theorem D9_highestForceOf_8 : decode m9_highestForceOf.2.1 8 = .ok (.if_icmp .ne 7, 3) := by decide +kernel
theorem D9_highestForceOf_11 : decode m9_highestForceOf.2.1 11 = .ok (.iconst 0, 1) := by decide +kernel
theorem D9_highestForceOf_12 : decode m9_highestForceOf.2.1 12 = .ok (.goto 12, 3) := by decide +kernel
theorem D9_highestForceOf_15 : decode m9_highestForceOf.2.1 15 = .ok (.aload_n 0, 1) := by decide +kernel
theorem D9_highestForceOf_16 : decode m9_highestForceOf.2.1 16 = .ok (.getfield 46, 3) := by decide +kernel
theorem D9_highestForceOf_19 : decode m9_highestForceOf.2.1 19 = .ok (.getfield 150, 3) := by decide +kernel
theorem D9_highestForceOf_22 : decode m9_highestForceOf.2.1 22 = .ok (.iload_n 2, 1) := by decide +kernel
theorem D9_highestForceOf_23 : decode m9_highestForceOf.2.1 23 = .ok (.iaload, 1) := by decide +kernel
theorem D9_highestForceOf_24 : decode m9_highestForceOf.2.1 24 = .ok (.ireturn, 1) := by decide +kernel
theorem D9_strongestOf_0 : decode m9_strongestOf.2.1 0 = .ok (.iconst (-1), 1) := by decide +kernel
theorem D9_strongestOf_1 : decode m9_strongestOf.2.1 1 = .ok (.istore_n 2, 1) := by decide +kernel
theorem D9_strongestOf_2 : decode m9_strongestOf.2.1 2 = .ok (.iconst 0, 1) := by decide +kernel
theorem D9_strongestOf_3 : decode m9_strongestOf.2.1 3 = .ok (.istore_n 3, 1) := by decide +kernel
theorem D9_strongestOf_4 : decode m9_strongestOf.2.1 4 = .ok (.iload_n 3, 1) := by decide +kernel
theorem D9_strongestOf_5 : decode m9_strongestOf.2.1 5 = .ok (.aload_n 0, 1) := by decide +kernel
theorem D9_strongestOf_6 : decode m9_strongestOf.2.1 6 = .ok (.getfield 18, 3) := by decide +kernel
theorem D9_strongestOf_9 : decode m9_strongestOf.2.1 9 = .ok (.getfield 208, 3) := by decide +kernel
theorem D9_strongestOf_12 : decode m9_strongestOf.2.1 12 = .ok (.if_icmp .ge 61, 3) := by decide +kernel
theorem D9_strongestOf_15 : decode m9_strongestOf.2.1 15 = .ok (.aload_n 0, 1) := by decide +kernel
theorem D9_strongestOf_16 : decode m9_strongestOf.2.1 16 = .ok (.getfield 46, 3) := by decide +kernel
theorem D9_strongestOf_19 : decode m9_strongestOf.2.1 19 = .ok (.iload_n 3, 1) := by decide +kernel
theorem D9_strongestOf_20 : decode m9_strongestOf.2.1 20 = .ok (.invokevirtual 211, 3) := by decide +kernel
theorem D9_strongestOf_23 : decode m9_strongestOf.2.1 23 = .ok (.ifCond .eq 44, 3) := by decide +kernel
theorem D9_strongestOf_26 : decode m9_strongestOf.2.1 26 = .ok (.aload_n 0, 1) := by decide +kernel
theorem D9_strongestOf_27 : decode m9_strongestOf.2.1 27 = .ok (.getfield 18, 3) := by decide +kernel
theorem D9_strongestOf_30 : decode m9_strongestOf.2.1 30 = .ok (.getfield 141, 3) := by decide +kernel
theorem D9_strongestOf_33 : decode m9_strongestOf.2.1 33 = .ok (.iload_n 3, 1) := by decide +kernel
theorem D9_strongestOf_34 : decode m9_strongestOf.2.1 34 = .ok (.iaload, 1) := by decide +kernel
theorem D9_strongestOf_35 : decode m9_strongestOf.2.1 35 = .ok (.iload_n 1, 1) := by decide +kernel
theorem D9_strongestOf_36 : decode m9_strongestOf.2.1 36 = .ok (.if_icmp .ne 31, 3) := by decide +kernel
theorem D9_strongestOf_39 : decode m9_strongestOf.2.1 39 = .ok (.iload_n 2, 1) := by decide +kernel
theorem D9_strongestOf_40 : decode m9_strongestOf.2.1 40 = .ok (.iconst (-1), 1) := by decide +kernel
theorem D9_strongestOf_41 : decode m9_strongestOf.2.1 41 = .ok (.if_icmp .eq 24, 3) := by decide +kernel
theorem D9_strongestOf_44 : decode m9_strongestOf.2.1 44 = .ok (.aload_n 0, 1) := by decide +kernel
theorem D9_strongestOf_45 : decode m9_strongestOf.2.1 45 = .ok (.getfield 46, 3) := by decide +kernel
theorem D9_strongestOf_48 : decode m9_strongestOf.2.1 48 = .ok (.getfield 150, 3) := by decide +kernel
theorem D9_strongestOf_51 : decode m9_strongestOf.2.1 51 = .ok (.iload_n 3, 1) := by decide +kernel
theorem D9_strongestOf_52 : decode m9_strongestOf.2.1 52 = .ok (.iaload, 1) := by decide +kernel
theorem D9_strongestOf_53 : decode m9_strongestOf.2.1 53 = .ok (.aload_n 0, 1) := by decide +kernel
theorem D9_strongestOf_54 : decode m9_strongestOf.2.1 54 = .ok (.getfield 46, 3) := by decide +kernel
theorem D9_strongestOf_57 : decode m9_strongestOf.2.1 57 = .ok (.getfield 150, 3) := by decide +kernel
theorem D9_strongestOf_60 : decode m9_strongestOf.2.1 60 = .ok (.iload_n 2, 1) := by decide +kernel
theorem D9_strongestOf_61 : decode m9_strongestOf.2.1 61 = .ok (.iaload, 1) := by decide +kernel
theorem D9_strongestOf_62 : decode m9_strongestOf.2.1 62 = .ok (.if_icmp .le 5, 3) := by decide +kernel
theorem D9_strongestOf_65 : decode m9_strongestOf.2.1 65 = .ok (.iload_n 3, 1) := by decide +kernel
theorem D9_strongestOf_66 : decode m9_strongestOf.2.1 66 = .ok (.istore_n 2, 1) := by decide +kernel
theorem D9_strongestOf_67 : decode m9_strongestOf.2.1 67 = .ok (.iinc 3 1, 3) := by decide +kernel
theorem D9_strongestOf_70 : decode m9_strongestOf.2.1 70 = .ok (.goto (-66), 3) := by decide +kernel
theorem D9_strongestOf_73 : decode m9_strongestOf.2.1 73 = .ok (.iload_n 2, 1) := by decide +kernel
theorem D9_strongestOf_74 : decode m9_strongestOf.2.1 74 = .ok (.ireturn, 1) := by decide +kernel
theorem D9_lasts_0 : decode m9_lasts.2.1 0 = .ok (.aload_n 0, 1) := by decide +kernel
theorem D9_lasts_1 : decode m9_lasts.2.1 1 = .ok (.iload_n 1, 1) := by decide +kernel
theorem D9_lasts_2 : decode m9_lasts.2.1 2 = .ok (.invokevirtual 214, 3) := by decide +kernel
theorem D9_lasts_5 : decode m9_lasts.2.1 5 = .ok (.ifCond .eq 21, 3) := by decide +kernel
theorem D9_lasts_8 : decode m9_lasts.2.1 8 = .ok (.iload_n 2, 1) := by decide +kernel
theorem D9_lasts_9 : decode m9_lasts.2.1 9 = .ok (.iconst 0, 1) := by decide +kernel
theorem D9_lasts_10 : decode m9_lasts.2.1 10 = .ok (.iconst 5, 1) := by decide +kernel
theorem D9_lasts_11 : decode m9_lasts.2.1 11 = .ok (.invokestatic 239, 3) := by decide +kernel
theorem D9_lasts_14 : decode m9_lasts.2.1 14 = .ok (.ifCond .eq 12, 3) := by decide +kernel
theorem D9_lasts_17 : decode m9_lasts.2.1 17 = .ok (.iload_n 3, 1) := by decide +kernel
theorem D9_lasts_18 : decode m9_lasts.2.1 18 = .ok (.iconst 0, 1) := by decide +kernel
theorem D9_lasts_19 : decode m9_lasts.2.1 19 = .ok (.iconst 1, 1) := by decide +kernel
theorem D9_lasts_20 : decode m9_lasts.2.1 20 = .ok (.invokestatic 239, 3) := by decide +kernel
theorem D9_lasts_23 : decode m9_lasts.2.1 23 = .ok (.ifCond .ne 7, 3) := by decide +kernel
theorem D9_lasts_26 : decode m9_lasts.2.1 26 = .ok (.ldc2_w 321, 3) := by decide +kernel
theorem D9_lasts_29 : decode m9_lasts.2.1 29 = .ok (.lreturn, 1) := by decide +kernel
theorem D9_lasts_30 : decode m9_lasts.2.1 30 = .ok (.lconst 0, 1) := by decide +kernel
theorem D9_lasts_31 : decode m9_lasts.2.1 31 = .ok (.lstore 4, 2) := by decide +kernel
theorem D9_lasts_33 : decode m9_lasts.2.1 33 = .ok (.lconst 1, 1) := by decide +kernel
theorem D9_lasts_34 : decode m9_lasts.2.1 34 = .ok (.lstore 6, 2) := by decide +kernel
theorem D9_lasts_36 : decode m9_lasts.2.1 36 = .ok (.iconst 0, 1) := by decide +kernel
theorem D9_lasts_37 : decode m9_lasts.2.1 37 = .ok (.istore 8, 2) := by decide +kernel
theorem D9_lasts_39 : decode m9_lasts.2.1 39 = .ok (.iload 8, 2) := by decide +kernel
theorem D9_lasts_41 : decode m9_lasts.2.1 41 = .ok (.iload_n 2, 1) := by decide +kernel
theorem D9_lasts_42 : decode m9_lasts.2.1 42 = .ok (.if_icmp .gt 79, 3) := by decide +kernel
theorem D9_lasts_45 : decode m9_lasts.2.1 45 = .ok (.iload 8, 2) := by decide +kernel
theorem D9_lasts_47 : decode m9_lasts.2.1 47 = .ok (.aload_n 0, 1) := by decide +kernel
theorem D9_lasts_48 : decode m9_lasts.2.1 48 = .ok (.getfield 46, 3) := by decide +kernel
theorem D9_lasts_51 : decode m9_lasts.2.1 51 = .ok (.getfield 153, 3) := by decide +kernel
theorem D9_lasts_54 : decode m9_lasts.2.1 54 = .ok (.iload_n 1, 1) := by decide +kernel
theorem D9_lasts_55 : decode m9_lasts.2.1 55 = .ok (.iaload, 1) := by decide +kernel
theorem D9_lasts_56 : decode m9_lasts.2.1 56 = .ok (.if_icmp .ge 65, 3) := by decide +kernel
theorem D9_lasts_59 : decode m9_lasts.2.1 59 = .ok (.lload 4, 2) := by decide +kernel
theorem D9_lasts_61 : decode m9_lasts.2.1 61 = .ok (.lload 6, 2) := by decide +kernel
theorem D9_lasts_63 : decode m9_lasts.2.1 63 = .ok (.aload_n 0, 1) := by decide +kernel
theorem D9_lasts_64 : decode m9_lasts.2.1 64 = .ok (.getfield 18, 3) := by decide +kernel
theorem D9_lasts_67 : decode m9_lasts.2.1 67 = .ok (.getfield 323, 3) := by decide +kernel
theorem D9_lasts_70 : decode m9_lasts.2.1 70 = .ok (.i2l, 1) := by decide +kernel
theorem D9_lasts_71 : decode m9_lasts.2.1 71 = .ok (.iload 8, 2) := by decide +kernel
theorem D9_lasts_73 : decode m9_lasts.2.1 73 = .ok (.invokestatic 326, 3) := by decide +kernel
theorem D9_lasts_76 : decode m9_lasts.2.1 76 = .ok (.lmul, 1) := by decide +kernel
theorem D9_lasts_77 : decode m9_lasts.2.1 77 = .ok (.bipush 100, 2) := by decide +kernel
theorem D9_lasts_79 : decode m9_lasts.2.1 79 = .ok (.aload_n 0, 1) := by decide +kernel
theorem D9_lasts_80 : decode m9_lasts.2.1 80 = .ok (.getfield 18, 3) := by decide +kernel
theorem D9_lasts_83 : decode m9_lasts.2.1 83 = .ok (.getfield 323, 3) := by decide +kernel
theorem D9_lasts_86 : decode m9_lasts.2.1 86 = .ok (.isub, 1) := by decide +kernel
theorem D9_lasts_87 : decode m9_lasts.2.1 87 = .ok (.i2l, 1) := by decide +kernel
theorem D9_lasts_88 : decode m9_lasts.2.1 88 = .ok (.iload_n 2, 1) := by decide +kernel
theorem D9_lasts_89 : decode m9_lasts.2.1 89 = .ok (.iload 8, 2) := by decide +kernel
theorem D9_lasts_91 : decode m9_lasts.2.1 91 = .ok (.isub, 1) := by decide +kernel
theorem D9_lasts_92 : decode m9_lasts.2.1 92 = .ok (.invokestatic 326, 3) := by decide +kernel
theorem D9_lasts_95 : decode m9_lasts.2.1 95 = .ok (.lmul, 1) := by decide +kernel
theorem D9_lasts_96 : decode m9_lasts.2.1 96 = .ok (.ladd, 1) := by decide +kernel
theorem D9_lasts_97 : decode m9_lasts.2.1 97 = .ok (.lstore 4, 2) := by decide +kernel
theorem D9_lasts_99 : decode m9_lasts.2.1 99 = .ok (.lload 6, 2) := by decide +kernel
theorem D9_lasts_101 : decode m9_lasts.2.1 101 = .ok (.iload_n 2, 1) := by decide +kernel
theorem D9_lasts_102 : decode m9_lasts.2.1 102 = .ok (.iload 8, 2) := by decide +kernel
theorem D9_lasts_104 : decode m9_lasts.2.1 104 = .ok (.isub, 1) := by decide +kernel
theorem D9_lasts_105 : decode m9_lasts.2.1 105 = .ok (.i2l, 1) := by decide +kernel
theorem D9_lasts_106 : decode m9_lasts.2.1 106 = .ok (.lmul, 1) := by decide +kernel
theorem D9_lasts_107 : decode m9_lasts.2.1 107 = .ok (.iload 8, 2) := by decide +kernel
theorem D9_lasts_109 : decode m9_lasts.2.1 109 = .ok (.iconst 1, 1) := by decide +kernel
theorem D9_lasts_110 : decode m9_lasts.2.1 110 = .ok (.iadd, 1) := by decide +kernel
theorem D9_lasts_111 : decode m9_lasts.2.1 111 = .ok (.i2l, 1) := by decide +kernel
theorem D9_lasts_112 : decode m9_lasts.2.1 112 = .ok (.ldiv, 1) := by decide +kernel
theorem D9_lasts_113 : decode m9_lasts.2.1 113 = .ok (.lstore 6, 2) := by decide +kernel
theorem D9_lasts_115 : decode m9_lasts.2.1 115 = .ok (.iinc 8 1, 3) := by decide +kernel
theorem D9_lasts_118 : decode m9_lasts.2.1 118 = .ok (.goto (-79), 3) := by decide +kernel
theorem D9_lasts_121 : decode m9_lasts.2.1 121 = .ok (.ldc2_w 330, 3) := by decide +kernel
theorem D9_lasts_124 : decode m9_lasts.2.1 124 = .ok (.iload_n 2, 1) := by decide +kernel
theorem D9_lasts_125 : decode m9_lasts.2.1 125 = .ok (.invokestatic 326, 3) := by decide +kernel
theorem D9_lasts_128 : decode m9_lasts.2.1 128 = .ok (.lstore 8, 2) := by decide +kernel
theorem D9_lasts_130 : decode m9_lasts.2.1 130 = .ok (.lload 8, 2) := by decide +kernel
theorem D9_lasts_132 : decode m9_lasts.2.1 132 = .ok (.lload 4, 2) := by decide +kernel
theorem D9_lasts_134 : decode m9_lasts.2.1 134 = .ok (.invokestatic 332, 3) := by decide +kernel
theorem D9_lasts_137 : decode m9_lasts.2.1 137 = .ok (.lstore 10, 2) := by decide +kernel
theorem D9_lasts_139 : decode m9_lasts.2.1 139 = .ok (.lload 10, 2) := by decide +kernel
theorem D9_lasts_141 : decode m9_lasts.2.1 141 = .ok (.lconst 0, 1) := by decide +kernel
theorem D9_lasts_142 : decode m9_lasts.2.1 142 = .ok (.lcmp, 1) := by decide +kernel
theorem D9_lasts_143 : decode m9_lasts.2.1 143 = .ok (.ifCond .gt 7, 3) := by decide +kernel
theorem D9_lasts_146 : decode m9_lasts.2.1 146 = .ok (.ldc2_w 321, 3) := by decide +kernel
theorem D9_lasts_149 : decode m9_lasts.2.1 149 = .ok (.lreturn, 1) := by decide +kernel
theorem D9_lasts_150 : decode m9_lasts.2.1 150 = .ok (.iload_n 3, 1) := by decide +kernel
theorem D9_lasts_151 : decode m9_lasts.2.1 151 = .ok (.ifCond .ne 8, 3) := by decide +kernel
theorem D9_lasts_154 : decode m9_lasts.2.1 154 = .ok (.lload 4, 2) := by decide +kernel
theorem D9_lasts_156 : decode m9_lasts.2.1 156 = .ok (.goto 5, 3) := by decide +kernel
theorem D9_lasts_159 : decode m9_lasts.2.1 159 = .ok (.lload 8, 2) := by decide +kernel
theorem D9_lasts_161 : decode m9_lasts.2.1 161 = .ok (.lload 10, 2) := by decide +kernel
theorem D9_lasts_163 : decode m9_lasts.2.1 163 = .ok (.ldiv, 1) := by decide +kernel
theorem D9_lasts_164 : decode m9_lasts.2.1 164 = .ok (.lreturn, 1) := by decide +kernel
theorem D9_power_0 : decode m9_power.2.1 0 = .ok (.lconst 1, 1) := by decide +kernel
theorem D9_power_1 : decode m9_power.2.1 1 = .ok (.lstore_n 3, 1) := by decide +kernel
theorem D9_power_2 : decode m9_power.2.1 2 = .ok (.iconst 0, 1) := by decide +kernel
theorem D9_power_3 : decode m9_power.2.1 3 = .ok (.istore 5, 2) := by decide +kernel
theorem D9_power_5 : decode m9_power.2.1 5 = .ok (.iload 5, 2) := by decide +kernel
theorem D9_power_7 : decode m9_power.2.1 7 = .ok (.iload_n 2, 1) := by decide +kernel
theorem D9_power_8 : decode m9_power.2.1 8 = .ok (.if_icmp .ge 13, 3) := by decide +kernel
theorem D9_power_11 : decode m9_power.2.1 11 = .ok (.lload_n 3, 1) := by decide +kernel
theorem D9_power_12 : decode m9_power.2.1 12 = .ok (.lload_n 0, 1) := by decide +kernel
theorem D9_power_13 : decode m9_power.2.1 13 = .ok (.lmul, 1) := by decide +kernel
theorem D9_power_14 : decode m9_power.2.1 14 = .ok (.lstore_n 3, 1) := by decide +kernel
theorem D9_power_15 : decode m9_power.2.1 15 = .ok (.iinc 5 1, 3) := by decide +kernel
theorem D9_power_18 : decode m9_power.2.1 18 = .ok (.goto (-13), 3) := by decide +kernel
theorem D9_power_21 : decode m9_power.2.1 21 = .ok (.lload_n 3, 1) := by decide +kernel
theorem D9_power_22 : decode m9_power.2.1 22 = .ok (.lreturn, 1) := by decide +kernel
theorem D9_commonPart_0 : decode m9_commonPart.2.1 0 = .ok (.iconst 0, 1) := by decide +kernel
theorem D9_commonPart_1 : decode m9_commonPart.2.1 1 = .ok (.istore 4, 2) := by decide +kernel
theorem D9_commonPart_3 : decode m9_commonPart.2.1 3 = .ok (.iload 4, 2) := by decide +kernel
theorem D9_commonPart_5 : decode m9_commonPart.2.1 5 = .ok (.bipush 100, 2) := by decide +kernel
theorem D9_commonPart_7 : decode m9_commonPart.2.1 7 = .ok (.if_icmp .ge 25, 3) := by decide +kernel
theorem D9_commonPart_10 : decode m9_commonPart.2.1 10 = .ok (.lload_n 2, 1) := by decide +kernel
theorem D9_commonPart_11 : decode m9_commonPart.2.1 11 = .ok (.lconst 0, 1) := by decide +kernel
theorem D9_commonPart_12 : decode m9_commonPart.2.1 12 = .ok (.lcmp, 1) := by decide +kernel
theorem D9_commonPart_13 : decode m9_commonPart.2.1 13 = .ok (.ifCond .eq 19, 3) := by decide +kernel
theorem D9_commonPart_16 : decode m9_commonPart.2.1 16 = .ok (.lload_n 0, 1) := by decide +kernel
theorem D9_commonPart_17 : decode m9_commonPart.2.1 17 = .ok (.lload_n 2, 1) := by decide +kernel
theorem D9_commonPart_18 : decode m9_commonPart.2.1 18 = .ok (.lrem, 1) := by decide +kernel
theorem D9_commonPart_19 : decode m9_commonPart.2.1 19 = .ok (.lstore 5, 2) := by decide +kernel
theorem D9_commonPart_21 : decode m9_commonPart.2.1 21 = .ok (.lload_n 2, 1) := by decide +kernel
theorem D9_commonPart_22 : decode m9_commonPart.2.1 22 = .ok (.lstore_n 0, 1) := by decide +kernel
theorem D9_commonPart_23 : decode m9_commonPart.2.1 23 = .ok (.lload 5, 2) := by decide +kernel
theorem D9_commonPart_25 : decode m9_commonPart.2.1 25 = .ok (.lstore_n 2, 1) := by decide +kernel
theorem D9_commonPart_26 : decode m9_commonPart.2.1 26 = .ok (.iinc 4 1, 3) := by decide +kernel
theorem D9_commonPart_29 : decode m9_commonPart.2.1 29 = .ok (.goto (-26), 3) := by decide +kernel
theorem D9_commonPart_32 : decode m9_commonPart.2.1 32 = .ok (.lload_n 0, 1) := by decide +kernel
theorem D9_commonPart_33 : decode m9_commonPart.2.1 33 = .ok (.lreturn, 1) := by decide +kernel
theorem D9_see_0 : decode m9_see.2.1 0 = .ok (.iload_n 1, 1) := by decide +kernel
theorem D9_see_1 : decode m9_see.2.1 1 = .ok (.iconst 1, 1) := by decide +kernel
theorem D9_see_2 : decode m9_see.2.1 2 = .ok (.bipush 60, 2) := by decide +kernel
theorem D9_see_4 : decode m9_see.2.1 4 = .ok (.invokestatic 239, 3) := by decide +kernel
theorem D9_see_7 : decode m9_see.2.1 7 = .ok (.ifCond .eq 11, 3) := by decide +kernel
theorem D9_see_10 : decode m9_see.2.1 10 = .ok (.aload_n 0, 1) := by decide +kernel
theorem D9_see_11 : decode m9_see.2.1 11 = .ok (.iload_n 2, 1) := by decide +kernel
theorem D9_see_12 : decode m9_see.2.1 12 = .ok (.invokevirtual 130, 3) := by decide +kernel
theorem D9_see_15 : decode m9_see.2.1 15 = .ok (.ifCond .ne 5, 3) := by decide +kernel
theorem D9_see_18 : decode m9_see.2.1 18 = .ok (.iconst (-1), 1) := by decide +kernel
theorem D9_see_19 : decode m9_see.2.1 19 = .ok (.ireturn, 1) := by decide +kernel
theorem D9_see_20 : decode m9_see.2.1 20 = .ok (.aload_n 0, 1) := by decide +kernel
theorem D9_see_21 : decode m9_see.2.1 21 = .ok (.getfield 75, 3) := by decide +kernel
theorem D9_see_24 : decode m9_see.2.1 24 = .ok (.iload_n 1, 1) := by decide +kernel
theorem D9_see_25 : decode m9_see.2.1 25 = .ok (.iload_n 2, 1) := by decide +kernel
theorem D9_see_26 : decode m9_see.2.1 26 = .ok (.iload_n 3, 1) := by decide +kernel
theorem D9_see_27 : decode m9_see.2.1 27 = .ok (.invokevirtual 336, 3) := by decide +kernel
theorem D9_see_30 : decode m9_see.2.1 30 = .ok (.ireturn, 1) := by decide +kernel
theorem D9_out_0 : decode m9_out.2.1 0 = .ok (.iload_n 1, 1) := by decide +kernel
theorem D9_out_1 : decode m9_out.2.1 1 = .ok (.iconst 0, 1) := by decide +kernel
theorem D9_out_2 : decode m9_out.2.1 2 = .ok (.aload_n 0, 1) := by decide +kernel
theorem D9_out_3 : decode m9_out.2.1 3 = .ok (.getfield 75, 3) := by decide +kernel
theorem D9_out_6 : decode m9_out.2.1 6 = .ok (.getfield 339, 3) := by decide +kernel
theorem D9_out_9 : decode m9_out.2.1 9 = .ok (.iconst 1, 1) := by decide +kernel
theorem D9_out_10 : decode m9_out.2.1 10 = .ok (.isub, 1) := by decide +kernel
theorem D9_out_11 : decode m9_out.2.1 11 = .ok (.invokestatic 239, 3) := by decide +kernel
theorem D9_out_14 : decode m9_out.2.1 14 = .ok (.ifCond .ne 5, 3) := by decide +kernel
theorem D9_out_17 : decode m9_out.2.1 17 = .ok (.iconst (-1), 1) := by decide +kernel
theorem D9_out_18 : decode m9_out.2.1 18 = .ok (.ireturn, 1) := by decide +kernel
theorem D9_out_19 : decode m9_out.2.1 19 = .ok (.aload_n 0, 1) := by decide +kernel
theorem D9_out_20 : decode m9_out.2.1 20 = .ok (.getfield 75, 3) := by decide +kernel
theorem D9_out_23 : decode m9_out.2.1 23 = .ok (.iload_n 1, 1) := by decide +kernel
theorem D9_out_24 : decode m9_out.2.1 24 = .ok (.invokevirtual 342, 3) := by decide +kernel
theorem D9_out_27 : decode m9_out.2.1 27 = .ok (.ireturn, 1) := by decide +kernel
theorem D9_known_0 : decode m9_known.2.1 0 = .ok (.iload_n 1, 1) := by decide +kernel
theorem D9_known_1 : decode m9_known.2.1 1 = .ok (.iconst (-1), 1) := by decide +kernel
theorem D9_known_2 : decode m9_known.2.1 2 = .ok (.aload_n 0, 1) := by decide +kernel
theorem D9_known_3 : decode m9_known.2.1 3 = .ok (.getfield 75, 3) := by decide +kernel
theorem D9_known_6 : decode m9_known.2.1 6 = .ok (.getfield 339, 3) := by decide +kernel
theorem D9_known_9 : decode m9_known.2.1 9 = .ok (.invokestatic 239, 3) := by decide +kernel
theorem D9_known_12 : decode m9_known.2.1 12 = .ok (.ifCond .ne 5, 3) := by decide +kernel
theorem D9_known_15 : decode m9_known.2.1 15 = .ok (.iconst 0, 1) := by decide +kernel
theorem D9_known_16 : decode m9_known.2.1 16 = .ok (.ireturn, 1) := by decide +kernel
theorem D9_known_17 : decode m9_known.2.1 17 = .ok (.aload_n 0, 1) := by decide +kernel
theorem D9_known_18 : decode m9_known.2.1 18 = .ok (.getfield 75, 3) := by decide +kernel
theorem D9_known_21 : decode m9_known.2.1 21 = .ok (.iload_n 1, 1) := by decide +kernel
theorem D9_known_22 : decode m9_known.2.1 22 = .ok (.putfield 345, 3) := by decide +kernel
theorem D9_known_25 : decode m9_known.2.1 25 = .ok (.iconst 1, 1) := by decide +kernel
theorem D9_known_26 : decode m9_known.2.1 26 = .ok (.ireturn, 1) := by decide +kernel
theorem D9_corks_0 : decode m9_corks.2.1 0 = .ok (.aload_n 0, 1) := by decide +kernel
theorem D9_corks_1 : decode m9_corks.2.1 1 = .ok (.iload_n 1, 1) := by decide +kernel
theorem D9_corks_2 : decode m9_corks.2.1 2 = .ok (.invokevirtual 130, 3) := by decide +kernel
theorem D9_corks_5 : decode m9_corks.2.1 5 = .ok (.ifCond .ne 5, 3) := by decide +kernel
theorem D9_corks_8 : decode m9_corks.2.1 8 = .ok (.iconst (-1), 1) := by decide +kernel
theorem D9_corks_9 : decode m9_corks.2.1 9 = .ok (.ireturn, 1) := by decide +kernel
theorem D9_corks_10 : decode m9_corks.2.1 10 = .ok (.aload_n 0, 1) := by decide +kernel
theorem D9_corks_11 : decode m9_corks.2.1 11 = .ok (.getfield 75, 3) := by decide +kernel
theorem D9_corks_14 : decode m9_corks.2.1 14 = .ok (.invokevirtual 348, 3) := by decide +kernel
theorem D9_corks_17 : decode m9_corks.2.1 17 = .ok (.aload_n 0, 1) := by decide +kernel
theorem D9_corks_18 : decode m9_corks.2.1 18 = .ok (.getfield 75, 3) := by decide +kernel
theorem D9_corks_21 : decode m9_corks.2.1 21 = .ok (.invokevirtual 351, 3) := by decide +kernel
theorem D9_corks_24 : decode m9_corks.2.1 24 = .ok (.istore_n 2, 1) := by decide +kernel
theorem D9_corks_25 : decode m9_corks.2.1 25 = .ok (.iconst 0, 1) := by decide +kernel
theorem D9_corks_26 : decode m9_corks.2.1 26 = .ok (.istore_n 3, 1) := by decide +kernel
theorem D9_corks_27 : decode m9_corks.2.1 27 = .ok (.iconst 0, 1) := by decide +kernel
theorem D9_corks_28 : decode m9_corks.2.1 28 = .ok (.istore 4, 2) := by decide +kernel
theorem D9_corks_30 : decode m9_corks.2.1 30 = .ok (.iload 4, 2) := by decide +kernel
theorem D9_corks_32 : decode m9_corks.2.1 32 = .ok (.bipush 9, 2) := by decide +kernel
theorem D9_corks_34 : decode m9_corks.2.1 34 = .ok (.if_icmp .gt 27, 3) := by decide +kernel
theorem D9_corks_37 : decode m9_corks.2.1 37 = .ok (.aload_n 0, 1) := by decide +kernel
theorem D9_corks_38 : decode m9_corks.2.1 38 = .ok (.iload_n 1, 1) := by decide +kernel
theorem D9_corks_39 : decode m9_corks.2.1 39 = .ok (.iload 4, 2) := by decide +kernel
theorem D9_corks_41 : decode m9_corks.2.1 41 = .ok (.iload_n 2, 1) := by decide +kernel
theorem D9_corks_42 : decode m9_corks.2.1 42 = .ok (.invokevirtual 354, 3) := by decide +kernel
theorem D9_corks_45 : decode m9_corks.2.1 45 = .ok (.ifCond .eq 10, 3) := by decide +kernel
theorem D9_corks_48 : decode m9_corks.2.1 48 = .ok (.iload_n 3, 1) := by decide +kernel
theorem D9_corks_49 : decode m9_corks.2.1 49 = .ok (.iconst 1, 1) := by decide +kernel
theorem D9_corks_50 : decode m9_corks.2.1 50 = .ok (.iload 4, 2) := by decide +kernel
theorem D9_corks_52 : decode m9_corks.2.1 52 = .ok (.ishl, 1) := by decide +kernel
theorem D9_corks_53 : decode m9_corks.2.1 53 = .ok (.ior, 1) := by decide +kernel
theorem D9_corks_54 : decode m9_corks.2.1 54 = .ok (.istore_n 3, 1) := by decide +kernel
theorem D9_corks_55 : decode m9_corks.2.1 55 = .ok (.iinc 4 1, 3) := by decide +kernel
theorem D9_corks_58 : decode m9_corks.2.1 58 = .ok (.goto (-28), 3) := by decide +kernel
theorem D9_corks_61 : decode m9_corks.2.1 61 = .ok (.iload_n 3, 1) := by decide +kernel
theorem D9_corks_62 : decode m9_corks.2.1 62 = .ok (.ireturn, 1) := by decide +kernel
theorem D9_agreesWithSeen_0 : decode m9_agreesWithSeen.2.1 0 = .ok (.aload_n 0, 1) := by decide +kernel
theorem D9_agreesWithSeen_1 : decode m9_agreesWithSeen.2.1 1 = .ok (.getfield 53, 3) := by decide +kernel
theorem D9_agreesWithSeen_4 : decode m9_agreesWithSeen.2.1 4 = .ok (.aload_n 0, 1) := by decide +kernel
theorem D9_agreesWithSeen_5 : decode m9_agreesWithSeen.2.1 5 = .ok (.getfield 18, 3) := by decide +kernel
theorem D9_agreesWithSeen_8 : decode m9_agreesWithSeen.2.1 8 = .ok (.invokevirtual 90, 3) := by decide +kernel
theorem D9_agreesWithSeen_11 : decode m9_agreesWithSeen.2.1 11 = .ok (.aload_n 0, 1) := by decide +kernel
theorem D9_agreesWithSeen_12 : decode m9_agreesWithSeen.2.1 12 = .ok (.getfield 53, 3) := by decide +kernel
theorem D9_agreesWithSeen_15 : decode m9_agreesWithSeen.2.1 15 = .ok (.getfield 153, 3) := by decide +kernel
theorem D9_agreesWithSeen_18 : decode m9_agreesWithSeen.2.1 18 = .ok (.iload_n 1, 1) := by decide +kernel
theorem D9_agreesWithSeen_19 : decode m9_agreesWithSeen.2.1 19 = .ok (.iload_n 2, 1) := by decide +kernel
theorem D9_agreesWithSeen_20 : decode m9_agreesWithSeen.2.1 20 = .ok (.iastore, 1) := by decide +kernel
theorem D9_agreesWithSeen_21 : decode m9_agreesWithSeen.2.1 21 = .ok (.aload_n 0, 1) := by decide +kernel
theorem D9_agreesWithSeen_22 : decode m9_agreesWithSeen.2.1 22 = .ok (.getfield 61, 3) := by decide +kernel
theorem D9_agreesWithSeen_25 : decode m9_agreesWithSeen.2.1 25 = .ok (.aload_n 0, 1) := by decide +kernel
theorem D9_agreesWithSeen_26 : decode m9_agreesWithSeen.2.1 26 = .ok (.getfield 18, 3) := by decide +kernel
theorem D9_agreesWithSeen_29 : decode m9_agreesWithSeen.2.1 29 = .ok (.aload_n 0, 1) := by decide +kernel
theorem D9_agreesWithSeen_30 : decode m9_agreesWithSeen.2.1 30 = .ok (.getfield 53, 3) := by decide +kernel
theorem D9_agreesWithSeen_33 : decode m9_agreesWithSeen.2.1 33 = .ok (.iconst 1, 1) := by decide +kernel
theorem D9_agreesWithSeen_34 : decode m9_agreesWithSeen.2.1 34 = .ok (.invokevirtual 219, 3) := by decide +kernel
theorem D9_agreesWithSeen_37 : decode m9_agreesWithSeen.2.1 37 = .ok (.iconst 1, 1) := by decide +kernel
theorem D9_agreesWithSeen_38 : decode m9_agreesWithSeen.2.1 38 = .ok (.istore 4, 2) := by decide +kernel
theorem D9_agreesWithSeen_40 : decode m9_agreesWithSeen.2.1 40 = .ok (.iload 4, 2) := by decide +kernel
theorem D9_agreesWithSeen_42 : decode m9_agreesWithSeen.2.1 42 = .ok (.iload_n 3, 1) := by decide +kernel
theorem D9_agreesWithSeen_43 : decode m9_agreesWithSeen.2.1 43 = .ok (.if_icmp .gt 34, 3) := by decide +kernel
theorem D9_agreesWithSeen_46 : decode m9_agreesWithSeen.2.1 46 = .ok (.aload_n 0, 1) := by decide +kernel
theorem D9_agreesWithSeen_47 : decode m9_agreesWithSeen.2.1 47 = .ok (.getfield 61, 3) := by decide +kernel
theorem D9_agreesWithSeen_50 : decode m9_agreesWithSeen.2.1 50 = .ok (.invokevirtual 268, 3) := by decide +kernel
theorem D9_agreesWithSeen_53 : decode m9_agreesWithSeen.2.1 53 = .ok (.aload_n 0, 1) := by decide +kernel
theorem D9_agreesWithSeen_54 : decode m9_agreesWithSeen.2.1 54 = .ok (.getfield 75, 3) := by decide +kernel
theorem D9_agreesWithSeen_57 : decode m9_agreesWithSeen.2.1 57 = .ok (.iload 4, 2) := by decide +kernel
theorem D9_agreesWithSeen_59 : decode m9_agreesWithSeen.2.1 59 = .ok (.aload_n 0, 1) := by decide +kernel
theorem D9_agreesWithSeen_60 : decode m9_agreesWithSeen.2.1 60 = .ok (.getfield 53, 3) := by decide +kernel
theorem D9_agreesWithSeen_63 : decode m9_agreesWithSeen.2.1 63 = .ok (.invokevirtual 357, 3) := by decide +kernel
theorem D9_agreesWithSeen_66 : decode m9_agreesWithSeen.2.1 66 = .ok (.ifCond .ne 5, 3) := by decide +kernel
theorem D9_agreesWithSeen_69 : decode m9_agreesWithSeen.2.1 69 = .ok (.iconst 0, 1) := by decide +kernel
theorem D9_agreesWithSeen_70 : decode m9_agreesWithSeen.2.1 70 = .ok (.ireturn, 1) := by decide +kernel
theorem D9_agreesWithSeen_71 : decode m9_agreesWithSeen.2.1 71 = .ok (.iinc 4 1, 3) := by decide +kernel
theorem D9_agreesWithSeen_74 : decode m9_agreesWithSeen.2.1 74 = .ok (.goto (-34), 3) := by decide +kernel
theorem D9_agreesWithSeen_77 : decode m9_agreesWithSeen.2.1 77 = .ok (.iconst 1, 1) := by decide +kernel
theorem D9_agreesWithSeen_78 : decode m9_agreesWithSeen.2.1 78 = .ok (.ireturn, 1) := by decide +kernel
theorem D9_chance_0 : decode m9_chance.2.1 0 = .ok (.iload_n 1, 1) := by decide +kernel
theorem D9_chance_1 : decode m9_chance.2.1 1 = .ok (.ifCond .lt 23, 3) := by decide +kernel
theorem D9_chance_4 : decode m9_chance.2.1 4 = .ok (.iload_n 2, 1) := by decide +kernel
theorem D9_chance_5 : decode m9_chance.2.1 5 = .ok (.iconst 1, 1) := by decide +kernel
theorem D9_chance_6 : decode m9_chance.2.1 6 = .ok (.bipush 99, 2) := by decide +kernel
theorem D9_chance_8 : decode m9_chance.2.1 8 = .ok (.invokestatic 239, 3) := by decide +kernel
theorem D9_chance_11 : decode m9_chance.2.1 11 = .ok (.ifCond .eq 13, 3) := by decide +kernel
theorem D9_chance_14 : decode m9_chance.2.1 14 = .ok (.iload_n 3, 1) := by decide +kernel
theorem D9_chance_15 : decode m9_chance.2.1 15 = .ok (.iconst 0, 1) := by decide +kernel
theorem D9_chance_16 : decode m9_chance.2.1 16 = .ok (.bipush 10, 2) := by decide +kernel
theorem D9_chance_18 : decode m9_chance.2.1 18 = .ok (.invokestatic 239, 3) := by decide +kernel
theorem D9_chance_21 : decode m9_chance.2.1 21 = .ok (.ifCond .ne 5, 3) := by decide +kernel
theorem D9_chance_24 : decode m9_chance.2.1 24 = .ok (.iconst (-1), 1) := by decide +kernel
theorem D9_chance_25 : decode m9_chance.2.1 25 = .ok (.ireturn, 1) := by decide +kernel
theorem D9_chance_26 : decode m9_chance.2.1 26 = .ok (.iload_n 1, 1) := by decide +kernel
theorem D9_chance_27 : decode m9_chance.2.1 27 = .ok (.i2l, 1) := by decide +kernel
theorem D9_chance_28 : decode m9_chance.2.1 28 = .ok (.lstore 4, 2) := by decide +kernel
theorem D9_chance_30 : decode m9_chance.2.1 30 = .ok (.iconst 0, 1) := by decide +kernel
theorem D9_chance_31 : decode m9_chance.2.1 31 = .ok (.istore 6, 2) := by decide +kernel
theorem D9_chance_33 : decode m9_chance.2.1 33 = .ok (.iconst 0, 1) := by decide +kernel
theorem D9_chance_34 : decode m9_chance.2.1 34 = .ok (.istore 7, 2) := by decide +kernel
theorem D9_chance_36 : decode m9_chance.2.1 36 = .ok (.iload 7, 2) := by decide +kernel
theorem D9_chance_38 : decode m9_chance.2.1 38 = .ok (.bipush 10, 2) := by decide +kernel
theorem D9_chance_40 : decode m9_chance.2.1 40 = .ok (.if_icmp .ge 51, 3) := by decide +kernel
theorem D9_chance_43 : decode m9_chance.2.1 43 = .ok (.aload_n 0, 1) := by decide +kernel
theorem D9_chance_44 : decode m9_chance.2.1 44 = .ok (.iconst 0, 1) := by decide +kernel
theorem D9_chance_45 : decode m9_chance.2.1 45 = .ok (.invokevirtual 249, 3) := by decide +kernel
theorem D9_chance_48 : decode m9_chance.2.1 48 = .ok (.aload_n 0, 1) := by decide +kernel
theorem D9_chance_49 : decode m9_chance.2.1 49 = .ok (.getfield 53, 3) := by decide +kernel
theorem D9_chance_52 : decode m9_chance.2.1 52 = .ok (.lload 4, 2) := by decide +kernel
theorem D9_chance_54 : decode m9_chance.2.1 54 = .ok (.putfield 361, 3) := by decide +kernel
theorem D9_chance_57 : decode m9_chance.2.1 57 = .ok (.aload_n 0, 1) := by decide +kernel
theorem D9_chance_58 : decode m9_chance.2.1 58 = .ok (.getfield 61, 3) := by decide +kernel
theorem D9_chance_61 : decode m9_chance.2.1 61 = .ok (.iload_n 2, 1) := by decide +kernel
theorem D9_chance_62 : decode m9_chance.2.1 62 = .ok (.invokevirtual 246, 3) := by decide +kernel
theorem D9_chance_65 : decode m9_chance.2.1 65 = .ok (.aload_n 0, 1) := by decide +kernel
theorem D9_chance_66 : decode m9_chance.2.1 66 = .ok (.getfield 53, 3) := by decide +kernel
theorem D9_chance_69 : decode m9_chance.2.1 69 = .ok (.getfield 361, 3) := by decide +kernel
theorem D9_chance_72 : decode m9_chance.2.1 72 = .ok (.lstore 4, 2) := by decide +kernel
theorem D9_chance_74 : decode m9_chance.2.1 74 = .ok (.aload_n 0, 1) := by decide +kernel
theorem D9_chance_75 : decode m9_chance.2.1 75 = .ok (.invokevirtual 252, 3) := by decide +kernel
theorem D9_chance_78 : decode m9_chance.2.1 78 = .ok (.iload_n 3, 1) := by decide +kernel
theorem D9_chance_79 : decode m9_chance.2.1 79 = .ok (.if_icmp .lt 6, 3) := by decide +kernel
theorem D9_chance_82 : decode m9_chance.2.1 82 = .ok (.iinc 6 1, 3) := by decide +kernel
theorem D9_chance_85 : decode m9_chance.2.1 85 = .ok (.iinc 7 1, 3) := by decide +kernel
theorem D9_chance_88 : decode m9_chance.2.1 88 = .ok (.goto (-52), 3) := by decide +kernel
theorem D9_chance_91 : decode m9_chance.2.1 91 = .ok (.iload 6, 2) := by decide +kernel
theorem D9_chance_93 : decode m9_chance.2.1 93 = .ok (.ireturn, 1) := by decide +kernel
theorem D9_tried_0 : decode m9_tried.2.1 0 = .ok (.iload_n 1, 1) := by decide +kernel
theorem D9_tried_1 : decode m9_tried.2.1 1 = .ok (.iconst 0, 1) := by decide +kernel
theorem D9_tried_2 : decode m9_tried.2.1 2 = .ok (.iconst 5, 1) := by decide +kernel
theorem D9_tried_3 : decode m9_tried.2.1 3 = .ok (.invokestatic 239, 3) := by decide +kernel
theorem D9_tried_6 : decode m9_tried.2.1 6 = .ok (.ifCond .eq 33, 3) := by decide +kernel
theorem D9_tried_9 : decode m9_tried.2.1 9 = .ok (.iload_n 3, 1) := by decide +kernel
theorem D9_tried_10 : decode m9_tried.2.1 10 = .ok (.iconst 0, 1) := by decide +kernel
theorem D9_tried_11 : decode m9_tried.2.1 11 = .ok (.bipush 99, 2) := by decide +kernel
theorem D9_tried_13 : decode m9_tried.2.1 13 = .ok (.invokestatic 239, 3) := by decide +kernel
theorem D9_tried_16 : decode m9_tried.2.1 16 = .ok (.ifCond .eq 23, 3) := by decide +kernel
theorem D9_tried_19 : decode m9_tried.2.1 19 = .ok (.iload_n 1, 1) := by decide +kernel
theorem D9_tried_20 : decode m9_tried.2.1 20 = .ok (.iconst 2, 1) := by decide +kernel
theorem D9_tried_21 : decode m9_tried.2.1 21 = .ok (.if_icmp .ne 14, 3) := by decide +kernel
theorem D9_tried_24 : decode m9_tried.2.1 24 = .ok (.aload_n 0, 1) := by decide +kernel
theorem D9_tried_25 : decode m9_tried.2.1 25 = .ok (.iload_n 2, 1) := by decide +kernel
theorem D9_tried_26 : decode m9_tried.2.1 26 = .ok (.invokevirtual 130, 3) := by decide +kernel
theorem D9_tried_29 : decode m9_tried.2.1 29 = .ok (.ifCond .eq 10, 3) := by decide +kernel
theorem D9_tried_32 : decode m9_tried.2.1 32 = .ok (.goto 9, 3) := by decide +kernel
theorem D9_tried_35 : decode m9_tried.2.1 35 = .ok (.iload_n 2, 1) := by decide +kernel
theorem D9_tried_36 : decode m9_tried.2.1 36 = .ok (.ifCond .eq 5, 3) := by decide +kernel
theorem D9_tried_39 : decode m9_tried.2.1 39 = .ok (.iconst (-1), 1) := by decide +kernel
theorem D9_tried_40 : decode m9_tried.2.1 40 = .ok (.ireturn, 1) := by decide +kernel
theorem D9_tried_41 : decode m9_tried.2.1 41 = .ok (.aload_n 0, 1) := by decide +kernel
theorem D9_tried_42 : decode m9_tried.2.1 42 = .ok (.iload_n 1, 1) := by decide +kernel
theorem D9_tried_43 : decode m9_tried.2.1 43 = .ok (.iconst 1, 1) := by decide +kernel
theorem D9_tried_44 : decode m9_tried.2.1 44 = .ok (.if_icmp .ne 7, 3) := by decide +kernel
theorem D9_tried_47 : decode m9_tried.2.1 47 = .ok (.iconst 2, 1) := by decide +kernel
theorem D9_tried_48 : decode m9_tried.2.1 48 = .ok (.goto 4, 3) := by decide +kernel
theorem D9_tried_51 : decode m9_tried.2.1 51 = .ok (.iconst 1, 1) := by decide +kernel
theorem D9_tried_52 : decode m9_tried.2.1 52 = .ok (.invokevirtual 249, 3) := by decide +kernel
theorem D9_tried_55 : decode m9_tried.2.1 55 = .ok (.iload_n 1, 1) := by decide +kernel
theorem D9_tried_56 : decode m9_tried.2.1 56 = .ok (.iconst 2, 1) := by decide +kernel
theorem D9_tried_57 : decode m9_tried.2.1 57 = .ok (.if_icmp .ne 23, 3) := by decide +kernel
theorem D9_tried_60 : decode m9_tried.2.1 60 = .ok (.aload_n 0, 1) := by decide +kernel
theorem D9_tried_61 : decode m9_tried.2.1 61 = .ok (.getfield 53, 3) := by decide +kernel
theorem D9_tried_64 : decode m9_tried.2.1 64 = .ok (.iload_n 2, 1) := by decide +kernel
theorem D9_tried_65 : decode m9_tried.2.1 65 = .ok (.invokevirtual 211, 3) := by decide +kernel
theorem D9_tried_68 : decode m9_tried.2.1 68 = .ok (.ifCond .eq 12, 3) := by decide +kernel
theorem D9_tried_71 : decode m9_tried.2.1 71 = .ok (.aload_n 0, 1) := by decide +kernel
theorem D9_tried_72 : decode m9_tried.2.1 72 = .ok (.getfield 53, 3) := by decide +kernel
theorem D9_tried_75 : decode m9_tried.2.1 75 = .ok (.iload_n 2, 1) := by decide +kernel
theorem D9_tried_76 : decode m9_tried.2.1 76 = .ok (.iconst 3, 1) := by decide +kernel
theorem D9_tried_77 : decode m9_tried.2.1 77 = .ok (.invokevirtual 236, 3) := by decide +kernel
theorem D9_tried_80 : decode m9_tried.2.1 80 = .ok (.iload_n 1, 1) := by decide +kernel
theorem D9_tried_81 : decode m9_tried.2.1 81 = .ok (.iconst 5, 1) := by decide +kernel
theorem D9_tried_82 : decode m9_tried.2.1 82 = .ok (.if_icmp .ne 15, 3) := by decide +kernel
theorem D9_tried_85 : decode m9_tried.2.1 85 = .ok (.aload_n 0, 1) := by decide +kernel
theorem D9_tried_86 : decode m9_tried.2.1 86 = .ok (.getfield 53, 3) := by decide +kernel
theorem D9_tried_89 : decode m9_tried.2.1 89 = .ok (.getfield 153, 3) := by decide +kernel
theorem D9_tried_92 : decode m9_tried.2.1 92 = .ok (.bipush 9, 2) := by decide +kernel
theorem D9_tried_94 : decode m9_tried.2.1 94 = .ok (.invokestatic 365, 3) := by decide +kernel
theorem D9_tried_97 : decode m9_tried.2.1 97 = .ok (.aload_n 0, 1) := by decide +kernel
theorem D9_tried_98 : decode m9_tried.2.1 98 = .ok (.getfield 61, 3) := by decide +kernel
theorem D9_tried_101 : decode m9_tried.2.1 101 = .ok (.iload_n 1, 1) := by decide +kernel
theorem D9_tried_102 : decode m9_tried.2.1 102 = .ok (.iconst 3, 1) := by decide +kernel
theorem D9_tried_103 : decode m9_tried.2.1 103 = .ok (.if_icmp .eq 7, 3) := by decide +kernel
theorem D9_tried_106 : decode m9_tried.2.1 106 = .ok (.iconst 1, 1) := by decide +kernel
theorem D9_tried_107 : decode m9_tried.2.1 107 = .ok (.goto 4, 3) := by decide +kernel
theorem D9_tried_110 : decode m9_tried.2.1 110 = .ok (.iconst 0, 1) := by decide +kernel
theorem D9_tried_111 : decode m9_tried.2.1 111 = .ok (.putfield 371, 3) := by decide +kernel
theorem D9_tried_114 : decode m9_tried.2.1 114 = .ok (.aload_n 0, 1) := by decide +kernel
theorem D9_tried_115 : decode m9_tried.2.1 115 = .ok (.getfield 61, 3) := by decide +kernel
theorem D9_tried_118 : decode m9_tried.2.1 118 = .ok (.iload_n 1, 1) := by decide +kernel
theorem D9_tried_119 : decode m9_tried.2.1 119 = .ok (.iconst 4, 1) := by decide +kernel
theorem D9_tried_120 : decode m9_tried.2.1 120 = .ok (.if_icmp .eq 7, 3) := by decide +kernel
theorem D9_tried_123 : decode m9_tried.2.1 123 = .ok (.iconst 1, 1) := by decide +kernel
theorem D9_tried_124 : decode m9_tried.2.1 124 = .ok (.goto 4, 3) := by decide +kernel
theorem D9_tried_127 : decode m9_tried.2.1 127 = .ok (.iconst 0, 1) := by decide +kernel
theorem D9_tried_128 : decode m9_tried.2.1 128 = .ok (.putfield 374, 3) := by decide +kernel
theorem D9_tried_131 : decode m9_tried.2.1 131 = .ok (.aload_n 0, 1) := by decide +kernel
theorem D9_tried_132 : decode m9_tried.2.1 132 = .ok (.getfield 61, 3) := by decide +kernel
theorem D9_tried_135 : decode m9_tried.2.1 135 = .ok (.iload_n 3, 1) := by decide +kernel
theorem D9_tried_136 : decode m9_tried.2.1 136 = .ok (.invokevirtual 246, 3) := by decide +kernel
theorem D9_tried_139 : decode m9_tried.2.1 139 = .ok (.aload_n 0, 1) := by decide +kernel
theorem D9_tried_140 : decode m9_tried.2.1 140 = .ok (.invokevirtual 252, 3) := by decide +kernel
theorem D9_tried_143 : decode m9_tried.2.1 143 = .ok (.ireturn, 1) := by decide +kernel
theorem D9_undo_0 : decode m9_undo.2.1 0 = .ok (.aload_n 0, 1) := by decide +kernel
theorem D9_undo_1 : decode m9_undo.2.1 1 = .ok (.getfield 68, 3) := by decide +kernel
theorem D9_undo_4 : decode m9_undo.2.1 4 = .ok (.getfield 377, 3) := by decide +kernel
theorem D9_undo_7 : decode m9_undo.2.1 7 = .ok (.ifCond .ne 5, 3) := by decide +kernel
theorem D9_undo_10 : decode m9_undo.2.1 10 = .ok (.iconst (-1), 1) := by decide +kernel
theorem D9_undo_11 : decode m9_undo.2.1 11 = .ok (.ireturn, 1) := by decide +kernel
theorem D9_undo_12 : decode m9_undo.2.1 12 = .ok (.aload_n 0, 1) := by decide +kernel
theorem D9_undo_13 : decode m9_undo.2.1 13 = .ok (.getfield 68, 3) := by decide +kernel
theorem D9_undo_16 : decode m9_undo.2.1 16 = .ok (.aload_n 0, 1) := by decide +kernel
theorem D9_undo_17 : decode m9_undo.2.1 17 = .ok (.getfield 46, 3) := by decide +kernel
theorem D9_undo_20 : decode m9_undo.2.1 20 = .ok (.invokevirtual 378, 3) := by decide +kernel
theorem D9_undo_23 : decode m9_undo.2.1 23 = .ok (.aload_n 0, 1) := by decide +kernel
theorem D9_undo_24 : decode m9_undo.2.1 24 = .ok (.getfield 68, 3) := by decide +kernel
theorem D9_undo_27 : decode m9_undo.2.1 27 = .ok (.getfield 377, 3) := by decide +kernel
theorem D9_undo_30 : decode m9_undo.2.1 30 = .ok (.ireturn, 1) := by decide +kernel
theorem D9_keep_0 : decode m9_keep.2.1 0 = .ok (.aload_n 0, 1) := by decide +kernel
theorem D9_keep_1 : decode m9_keep.2.1 1 = .ok (.getfield 50, 3) := by decide +kernel
theorem D9_keep_4 : decode m9_keep.2.1 4 = .ok (.aload_n 0, 1) := by decide +kernel
theorem D9_keep_5 : decode m9_keep.2.1 5 = .ok (.getfield 46, 3) := by decide +kernel
theorem D9_keep_8 : decode m9_keep.2.1 8 = .ok (.invokevirtual 382, 3) := by decide +kernel
theorem D9_keep_11 : decode m9_keep.2.1 11 = .ok (.aload_n 0, 1) := by decide +kernel
theorem D9_keep_12 : decode m9_keep.2.1 12 = .ok (.iconst 1, 1) := by decide +kernel
theorem D9_keep_13 : decode m9_keep.2.1 13 = .ok (.putfield 113, 3) := by decide +kernel
theorem D9_keep_16 : decode m9_keep.2.1 16 = .ok (.aload_n 0, 1) := by decide +kernel
theorem D9_keep_17 : decode m9_keep.2.1 17 = .ok (.getfield 46, 3) := by decide +kernel
theorem D9_keep_20 : decode m9_keep.2.1 20 = .ok (.getfield 243, 3) := by decide +kernel
theorem D9_keep_23 : decode m9_keep.2.1 23 = .ok (.ireturn, 1) := by decide +kernel
theorem D9_back_0 : decode m9_back.2.1 0 = .ok (.aload_n 0, 1) := by decide +kernel
theorem D9_back_1 : decode m9_back.2.1 1 = .ok (.getfield 113, 3) := by decide +kernel
theorem D9_back_4 : decode m9_back.2.1 4 = .ok (.ifCond .ne 5, 3) := by decide +kernel
theorem D9_back_7 : decode m9_back.2.1 7 = .ok (.iconst (-1), 1) := by decide +kernel
theorem D9_back_8 : decode m9_back.2.1 8 = .ok (.ireturn, 1) := by decide +kernel
theorem D9_back_9 : decode m9_back.2.1 9 = .ok (.aload_n 0, 1) := by decide +kernel
theorem D9_back_10 : decode m9_back.2.1 10 = .ok (.getfield 46, 3) := by decide +kernel
theorem D9_back_13 : decode m9_back.2.1 13 = .ok (.aload_n 0, 1) := by decide +kernel
theorem D9_back_14 : decode m9_back.2.1 14 = .ok (.getfield 50, 3) := by decide +kernel
theorem D9_back_17 : decode m9_back.2.1 17 = .ok (.invokevirtual 382, 3) := by decide +kernel
theorem D9_back_20 : decode m9_back.2.1 20 = .ok (.aload_n 0, 1) := by decide +kernel
theorem D9_back_21 : decode m9_back.2.1 21 = .ok (.getfield 68, 3) := by decide +kernel
theorem D9_back_24 : decode m9_back.2.1 24 = .ok (.invokevirtual 112, 3) := by decide +kernel
theorem D9_back_27 : decode m9_back.2.1 27 = .ok (.aload_n 0, 1) := by decide +kernel
theorem D9_back_28 : decode m9_back.2.1 28 = .ok (.getfield 46, 3) := by decide +kernel
theorem D9_back_31 : decode m9_back.2.1 31 = .ok (.getfield 243, 3) := by decide +kernel
theorem D9_back_34 : decode m9_back.2.1 34 = .ok (.ireturn, 1) := by decide +kernel
theorem D9_count_0 : decode m9_count.2.1 0 = .ok (.iload_n 1, 1) := by decide +kernel
theorem D9_count_1 : decode m9_count.2.1 1 = .ok (.tableswitch 201 0 14 #[75, 83, 91, 99, 110, 118, 127, 136, 145, 153, 161, 169, 177, 185, 193], 75) := by decide +kernel
theorem D9_count_76 : decode m9_count.2.1 76 = .ok (.aload_n 0, 1) := by decide +kernel
theorem D9_count_77 : decode m9_count.2.1 77 = .ok (.getfield 18, 3) := by decide +kernel
theorem D9_count_80 : decode m9_count.2.1 80 = .ok (.getfield 302, 3) := by decide +kernel
theorem D9_count_83 : decode m9_count.2.1 83 = .ok (.ireturn, 1) := by decide +kernel
theorem D9_count_84 : decode m9_count.2.1 84 = .ok (.aload_n 0, 1) := by decide +kernel
theorem D9_count_85 : decode m9_count.2.1 85 = .ok (.getfield 18, 3) := by decide +kernel
theorem D9_count_88 : decode m9_count.2.1 88 = .ok (.getfield 208, 3) := by decide +kernel
theorem D9_count_91 : decode m9_count.2.1 91 = .ok (.ireturn, 1) := by decide +kernel
theorem D9_count_92 : decode m9_count.2.1 92 = .ok (.aload_n 0, 1) := by decide +kernel
theorem D9_count_93 : decode m9_count.2.1 93 = .ok (.getfield 18, 3) := by decide +kernel
theorem D9_count_96 : decode m9_count.2.1 96 = .ok (.getfield 385, 3) := by decide +kernel
theorem D9_count_99 : decode m9_count.2.1 99 = .ok (.ireturn, 1) := by decide +kernel
theorem D9_count_100 : decode m9_count.2.1 100 = .ok (.aload_n 0, 1) := by decide +kernel
theorem D9_count_101 : decode m9_count.2.1 101 = .ok (.getfield 18, 3) := by decide +kernel
theorem D9_count_104 : decode m9_count.2.1 104 = .ok (.getfield 388, 3) := by decide +kernel
theorem D9_count_107 : decode m9_count.2.1 107 = .ok (.getfield 392, 3) := by decide +kernel
theorem D9_count_110 : decode m9_count.2.1 110 = .ok (.ireturn, 1) := by decide +kernel
theorem D9_count_111 : decode m9_count.2.1 111 = .ok (.aload_n 0, 1) := by decide +kernel
theorem D9_count_112 : decode m9_count.2.1 112 = .ok (.getfield 46, 3) := by decide +kernel
theorem D9_count_115 : decode m9_count.2.1 115 = .ok (.getfield 243, 3) := by decide +kernel
theorem D9_count_118 : decode m9_count.2.1 118 = .ok (.ireturn, 1) := by decide +kernel
theorem D9_count_119 : decode m9_count.2.1 119 = .ok (.aload_n 0, 1) := by decide +kernel
theorem D9_count_120 : decode m9_count.2.1 120 = .ok (.getfield 46, 3) := by decide +kernel
theorem D9_count_123 : decode m9_count.2.1 123 = .ok (.iconst 0, 1) := by decide +kernel
theorem D9_count_124 : decode m9_count.2.1 124 = .ok (.invokevirtual 397, 3) := by decide +kernel
theorem D9_count_127 : decode m9_count.2.1 127 = .ok (.ireturn, 1) := by decide +kernel
theorem D9_count_128 : decode m9_count.2.1 128 = .ok (.aload_n 0, 1) := by decide +kernel
theorem D9_count_129 : decode m9_count.2.1 129 = .ok (.getfield 46, 3) := by decide +kernel
theorem D9_count_132 : decode m9_count.2.1 132 = .ok (.iconst 1, 1) := by decide +kernel
theorem D9_count_133 : decode m9_count.2.1 133 = .ok (.invokevirtual 397, 3) := by decide +kernel
theorem D9_count_136 : decode m9_count.2.1 136 = .ok (.ireturn, 1) := by decide +kernel
theorem D9_count_137 : decode m9_count.2.1 137 = .ok (.aload_n 0, 1) := by decide +kernel
theorem D9_count_138 : decode m9_count.2.1 138 = .ok (.getfield 46, 3) := by decide +kernel
theorem D9_count_141 : decode m9_count.2.1 141 = .ok (.iconst 2, 1) := by decide +kernel
theorem D9_count_142 : decode m9_count.2.1 142 = .ok (.invokevirtual 397, 3) := by decide +kernel
theorem D9_count_145 : decode m9_count.2.1 145 = .ok (.ireturn, 1) := by decide +kernel
theorem D9_count_146 : decode m9_count.2.1 146 = .ok (.aload_n 0, 1) := by decide +kernel
theorem D9_count_147 : decode m9_count.2.1 147 = .ok (.getfield 46, 3) := by decide +kernel
theorem D9_count_150 : decode m9_count.2.1 150 = .ok (.invokevirtual 256, 3) := by decide +kernel
theorem D9_count_153 : decode m9_count.2.1 153 = .ok (.ireturn, 1) := by decide +kernel
theorem D9_count_154 : decode m9_count.2.1 154 = .ok (.aload_n 0, 1) := by decide +kernel
theorem D9_count_155 : decode m9_count.2.1 155 = .ok (.getfield 46, 3) := by decide +kernel
theorem D9_count_158 : decode m9_count.2.1 158 = .ok (.invokevirtual 259, 3) := by decide +kernel
theorem D9_count_161 : decode m9_count.2.1 161 = .ok (.ireturn, 1) := by decide +kernel
theorem D9_count_162 : decode m9_count.2.1 162 = .ok (.aload_n 0, 1) := by decide +kernel
theorem D9_count_163 : decode m9_count.2.1 163 = .ok (.getfield 46, 3) := by decide +kernel
theorem D9_count_166 : decode m9_count.2.1 166 = .ok (.getfield 400, 3) := by decide +kernel
theorem D9_count_169 : decode m9_count.2.1 169 = .ok (.ireturn, 1) := by decide +kernel
theorem D9_count_170 : decode m9_count.2.1 170 = .ok (.aload_n 0, 1) := by decide +kernel
theorem D9_count_171 : decode m9_count.2.1 171 = .ok (.getfield 46, 3) := by decide +kernel
theorem D9_count_174 : decode m9_count.2.1 174 = .ok (.invokevirtual 262, 3) := by decide +kernel
theorem D9_count_177 : decode m9_count.2.1 177 = .ok (.ireturn, 1) := by decide +kernel
theorem D9_count_178 : decode m9_count.2.1 178 = .ok (.aload_n 0, 1) := by decide +kernel
theorem D9_count_179 : decode m9_count.2.1 179 = .ok (.getfield 75, 3) := by decide +kernel
theorem D9_count_182 : decode m9_count.2.1 182 = .ok (.getfield 339, 3) := by decide +kernel
theorem D9_count_185 : decode m9_count.2.1 185 = .ok (.ireturn, 1) := by decide +kernel
theorem D9_count_186 : decode m9_count.2.1 186 = .ok (.aload_n 0, 1) := by decide +kernel
theorem D9_count_187 : decode m9_count.2.1 187 = .ok (.getfield 75, 3) := by decide +kernel
theorem D9_count_190 : decode m9_count.2.1 190 = .ok (.invokevirtual 403, 3) := by decide +kernel
theorem D9_count_193 : decode m9_count.2.1 193 = .ok (.ireturn, 1) := by decide +kernel
theorem D9_count_194 : decode m9_count.2.1 194 = .ok (.aload_n 0, 1) := by decide +kernel
theorem D9_count_195 : decode m9_count.2.1 195 = .ok (.getfield 68, 3) := by decide +kernel
theorem D9_count_198 : decode m9_count.2.1 198 = .ok (.getfield 377, 3) := by decide +kernel
theorem D9_count_201 : decode m9_count.2.1 201 = .ok (.ireturn, 1) := by decide +kernel
theorem D9_count_202 : decode m9_count.2.1 202 = .ok (.iconst (-1), 1) := by decide +kernel
theorem D9_count_203 : decode m9_count.2.1 203 = .ok (.ireturn, 1) := by decide +kernel
theorem D9_startTrial_0 : decode m9_startTrial.2.1 0 = .ok (.aload_n 0, 1) := by decide +kernel
theorem D9_startTrial_1 : decode m9_startTrial.2.1 1 = .ok (.getfield 53, 3) := by decide +kernel
theorem D9_startTrial_4 : decode m9_startTrial.2.1 4 = .ok (.aload_n 0, 1) := by decide +kernel
theorem D9_startTrial_5 : decode m9_startTrial.2.1 5 = .ok (.getfield 46, 3) := by decide +kernel
theorem D9_startTrial_8 : decode m9_startTrial.2.1 8 = .ok (.invokevirtual 382, 3) := by decide +kernel
theorem D9_startTrial_11 : decode m9_startTrial.2.1 11 = .ok (.aload_n 0, 1) := by decide +kernel
theorem D9_startTrial_12 : decode m9_startTrial.2.1 12 = .ok (.getfield 61, 3) := by decide +kernel
theorem D9_startTrial_15 : decode m9_startTrial.2.1 15 = .ok (.aload_n 0, 1) := by decide +kernel
theorem D9_startTrial_16 : decode m9_startTrial.2.1 16 = .ok (.getfield 18, 3) := by decide +kernel
theorem D9_startTrial_19 : decode m9_startTrial.2.1 19 = .ok (.aload_n 0, 1) := by decide +kernel
theorem D9_startTrial_20 : decode m9_startTrial.2.1 20 = .ok (.getfield 53, 3) := by decide +kernel
theorem D9_startTrial_23 : decode m9_startTrial.2.1 23 = .ok (.iload_n 1, 1) := by decide +kernel
theorem D9_startTrial_24 : decode m9_startTrial.2.1 24 = .ok (.invokevirtual 219, 3) := by decide +kernel
theorem D9_startTrial_27 : decode m9_startTrial.2.1 27 = .ok (.return_, 1) := by decide +kernel
theorem D9_moreOff_0 : decode m9_moreOff.2.1 0 = .ok (.aload_n 0, 1) := by decide +kernel
theorem D9_moreOff_1 : decode m9_moreOff.2.1 1 = .ok (.getfield 53, 3) := by decide +kernel
theorem D9_moreOff_4 : decode m9_moreOff.2.1 4 = .ok (.iconst 2, 1) := by decide +kernel
theorem D9_moreOff_5 : decode m9_moreOff.2.1 5 = .ok (.invokevirtual 397, 3) := by decide +kernel
theorem D9_moreOff_8 : decode m9_moreOff.2.1 8 = .ok (.aload_n 0, 1) := by decide +kernel
theorem D9_moreOff_9 : decode m9_moreOff.2.1 9 = .ok (.getfield 46, 3) := by decide +kernel
theorem D9_moreOff_12 : decode m9_moreOff.2.1 12 = .ok (.iconst 2, 1) := by decide +kernel
theorem D9_moreOff_13 : decode m9_moreOff.2.1 13 = .ok (.invokevirtual 397, 3) := by decide +kernel
theorem D9_moreOff_16 : decode m9_moreOff.2.1 16 = .ok (.isub, 1) := by decide +kernel
theorem D9_moreOff_17 : decode m9_moreOff.2.1 17 = .ok (.ireturn, 1) := by decide +kernel
theorem D9_lyingOf_0 : decode m9_lyingOf.2.1 0 = .ok (.iconst 0, 1) := by decide +kernel
theorem D9_lyingOf_1 : decode m9_lyingOf.2.1 1 = .ok (.istore_n 2, 1) := by decide +kernel
theorem D9_lyingOf_2 : decode m9_lyingOf.2.1 2 = .ok (.iconst 0, 1) := by decide +kernel
theorem D9_lyingOf_3 : decode m9_lyingOf.2.1 3 = .ok (.istore_n 3, 1) := by decide +kernel
theorem D9_lyingOf_4 : decode m9_lyingOf.2.1 4 = .ok (.iload_n 3, 1) := by decide +kernel
theorem D9_lyingOf_5 : decode m9_lyingOf.2.1 5 = .ok (.aload_n 0, 1) := by decide +kernel
theorem D9_lyingOf_6 : decode m9_lyingOf.2.1 6 = .ok (.getfield 18, 3) := by decide +kernel
theorem D9_lyingOf_9 : decode m9_lyingOf.2.1 9 = .ok (.getfield 208, 3) := by decide +kernel
theorem D9_lyingOf_12 : decode m9_lyingOf.2.1 12 = .ok (.if_icmp .ge 39, 3) := by decide +kernel
theorem D9_lyingOf_15 : decode m9_lyingOf.2.1 15 = .ok (.aload_n 0, 1) := by decide +kernel
theorem D9_lyingOf_16 : decode m9_lyingOf.2.1 16 = .ok (.getfield 46, 3) := by decide +kernel
theorem D9_lyingOf_19 : decode m9_lyingOf.2.1 19 = .ok (.iload_n 3, 1) := by decide +kernel
theorem D9_lyingOf_20 : decode m9_lyingOf.2.1 20 = .ok (.invokevirtual 211, 3) := by decide +kernel
theorem D9_lyingOf_23 : decode m9_lyingOf.2.1 23 = .ok (.ifCond .eq 22, 3) := by decide +kernel
theorem D9_lyingOf_26 : decode m9_lyingOf.2.1 26 = .ok (.aload_n 0, 1) := by decide +kernel
theorem D9_lyingOf_27 : decode m9_lyingOf.2.1 27 = .ok (.getfield 18, 3) := by decide +kernel
theorem D9_lyingOf_30 : decode m9_lyingOf.2.1 30 = .ok (.getfield 141, 3) := by decide +kernel
theorem D9_lyingOf_33 : decode m9_lyingOf.2.1 33 = .ok (.iload_n 3, 1) := by decide +kernel
theorem D9_lyingOf_34 : decode m9_lyingOf.2.1 34 = .ok (.iaload, 1) := by decide +kernel
theorem D9_lyingOf_35 : decode m9_lyingOf.2.1 35 = .ok (.iload_n 1, 1) := by decide +kernel
theorem D9_lyingOf_36 : decode m9_lyingOf.2.1 36 = .ok (.if_icmp .ne 9, 3) := by decide +kernel
theorem D9_lyingOf_39 : decode m9_lyingOf.2.1 39 = .ok (.iload_n 2, 1) := by decide +kernel
theorem D9_lyingOf_40 : decode m9_lyingOf.2.1 40 = .ok (.iconst 1, 1) := by decide +kernel
theorem D9_lyingOf_41 : decode m9_lyingOf.2.1 41 = .ok (.iload_n 3, 1) := by decide +kernel
theorem D9_lyingOf_42 : decode m9_lyingOf.2.1 42 = .ok (.ishl, 1) := by decide +kernel
theorem D9_lyingOf_43 : decode m9_lyingOf.2.1 43 = .ok (.ior, 1) := by decide +kernel
theorem D9_lyingOf_44 : decode m9_lyingOf.2.1 44 = .ok (.istore_n 2, 1) := by decide +kernel
theorem D9_lyingOf_45 : decode m9_lyingOf.2.1 45 = .ok (.iinc 3 1, 3) := by decide +kernel
theorem D9_lyingOf_48 : decode m9_lyingOf.2.1 48 = .ok (.goto (-44), 3) := by decide +kernel
theorem D9_lyingOf_51 : decode m9_lyingOf.2.1 51 = .ok (.iload_n 2, 1) := by decide +kernel
theorem D9_lyingOf_52 : decode m9_lyingOf.2.1 52 = .ok (.ireturn, 1) := by decide +kernel
theorem D9_forceOf_0 : decode m9_forceOf.2.1 0 = .ok (.iconst 0, 1) := by decide +kernel
theorem D9_forceOf_1 : decode m9_forceOf.2.1 1 = .ok (.istore_n 2, 1) := by decide +kernel
theorem D9_forceOf_2 : decode m9_forceOf.2.1 2 = .ok (.iconst 0, 1) := by decide +kernel
theorem D9_forceOf_3 : decode m9_forceOf.2.1 3 = .ok (.istore_n 3, 1) := by decide +kernel
theorem D9_forceOf_4 : decode m9_forceOf.2.1 4 = .ok (.iload_n 3, 1) := by decide +kernel
theorem D9_forceOf_5 : decode m9_forceOf.2.1 5 = .ok (.aload_n 0, 1) := by decide +kernel
theorem D9_forceOf_6 : decode m9_forceOf.2.1 6 = .ok (.getfield 18, 3) := by decide +kernel
theorem D9_forceOf_9 : decode m9_forceOf.2.1 9 = .ok (.getfield 208, 3) := by decide +kernel
theorem D9_forceOf_12 : decode m9_forceOf.2.1 12 = .ok (.if_icmp .ge 29, 3) := by decide +kernel
theorem D9_forceOf_15 : decode m9_forceOf.2.1 15 = .ok (.iload_n 1, 1) := by decide +kernel
theorem D9_forceOf_16 : decode m9_forceOf.2.1 16 = .ok (.iload_n 3, 1) := by decide +kernel
theorem D9_forceOf_17 : decode m9_forceOf.2.1 17 = .ok (.ishr, 1) := by decide +kernel
theorem D9_forceOf_18 : decode m9_forceOf.2.1 18 = .ok (.iconst 1, 1) := by decide +kernel
theorem D9_forceOf_19 : decode m9_forceOf.2.1 19 = .ok (.iand, 1) := by decide +kernel
theorem D9_forceOf_20 : decode m9_forceOf.2.1 20 = .ok (.ifCond .eq 15, 3) := by decide +kernel
theorem D9_forceOf_23 : decode m9_forceOf.2.1 23 = .ok (.iload_n 2, 1) := by decide +kernel
theorem D9_forceOf_24 : decode m9_forceOf.2.1 24 = .ok (.aload_n 0, 1) := by decide +kernel
theorem D9_forceOf_25 : decode m9_forceOf.2.1 25 = .ok (.getfield 46, 3) := by decide +kernel
theorem D9_forceOf_28 : decode m9_forceOf.2.1 28 = .ok (.getfield 150, 3) := by decide +kernel
theorem D9_forceOf_31 : decode m9_forceOf.2.1 31 = .ok (.iload_n 3, 1) := by decide +kernel
theorem D9_forceOf_32 : decode m9_forceOf.2.1 32 = .ok (.iaload, 1) := by decide +kernel
theorem D9_forceOf_33 : decode m9_forceOf.2.1 33 = .ok (.iadd, 1) := by decide +kernel
theorem D9_forceOf_34 : decode m9_forceOf.2.1 34 = .ok (.istore_n 2, 1) := by decide +kernel
theorem D9_forceOf_35 : decode m9_forceOf.2.1 35 = .ok (.iinc 3 1, 3) := by decide +kernel
theorem D9_forceOf_38 : decode m9_forceOf.2.1 38 = .ok (.goto (-34), 3) := by decide +kernel
theorem D9_forceOf_41 : decode m9_forceOf.2.1 41 = .ok (.iload_n 2, 1) := by decide +kernel
theorem D9_forceOf_42 : decode m9_forceOf.2.1 42 = .ok (.ireturn, 1) := by decide +kernel
theorem D9_isPerson_0 : decode m9_isPerson.2.1 0 = .ok (.iload_n 1, 1) := by decide +kernel
theorem D9_isPerson_1 : decode m9_isPerson.2.1 1 = .ok (.iconst 0, 1) := by decide +kernel
theorem D9_isPerson_2 : decode m9_isPerson.2.1 2 = .ok (.aload_n 0, 1) := by decide +kernel
theorem D9_isPerson_3 : decode m9_isPerson.2.1 3 = .ok (.getfield 18, 3) := by decide +kernel
theorem D9_isPerson_6 : decode m9_isPerson.2.1 6 = .ok (.getfield 302, 3) := by decide +kernel
theorem D9_isPerson_9 : decode m9_isPerson.2.1 9 = .ok (.iconst 1, 1) := by decide +kernel
theorem D9_isPerson_10 : decode m9_isPerson.2.1 10 = .ok (.isub, 1) := by decide +kernel
theorem D9_isPerson_11 : decode m9_isPerson.2.1 11 = .ok (.invokestatic 239, 3) := by decide +kernel
theorem D9_isPerson_14 : decode m9_isPerson.2.1 14 = .ok (.ireturn, 1) := by decide +kernel
theorem D9_isBottle_0 : decode m9_isBottle.2.1 0 = .ok (.iload_n 1, 1) := by decide +kernel
theorem D9_isBottle_1 : decode m9_isBottle.2.1 1 = .ok (.iconst 0, 1) := by decide +kernel
theorem D9_isBottle_2 : decode m9_isBottle.2.1 2 = .ok (.aload_n 0, 1) := by decide +kernel
theorem D9_isBottle_3 : decode m9_isBottle.2.1 3 = .ok (.getfield 18, 3) := by decide +kernel
theorem D9_isBottle_6 : decode m9_isBottle.2.1 6 = .ok (.getfield 208, 3) := by decide +kernel
theorem D9_isBottle_9 : decode m9_isBottle.2.1 9 = .ok (.iconst 1, 1) := by decide +kernel
theorem D9_isBottle_10 : decode m9_isBottle.2.1 10 = .ok (.isub, 1) := by decide +kernel
theorem D9_isBottle_11 : decode m9_isBottle.2.1 11 = .ok (.invokestatic 239, 3) := by decide +kernel
theorem D9_isBottle_14 : decode m9_isBottle.2.1 14 = .ok (.ireturn, 1) := by decide +kernel
theorem D9_isLyingBottle_0 : decode m9_isLyingBottle.2.1 0 = .ok (.aload_n 0, 1) := by decide +kernel
theorem D9_isLyingBottle_1 : decode m9_isLyingBottle.2.1 1 = .ok (.iload_n 1, 1) := by decide +kernel
theorem D9_isLyingBottle_2 : decode m9_isLyingBottle.2.1 2 = .ok (.invokevirtual 130, 3) := by decide +kernel
theorem D9_isLyingBottle_5 : decode m9_isLyingBottle.2.1 5 = .ok (.ifCond .eq 18, 3) := by decide +kernel
theorem D9_isLyingBottle_8 : decode m9_isLyingBottle.2.1 8 = .ok (.aload_n 0, 1) := by decide +kernel
theorem D9_isLyingBottle_9 : decode m9_isLyingBottle.2.1 9 = .ok (.getfield 46, 3) := by decide +kernel
theorem D9_isLyingBottle_12 : decode m9_isLyingBottle.2.1 12 = .ok (.iload_n 1, 1) := by decide +kernel
theorem D9_isLyingBottle_13 : decode m9_isLyingBottle.2.1 13 = .ok (.invokevirtual 211, 3) := by decide +kernel
theorem D9_isLyingBottle_16 : decode m9_isLyingBottle.2.1 16 = .ok (.ifCond .eq 7, 3) := by decide +kernel
theorem D9_isLyingBottle_19 : decode m9_isLyingBottle.2.1 19 = .ok (.iconst 1, 1) := by decide +kernel
theorem D9_isLyingBottle_20 : decode m9_isLyingBottle.2.1 20 = .ok (.goto 4, 3) := by decide +kernel
theorem D9_isLyingBottle_23 : decode m9_isLyingBottle.2.1 23 = .ok (.iconst 0, 1) := by decide +kernel
theorem D9_isLyingBottle_24 : decode m9_isLyingBottle.2.1 24 = .ok (.ireturn, 1) := by decide +kernel
theorem D9_isNeed_0 : decode m9_isNeed.2.1 0 = .ok (.iload_n 1, 1) := by decide +kernel
theorem D9_isNeed_1 : decode m9_isNeed.2.1 1 = .ok (.iconst 0, 1) := by decide +kernel
theorem D9_isNeed_2 : decode m9_isNeed.2.1 2 = .ok (.aload_n 0, 1) := by decide +kernel
theorem D9_isNeed_3 : decode m9_isNeed.2.1 3 = .ok (.getfield 18, 3) := by decide +kernel
theorem D9_isNeed_6 : decode m9_isNeed.2.1 6 = .ok (.getfield 385, 3) := by decide +kernel
theorem D9_isNeed_9 : decode m9_isNeed.2.1 9 = .ok (.iconst 1, 1) := by decide +kernel
theorem D9_isNeed_10 : decode m9_isNeed.2.1 10 = .ok (.isub, 1) := by decide +kernel
theorem D9_isNeed_11 : decode m9_isNeed.2.1 11 = .ok (.invokestatic 239, 3) := by decide +kernel
theorem D9_isNeed_14 : decode m9_isNeed.2.1 14 = .ok (.ireturn, 1) := by decide +kernel
theorem D9_isBin_0 : decode m9_isBin.2.1 0 = .ok (.iload_n 0, 1) := by decide +kernel
theorem D9_isBin_1 : decode m9_isBin.2.1 1 = .ok (.iconst 0, 1) := by decide +kernel
theorem D9_isBin_2 : decode m9_isBin.2.1 2 = .ok (.iconst 5, 1) := by decide +kernel
theorem D9_isBin_3 : decode m9_isBin.2.1 3 = .ok (.invokestatic 239, 3) := by decide +kernel
theorem D9_isBin_6 : decode m9_isBin.2.1 6 = .ok (.ireturn, 1) := by decide +kernel
theorem D9_isForce_0 : decode m9_isForce.2.1 0 = .ok (.iload_n 0, 1) := by decide +kernel
theorem D9_isForce_1 : decode m9_isForce.2.1 1 = .ok (.iconst 0, 1) := by decide +kernel
theorem D9_isForce_2 : decode m9_isForce.2.1 2 = .ok (.sipush 199, 3) := by decide +kernel
theorem D9_isForce_5 : decode m9_isForce.2.1 5 = .ok (.invokestatic 239, 3) := by decide +kernel
theorem D9_isForce_8 : decode m9_isForce.2.1 8 = .ok (.ireturn, 1) := by decide +kernel
theorem D9_isAmong_0 : decode m9_isAmong.2.1 0 = .ok (.iload_n 0, 1) := by decide +kernel
theorem D9_isAmong_1 : decode m9_isAmong.2.1 1 = .ok (.iload_n 1, 1) := by decide +kernel
theorem D9_isAmong_2 : decode m9_isAmong.2.1 2 = .ok (.if_icmp .lt 12, 3) := by decide +kernel
theorem D9_isAmong_5 : decode m9_isAmong.2.1 5 = .ok (.iload_n 0, 1) := by decide +kernel
theorem D9_isAmong_6 : decode m9_isAmong.2.1 6 = .ok (.iload_n 2, 1) := by decide +kernel
theorem D9_isAmong_7 : decode m9_isAmong.2.1 7 = .ok (.if_icmp .gt 7, 3) := by decide +kernel
theorem D9_isAmong_10 : decode m9_isAmong.2.1 10 = .ok (.iconst 1, 1) := by decide +kernel
theorem D9_isAmong_11 : decode m9_isAmong.2.1 11 = .ok (.goto 4, 3) := by decide +kernel
theorem D9_isAmong_14 : decode m9_isAmong.2.1 14 = .ok (.iconst 0, 1) := by decide +kernel
theorem D9_isAmong_15 : decode m9_isAmong.2.1 15 = .ok (.ireturn, 1) := by decide +kernel
theorem DJ_bitCount_0 : decode mJ_bitCount.2.1 0 = .ok (.iload_n 0, 1) := by decide +kernel
theorem DJ_bitCount_1 : decode mJ_bitCount.2.1 1 = .ok (.iload_n 0, 1) := by decide +kernel
theorem DJ_bitCount_2 : decode mJ_bitCount.2.1 2 = .ok (.iconst 1, 1) := by decide +kernel
theorem DJ_bitCount_3 : decode mJ_bitCount.2.1 3 = .ok (.iushr, 1) := by decide +kernel
theorem DJ_bitCount_4 : decode mJ_bitCount.2.1 4 = .ok (.ldc_w 265, 3) := by decide +kernel
theorem DJ_bitCount_7 : decode mJ_bitCount.2.1 7 = .ok (.iand, 1) := by decide +kernel
theorem DJ_bitCount_8 : decode mJ_bitCount.2.1 8 = .ok (.isub, 1) := by decide +kernel
theorem DJ_bitCount_9 : decode mJ_bitCount.2.1 9 = .ok (.istore_n 0, 1) := by decide +kernel
theorem DJ_bitCount_10 : decode mJ_bitCount.2.1 10 = .ok (.iload_n 0, 1) := by decide +kernel
theorem DJ_bitCount_11 : decode mJ_bitCount.2.1 11 = .ok (.ldc_w 266, 3) := by decide +kernel
theorem DJ_bitCount_14 : decode mJ_bitCount.2.1 14 = .ok (.iand, 1) := by decide +kernel
theorem DJ_bitCount_15 : decode mJ_bitCount.2.1 15 = .ok (.iload_n 0, 1) := by decide +kernel
theorem DJ_bitCount_16 : decode mJ_bitCount.2.1 16 = .ok (.iconst 2, 1) := by decide +kernel
theorem DJ_bitCount_17 : decode mJ_bitCount.2.1 17 = .ok (.iushr, 1) := by decide +kernel
theorem DJ_bitCount_18 : decode mJ_bitCount.2.1 18 = .ok (.ldc_w 266, 3) := by decide +kernel
theorem DJ_bitCount_21 : decode mJ_bitCount.2.1 21 = .ok (.iand, 1) := by decide +kernel
theorem DJ_bitCount_22 : decode mJ_bitCount.2.1 22 = .ok (.iadd, 1) := by decide +kernel
theorem DJ_bitCount_23 : decode mJ_bitCount.2.1 23 = .ok (.istore_n 0, 1) := by decide +kernel
theorem DJ_bitCount_24 : decode mJ_bitCount.2.1 24 = .ok (.iload_n 0, 1) := by decide +kernel
theorem DJ_bitCount_25 : decode mJ_bitCount.2.1 25 = .ok (.iload_n 0, 1) := by decide +kernel
theorem DJ_bitCount_26 : decode mJ_bitCount.2.1 26 = .ok (.iconst 4, 1) := by decide +kernel
theorem DJ_bitCount_27 : decode mJ_bitCount.2.1 27 = .ok (.iushr, 1) := by decide +kernel
theorem DJ_bitCount_28 : decode mJ_bitCount.2.1 28 = .ok (.iadd, 1) := by decide +kernel
theorem DJ_bitCount_29 : decode mJ_bitCount.2.1 29 = .ok (.ldc_w 267, 3) := by decide +kernel
theorem DJ_bitCount_32 : decode mJ_bitCount.2.1 32 = .ok (.iand, 1) := by decide +kernel
theorem DJ_bitCount_33 : decode mJ_bitCount.2.1 33 = .ok (.istore_n 0, 1) := by decide +kernel
theorem DJ_bitCount_34 : decode mJ_bitCount.2.1 34 = .ok (.iload_n 0, 1) := by decide +kernel
theorem DJ_bitCount_35 : decode mJ_bitCount.2.1 35 = .ok (.iload_n 0, 1) := by decide +kernel
theorem DJ_bitCount_36 : decode mJ_bitCount.2.1 36 = .ok (.bipush 8, 2) := by decide +kernel
theorem DJ_bitCount_38 : decode mJ_bitCount.2.1 38 = .ok (.iushr, 1) := by decide +kernel
theorem DJ_bitCount_39 : decode mJ_bitCount.2.1 39 = .ok (.iadd, 1) := by decide +kernel
theorem DJ_bitCount_40 : decode mJ_bitCount.2.1 40 = .ok (.istore_n 0, 1) := by decide +kernel
theorem DJ_bitCount_41 : decode mJ_bitCount.2.1 41 = .ok (.iload_n 0, 1) := by decide +kernel
theorem DJ_bitCount_42 : decode mJ_bitCount.2.1 42 = .ok (.iload_n 0, 1) := by decide +kernel
theorem DJ_bitCount_43 : decode mJ_bitCount.2.1 43 = .ok (.bipush 16, 2) := by decide +kernel
theorem DJ_bitCount_45 : decode mJ_bitCount.2.1 45 = .ok (.iushr, 1) := by decide +kernel
theorem DJ_bitCount_46 : decode mJ_bitCount.2.1 46 = .ok (.iadd, 1) := by decide +kernel
theorem DJ_bitCount_47 : decode mJ_bitCount.2.1 47 = .ok (.istore_n 0, 1) := by decide +kernel
theorem DJ_bitCount_48 : decode mJ_bitCount.2.1 48 = .ok (.iload_n 0, 1) := by decide +kernel
theorem DJ_bitCount_49 : decode mJ_bitCount.2.1 49 = .ok (.bipush 63, 2) := by decide +kernel
theorem DJ_bitCount_51 : decode mJ_bitCount.2.1 51 = .ok (.iand, 1) := by decide +kernel
theorem DJ_bitCount_52 : decode mJ_bitCount.2.1 52 = .ok (.ireturn, 1) := by decide +kernel
theorem DJ_abs_0 : decode mJ_abs.2.1 0 = .ok (.iload_n 0, 1) := by decide +kernel
theorem DJ_abs_1 : decode mJ_abs.2.1 1 = .ok (.ifCond .ge 8, 3) := by decide +kernel
theorem DJ_abs_4 : decode mJ_abs.2.1 4 = .ok (.iload_n 0, 1) := by decide +kernel
theorem DJ_abs_5 : decode mJ_abs.2.1 5 = .ok (.ineg, 1) := by decide +kernel
theorem DJ_abs_6 : decode mJ_abs.2.1 6 = .ok (.goto 4, 3) := by decide +kernel
theorem DJ_abs_9 : decode mJ_abs.2.1 9 = .ok (.iload_n 0, 1) := by decide +kernel
theorem DJ_abs_10 : decode mJ_abs.2.1 10 = .ok (.ireturn, 1) := by decide +kernel
theorem DJ_abs2_0 : decode mJ_abs2.2.1 0 = .ok (.lload_n 0, 1) := by decide +kernel
theorem DJ_abs2_1 : decode mJ_abs2.2.1 1 = .ok (.lconst 0, 1) := by decide +kernel
theorem DJ_abs2_2 : decode mJ_abs2.2.1 2 = .ok (.lcmp, 1) := by decide +kernel
theorem DJ_abs2_3 : decode mJ_abs2.2.1 3 = .ok (.ifCond .ge 8, 3) := by decide +kernel
theorem DJ_abs2_6 : decode mJ_abs2.2.1 6 = .ok (.lload_n 0, 1) := by decide +kernel
theorem DJ_abs2_7 : decode mJ_abs2.2.1 7 = .ok (.lneg, 1) := by decide +kernel
theorem DJ_abs2_8 : decode mJ_abs2.2.1 8 = .ok (.goto 4, 3) := by decide +kernel
theorem DJ_abs2_11 : decode mJ_abs2.2.1 11 = .ok (.lload_n 0, 1) := by decide +kernel
theorem DJ_abs2_12 : decode mJ_abs2.2.1 12 = .ok (.lreturn, 1) := by decide +kernel
theorem DJ_max_0 : decode mJ_max.2.1 0 = .ok (.iload_n 0, 1) := by decide +kernel
theorem DJ_max_1 : decode mJ_max.2.1 1 = .ok (.iload_n 1, 1) := by decide +kernel
theorem DJ_max_2 : decode mJ_max.2.1 2 = .ok (.if_icmp .lt 7, 3) := by decide +kernel
theorem DJ_max_5 : decode mJ_max.2.1 5 = .ok (.iload_n 0, 1) := by decide +kernel
theorem DJ_max_6 : decode mJ_max.2.1 6 = .ok (.goto 4, 3) := by decide +kernel
theorem DJ_max_9 : decode mJ_max.2.1 9 = .ok (.iload_n 1, 1) := by decide +kernel
theorem DJ_max_10 : decode mJ_max.2.1 10 = .ok (.ireturn, 1) := by decide +kernel
theorem DJ_max2_0 : decode mJ_max2.2.1 0 = .ok (.lload_n 0, 1) := by decide +kernel
theorem DJ_max2_1 : decode mJ_max2.2.1 1 = .ok (.lload_n 2, 1) := by decide +kernel
theorem DJ_max2_2 : decode mJ_max2.2.1 2 = .ok (.lcmp, 1) := by decide +kernel
theorem DJ_max2_3 : decode mJ_max2.2.1 3 = .ok (.ifCond .lt 7, 3) := by decide +kernel
theorem DJ_max2_6 : decode mJ_max2.2.1 6 = .ok (.lload_n 0, 1) := by decide +kernel
theorem DJ_max2_7 : decode mJ_max2.2.1 7 = .ok (.goto 4, 3) := by decide +kernel
theorem DJ_max2_10 : decode mJ_max2.2.1 10 = .ok (.lload_n 2, 1) := by decide +kernel
theorem DJ_max2_11 : decode mJ_max2.2.1 11 = .ok (.lreturn, 1) := by decide +kernel
theorem DJ_min_0 : decode mJ_min.2.1 0 = .ok (.iload_n 0, 1) := by decide +kernel
theorem DJ_min_1 : decode mJ_min.2.1 1 = .ok (.iload_n 1, 1) := by decide +kernel
theorem DJ_min_2 : decode mJ_min.2.1 2 = .ok (.if_icmp .gt 7, 3) := by decide +kernel
theorem DJ_min_5 : decode mJ_min.2.1 5 = .ok (.iload_n 0, 1) := by decide +kernel
theorem DJ_min_6 : decode mJ_min.2.1 6 = .ok (.goto 4, 3) := by decide +kernel
theorem DJ_min_9 : decode mJ_min.2.1 9 = .ok (.iload_n 1, 1) := by decide +kernel
theorem DJ_min_10 : decode mJ_min.2.1 10 = .ok (.ireturn, 1) := by decide +kernel
theorem DJ_min2_0 : decode mJ_min2.2.1 0 = .ok (.lload_n 0, 1) := by decide +kernel
theorem DJ_min2_1 : decode mJ_min2.2.1 1 = .ok (.lload_n 2, 1) := by decide +kernel
theorem DJ_min2_2 : decode mJ_min2.2.1 2 = .ok (.lcmp, 1) := by decide +kernel
theorem DJ_min2_3 : decode mJ_min2.2.1 3 = .ok (.ifCond .gt 7, 3) := by decide +kernel
theorem DJ_min2_6 : decode mJ_min2.2.1 6 = .ok (.lload_n 0, 1) := by decide +kernel
theorem DJ_min2_7 : decode mJ_min2.2.1 7 = .ok (.goto 4, 3) := by decide +kernel
theorem DJ_min2_10 : decode mJ_min2.2.1 10 = .ok (.lload_n 2, 1) := by decide +kernel
theorem DJ_min2_11 : decode mJ_min2.2.1 11 = .ok (.lreturn, 1) := by decide +kernel
theorem DJ_length_0 : decode mJ_length.2.1 0 = .ok (.aload_n 0, 1) := by decide +kernel
theorem DJ_length_1 : decode mJ_length.2.1 1 = .ok (.getfield 9, 3) := by decide +kernel
theorem DJ_length_4 : decode mJ_length.2.1 4 = .ok (.arraylength, 1) := by decide +kernel
theorem DJ_length_5 : decode mJ_length.2.1 5 = .ok (.aload_n 0, 1) := by decide +kernel
theorem DJ_length_6 : decode mJ_length.2.1 6 = .ok (.invokevirtual 335, 3) := by decide +kernel
theorem DJ_length_9 : decode mJ_length.2.1 9 = .ok (.ishr, 1) := by decide +kernel
theorem DJ_length_10 : decode mJ_length.2.1 10 = .ok (.ireturn, 1) := by decide +kernel
theorem DJ_charAt_0 : decode mJ_charAt.2.1 0 = .ok (.aload_n 0, 1) := by decide +kernel
theorem DJ_charAt_1 : decode mJ_charAt.2.1 1 = .ok (.invokevirtual 492, 3) := by decide +kernel
theorem DJ_charAt_4 : decode mJ_charAt.2.1 4 = .ok (.ifCond .eq 12, 3) := by decide +kernel
theorem DJ_charAt_7 : decode mJ_charAt.2.1 7 = .ok (.aload_n 0, 1) := by decide +kernel
theorem DJ_charAt_8 : decode mJ_charAt.2.1 8 = .ok (.getfield 9, 3) := by decide +kernel
theorem DJ_charAt_11 : decode mJ_charAt.2.1 11 = .ok (.iload_n 1, 1) := by decide +kernel
theorem DJ_charAt_12 : decode mJ_charAt.2.1 12 = .ok (.invokestatic 495, 3) := by decide +kernel
theorem DJ_charAt_15 : decode mJ_charAt.2.1 15 = .ok (.ireturn, 1) := by decide +kernel
theorem DJ_charAt_16 : decode mJ_charAt.2.1 16 = .ok (.aload_n 0, 1) := by decide +kernel
theorem DJ_charAt_17 : decode mJ_charAt.2.1 17 = .ok (.getfield 9, 3) := by decide +kernel
theorem DJ_charAt_20 : decode mJ_charAt.2.1 20 = .ok (.iload_n 1, 1) := by decide +kernel
theorem DJ_charAt_21 : decode mJ_charAt.2.1 21 = .ok (.invokestatic 498, 3) := by decide +kernel
theorem DJ_charAt_24 : decode mJ_charAt.2.1 24 = .ok (.ireturn, 1) := by decide +kernel
theorem DJ_coder_0 : decode mJ_coder.2.1 0 = .ok (.getstatic 38, 3) := by decide +kernel
theorem DJ_coder_3 : decode mJ_coder.2.1 3 = .ok (.ifCond .eq 10, 3) := by decide +kernel
theorem DJ_coder_6 : decode mJ_coder.2.1 6 = .ok (.aload_n 0, 1) := by decide +kernel
theorem DJ_coder_7 : decode mJ_coder.2.1 7 = .ok (.getfield 15, 3) := by decide +kernel
theorem DJ_coder_10 : decode mJ_coder.2.1 10 = .ok (.goto 4, 3) := by decide +kernel
theorem DJ_coder_13 : decode mJ_coder.2.1 13 = .ok (.iconst 1, 1) := by decide +kernel
theorem DJ_coder_14 : decode mJ_coder.2.1 14 = .ok (.ireturn, 1) := by decide +kernel
theorem DJ_isLatin1_0 : decode mJ_isLatin1.2.1 0 = .ok (.getstatic 38, 3) := by decide +kernel
theorem DJ_isLatin1_3 : decode mJ_isLatin1.2.1 3 = .ok (.ifCond .eq 14, 3) := by decide +kernel
theorem DJ_isLatin1_6 : decode mJ_isLatin1.2.1 6 = .ok (.aload_n 0, 1) := by decide +kernel
theorem DJ_isLatin1_7 : decode mJ_isLatin1.2.1 7 = .ok (.getfield 15, 3) := by decide +kernel
theorem DJ_isLatin1_10 : decode mJ_isLatin1.2.1 10 = .ok (.ifCond .ne 7, 3) := by decide +kernel
theorem DJ_isLatin1_13 : decode mJ_isLatin1.2.1 13 = .ok (.iconst 1, 1) := by decide +kernel
theorem DJ_isLatin1_14 : decode mJ_isLatin1.2.1 14 = .ok (.goto 4, 3) := by decide +kernel
theorem DJ_isLatin1_17 : decode mJ_isLatin1.2.1 17 = .ok (.iconst 0, 1) := by decide +kernel
theorem DJ_isLatin1_18 : decode mJ_isLatin1.2.1 18 = .ok (.ireturn, 1) := by decide +kernel
theorem DJ_checkIndex_0 : decode mJ_checkIndex.2.1 0 = .ok (.iload_n 0, 1) := by decide +kernel
theorem DJ_checkIndex_1 : decode mJ_checkIndex.2.1 1 = .ok (.iload_n 1, 1) := by decide +kernel
theorem DJ_checkIndex_2 : decode mJ_checkIndex.2.1 2 = .ok (.getstatic 1053, 3) := by decide +kernel
theorem DJ_checkIndex_5 : decode mJ_checkIndex.2.1 5 = .ok (.invokestatic 1059, 3) := by decide +kernel
theorem DJ_checkIndex_8 : decode mJ_checkIndex.2.1 8 = .ok (.pop, 1) := by decide +kernel
theorem DJ_checkIndex_9 : decode mJ_checkIndex.2.1 9 = .ok (.return_, 1) := by decide +kernel
theorem DJ_charAt2_0 : decode mJ_charAt2.2.1 0 = .ok (.iload_n 1, 1) := by decide +kernel
theorem DJ_charAt2_1 : decode mJ_charAt2.2.1 1 = .ok (.aload_n 0, 1) := by decide +kernel
theorem DJ_charAt2_2 : decode mJ_charAt2.2.1 2 = .ok (.arraylength, 1) := by decide +kernel
theorem DJ_charAt2_3 : decode mJ_charAt2.2.1 3 = .ok (.invokestatic 9, 3) := by decide +kernel
theorem DJ_charAt2_6 : decode mJ_charAt2.2.1 6 = .ok (.aload_n 0, 1) := by decide +kernel
theorem DJ_charAt2_7 : decode mJ_charAt2.2.1 7 = .ok (.iload_n 1, 1) := by decide +kernel
theorem DJ_charAt2_8 : decode mJ_charAt2.2.1 8 = .ok (.baload, 1) := by decide +kernel
theorem DJ_charAt2_9 : decode mJ_charAt2.2.1 9 = .ok (.sipush 255, 3) := by decide +kernel
theorem DJ_charAt2_12 : decode mJ_charAt2.2.1 12 = .ok (.iand, 1) := by decide +kernel
theorem DJ_charAt2_13 : decode mJ_charAt2.2.1 13 = .ok (.i2c, 1) := by decide +kernel
theorem DJ_charAt2_14 : decode mJ_charAt2.2.1 14 = .ok (.ireturn, 1) := by decide +kernel
theorem DJ_fill_0 : decode mJ_fill.2.1 0 = .ok (.iconst 0, 1) := by decide +kernel
theorem DJ_fill_1 : decode mJ_fill.2.1 1 = .ok (.istore_n 2, 1) := by decide +kernel
theorem DJ_fill_2 : decode mJ_fill.2.1 2 = .ok (.aload_n 0, 1) := by decide +kernel
theorem DJ_fill_3 : decode mJ_fill.2.1 3 = .ok (.arraylength, 1) := by decide +kernel
theorem DJ_fill_4 : decode mJ_fill.2.1 4 = .ok (.istore_n 3, 1) := by decide +kernel
theorem DJ_fill_5 : decode mJ_fill.2.1 5 = .ok (.iload_n 2, 1) := by decide +kernel
theorem DJ_fill_6 : decode mJ_fill.2.1 6 = .ok (.iload_n 3, 1) := by decide +kernel
theorem DJ_fill_7 : decode mJ_fill.2.1 7 = .ok (.if_icmp .ge 13, 3) := by decide +kernel
theorem DJ_fill_10 : decode mJ_fill.2.1 10 = .ok (.aload_n 0, 1) := by decide +kernel
theorem DJ_fill_11 : decode mJ_fill.2.1 11 = .ok (.iload_n 2, 1) := by decide +kernel
theorem DJ_fill_12 : decode mJ_fill.2.1 12 = .ok (.iload_n 1, 1) := by decide +kernel
theorem DJ_fill_13 : decode mJ_fill.2.1 13 = .ok (.iastore, 1) := by decide +kernel
theorem DJ_fill_14 : decode mJ_fill.2.1 14 = .ok (.iinc 2 1, 3) := by decide +kernel
theorem DJ_fill_17 : decode mJ_fill.2.1 17 = .ok (.goto (-12), 3) := by decide +kernel
theorem DJ_fill_20 : decode mJ_fill.2.1 20 = .ok (.return_, 1) := by decide +kernel
theorem DJ_checkIndex3_0 : decode mJ_checkIndex3.2.1 0 = .ok (.iload_n 0, 1) := by decide +kernel
theorem DJ_checkIndex3_1 : decode mJ_checkIndex3.2.1 1 = .ok (.ifCond .lt 8, 3) := by decide +kernel
theorem DJ_checkIndex3_4 : decode mJ_checkIndex3.2.1 4 = .ok (.iload_n 0, 1) := by decide +kernel
theorem DJ_checkIndex3_5 : decode mJ_checkIndex3.2.1 5 = .ok (.iload_n 1, 1) := by decide +kernel
theorem DJ_checkIndex3_6 : decode mJ_checkIndex3.2.1 6 = .ok (.if_icmp .lt 10, 3) := by decide +kernel
theorem DJ_checkIndex3_9 : decode mJ_checkIndex3.2.1 9 = .ok (.aload_n 2, 1) := by decide +kernel
theorem DJ_checkIndex3_10 : decode mJ_checkIndex3.2.1 10 = .ok (.iload_n 0, 1) := by decide +kernel
theorem DJ_checkIndex3_11 : decode mJ_checkIndex3.2.1 11 = .ok (.iload_n 1, 1) := by decide +kernel
theorem DJ_checkIndex3_12 : decode mJ_checkIndex3.2.1 12 = .ok (.invokestatic 95, 3) := by decide +kernel
theorem DJ_checkIndex3_15 : decode mJ_checkIndex3.2.1 15 = .ok (.athrow, 1) := by decide +kernel
theorem DJ_checkIndex3_16 : decode mJ_checkIndex3.2.1 16 = .ok (.iload_n 0, 1) := by decide +kernel
theorem DJ_checkIndex3_17 : decode mJ_checkIndex3.2.1 17 = .ok (.ireturn, 1) := by decide +kernel
