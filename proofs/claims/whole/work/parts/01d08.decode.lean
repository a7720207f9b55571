theorem d_mo_behindEleven_28 : decode bc_mo_behindEleven 28 = .ok (.sipush 128, 3) := by decide +kernel
theorem d_mo_behindEleven_31 : decode bc_mo_behindEleven 31 = .ok (.sipush 191, 3) := by decide +kernel
theorem d_mo_behindEleven_34 : decode bc_mo_behindEleven 34 = .ok (.invokestatic 44, 3) := by decide +kernel
theorem d_mo_behindEleven_37 : decode bc_mo_behindEleven 37 = .ok (.ifCond .eq 33, 3) := by decide +kernel
theorem d_mo_behindEleven_40 : decode bc_mo_behindEleven 40 = .ok (.iload_n 3, 1) := by decide +kernel
theorem d_mo_behindEleven_41 : decode bc_mo_behindEleven 41 = .ok (.iconst 3, 1) := by decide +kernel
theorem d_mo_behindEleven_42 : decode bc_mo_behindEleven 42 = .ok (.if_icmp .eq 9, 3) := by decide +kernel
theorem d_mo_behindEleven_45 : decode bc_mo_behindEleven 45 = .ok (.iload_n 3, 1) := by decide +kernel
theorem d_mo_behindEleven_46 : decode bc_mo_behindEleven 46 = .ok (.bipush 12, 2) := by decide +kernel
theorem d_mo_behindEleven_48 : decode bc_mo_behindEleven 48 = .ok (.if_icmp .ne 22, 3) := by decide +kernel
theorem d_mo_behindEleven_51 : decode bc_mo_behindEleven 51 = .ok (.aload_n 0, 1) := by decide +kernel
theorem d_mo_behindEleven_52 : decode bc_mo_behindEleven 52 = .ok (.iconst 0, 1) := by decide +kernel
theorem d_mo_behindEleven_53 : decode bc_mo_behindEleven 53 = .ok (.iload_n 3, 1) := by decide +kernel
theorem d_mo_behindEleven_54 : decode bc_mo_behindEleven 54 = .ok (.iconst 3, 1) := by decide +kernel
theorem d_mo_behindEleven_55 : decode bc_mo_behindEleven 55 = .ok (.if_icmp .ne 7, 3) := by decide +kernel
theorem d_mo_behindEleven_58 : decode bc_mo_behindEleven 58 = .ok (.iconst 4, 1) := by decide +kernel
theorem d_mo_behindEleven_59 : decode bc_mo_behindEleven 59 = .ok (.goto 4, 3) := by decide +kernel
theorem d_mo_behindEleven_62 : decode bc_mo_behindEleven 62 = .ok (.iconst 5, 1) := by decide +kernel
theorem d_mo_behindEleven_63 : decode bc_mo_behindEleven 63 = .ok (.iload_n 2, 1) := by decide +kernel
theorem d_mo_behindEleven_64 : decode bc_mo_behindEleven 64 = .ok (.invokevirtual 133, 3) := by decide +kernel
theorem d_mo_behindEleven_67 : decode bc_mo_behindEleven 67 = .ok (.goto 8, 3) := by decide +kernel
theorem d_mo_behindEleven_70 : decode bc_mo_behindEleven 70 = .ok (.aload_n 0, 1) := by decide +kernel
theorem d_mo_behindEleven_71 : decode bc_mo_behindEleven 71 = .ok (.iconst 1, 1) := by decide +kernel
theorem d_mo_behindEleven_72 : decode bc_mo_behindEleven 72 = .ok (.putfield 56, 3) := by decide +kernel
theorem d_mo_behindEleven_75 : decode bc_mo_behindEleven 75 = .ok (.return_, 1) := by decide +kernel
theorem d_mo_instruct_0 : decode bc_mo_instruct 0 = .ok (.iconst 0, 1) := by decide +kernel
theorem d_mo_instruct_1 : decode bc_mo_instruct 1 = .ok (.istore_n 1, 1) := by decide +kernel
theorem d_mo_instruct_2 : decode bc_mo_instruct 2 = .ok (.iload_n 1, 1) := by decide +kernel
theorem d_mo_instruct_3 : decode bc_mo_instruct 3 = .ok (.bipush 9, 2) := by decide +kernel
theorem d_mo_instruct_5 : decode bc_mo_instruct 5 = .ok (.if_icmp .ge 21, 3) := by decide +kernel
theorem d_mo_instruct_8 : decode bc_mo_instruct 8 = .ok (.aload_n 0, 1) := by decide +kernel
theorem d_mo_instruct_9 : decode bc_mo_instruct 9 = .ok (.getfield 16, 3) := by decide +kernel
theorem d_mo_instruct_12 : decode bc_mo_instruct 12 = .ok (.iload_n 1, 1) := by decide +kernel
theorem d_mo_instruct_13 : decode bc_mo_instruct 13 = .ok (.aload_n 0, 1) := by decide +kernel
theorem d_mo_instruct_14 : decode bc_mo_instruct 14 = .ok (.getfield 13, 3) := by decide +kernel
theorem d_mo_instruct_17 : decode bc_mo_instruct 17 = .ok (.iload_n 1, 1) := by decide +kernel
theorem d_mo_instruct_18 : decode bc_mo_instruct 18 = .ok (.iaload, 1) := by decide +kernel
theorem d_mo_instruct_19 : decode bc_mo_instruct 19 = .ok (.iastore, 1) := by decide +kernel
theorem d_mo_instruct_20 : decode bc_mo_instruct 20 = .ok (.iinc 1 1, 3) := by decide +kernel
theorem d_mo_instruct_23 : decode bc_mo_instruct 23 = .ok (.goto (-21), 3) := by decide +kernel
theorem d_mo_instruct_26 : decode bc_mo_instruct 26 = .ok (.aload_n 0, 1) := by decide +kernel
theorem d_mo_instruct_27 : decode bc_mo_instruct 27 = .ok (.iconst 0, 1) := by decide +kernel
theorem d_mo_instruct_28 : decode bc_mo_instruct 28 = .ok (.putfield 56, 3) := by decide +kernel
theorem d_mo_instruct_31 : decode bc_mo_instruct 31 = .ok (.aload_n 0, 1) := by decide +kernel
theorem d_mo_instruct_32 : decode bc_mo_instruct 32 = .ok (.invokevirtual 31, 3) := by decide +kernel
theorem d_mo_instruct_35 : decode bc_mo_instruct 35 = .ok (.istore_n 1, 1) := by decide +kernel
theorem d_mo_instruct_36 : decode bc_mo_instruct 36 = .ok (.iload_n 1, 1) := by decide +kernel
theorem d_mo_instruct_37 : decode bc_mo_instruct 37 = .ok (.bipush 16, 2) := by decide +kernel
theorem d_mo_instruct_39 : decode bc_mo_instruct 39 = .ok (.if_icmp .ne 14, 3) := by decide +kernel
theorem d_mo_instruct_42 : decode bc_mo_instruct 42 = .ok (.aload_n 0, 1) := by decide +kernel
theorem d_mo_instruct_43 : decode bc_mo_instruct 43 = .ok (.aload_n 0, 1) := by decide +kernel
theorem d_mo_instruct_44 : decode bc_mo_instruct 44 = .ok (.invokevirtual 31, 3) := by decide +kernel
theorem d_mo_instruct_47 : decode bc_mo_instruct 47 = .ok (.invokevirtual 196, 3) := by decide +kernel
theorem d_mo_instruct_50 : decode bc_mo_instruct 50 = .ok (.goto 83, 3) := by decide +kernel
theorem d_mo_instruct_53 : decode bc_mo_instruct 53 = .ok (.iload_n 1, 1) := by decide +kernel
theorem d_mo_instruct_54 : decode bc_mo_instruct 54 = .ok (.bipush 17, 2) := by decide +kernel
theorem d_mo_instruct_56 : decode bc_mo_instruct 56 = .ok (.if_icmp .ne 14, 3) := by decide +kernel
theorem d_mo_instruct_59 : decode bc_mo_instruct 59 = .ok (.aload_n 0, 1) := by decide +kernel
theorem d_mo_instruct_60 : decode bc_mo_instruct 60 = .ok (.aload_n 0, 1) := by decide +kernel
theorem d_mo_instruct_61 : decode bc_mo_instruct 61 = .ok (.invokevirtual 31, 3) := by decide +kernel
theorem d_mo_instruct_64 : decode bc_mo_instruct 64 = .ok (.invokevirtual 199, 3) := by decide +kernel
theorem d_mo_instruct_67 : decode bc_mo_instruct 67 = .ok (.goto 66, 3) := by decide +kernel
theorem d_mo_instruct_70 : decode bc_mo_instruct 70 = .ok (.iload_n 1, 1) := by decide +kernel
theorem d_mo_instruct_71 : decode bc_mo_instruct 71 = .ok (.sipush 128, 3) := by decide +kernel
theorem d_mo_instruct_74 : decode bc_mo_instruct 74 = .ok (.if_icmp .lt 11, 3) := by decide +kernel
theorem d_mo_instruct_77 : decode bc_mo_instruct 77 = .ok (.aload_n 0, 1) := by decide +kernel
theorem d_mo_instruct_78 : decode bc_mo_instruct 78 = .ok (.iload_n 1, 1) := by decide +kernel
theorem d_mo_instruct_79 : decode bc_mo_instruct 79 = .ok (.invokevirtual 202, 3) := by decide +kernel
theorem d_mo_instruct_82 : decode bc_mo_instruct 82 = .ok (.goto 51, 3) := by decide +kernel
theorem d_mo_instruct_85 : decode bc_mo_instruct 85 = .ok (.iload_n 1, 1) := by decide +kernel
theorem d_mo_instruct_86 : decode bc_mo_instruct 86 = .ok (.bipush 16, 2) := by decide +kernel
theorem d_mo_instruct_88 : decode bc_mo_instruct 88 = .ok (.if_icmp .lt 9, 3) := by decide +kernel
theorem d_mo_instruct_91 : decode bc_mo_instruct 91 = .ok (.iload_n 1, 1) := by decide +kernel
theorem d_mo_instruct_92 : decode bc_mo_instruct 92 = .ok (.bipush 64, 2) := by decide +kernel
theorem d_mo_instruct_94 : decode bc_mo_instruct 94 = .ok (.if_icmp .lt 11, 3) := by decide +kernel
theorem d_mo_instruct_97 : decode bc_mo_instruct 97 = .ok (.aload_n 0, 1) := by decide +kernel
theorem d_mo_instruct_98 : decode bc_mo_instruct 98 = .ok (.iload_n 1, 1) := by decide +kernel
theorem d_mo_instruct_99 : decode bc_mo_instruct 99 = .ok (.invokevirtual 205, 3) := by decide +kernel
theorem d_mo_instruct_102 : decode bc_mo_instruct 102 = .ok (.goto 31, 3) := by decide +kernel
theorem d_mo_instruct_105 : decode bc_mo_instruct 105 = .ok (.iload_n 1, 1) := by decide +kernel
theorem d_mo_instruct_106 : decode bc_mo_instruct 106 = .ok (.bipush 32, 2) := by decide +kernel
theorem d_mo_instruct_108 : decode bc_mo_instruct 108 = .ok (.bipush 47, 2) := by decide +kernel
theorem d_mo_instruct_110 : decode bc_mo_instruct 110 = .ok (.invokestatic 44, 3) := by decide +kernel
theorem d_mo_instruct_113 : decode bc_mo_instruct 113 = .ok (.ifCond .eq 15, 3) := by decide +kernel
theorem d_mo_instruct_116 : decode bc_mo_instruct 116 = .ok (.aload_n 0, 1) := by decide +kernel
theorem d_mo_instruct_117 : decode bc_mo_instruct 117 = .ok (.iload_n 1, 1) := by decide +kernel
theorem d_mo_instruct_118 : decode bc_mo_instruct 118 = .ok (.bipush 15, 2) := by decide +kernel
theorem d_mo_instruct_120 : decode bc_mo_instruct 120 = .ok (.iand, 1) := by decide +kernel
theorem d_mo_instruct_121 : decode bc_mo_instruct 121 = .ok (.iconst 0, 1) := by decide +kernel
theorem d_mo_instruct_122 : decode bc_mo_instruct 122 = .ok (.invokevirtual 168, 3) := by decide +kernel
theorem d_mo_instruct_125 : decode bc_mo_instruct 125 = .ok (.goto 8, 3) := by decide +kernel
theorem d_mo_instruct_128 : decode bc_mo_instruct 128 = .ok (.aload_n 0, 1) := by decide +kernel
theorem d_mo_instruct_129 : decode bc_mo_instruct 129 = .ok (.iload_n 1, 1) := by decide +kernel
theorem d_mo_instruct_130 : decode bc_mo_instruct 130 = .ok (.invokevirtual 208, 3) := by decide +kernel
theorem d_mo_instruct_133 : decode bc_mo_instruct 133 = .ok (.iconst 0, 1) := by decide +kernel
theorem d_mo_instruct_134 : decode bc_mo_instruct 134 = .ok (.istore_n 2, 1) := by decide +kernel
theorem d_mo_instruct_135 : decode bc_mo_instruct 135 = .ok (.iload_n 2, 1) := by decide +kernel
theorem d_mo_instruct_136 : decode bc_mo_instruct 136 = .ok (.bipush 9, 2) := by decide +kernel
theorem d_mo_instruct_138 : decode bc_mo_instruct 138 = .ok (.if_icmp .ge 28, 3) := by decide +kernel
theorem d_mo_instruct_141 : decode bc_mo_instruct 141 = .ok (.aload_n 0, 1) := by decide +kernel
theorem d_mo_instruct_142 : decode bc_mo_instruct 142 = .ok (.getfield 56, 3) := by decide +kernel
theorem d_mo_instruct_145 : decode bc_mo_instruct 145 = .ok (.ifCond .eq 21, 3) := by decide +kernel
theorem d_mo_instruct_148 : decode bc_mo_instruct 148 = .ok (.aload_n 0, 1) := by decide +kernel
theorem d_mo_instruct_149 : decode bc_mo_instruct 149 = .ok (.getfield 13, 3) := by decide +kernel
theorem d_mo_instruct_152 : decode bc_mo_instruct 152 = .ok (.iload_n 2, 1) := by decide +kernel
theorem d_mo_instruct_153 : decode bc_mo_instruct 153 = .ok (.aload_n 0, 1) := by decide +kernel
theorem d_mo_instruct_154 : decode bc_mo_instruct 154 = .ok (.getfield 16, 3) := by decide +kernel
theorem d_mo_instruct_157 : decode bc_mo_instruct 157 = .ok (.iload_n 2, 1) := by decide +kernel
theorem d_mo_instruct_158 : decode bc_mo_instruct 158 = .ok (.iaload, 1) := by decide +kernel
theorem d_mo_instruct_159 : decode bc_mo_instruct 159 = .ok (.iastore, 1) := by decide +kernel
theorem d_mo_instruct_160 : decode bc_mo_instruct 160 = .ok (.iinc 2 1, 3) := by decide +kernel
theorem d_mo_instruct_163 : decode bc_mo_instruct 163 = .ok (.goto (-28), 3) := by decide +kernel
theorem d_mo_instruct_166 : decode bc_mo_instruct 166 = .ok (.aload_n 0, 1) := by decide +kernel
theorem d_mo_instruct_167 : decode bc_mo_instruct 167 = .ok (.getfield 56, 3) := by decide +kernel
theorem d_mo_instruct_170 : decode bc_mo_instruct 170 = .ok (.ifCond .ne 7, 3) := by decide +kernel
theorem d_mo_instruct_173 : decode bc_mo_instruct 173 = .ok (.iconst 1, 1) := by decide +kernel
theorem d_mo_instruct_174 : decode bc_mo_instruct 174 = .ok (.goto 4, 3) := by decide +kernel
theorem d_mo_instruct_177 : decode bc_mo_instruct 177 = .ok (.iconst 0, 1) := by decide +kernel
theorem d_mo_instruct_178 : decode bc_mo_instruct 178 = .ok (.ireturn, 1) := by decide +kernel
theorem d_mo_interrupt_0 : decode bc_mo_interrupt 0 = .ok (.aload_n 0, 1) := by decide +kernel
theorem d_mo_interrupt_1 : decode bc_mo_interrupt 1 = .ok (.iload_n 1, 1) := by decide +kernel
theorem d_mo_interrupt_2 : decode bc_mo_interrupt 2 = .ok (.ifCond .ne 7, 3) := by decide +kernel
theorem d_mo_interrupt_5 : decode bc_mo_interrupt 5 = .ok (.iconst 0, 1) := by decide +kernel
theorem d_mo_interrupt_6 : decode bc_mo_interrupt 6 = .ok (.goto 7, 3) := by decide +kernel
theorem d_mo_interrupt_9 : decode bc_mo_interrupt 9 = .ok (.aload_n 0, 1) := by decide +kernel
theorem d_mo_interrupt_10 : decode bc_mo_interrupt 10 = .ok (.getfield 211, 3) := by decide +kernel
theorem d_mo_interrupt_13 : decode bc_mo_interrupt 13 = .ok (.putfield 211, 3) := by decide +kernel
theorem d_mo_interrupt_16 : decode bc_mo_interrupt 16 = .ok (.aload_n 0, 1) := by decide +kernel
theorem d_mo_interrupt_17 : decode bc_mo_interrupt 17 = .ok (.getfield 164, 3) := by decide +kernel
theorem d_mo_interrupt_20 : decode bc_mo_interrupt 20 = .ok (.iconst 2, 1) := by decide +kernel
theorem d_mo_interrupt_21 : decode bc_mo_interrupt 21 = .ok (.if_icmp .eq 31, 3) := by decide +kernel
theorem d_mo_interrupt_24 : decode bc_mo_interrupt 24 = .ok (.iload_n 1, 1) := by decide +kernel
theorem d_mo_interrupt_25 : decode bc_mo_interrupt 25 = .ok (.iconst 1, 1) := by decide +kernel
theorem d_mo_interrupt_26 : decode bc_mo_interrupt 26 = .ok (.if_icmp .ne 22, 3) := by decide +kernel
theorem d_mo_interrupt_29 : decode bc_mo_interrupt 29 = .ok (.aload_n 0, 1) := by decide +kernel
theorem d_mo_interrupt_30 : decode bc_mo_interrupt 30 = .ok (.sipush 128, 3) := by decide +kernel
theorem d_mo_interrupt_33 : decode bc_mo_interrupt 33 = .ok (.iconst 0, 1) := by decide +kernel
theorem d_mo_interrupt_34 : decode bc_mo_interrupt 34 = .ok (.invokevirtual 36, 3) := by decide +kernel
theorem d_mo_interrupt_37 : decode bc_mo_interrupt 37 = .ok (.aload_n 0, 1) := by decide +kernel
theorem d_mo_interrupt_38 : decode bc_mo_interrupt 38 = .ok (.iconst 5, 1) := by decide +kernel
theorem d_mo_interrupt_39 : decode bc_mo_interrupt 39 = .ok (.sipush 129, 3) := by decide +kernel
theorem d_mo_interrupt_42 : decode bc_mo_interrupt 42 = .ok (.invokevirtual 155, 3) := by decide +kernel
theorem d_mo_interrupt_45 : decode bc_mo_interrupt 45 = .ok (.goto 7, 3) := by decide +kernel
theorem d_mo_interrupt_48 : decode bc_mo_interrupt 48 = .ok (.aload_n 0, 1) := by decide +kernel
theorem d_mo_interrupt_49 : decode bc_mo_interrupt 49 = .ok (.invokevirtual 158, 3) := by decide +kernel
theorem d_mo_interrupt_52 : decode bc_mo_interrupt 52 = .ok (.aload_n 0, 1) := by decide +kernel
theorem d_mo_interrupt_53 : decode bc_mo_interrupt 53 = .ok (.getfield 13, 3) := by decide +kernel
theorem d_mo_interrupt_56 : decode bc_mo_interrupt 56 = .ok (.bipush 8, 2) := by decide +kernel
theorem d_mo_interrupt_58 : decode bc_mo_interrupt 58 = .ok (.aload_n 0, 1) := by decide +kernel
theorem d_mo_interrupt_59 : decode bc_mo_interrupt 59 = .ok (.getfield 13, 3) := by decide +kernel
theorem d_mo_interrupt_62 : decode bc_mo_interrupt 62 = .ok (.bipush 8, 2) := by decide +kernel
theorem d_mo_interrupt_64 : decode bc_mo_interrupt 64 = .ok (.iaload, 1) := by decide +kernel
theorem d_mo_interrupt_65 : decode bc_mo_interrupt 65 = .ok (.bipush 16, 2) := by decide +kernel
theorem d_mo_interrupt_67 : decode bc_mo_interrupt 67 = .ok (.ior, 1) := by decide +kernel
theorem d_mo_interrupt_68 : decode bc_mo_interrupt 68 = .ok (.iload_n 1, 1) := by decide +kernel
theorem d_mo_interrupt_69 : decode bc_mo_interrupt 69 = .ok (.iconst 2, 1) := by decide +kernel
theorem d_mo_interrupt_70 : decode bc_mo_interrupt 70 = .ok (.if_icmp .ge 8, 3) := by decide +kernel
theorem d_mo_interrupt_73 : decode bc_mo_interrupt 73 = .ok (.bipush 64, 2) := by decide +kernel
theorem d_mo_interrupt_75 : decode bc_mo_interrupt 75 = .ok (.goto 4, 3) := by decide +kernel
theorem d_mo_interrupt_78 : decode bc_mo_interrupt 78 = .ok (.iconst 0, 1) := by decide +kernel
theorem d_mo_interrupt_79 : decode bc_mo_interrupt 79 = .ok (.ior, 1) := by decide +kernel
theorem d_mo_interrupt_80 : decode bc_mo_interrupt 80 = .ok (.iastore, 1) := by decide +kernel
theorem d_mo_interrupt_81 : decode bc_mo_interrupt 81 = .ok (.aload_n 0, 1) := by decide +kernel
theorem d_mo_interrupt_82 : decode bc_mo_interrupt 82 = .ok (.getfield 13, 3) := by decide +kernel
theorem d_mo_interrupt_85 : decode bc_mo_interrupt 85 = .ok (.bipush 6, 2) := by decide +kernel
theorem d_mo_interrupt_87 : decode bc_mo_interrupt 87 = .ok (.aload_n 0, 1) := by decide +kernel
theorem d_mo_interrupt_88 : decode bc_mo_interrupt 88 = .ok (.iload_n 1, 1) := by decide +kernel
theorem d_mo_interrupt_89 : decode bc_mo_interrupt 89 = .ok (.ifCond .ne 8, 3) := by decide +kernel
theorem d_mo_interrupt_92 : decode bc_mo_interrupt 92 = .ok (.ldc 214, 2) := by decide +kernel
theorem d_mo_interrupt_94 : decode bc_mo_interrupt 94 = .ok (.goto 15, 3) := by decide +kernel
theorem d_mo_interrupt_97 : decode bc_mo_interrupt 97 = .ok (.iload_n 1, 1) := by decide +kernel
theorem d_mo_interrupt_98 : decode bc_mo_interrupt 98 = .ok (.iconst 1, 1) := by decide +kernel
theorem d_mo_interrupt_99 : decode bc_mo_interrupt 99 = .ok (.if_icmp .ne 8, 3) := by decide +kernel
theorem d_mo_interrupt_102 : decode bc_mo_interrupt 102 = .ok (.ldc 215, 2) := by decide +kernel
theorem d_mo_interrupt_104 : decode bc_mo_interrupt 104 = .ok (.goto 5, 3) := by decide +kernel
theorem d_mo_interrupt_107 : decode bc_mo_interrupt 107 = .ok (.ldc 216, 2) := by decide +kernel
theorem d_mo_interrupt_109 : decode bc_mo_interrupt 109 = .ok (.invokevirtual 69, 3) := by decide +kernel
theorem d_mo_interrupt_112 : decode bc_mo_interrupt 112 = .ok (.iastore, 1) := by decide +kernel
theorem d_mo_interrupt_113 : decode bc_mo_interrupt 113 = .ok (.aload_n 0, 1) := by decide +kernel
theorem d_mo_interrupt_114 : decode bc_mo_interrupt 114 = .ok (.iconst 0, 1) := by decide +kernel
theorem d_mo_interrupt_115 : decode bc_mo_interrupt 115 = .ok (.putfield 164, 3) := by decide +kernel
theorem d_mo_interrupt_118 : decode bc_mo_interrupt 118 = .ok (.return_, 1) := by decide +kernel
theorem d_mo_step_0 : decode bc_mo_step 0 = .ok (.aload_n 0, 1) := by decide +kernel
theorem d_mo_step_1 : decode bc_mo_step 1 = .ok (.getfield 211, 3) := by decide +kernel
theorem d_mo_step_4 : decode bc_mo_step 4 = .ok (.ifCond .eq 7, 3) := by decide +kernel
theorem d_mo_step_7 : decode bc_mo_step 7 = .ok (.iconst 0, 1) := by decide +kernel
theorem d_mo_step_8 : decode bc_mo_step 8 = .ok (.goto 50, 3) := by decide +kernel
theorem d_mo_step_11 : decode bc_mo_step 11 = .ok (.aload_n 0, 1) := by decide +kernel
theorem d_mo_step_12 : decode bc_mo_step 12 = .ok (.getfield 19, 3) := by decide +kernel
theorem d_mo_step_15 : decode bc_mo_step 15 = .ok (.iconst 1, 1) := by decide +kernel
theorem d_mo_step_16 : decode bc_mo_step 16 = .ok (.iaload, 1) := by decide +kernel
theorem d_mo_step_17 : decode bc_mo_step 17 = .ok (.iconst 1, 1) := by decide +kernel
theorem d_mo_step_18 : decode bc_mo_step 18 = .ok (.if_icmp .ne 16, 3) := by decide +kernel
theorem d_mo_step_21 : decode bc_mo_step 21 = .ok (.aload_n 0, 1) := by decide +kernel
theorem d_mo_step_22 : decode bc_mo_step 22 = .ok (.bipush 64, 2) := by decide +kernel
theorem d_mo_step_24 : decode bc_mo_step 24 = .ok (.invokevirtual 93, 3) := by decide +kernel
theorem d_mo_step_27 : decode bc_mo_step 27 = .ok (.ifCond .ne 7, 3) := by decide +kernel
theorem d_mo_step_30 : decode bc_mo_step 30 = .ok (.iconst 1, 1) := by decide +kernel
theorem d_mo_step_31 : decode bc_mo_step 31 = .ok (.goto 27, 3) := by decide +kernel
theorem d_mo_step_34 : decode bc_mo_step 34 = .ok (.aload_n 0, 1) := by decide +kernel
theorem d_mo_step_35 : decode bc_mo_step 35 = .ok (.getfield 19, 3) := by decide +kernel
theorem d_mo_step_38 : decode bc_mo_step 38 = .ok (.iconst 2, 1) := by decide +kernel
theorem d_mo_step_39 : decode bc_mo_step 39 = .ok (.iaload, 1) := by decide +kernel
theorem d_mo_step_40 : decode bc_mo_step 40 = .ok (.iconst 1, 1) := by decide +kernel
theorem d_mo_step_41 : decode bc_mo_step 41 = .ok (.if_icmp .ne 16, 3) := by decide +kernel
theorem d_mo_step_44 : decode bc_mo_step 44 = .ok (.aload_n 0, 1) := by decide +kernel
theorem d_mo_step_45 : decode bc_mo_step 45 = .ok (.bipush 16, 2) := by decide +kernel
theorem d_mo_step_47 : decode bc_mo_step 47 = .ok (.invokevirtual 93, 3) := by decide +kernel
theorem d_mo_step_50 : decode bc_mo_step 50 = .ok (.ifCond .ne 7, 3) := by decide +kernel
theorem d_mo_step_53 : decode bc_mo_step 53 = .ok (.iconst 2, 1) := by decide +kernel
theorem d_mo_step_54 : decode bc_mo_step 54 = .ok (.goto 4, 3) := by decide +kernel
theorem d_mo_step_57 : decode bc_mo_step 57 = .ok (.iconst (-1), 1) := by decide +kernel
theorem d_mo_step_58 : decode bc_mo_step 58 = .ok (.istore_n 1, 1) := by decide +kernel
theorem d_mo_step_59 : decode bc_mo_step 59 = .ok (.iload_n 1, 1) := by decide +kernel
theorem d_mo_step_60 : decode bc_mo_step 60 = .ok (.ifCond .lt 10, 3) := by decide +kernel
theorem d_mo_step_63 : decode bc_mo_step 63 = .ok (.aload_n 0, 1) := by decide +kernel
theorem d_mo_step_64 : decode bc_mo_step 64 = .ok (.iload_n 1, 1) := by decide +kernel
theorem d_mo_step_65 : decode bc_mo_step 65 = .ok (.invokevirtual 217, 3) := by decide +kernel
theorem d_mo_step_68 : decode bc_mo_step 68 = .ok (.iconst 0, 1) := by decide +kernel
theorem d_mo_step_69 : decode bc_mo_step 69 = .ok (.ireturn, 1) := by decide +kernel
theorem d_mo_step_70 : decode bc_mo_step 70 = .ok (.aload_n 0, 1) := by decide +kernel
theorem d_mo_step_71 : decode bc_mo_step 71 = .ok (.getfield 164, 3) := by decide +kernel
theorem d_mo_step_74 : decode bc_mo_step 74 = .ok (.iconst 2, 1) := by decide +kernel
theorem d_mo_step_75 : decode bc_mo_step 75 = .ok (.if_icmp .eq 29, 3) := by decide +kernel
theorem d_mo_step_78 : decode bc_mo_step 78 = .ok (.aload_n 0, 1) := by decide +kernel
theorem d_mo_step_79 : decode bc_mo_step 79 = .ok (.getfield 164, 3) := by decide +kernel
theorem d_mo_step_82 : decode bc_mo_step 82 = .ok (.iconst 1, 1) := by decide +kernel
theorem d_mo_step_83 : decode bc_mo_step 83 = .ok (.if_icmp .ne 23, 3) := by decide +kernel
theorem d_mo_step_86 : decode bc_mo_step 86 = .ok (.aload_n 0, 1) := by decide +kernel
theorem d_mo_step_87 : decode bc_mo_step 87 = .ok (.getfield 19, 3) := by decide +kernel
theorem d_mo_step_90 : decode bc_mo_step 90 = .ok (.iconst 1, 1) := by decide +kernel
theorem d_mo_step_91 : decode bc_mo_step 91 = .ok (.iaload, 1) := by decide +kernel
theorem d_mo_step_92 : decode bc_mo_step 92 = .ok (.ifCond .ne 14, 3) := by decide +kernel
theorem d_mo_step_95 : decode bc_mo_step 95 = .ok (.aload_n 0, 1) := by decide +kernel
theorem d_mo_step_96 : decode bc_mo_step 96 = .ok (.getfield 19, 3) := by decide +kernel
theorem d_mo_step_99 : decode bc_mo_step 99 = .ok (.iconst 2, 1) := by decide +kernel
theorem d_mo_step_100 : decode bc_mo_step 100 = .ok (.iaload, 1) := by decide +kernel
theorem d_mo_step_101 : decode bc_mo_step 101 = .ok (.ifCond .ne 5, 3) := by decide +kernel
theorem d_mo_step_104 : decode bc_mo_step 104 = .ok (.iconst 1, 1) := by decide +kernel
theorem d_mo_step_105 : decode bc_mo_step 105 = .ok (.ireturn, 1) := by decide +kernel
theorem d_mo_step_106 : decode bc_mo_step 106 = .ok (.aload_n 0, 1) := by decide +kernel
theorem d_mo_step_107 : decode bc_mo_step 107 = .ok (.iconst 0, 1) := by decide +kernel
theorem d_mo_step_108 : decode bc_mo_step 108 = .ok (.putfield 164, 3) := by decide +kernel
theorem d_mo_step_111 : decode bc_mo_step 111 = .ok (.aload_n 0, 1) := by decide +kernel
theorem d_mo_step_112 : decode bc_mo_step 112 = .ok (.invokevirtual 220, 3) := by decide +kernel
theorem d_mo_step_115 : decode bc_mo_step 115 = .ok (.ifCond .eq 7, 3) := by decide +kernel
theorem d_mo_step_118 : decode bc_mo_step 118 = .ok (.iconst 0, 1) := by decide +kernel
theorem d_mo_step_119 : decode bc_mo_step 119 = .ok (.goto 4, 3) := by decide +kernel
theorem d_mo_step_122 : decode bc_mo_step 122 = .ok (.iconst 2, 1) := by decide +kernel
theorem d_mo_step_123 : decode bc_mo_step 123 = .ok (.ireturn, 1) := by decide +kernel
theorem d_mo_run_0 : decode bc_mo_run 0 = .ok (.iload_n 1, 1) := by decide +kernel
theorem d_mo_run_1 : decode bc_mo_run 1 = .ok (.iconst 1, 1) := by decide +kernel
theorem d_mo_run_2 : decode bc_mo_run 2 = .ok (.bipush 50, 2) := by decide +kernel
theorem d_mo_run_4 : decode bc_mo_run 4 = .ok (.invokestatic 44, 3) := by decide +kernel
theorem d_mo_run_7 : decode bc_mo_run 7 = .ok (.ifCond .ne 5, 3) := by decide +kernel
theorem d_mo_run_10 : decode bc_mo_run 10 = .ok (.iconst (-1), 1) := by decide +kernel
theorem d_mo_run_11 : decode bc_mo_run 11 = .ok (.ireturn, 1) := by decide +kernel
theorem d_mo_run_12 : decode bc_mo_run 12 = .ok (.iconst 0, 1) := by decide +kernel
theorem d_mo_run_13 : decode bc_mo_run 13 = .ok (.istore_n 2, 1) := by decide +kernel
theorem d_mo_run_14 : decode bc_mo_run 14 = .ok (.iconst 0, 1) := by decide +kernel
theorem d_mo_run_15 : decode bc_mo_run 15 = .ok (.istore_n 3, 1) := by decide +kernel
theorem d_mo_run_16 : decode bc_mo_run 16 = .ok (.iload_n 2, 1) := by decide +kernel
theorem d_mo_run_17 : decode bc_mo_run 17 = .ok (.iload_n 1, 1) := by decide +kernel
theorem d_mo_run_18 : decode bc_mo_run 18 = .ok (.if_icmp .ge 19, 3) := by decide +kernel
theorem d_mo_run_21 : decode bc_mo_run 21 = .ok (.iload_n 3, 1) := by decide +kernel
theorem d_mo_run_22 : decode bc_mo_run 22 = .ok (.ifCond .ne 15, 3) := by decide +kernel
theorem d_mo_run_25 : decode bc_mo_run 25 = .ok (.aload_n 0, 1) := by decide +kernel
theorem d_mo_run_26 : decode bc_mo_run 26 = .ok (.invokevirtual 224, 3) := by decide +kernel
theorem d_mo_run_29 : decode bc_mo_run 29 = .ok (.istore_n 3, 1) := by decide +kernel
theorem d_mo_run_30 : decode bc_mo_run 30 = .ok (.iload_n 2, 1) := by decide +kernel
theorem d_mo_run_31 : decode bc_mo_run 31 = .ok (.iconst 1, 1) := by decide +kernel
theorem d_mo_run_32 : decode bc_mo_run 32 = .ok (.iadd, 1) := by decide +kernel
theorem d_mo_run_33 : decode bc_mo_run 33 = .ok (.istore_n 2, 1) := by decide +kernel
theorem d_mo_run_34 : decode bc_mo_run 34 = .ok (.goto (-18), 3) := by decide +kernel
theorem d_mo_run_37 : decode bc_mo_run 37 = .ok (.iload_n 2, 1) := by decide +kernel
theorem d_mo_run_38 : decode bc_mo_run 38 = .ok (.ireturn, 1) := by decide +kernel
theorem d_mo_reset_0 : decode bc_mo_reset 0 = .ok (.aload_n 0, 1) := by decide +kernel
theorem d_mo_reset_1 : decode bc_mo_reset 1 = .ok (.getfield 13, 3) := by decide +kernel
theorem d_mo_reset_4 : decode bc_mo_reset 4 = .ok (.bipush 7, 2) := by decide +kernel
theorem d_mo_reset_6 : decode bc_mo_reset 6 = .ok (.iconst 0, 1) := by decide +kernel
theorem d_mo_reset_7 : decode bc_mo_reset 7 = .ok (.iastore, 1) := by decide +kernel
theorem d_mo_reset_8 : decode bc_mo_reset 8 = .ok (.aload_n 0, 1) := by decide +kernel
theorem d_mo_reset_9 : decode bc_mo_reset 9 = .ok (.getfield 13, 3) := by decide +kernel
theorem d_mo_reset_12 : decode bc_mo_reset 12 = .ok (.bipush 8, 2) := by decide +kernel
theorem d_mo_reset_14 : decode bc_mo_reset 14 = .ok (.aload_n 0, 1) := by decide +kernel
theorem d_mo_reset_15 : decode bc_mo_reset 15 = .ok (.getfield 13, 3) := by decide +kernel
theorem d_mo_reset_18 : decode bc_mo_reset 18 = .ok (.bipush 8, 2) := by decide +kernel
theorem d_mo_reset_20 : decode bc_mo_reset 20 = .ok (.iaload, 1) := by decide +kernel
theorem d_mo_reset_21 : decode bc_mo_reset 21 = .ok (.bipush 16, 2) := by decide +kernel
theorem d_mo_reset_23 : decode bc_mo_reset 23 = .ok (.ior, 1) := by decide +kernel
theorem d_mo_reset_24 : decode bc_mo_reset 24 = .ok (.bipush 64, 2) := by decide +kernel
theorem d_mo_reset_26 : decode bc_mo_reset 26 = .ok (.ior, 1) := by decide +kernel
theorem d_mo_reset_27 : decode bc_mo_reset 27 = .ok (.iastore, 1) := by decide +kernel
theorem d_mo_reset_28 : decode bc_mo_reset 28 = .ok (.aload_n 0, 1) := by decide +kernel
theorem d_mo_reset_29 : decode bc_mo_reset 29 = .ok (.iconst 0, 1) := by decide +kernel
theorem d_mo_reset_30 : decode bc_mo_reset 30 = .ok (.putfield 90, 3) := by decide +kernel
theorem d_mo_reset_33 : decode bc_mo_reset 33 = .ok (.aload_n 0, 1) := by decide +kernel
theorem d_mo_reset_34 : decode bc_mo_reset 34 = .ok (.iconst 0, 1) := by decide +kernel
theorem d_mo_reset_35 : decode bc_mo_reset 35 = .ok (.putfield 211, 3) := by decide +kernel
theorem d_mo_reset_38 : decode bc_mo_reset 38 = .ok (.aload_n 0, 1) := by decide +kernel
theorem d_mo_reset_39 : decode bc_mo_reset 39 = .ok (.iconst 0, 1) := by decide +kernel
theorem d_mo_reset_40 : decode bc_mo_reset 40 = .ok (.putfield 164, 3) := by decide +kernel
theorem d_mo_reset_43 : decode bc_mo_reset 43 = .ok (.aload_n 0, 1) := by decide +kernel
theorem d_mo_reset_44 : decode bc_mo_reset 44 = .ok (.getfield 13, 3) := by decide +kernel
theorem d_mo_reset_47 : decode bc_mo_reset 47 = .ok (.bipush 6, 2) := by decide +kernel
theorem d_mo_reset_49 : decode bc_mo_reset 49 = .ok (.aload_n 0, 1) := by decide +kernel
theorem d_mo_reset_50 : decode bc_mo_reset 50 = .ok (.ldc 227, 2) := by decide +kernel
theorem d_mo_reset_52 : decode bc_mo_reset 52 = .ok (.invokevirtual 69, 3) := by decide +kernel
theorem d_mo_reset_55 : decode bc_mo_reset 55 = .ok (.iastore, 1) := by decide +kernel
theorem d_mo_reset_56 : decode bc_mo_reset 56 = .ok (.return_, 1) := by decide +kernel
theorem d_mo_poke_0 : decode bc_mo_poke 0 = .ok (.iload_n 1, 1) := by decide +kernel
theorem d_mo_poke_1 : decode bc_mo_poke 1 = .ok (.iconst 0, 1) := by decide +kernel
theorem d_mo_poke_2 : decode bc_mo_poke 2 = .ok (.sipush 4095, 3) := by decide +kernel
theorem d_mo_poke_5 : decode bc_mo_poke 5 = .ok (.invokestatic 44, 3) := by decide +kernel
theorem d_mo_poke_8 : decode bc_mo_poke 8 = .ok (.ifCond .eq 14, 3) := by decide +kernel
theorem d_mo_poke_11 : decode bc_mo_poke 11 = .ok (.iload_n 2, 1) := by decide +kernel
theorem d_mo_poke_12 : decode bc_mo_poke 12 = .ok (.iconst 0, 1) := by decide +kernel
theorem d_mo_poke_13 : decode bc_mo_poke 13 = .ok (.sipush 255, 3) := by decide +kernel
theorem d_mo_poke_16 : decode bc_mo_poke 16 = .ok (.invokestatic 44, 3) := by decide +kernel
theorem d_mo_poke_19 : decode bc_mo_poke 19 = .ok (.ifCond .ne 5, 3) := by decide +kernel
theorem d_mo_poke_22 : decode bc_mo_poke 22 = .ok (.iconst 0, 1) := by decide +kernel
theorem d_mo_poke_23 : decode bc_mo_poke 23 = .ok (.ireturn, 1) := by decide +kernel
theorem d_mo_poke_24 : decode bc_mo_poke 24 = .ok (.aload_n 0, 1) := by decide +kernel
theorem d_mo_poke_25 : decode bc_mo_poke 25 = .ok (.getfield 7, 3) := by decide +kernel
theorem d_mo_poke_28 : decode bc_mo_poke 28 = .ok (.iload_n 1, 1) := by decide +kernel
theorem d_mo_poke_29 : decode bc_mo_poke 29 = .ok (.iload_n 2, 1) := by decide +kernel
theorem d_mo_poke_30 : decode bc_mo_poke 30 = .ok (.iastore, 1) := by decide +kernel
theorem d_mo_poke_31 : decode bc_mo_poke 31 = .ok (.iconst 1, 1) := by decide +kernel
theorem d_mo_poke_32 : decode bc_mo_poke 32 = .ok (.ireturn, 1) := by decide +kernel
theorem d_mo_load_0 : decode bc_mo_load 0 = .ok (.iload_n 3, 1) := by decide +kernel
theorem d_mo_load_1 : decode bc_mo_load 1 = .ok (.iconst 1, 1) := by decide +kernel
theorem d_mo_load_2 : decode bc_mo_load 2 = .ok (.iconst 4, 1) := by decide +kernel
theorem d_mo_load_3 : decode bc_mo_load 3 = .ok (.invokestatic 44, 3) := by decide +kernel
theorem d_mo_load_6 : decode bc_mo_load 6 = .ok (.ifCond .eq 16, 3) := by decide +kernel
theorem d_mo_load_9 : decode bc_mo_load 9 = .ok (.iload_n 1, 1) := by decide +kernel
theorem d_mo_load_10 : decode bc_mo_load 10 = .ok (.ifCond .lt 12, 3) := by decide +kernel
theorem d_mo_load_13 : decode bc_mo_load 13 = .ok (.iload_n 1, 1) := by decide +kernel
theorem d_mo_load_14 : decode bc_mo_load 14 = .ok (.sipush 4096, 3) := by decide +kernel
theorem d_mo_load_17 : decode bc_mo_load 17 = .ok (.iload_n 3, 1) := by decide +kernel
theorem d_mo_load_18 : decode bc_mo_load 18 = .ok (.isub, 1) := by decide +kernel
theorem d_mo_load_19 : decode bc_mo_load 19 = .ok (.if_icmp .le 5, 3) := by decide +kernel
theorem d_mo_load_22 : decode bc_mo_load 22 = .ok (.iconst 0, 1) := by decide +kernel
theorem d_mo_load_23 : decode bc_mo_load 23 = .ok (.ireturn, 1) := by decide +kernel
theorem d_mo_load_24 : decode bc_mo_load 24 = .ok (.iconst 0, 1) := by decide +kernel
theorem d_mo_load_25 : decode bc_mo_load 25 = .ok (.istore 4, 2) := by decide +kernel
theorem d_mo_load_27 : decode bc_mo_load 27 = .ok (.iload 4, 2) := by decide +kernel
theorem d_mo_load_29 : decode bc_mo_load 29 = .ok (.iload_n 3, 1) := by decide +kernel
theorem d_mo_load_30 : decode bc_mo_load 30 = .ok (.if_icmp .ge 33, 3) := by decide +kernel
theorem d_mo_load_33 : decode bc_mo_load 33 = .ok (.aload_n 0, 1) := by decide +kernel
theorem d_mo_load_34 : decode bc_mo_load 34 = .ok (.getfield 7, 3) := by decide +kernel
theorem d_mo_load_37 : decode bc_mo_load 37 = .ok (.iload_n 1, 1) := by decide +kernel
theorem d_mo_load_38 : decode bc_mo_load 38 = .ok (.iload 4, 2) := by decide +kernel
theorem d_mo_load_40 : decode bc_mo_load 40 = .ok (.iadd, 1) := by decide +kernel
theorem d_mo_load_41 : decode bc_mo_load 41 = .ok (.iload_n 2, 1) := by decide +kernel
theorem d_mo_load_42 : decode bc_mo_load 42 = .ok (.bipush 8, 2) := by decide +kernel
theorem d_mo_load_44 : decode bc_mo_load 44 = .ok (.iload_n 3, 1) := by decide +kernel
theorem d_mo_load_45 : decode bc_mo_load 45 = .ok (.iconst 1, 1) := by decide +kernel
theorem d_mo_load_46 : decode bc_mo_load 46 = .ok (.isub, 1) := by decide +kernel
theorem d_mo_load_47 : decode bc_mo_load 47 = .ok (.iload 4, 2) := by decide +kernel
theorem d_mo_load_49 : decode bc_mo_load 49 = .ok (.isub, 1) := by decide +kernel
theorem d_mo_load_50 : decode bc_mo_load 50 = .ok (.imul, 1) := by decide +kernel
theorem d_mo_load_51 : decode bc_mo_load 51 = .ok (.ishr, 1) := by decide +kernel
theorem d_mo_load_52 : decode bc_mo_load 52 = .ok (.sipush 255, 3) := by decide +kernel
theorem d_mo_load_55 : decode bc_mo_load 55 = .ok (.iand, 1) := by decide +kernel
theorem d_mo_load_56 : decode bc_mo_load 56 = .ok (.iastore, 1) := by decide +kernel
theorem d_mo_load_57 : decode bc_mo_load 57 = .ok (.iinc 4 1, 3) := by decide +kernel
theorem d_mo_load_60 : decode bc_mo_load 60 = .ok (.goto (-33), 3) := by decide +kernel
theorem d_mo_load_63 : decode bc_mo_load 63 = .ok (.iconst 1, 1) := by decide +kernel
theorem d_mo_load_64 : decode bc_mo_load 64 = .ok (.ireturn, 1) := by decide +kernel
theorem d_mo_peek_0 : decode bc_mo_peek 0 = .ok (.iload_n 1, 1) := by decide +kernel
theorem d_mo_peek_1 : decode bc_mo_peek 1 = .ok (.iconst 0, 1) := by decide +kernel
theorem d_mo_peek_2 : decode bc_mo_peek 2 = .ok (.sipush 4095, 3) := by decide +kernel
theorem d_mo_peek_5 : decode bc_mo_peek 5 = .ok (.invokestatic 44, 3) := by decide +kernel
theorem d_mo_peek_8 : decode bc_mo_peek 8 = .ok (.ifCond .eq 12, 3) := by decide +kernel
theorem d_mo_peek_11 : decode bc_mo_peek 11 = .ok (.aload_n 0, 1) := by decide +kernel
theorem d_mo_peek_12 : decode bc_mo_peek 12 = .ok (.getfield 7, 3) := by decide +kernel
theorem d_mo_peek_15 : decode bc_mo_peek 15 = .ok (.iload_n 1, 1) := by decide +kernel
theorem d_mo_peek_16 : decode bc_mo_peek 16 = .ok (.iaload, 1) := by decide +kernel
theorem d_mo_peek_17 : decode bc_mo_peek 17 = .ok (.goto 4, 3) := by decide +kernel
theorem d_mo_peek_20 : decode bc_mo_peek 20 = .ok (.iconst (-1), 1) := by decide +kernel
theorem d_mo_peek_21 : decode bc_mo_peek 21 = .ok (.ireturn, 1) := by decide +kernel
theorem d_mo_setLine_0 : decode bc_mo_setLine 0 = .ok (.iload_n 1, 1) := by decide +kernel
theorem d_mo_setLine_1 : decode bc_mo_setLine 1 = .ok (.iconst 0, 1) := by decide +kernel
theorem d_mo_setLine_2 : decode bc_mo_setLine 2 = .ok (.iconst 2, 1) := by decide +kernel
theorem d_mo_setLine_3 : decode bc_mo_setLine 3 = .ok (.invokestatic 44, 3) := by decide +kernel
theorem d_mo_setLine_6 : decode bc_mo_setLine 6 = .ok (.ifCond .eq 12, 3) := by decide +kernel
theorem d_mo_setLine_9 : decode bc_mo_setLine 9 = .ok (.iload_n 2, 1) := by decide +kernel
theorem d_mo_setLine_10 : decode bc_mo_setLine 10 = .ok (.iconst 0, 1) := by decide +kernel
theorem d_mo_setLine_11 : decode bc_mo_setLine 11 = .ok (.iconst 1, 1) := by decide +kernel
theorem d_mo_setLine_12 : decode bc_mo_setLine 12 = .ok (.invokestatic 44, 3) := by decide +kernel
theorem d_mo_setLine_15 : decode bc_mo_setLine 15 = .ok (.ifCond .ne 5, 3) := by decide +kernel
theorem d_mo_setLine_18 : decode bc_mo_setLine 18 = .ok (.iconst 0, 1) := by decide +kernel
theorem d_mo_setLine_19 : decode bc_mo_setLine 19 = .ok (.ireturn, 1) := by decide +kernel
theorem d_mo_setLine_20 : decode bc_mo_setLine 20 = .ok (.aload_n 0, 1) := by decide +kernel
theorem d_mo_setLine_21 : decode bc_mo_setLine 21 = .ok (.aload_n 0, 1) := by decide +kernel
theorem d_mo_setLine_22 : decode bc_mo_setLine 22 = .ok (.getfield 211, 3) := by decide +kernel
theorem d_mo_setLine_25 : decode bc_mo_setLine 25 = .ok (.ifCond .ne 28, 3) := by decide +kernel
theorem d_mo_setLine_28 : decode bc_mo_setLine 28 = .ok (.iload_n 1, 1) := by decide +kernel
theorem d_mo_setLine_29 : decode bc_mo_setLine 29 = .ok (.ifCond .ne 28, 3) := by decide +kernel
theorem d_mo_setLine_32 : decode bc_mo_setLine 32 = .ok (.iload_n 2, 1) := by decide +kernel
theorem d_mo_setLine_33 : decode bc_mo_setLine 33 = .ok (.iconst 1, 1) := by decide +kernel
theorem d_mo_setLine_34 : decode bc_mo_setLine 34 = .ok (.if_icmp .ne 23, 3) := by decide +kernel
theorem d_mo_setLine_37 : decode bc_mo_setLine 37 = .ok (.aload_n 0, 1) := by decide +kernel
theorem d_mo_setLine_38 : decode bc_mo_setLine 38 = .ok (.getfield 19, 3) := by decide +kernel
theorem d_mo_setLine_41 : decode bc_mo_setLine 41 = .ok (.iconst 0, 1) := by decide +kernel
theorem d_mo_setLine_42 : decode bc_mo_setLine 42 = .ok (.iaload, 1) := by decide +kernel
theorem d_mo_setLine_43 : decode bc_mo_setLine 43 = .ok (.ifCond .ne 14, 3) := by decide +kernel
theorem d_mo_setLine_46 : decode bc_mo_setLine 46 = .ok (.aload_n 0, 1) := by decide +kernel
theorem d_mo_setLine_47 : decode bc_mo_setLine 47 = .ok (.getfield 90, 3) := by decide +kernel
theorem d_mo_setLine_50 : decode bc_mo_setLine 50 = .ok (.ifCond .eq 7, 3) := by decide +kernel
theorem d_mo_setLine_53 : decode bc_mo_setLine 53 = .ok (.iconst 1, 1) := by decide +kernel
theorem d_mo_setLine_54 : decode bc_mo_setLine 54 = .ok (.goto 4, 3) := by decide +kernel
theorem d_mo_setLine_57 : decode bc_mo_setLine 57 = .ok (.iconst 0, 1) := by decide +kernel
theorem d_mo_setLine_58 : decode bc_mo_setLine 58 = .ok (.putfield 211, 3) := by decide +kernel
theorem d_mo_setLine_61 : decode bc_mo_setLine 61 = .ok (.aload_n 0, 1) := by decide +kernel
theorem d_mo_setLine_62 : decode bc_mo_setLine 62 = .ok (.getfield 19, 3) := by decide +kernel
theorem d_mo_setLine_65 : decode bc_mo_setLine 65 = .ok (.iload_n 1, 1) := by decide +kernel
theorem d_mo_setLine_66 : decode bc_mo_setLine 66 = .ok (.iload_n 2, 1) := by decide +kernel
theorem d_mo_setLine_67 : decode bc_mo_setLine 67 = .ok (.iastore, 1) := by decide +kernel
theorem d_mo_setLine_68 : decode bc_mo_setLine 68 = .ok (.iconst 1, 1) := by decide +kernel
theorem d_mo_setLine_69 : decode bc_mo_setLine 69 = .ok (.ireturn, 1) := by decide +kernel
theorem d_mo_reg_0 : decode bc_mo_reg 0 = .ok (.iload_n 1, 1) := by decide +kernel
theorem d_mo_reg_1 : decode bc_mo_reg 1 = .ok (.iconst 0, 1) := by decide +kernel
theorem d_mo_reg_2 : decode bc_mo_reg 2 = .ok (.bipush 8, 2) := by decide +kernel
theorem d_mo_reg_4 : decode bc_mo_reg 4 = .ok (.invokestatic 44, 3) := by decide +kernel
theorem d_mo_reg_7 : decode bc_mo_reg 7 = .ok (.ifCond .eq 12, 3) := by decide +kernel
theorem d_mo_reg_10 : decode bc_mo_reg 10 = .ok (.aload_n 0, 1) := by decide +kernel
theorem d_mo_reg_11 : decode bc_mo_reg 11 = .ok (.getfield 13, 3) := by decide +kernel
theorem d_mo_reg_14 : decode bc_mo_reg 14 = .ok (.iload_n 1, 1) := by decide +kernel
theorem d_mo_reg_15 : decode bc_mo_reg 15 = .ok (.iaload, 1) := by decide +kernel
theorem d_mo_reg_16 : decode bc_mo_reg 16 = .ok (.goto 4, 3) := by decide +kernel
theorem d_mo_reg_19 : decode bc_mo_reg 19 = .ok (.iconst (-1), 1) := by decide +kernel
theorem d_mo_reg_20 : decode bc_mo_reg 20 = .ok (.ireturn, 1) := by decide +kernel
theorem d_mo_put_0 : decode bc_mo_put 0 = .ok (.iload_n 1, 1) := by decide +kernel
theorem d_mo_put_1 : decode bc_mo_put 1 = .ok (.iconst 0, 1) := by decide +kernel
theorem d_mo_put_2 : decode bc_mo_put 2 = .ok (.bipush 8, 2) := by decide +kernel
theorem d_mo_put_4 : decode bc_mo_put 4 = .ok (.invokestatic 44, 3) := by decide +kernel
theorem d_mo_put_7 : decode bc_mo_put 7 = .ok (.ifCond .ne 5, 3) := by decide +kernel
theorem d_mo_put_10 : decode bc_mo_put 10 = .ok (.iconst 0, 1) := by decide +kernel
theorem d_mo_put_11 : decode bc_mo_put 11 = .ok (.ireturn, 1) := by decide +kernel
theorem d_mo_put_12 : decode bc_mo_put 12 = .ok (.aload_n 0, 1) := by decide +kernel
theorem d_mo_put_13 : decode bc_mo_put 13 = .ok (.getfield 13, 3) := by decide +kernel
theorem d_mo_put_16 : decode bc_mo_put 16 = .ok (.iload_n 1, 1) := by decide +kernel
theorem d_mo_put_17 : decode bc_mo_put 17 = .ok (.iload_n 2, 1) := by decide +kernel
theorem d_mo_put_18 : decode bc_mo_put 18 = .ok (.iload_n 1, 1) := by decide +kernel
theorem d_mo_put_19 : decode bc_mo_put 19 = .ok (.iconst 2, 1) := by decide +kernel
theorem d_mo_put_20 : decode bc_mo_put 20 = .ok (.bipush 6, 2) := by decide +kernel
theorem d_mo_put_22 : decode bc_mo_put 22 = .ok (.invokestatic 44, 3) := by decide +kernel
theorem d_mo_put_25 : decode bc_mo_put 25 = .ok (.ifCond .eq 8, 3) := by decide +kernel
theorem d_mo_put_28 : decode bc_mo_put 28 = .ok (.ldc 30, 2) := by decide +kernel
theorem d_mo_put_30 : decode bc_mo_put 30 = .ok (.goto 6, 3) := by decide +kernel
theorem d_mo_put_33 : decode bc_mo_put 33 = .ok (.sipush 255, 3) := by decide +kernel
theorem d_mo_put_36 : decode bc_mo_put 36 = .ok (.iand, 1) := by decide +kernel
theorem d_mo_put_37 : decode bc_mo_put 37 = .ok (.iastore, 1) := by decide +kernel
theorem d_mo_put_38 : decode bc_mo_put 38 = .ok (.iconst 1, 1) := by decide +kernel
theorem d_mo_put_39 : decode bc_mo_put 39 = .ok (.ireturn, 1) := by decide +kernel
theorem d_mo_waits_0 : decode bc_mo_waits 0 = .ok (.aload_n 0, 1) := by decide +kernel
theorem d_mo_waits_1 : decode bc_mo_waits 1 = .ok (.getfield 164, 3) := by decide +kernel
theorem d_mo_waits_4 : decode bc_mo_waits 4 = .ok (.ireturn, 1) := by decide +kernel
theorem d_mo_lines_0 : decode bc_mo_lines 0 = .ok (.aload_n 0, 1) := by decide +kernel
theorem d_mo_lines_1 : decode bc_mo_lines 1 = .ok (.getfield 90, 3) := by decide +kernel
theorem d_mo_lines_4 : decode bc_mo_lines 4 = .ok (.ifCond .eq 7, 3) := by decide +kernel
theorem d_mo_lines_7 : decode bc_mo_lines 7 = .ok (.iconst 1, 1) := by decide +kernel
theorem d_mo_lines_8 : decode bc_mo_lines 8 = .ok (.goto 4, 3) := by decide +kernel
theorem d_mo_lines_11 : decode bc_mo_lines 11 = .ok (.iconst 0, 1) := by decide +kernel
theorem d_mo_lines_12 : decode bc_mo_lines 12 = .ok (.aload_n 0, 1) := by decide +kernel
theorem d_mo_lines_13 : decode bc_mo_lines 13 = .ok (.getfield 211, 3) := by decide +kernel
theorem d_mo_lines_16 : decode bc_mo_lines 16 = .ok (.ifCond .eq 7, 3) := by decide +kernel
theorem d_mo_lines_19 : decode bc_mo_lines 19 = .ok (.iconst 2, 1) := by decide +kernel
theorem d_mo_lines_20 : decode bc_mo_lines 20 = .ok (.goto 4, 3) := by decide +kernel
theorem d_mo_lines_23 : decode bc_mo_lines 23 = .ok (.iconst 0, 1) := by decide +kernel
theorem d_mo_lines_24 : decode bc_mo_lines 24 = .ok (.iadd, 1) := by decide +kernel
theorem d_mo_lines_25 : decode bc_mo_lines 25 = .ok (.iconst 4, 1) := by decide +kernel
theorem d_mo_lines_26 : decode bc_mo_lines 26 = .ok (.aload_n 0, 1) := by decide +kernel
theorem d_mo_lines_27 : decode bc_mo_lines 27 = .ok (.getfield 19, 3) := by decide +kernel
theorem d_mo_lines_30 : decode bc_mo_lines 30 = .ok (.iconst 0, 1) := by decide +kernel
theorem d_mo_lines_31 : decode bc_mo_lines 31 = .ok (.iaload, 1) := by decide +kernel
theorem d_mo_lines_32 : decode bc_mo_lines 32 = .ok (.imul, 1) := by decide +kernel
theorem d_mo_lines_33 : decode bc_mo_lines 33 = .ok (.iadd, 1) := by decide +kernel
theorem d_mo_lines_34 : decode bc_mo_lines 34 = .ok (.bipush 8, 2) := by decide +kernel
theorem d_mo_lines_36 : decode bc_mo_lines 36 = .ok (.aload_n 0, 1) := by decide +kernel
theorem d_mo_lines_37 : decode bc_mo_lines 37 = .ok (.getfield 19, 3) := by decide +kernel
theorem d_mo_lines_40 : decode bc_mo_lines 40 = .ok (.iconst 1, 1) := by decide +kernel
theorem d_mo_lines_41 : decode bc_mo_lines 41 = .ok (.iaload, 1) := by decide +kernel
theorem d_mo_lines_42 : decode bc_mo_lines 42 = .ok (.imul, 1) := by decide +kernel
theorem d_mo_lines_43 : decode bc_mo_lines 43 = .ok (.iadd, 1) := by decide +kernel
theorem d_mo_lines_44 : decode bc_mo_lines 44 = .ok (.bipush 16, 2) := by decide +kernel
theorem d_mo_lines_46 : decode bc_mo_lines 46 = .ok (.aload_n 0, 1) := by decide +kernel
theorem d_mo_lines_47 : decode bc_mo_lines 47 = .ok (.getfield 19, 3) := by decide +kernel
theorem d_mo_lines_50 : decode bc_mo_lines 50 = .ok (.iconst 2, 1) := by decide +kernel
theorem d_mo_lines_51 : decode bc_mo_lines 51 = .ok (.iaload, 1) := by decide +kernel
theorem d_mo_lines_52 : decode bc_mo_lines 52 = .ok (.imul, 1) := by decide +kernel
theorem d_mo_lines_53 : decode bc_mo_lines 53 = .ok (.iadd, 1) := by decide +kernel
theorem d_mo_lines_54 : decode bc_mo_lines 54 = .ok (.ireturn, 1) := by decide +kernel
theorem d_me_init_0 : decode bc_me_init 0 = .ok (.aload_n 0, 1) := by decide +kernel
theorem d_me_init_1 : decode bc_me_init 1 = .ok (.invokespecial 3, 3) := by decide +kernel
theorem d_me_init_4 : decode bc_me_init 4 = .ok (.aload_n 0, 1) := by decide +kernel
theorem d_me_init_5 : decode bc_me_init 5 = .ok (.sipush 4096, 3) := by decide +kernel
theorem d_me_init_8 : decode bc_me_init 8 = .ok (.newarray .int, 2) := by decide +kernel
theorem d_me_init_10 : decode bc_me_init 10 = .ok (.putfield 9, 3) := by decide +kernel
theorem d_me_init_13 : decode bc_me_init 13 = .ok (.return_, 1) := by decide +kernel
theorem d_re_init_0 : decode bc_re_init 0 = .ok (.aload_n 0, 1) := by decide +kernel
theorem d_re_init_1 : decode bc_re_init 1 = .ok (.invokespecial 3, 3) := by decide +kernel
theorem d_re_init_4 : decode bc_re_init 4 = .ok (.aload_n 0, 1) := by decide +kernel
theorem d_re_init_5 : decode bc_re_init 5 = .ok (.bipush 9, 2) := by decide +kernel
theorem d_re_init_7 : decode bc_re_init 7 = .ok (.newarray .int, 2) := by decide +kernel
theorem d_re_init_9 : decode bc_re_init 9 = .ok (.putfield 9, 3) := by decide +kernel
theorem d_re_init_12 : decode bc_re_init 12 = .ok (.return_, 1) := by decide +kernel
theorem d_ar_init_0 : decode bc_ar_init 0 = .ok (.aload_n 0, 1) := by decide +kernel
theorem d_ar_init_1 : decode bc_ar_init 1 = .ok (.invokespecial 3, 3) := by decide +kernel
theorem d_ar_init_4 : decode bc_ar_init 4 = .ok (.aload_n 0, 1) := by decide +kernel
theorem d_ar_init_5 : decode bc_ar_init 5 = .ok (.aload_n 1, 1) := by decide +kernel
theorem d_ar_init_6 : decode bc_ar_init 6 = .ok (.putfield 9, 3) := by decide +kernel
theorem d_ar_init_9 : decode bc_ar_init 9 = .ok (.return_, 1) := by decide +kernel
theorem d_tc_init_0 : decode bc_tc_init 0 = .ok (.aload_n 0, 1) := by decide +kernel
theorem d_tc_init_1 : decode bc_tc_init 1 = .ok (.invokespecial 1, 3) := by decide +kernel
theorem d_tc_init_4 : decode bc_tc_init 4 = .ok (.aload_n 0, 1) := by decide +kernel
theorem d_tc_init_5 : decode bc_tc_init 5 = .ok (.new 7, 3) := by decide +kernel
theorem d_tc_init_8 : decode bc_tc_init 8 = .ok (.dup, 1) := by decide +kernel
theorem d_tc_init_9 : decode bc_tc_init 9 = .ok (.invokespecial 9, 3) := by decide +kernel
theorem d_tc_init_12 : decode bc_tc_init 12 = .ok (.putfield 10, 3) := by decide +kernel
theorem d_tc_init_15 : decode bc_tc_init 15 = .ok (.aload_n 0, 1) := by decide +kernel
theorem d_tc_init_16 : decode bc_tc_init 16 = .ok (.new 16, 3) := by decide +kernel
theorem d_tc_init_19 : decode bc_tc_init 19 = .ok (.dup, 1) := by decide +kernel
theorem d_tc_init_20 : decode bc_tc_init 20 = .ok (.invokespecial 18, 3) := by decide +kernel
theorem d_tc_init_23 : decode bc_tc_init 23 = .ok (.putfield 19, 3) := by decide +kernel
theorem d_tc_init_26 : decode bc_tc_init 26 = .ok (.aload_n 0, 1) := by decide +kernel
theorem d_tc_init_27 : decode bc_tc_init 27 = .ok (.new 23, 3) := by decide +kernel
theorem d_tc_init_30 : decode bc_tc_init 30 = .ok (.dup, 1) := by decide +kernel
theorem d_tc_init_31 : decode bc_tc_init 31 = .ok (.aload_n 0, 1) := by decide +kernel
theorem d_tc_init_32 : decode bc_tc_init 32 = .ok (.getfield 19, 3) := by decide +kernel
theorem d_tc_init_35 : decode bc_tc_init 35 = .ok (.invokespecial 25, 3) := by decide +kernel
theorem d_tc_init_38 : decode bc_tc_init 38 = .ok (.putfield 28, 3) := by decide +kernel
theorem d_tc_init_41 : decode bc_tc_init 41 = .ok (.aload_n 0, 1) := by decide +kernel
theorem d_tc_init_42 : decode bc_tc_init 42 = .ok (.iconst 3, 1) := by decide +kernel
theorem d_tc_init_43 : decode bc_tc_init 43 = .ok (.newarray .int, 2) := by decide +kernel
theorem d_tc_init_45 : decode bc_tc_init 45 = .ok (.putfield 32, 3) := by decide +kernel
theorem d_tc_init_48 : decode bc_tc_init 48 = .ok (.return_, 1) := by decide +kernel
theorem d_mo_init_0 : decode bc_mo_init 0 = .ok (.aload_n 0, 1) := by decide +kernel
theorem d_mo_init_1 : decode bc_mo_init 1 = .ok (.invokespecial 1, 3) := by decide +kernel
theorem d_mo_init_4 : decode bc_mo_init 4 = .ok (.aload_n 0, 1) := by decide +kernel
theorem d_mo_init_5 : decode bc_mo_init 5 = .ok (.sipush 4096, 3) := by decide +kernel
theorem d_mo_init_8 : decode bc_mo_init 8 = .ok (.newarray .int, 2) := by decide +kernel
theorem d_mo_init_10 : decode bc_mo_init 10 = .ok (.putfield 7, 3) := by decide +kernel
theorem d_mo_init_13 : decode bc_mo_init 13 = .ok (.aload_n 0, 1) := by decide +kernel
theorem d_mo_init_14 : decode bc_mo_init 14 = .ok (.bipush 9, 2) := by decide +kernel
theorem d_mo_init_16 : decode bc_mo_init 16 = .ok (.newarray .int, 2) := by decide +kernel
theorem d_mo_init_18 : decode bc_mo_init 18 = .ok (.putfield 13, 3) := by decide +kernel
theorem d_mo_init_21 : decode bc_mo_init 21 = .ok (.aload_n 0, 1) := by decide +kernel
theorem d_mo_init_22 : decode bc_mo_init 22 = .ok (.bipush 9, 2) := by decide +kernel
theorem d_mo_init_24 : decode bc_mo_init 24 = .ok (.newarray .int, 2) := by decide +kernel
theorem d_mo_init_26 : decode bc_mo_init 26 = .ok (.putfield 16, 3) := by decide +kernel
theorem d_mo_init_29 : decode bc_mo_init 29 = .ok (.aload_n 0, 1) := by decide +kernel
theorem d_mo_init_30 : decode bc_mo_init 30 = .ok (.iconst 3, 1) := by decide +kernel
theorem d_mo_init_31 : decode bc_mo_init 31 = .ok (.newarray .int, 2) := by decide +kernel
theorem d_mo_init_33 : decode bc_mo_init 33 = .ok (.putfield 19, 3) := by decide +kernel
theorem d_mo_init_36 : decode bc_mo_init 36 = .ok (.return_, 1) := by decide +kernel
