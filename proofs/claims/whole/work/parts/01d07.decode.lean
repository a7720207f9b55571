theorem d_mo_adjust_46 : decode bc_mo_adjust 46 = .ok (.ifCond .ne 21, 3) := by decide +kernel
theorem d_mo_adjust_49 : decode bc_mo_adjust 49 = .ok (.iload_n 2, 1) := by decide +kernel
theorem d_mo_adjust_50 : decode bc_mo_adjust 50 = .ok (.bipush 9, 2) := by decide +kernel
theorem d_mo_adjust_52 : decode bc_mo_adjust 52 = .ok (.if_icmp .gt 15, 3) := by decide +kernel
theorem d_mo_adjust_55 : decode bc_mo_adjust 55 = .ok (.iload_n 2, 1) := by decide +kernel
theorem d_mo_adjust_56 : decode bc_mo_adjust 56 = .ok (.bipush 8, 2) := by decide +kernel
theorem d_mo_adjust_58 : decode bc_mo_adjust 58 = .ok (.if_icmp .le 16, 3) := by decide +kernel
theorem d_mo_adjust_61 : decode bc_mo_adjust 61 = .ok (.iload_n 1, 1) := by decide +kernel
theorem d_mo_adjust_62 : decode bc_mo_adjust 62 = .ok (.bipush 9, 2) := by decide +kernel
theorem d_mo_adjust_64 : decode bc_mo_adjust 64 = .ok (.if_icmp .le 10, 3) := by decide +kernel
theorem d_mo_adjust_67 : decode bc_mo_adjust 67 = .ok (.iload_n 3, 1) := by decide +kernel
theorem d_mo_adjust_68 : decode bc_mo_adjust 68 = .ok (.bipush 96, 2) := by decide +kernel
theorem d_mo_adjust_70 : decode bc_mo_adjust 70 = .ok (.iadd, 1) := by decide +kernel
theorem d_mo_adjust_71 : decode bc_mo_adjust 71 = .ok (.goto 4, 3) := by decide +kernel
theorem d_mo_adjust_74 : decode bc_mo_adjust 74 = .ok (.iload_n 3, 1) := by decide +kernel
theorem d_mo_adjust_75 : decode bc_mo_adjust 75 = .ok (.istore_n 3, 1) := by decide +kernel
theorem d_mo_adjust_76 : decode bc_mo_adjust 76 = .ok (.aload_n 0, 1) := by decide +kernel
theorem d_mo_adjust_77 : decode bc_mo_adjust 77 = .ok (.getfield 13, 3) := by decide +kernel
theorem d_mo_adjust_80 : decode bc_mo_adjust 80 = .ok (.iconst 0, 1) := by decide +kernel
theorem d_mo_adjust_81 : decode bc_mo_adjust 81 = .ok (.iaload, 1) := by decide +kernel
theorem d_mo_adjust_82 : decode bc_mo_adjust 82 = .ok (.iload_n 3, 1) := by decide +kernel
theorem d_mo_adjust_83 : decode bc_mo_adjust 83 = .ok (.iadd, 1) := by decide +kernel
theorem d_mo_adjust_84 : decode bc_mo_adjust 84 = .ok (.istore 4, 2) := by decide +kernel
theorem d_mo_adjust_86 : decode bc_mo_adjust 86 = .ok (.aload_n 0, 1) := by decide +kernel
theorem d_mo_adjust_87 : decode bc_mo_adjust 87 = .ok (.iconst 1, 1) := by decide +kernel
theorem d_mo_adjust_88 : decode bc_mo_adjust 88 = .ok (.aload_n 0, 1) := by decide +kernel
theorem d_mo_adjust_89 : decode bc_mo_adjust 89 = .ok (.iconst 1, 1) := by decide +kernel
theorem d_mo_adjust_90 : decode bc_mo_adjust 90 = .ok (.invokevirtual 93, 3) := by decide +kernel
theorem d_mo_adjust_93 : decode bc_mo_adjust 93 = .ok (.ifCond .ne 11, 3) := by decide +kernel
theorem d_mo_adjust_96 : decode bc_mo_adjust 96 = .ok (.iload 4, 2) := by decide +kernel
theorem d_mo_adjust_98 : decode bc_mo_adjust 98 = .ok (.sipush 255, 3) := by decide +kernel
theorem d_mo_adjust_101 : decode bc_mo_adjust 101 = .ok (.if_icmp .le 7, 3) := by decide +kernel
theorem d_mo_adjust_104 : decode bc_mo_adjust 104 = .ok (.iconst 1, 1) := by decide +kernel
theorem d_mo_adjust_105 : decode bc_mo_adjust 105 = .ok (.goto 4, 3) := by decide +kernel
theorem d_mo_adjust_108 : decode bc_mo_adjust 108 = .ok (.iconst 0, 1) := by decide +kernel
theorem d_mo_adjust_109 : decode bc_mo_adjust 109 = .ok (.invokevirtual 36, 3) := by decide +kernel
theorem d_mo_adjust_112 : decode bc_mo_adjust 112 = .ok (.aload_n 0, 1) := by decide +kernel
theorem d_mo_adjust_113 : decode bc_mo_adjust 113 = .ok (.getfield 13, 3) := by decide +kernel
theorem d_mo_adjust_116 : decode bc_mo_adjust 116 = .ok (.iconst 0, 1) := by decide +kernel
theorem d_mo_adjust_117 : decode bc_mo_adjust 117 = .ok (.iload 4, 2) := by decide +kernel
theorem d_mo_adjust_119 : decode bc_mo_adjust 119 = .ok (.sipush 255, 3) := by decide +kernel
theorem d_mo_adjust_122 : decode bc_mo_adjust 122 = .ok (.iand, 1) := by decide +kernel
theorem d_mo_adjust_123 : decode bc_mo_adjust 123 = .ok (.iastore, 1) := by decide +kernel
theorem d_mo_adjust_124 : decode bc_mo_adjust 124 = .ok (.aload_n 0, 1) := by decide +kernel
theorem d_mo_adjust_125 : decode bc_mo_adjust 125 = .ok (.aload_n 0, 1) := by decide +kernel
theorem d_mo_adjust_126 : decode bc_mo_adjust 126 = .ok (.getfield 13, 3) := by decide +kernel
theorem d_mo_adjust_129 : decode bc_mo_adjust 129 = .ok (.iconst 0, 1) := by decide +kernel
theorem d_mo_adjust_130 : decode bc_mo_adjust 130 = .ok (.iaload, 1) := by decide +kernel
theorem d_mo_adjust_131 : decode bc_mo_adjust 131 = .ok (.iconst 0, 1) := by decide +kernel
theorem d_mo_adjust_132 : decode bc_mo_adjust 132 = .ok (.invokevirtual 40, 3) := by decide +kernel
theorem d_mo_adjust_135 : decode bc_mo_adjust 135 = .ok (.return_, 1) := by decide +kernel
theorem d_mo_named_0 : decode bc_mo_named 0 = .ok (.iload_n 0, 1) := by decide +kernel
theorem d_mo_named_1 : decode bc_mo_named 1 = .ok (.ifCond .ne 7, 3) := by decide +kernel
theorem d_mo_named_4 : decode bc_mo_named 4 = .ok (.iconst (-1), 1) := by decide +kernel
theorem d_mo_named_5 : decode bc_mo_named 5 = .ok (.goto 75, 3) := by decide +kernel
theorem d_mo_named_8 : decode bc_mo_named 8 = .ok (.iload_n 0, 1) := by decide +kernel
theorem d_mo_named_9 : decode bc_mo_named 9 = .ok (.iconst 5, 1) := by decide +kernel
theorem d_mo_named_10 : decode bc_mo_named 10 = .ok (.if_icmp .gt 20, 3) := by decide +kernel
theorem d_mo_named_13 : decode bc_mo_named 13 = .ok (.iload_n 0, 1) := by decide +kernel
theorem d_mo_named_14 : decode bc_mo_named 14 = .ok (.iconst 1, 1) := by decide +kernel
theorem d_mo_named_15 : decode bc_mo_named 15 = .ok (.iadd, 1) := by decide +kernel
theorem d_mo_named_16 : decode bc_mo_named 16 = .ok (.iload_n 0, 1) := by decide +kernel
theorem d_mo_named_17 : decode bc_mo_named 17 = .ok (.iconst 5, 1) := by decide +kernel
theorem d_mo_named_18 : decode bc_mo_named 18 = .ok (.if_icmp .le 7, 3) := by decide +kernel
theorem d_mo_named_21 : decode bc_mo_named 21 = .ok (.iconst 1, 1) := by decide +kernel
theorem d_mo_named_22 : decode bc_mo_named 22 = .ok (.goto 4, 3) := by decide +kernel
theorem d_mo_named_25 : decode bc_mo_named 25 = .ok (.iconst 0, 1) := by decide +kernel
theorem d_mo_named_26 : decode bc_mo_named 26 = .ok (.isub, 1) := by decide +kernel
theorem d_mo_named_27 : decode bc_mo_named 27 = .ok (.goto 53, 3) := by decide +kernel
theorem d_mo_named_30 : decode bc_mo_named 30 = .ok (.iload_n 0, 1) := by decide +kernel
theorem d_mo_named_31 : decode bc_mo_named 31 = .ok (.bipush 8, 2) := by decide +kernel
theorem d_mo_named_33 : decode bc_mo_named 33 = .ok (.if_icmp .lt 45, 3) := by decide +kernel
theorem d_mo_named_36 : decode bc_mo_named 36 = .ok (.iload_n 0, 1) := by decide +kernel
theorem d_mo_named_37 : decode bc_mo_named 37 = .ok (.bipush 11, 2) := by decide +kernel
theorem d_mo_named_39 : decode bc_mo_named 39 = .ok (.if_icmp .gt 39, 3) := by decide +kernel
theorem d_mo_named_42 : decode bc_mo_named 42 = .ok (.iload_n 0, 1) := by decide +kernel
theorem d_mo_named_43 : decode bc_mo_named 43 = .ok (.bipush 8, 2) := by decide +kernel
theorem d_mo_named_45 : decode bc_mo_named 45 = .ok (.if_icmp .ne 7, 3) := by decide +kernel
theorem d_mo_named_48 : decode bc_mo_named 48 = .ok (.iconst 0, 1) := by decide +kernel
theorem d_mo_named_49 : decode bc_mo_named 49 = .ok (.goto 31, 3) := by decide +kernel
theorem d_mo_named_52 : decode bc_mo_named 52 = .ok (.iload_n 0, 1) := by decide +kernel
theorem d_mo_named_53 : decode bc_mo_named 53 = .ok (.bipush 9, 2) := by decide +kernel
theorem d_mo_named_55 : decode bc_mo_named 55 = .ok (.if_icmp .ne 7, 3) := by decide +kernel
theorem d_mo_named_58 : decode bc_mo_named 58 = .ok (.iconst 1, 1) := by decide +kernel
theorem d_mo_named_59 : decode bc_mo_named 59 = .ok (.goto 21, 3) := by decide +kernel
theorem d_mo_named_62 : decode bc_mo_named 62 = .ok (.iload_n 0, 1) := by decide +kernel
theorem d_mo_named_63 : decode bc_mo_named 63 = .ok (.bipush 10, 2) := by decide +kernel
theorem d_mo_named_65 : decode bc_mo_named 65 = .ok (.if_icmp .ne 8, 3) := by decide +kernel
theorem d_mo_named_68 : decode bc_mo_named 68 = .ok (.bipush 8, 2) := by decide +kernel
theorem d_mo_named_70 : decode bc_mo_named 70 = .ok (.goto 10, 3) := by decide +kernel
theorem d_mo_named_73 : decode bc_mo_named 73 = .ok (.bipush 7, 2) := by decide +kernel
theorem d_mo_named_75 : decode bc_mo_named 75 = .ok (.goto 5, 3) := by decide +kernel
theorem d_mo_named_78 : decode bc_mo_named 78 = .ok (.bipush (-2), 2) := by decide +kernel
theorem d_mo_named_80 : decode bc_mo_named 80 = .ok (.ireturn, 1) := by decide +kernel
theorem d_mo_get_0 : decode bc_mo_get 0 = .ok (.iload_n 1, 1) := by decide +kernel
theorem d_mo_get_1 : decode bc_mo_get 1 = .ok (.ifCond .ge 10, 3) := by decide +kernel
theorem d_mo_get_4 : decode bc_mo_get 4 = .ok (.aload_n 0, 1) := by decide +kernel
theorem d_mo_get_5 : decode bc_mo_get 5 = .ok (.invokevirtual 66, 3) := by decide +kernel
theorem d_mo_get_8 : decode bc_mo_get 8 = .ok (.goto 9, 3) := by decide +kernel
theorem d_mo_get_11 : decode bc_mo_get 11 = .ok (.aload_n 0, 1) := by decide +kernel
theorem d_mo_get_12 : decode bc_mo_get 12 = .ok (.getfield 13, 3) := by decide +kernel
theorem d_mo_get_15 : decode bc_mo_get 15 = .ok (.iload_n 1, 1) := by decide +kernel
theorem d_mo_get_16 : decode bc_mo_get 16 = .ok (.iaload, 1) := by decide +kernel
theorem d_mo_get_17 : decode bc_mo_get 17 = .ok (.ireturn, 1) := by decide +kernel
theorem d_mo_set_0 : decode bc_mo_set 0 = .ok (.iload_n 1, 1) := by decide +kernel
theorem d_mo_set_1 : decode bc_mo_set 1 = .ok (.ifCond .ge 11, 3) := by decide +kernel
theorem d_mo_set_4 : decode bc_mo_set 4 = .ok (.aload_n 0, 1) := by decide +kernel
theorem d_mo_set_5 : decode bc_mo_set 5 = .ok (.iload_n 2, 1) := by decide +kernel
theorem d_mo_set_6 : decode bc_mo_set 6 = .ok (.invokevirtual 117, 3) := by decide +kernel
theorem d_mo_set_9 : decode bc_mo_set 9 = .ok (.goto 10, 3) := by decide +kernel
theorem d_mo_set_12 : decode bc_mo_set 12 = .ok (.aload_n 0, 1) := by decide +kernel
theorem d_mo_set_13 : decode bc_mo_set 13 = .ok (.getfield 13, 3) := by decide +kernel
theorem d_mo_set_16 : decode bc_mo_set 16 = .ok (.iload_n 1, 1) := by decide +kernel
theorem d_mo_set_17 : decode bc_mo_set 17 = .ok (.iload_n 2, 1) := by decide +kernel
theorem d_mo_set_18 : decode bc_mo_set 18 = .ok (.iastore, 1) := by decide +kernel
theorem d_mo_set_19 : decode bc_mo_set 19 = .ok (.aload_n 0, 1) := by decide +kernel
theorem d_mo_set_20 : decode bc_mo_set 20 = .ok (.aload_n 0, 1) := by decide +kernel
theorem d_mo_set_21 : decode bc_mo_set 21 = .ok (.getfield 90, 3) := by decide +kernel
theorem d_mo_set_24 : decode bc_mo_set 24 = .ok (.ifCond .ne 8, 3) := by decide +kernel
theorem d_mo_set_27 : decode bc_mo_set 27 = .ok (.iload_n 1, 1) := by decide +kernel
theorem d_mo_set_28 : decode bc_mo_set 28 = .ok (.iconst 5, 1) := by decide +kernel
theorem d_mo_set_29 : decode bc_mo_set 29 = .ok (.if_icmp .ne 7, 3) := by decide +kernel
theorem d_mo_set_32 : decode bc_mo_set 32 = .ok (.iconst 1, 1) := by decide +kernel
theorem d_mo_set_33 : decode bc_mo_set 33 = .ok (.goto 4, 3) := by decide +kernel
theorem d_mo_set_36 : decode bc_mo_set 36 = .ok (.iconst 0, 1) := by decide +kernel
theorem d_mo_set_37 : decode bc_mo_set 37 = .ok (.putfield 90, 3) := by decide +kernel
theorem d_mo_set_40 : decode bc_mo_set 40 = .ok (.return_, 1) := by decide +kernel
theorem d_mo_exchange_0 : decode bc_mo_exchange 0 = .ok (.aload_n 0, 1) := by decide +kernel
theorem d_mo_exchange_1 : decode bc_mo_exchange 1 = .ok (.invokevirtual 31, 3) := by decide +kernel
theorem d_mo_exchange_4 : decode bc_mo_exchange 4 = .ok (.istore_n 2, 1) := by decide +kernel
theorem d_mo_exchange_5 : decode bc_mo_exchange 5 = .ok (.iload_n 2, 1) := by decide +kernel
theorem d_mo_exchange_6 : decode bc_mo_exchange 6 = .ok (.iconst 4, 1) := by decide +kernel
theorem d_mo_exchange_7 : decode bc_mo_exchange 7 = .ok (.ishr, 1) := by decide +kernel
theorem d_mo_exchange_8 : decode bc_mo_exchange 8 = .ok (.invokestatic 146, 3) := by decide +kernel
theorem d_mo_exchange_11 : decode bc_mo_exchange 11 = .ok (.istore_n 3, 1) := by decide +kernel
theorem d_mo_exchange_12 : decode bc_mo_exchange 12 = .ok (.iload_n 2, 1) := by decide +kernel
theorem d_mo_exchange_13 : decode bc_mo_exchange 13 = .ok (.bipush 15, 2) := by decide +kernel
theorem d_mo_exchange_15 : decode bc_mo_exchange 15 = .ok (.iand, 1) := by decide +kernel
theorem d_mo_exchange_16 : decode bc_mo_exchange 16 = .ok (.invokestatic 146, 3) := by decide +kernel
theorem d_mo_exchange_19 : decode bc_mo_exchange 19 = .ok (.istore 4, 2) := by decide +kernel
theorem d_mo_exchange_21 : decode bc_mo_exchange 21 = .ok (.iload_n 3, 1) := by decide +kernel
theorem d_mo_exchange_22 : decode bc_mo_exchange 22 = .ok (.iconst (-1), 1) := by decide +kernel
theorem d_mo_exchange_23 : decode bc_mo_exchange 23 = .ok (.if_icmp .eq 13, 3) := by decide +kernel
theorem d_mo_exchange_26 : decode bc_mo_exchange 26 = .ok (.iload_n 3, 1) := by decide +kernel
theorem d_mo_exchange_27 : decode bc_mo_exchange 27 = .ok (.iconst 2, 1) := by decide +kernel
theorem d_mo_exchange_28 : decode bc_mo_exchange 28 = .ok (.bipush 6, 2) := by decide +kernel
theorem d_mo_exchange_30 : decode bc_mo_exchange 30 = .ok (.invokestatic 44, 3) := by decide +kernel
theorem d_mo_exchange_33 : decode bc_mo_exchange 33 = .ok (.ifCond .eq 7, 3) := by decide +kernel
theorem d_mo_exchange_36 : decode bc_mo_exchange 36 = .ok (.iconst 1, 1) := by decide +kernel
theorem d_mo_exchange_37 : decode bc_mo_exchange 37 = .ok (.goto 4, 3) := by decide +kernel
theorem d_mo_exchange_40 : decode bc_mo_exchange 40 = .ok (.iconst 0, 1) := by decide +kernel
theorem d_mo_exchange_41 : decode bc_mo_exchange 41 = .ok (.istore 5, 2) := by decide +kernel
theorem d_mo_exchange_43 : decode bc_mo_exchange 43 = .ok (.iload 4, 2) := by decide +kernel
theorem d_mo_exchange_45 : decode bc_mo_exchange 45 = .ok (.iconst (-1), 1) := by decide +kernel
theorem d_mo_exchange_46 : decode bc_mo_exchange 46 = .ok (.if_icmp .eq 14, 3) := by decide +kernel
theorem d_mo_exchange_49 : decode bc_mo_exchange 49 = .ok (.iload 4, 2) := by decide +kernel
theorem d_mo_exchange_51 : decode bc_mo_exchange 51 = .ok (.iconst 2, 1) := by decide +kernel
theorem d_mo_exchange_52 : decode bc_mo_exchange 52 = .ok (.bipush 6, 2) := by decide +kernel
theorem d_mo_exchange_54 : decode bc_mo_exchange 54 = .ok (.invokestatic 44, 3) := by decide +kernel
theorem d_mo_exchange_57 : decode bc_mo_exchange 57 = .ok (.ifCond .eq 7, 3) := by decide +kernel
theorem d_mo_exchange_60 : decode bc_mo_exchange 60 = .ok (.iconst 1, 1) := by decide +kernel
theorem d_mo_exchange_61 : decode bc_mo_exchange 61 = .ok (.goto 4, 3) := by decide +kernel
theorem d_mo_exchange_64 : decode bc_mo_exchange 64 = .ok (.iconst 0, 1) := by decide +kernel
theorem d_mo_exchange_65 : decode bc_mo_exchange 65 = .ok (.istore 6, 2) := by decide +kernel
theorem d_mo_exchange_67 : decode bc_mo_exchange 67 = .ok (.aload_n 0, 1) := by decide +kernel
theorem d_mo_exchange_68 : decode bc_mo_exchange 68 = .ok (.iload_n 3, 1) := by decide +kernel
theorem d_mo_exchange_69 : decode bc_mo_exchange 69 = .ok (.bipush (-2), 2) := by decide +kernel
theorem d_mo_exchange_71 : decode bc_mo_exchange 71 = .ok (.if_icmp .eq 17, 3) := by decide +kernel
theorem d_mo_exchange_74 : decode bc_mo_exchange 74 = .ok (.iload 4, 2) := by decide +kernel
theorem d_mo_exchange_76 : decode bc_mo_exchange 76 = .ok (.bipush (-2), 2) := by decide +kernel
theorem d_mo_exchange_78 : decode bc_mo_exchange 78 = .ok (.if_icmp .eq 10, 3) := by decide +kernel
theorem d_mo_exchange_81 : decode bc_mo_exchange 81 = .ok (.iload 5, 2) := by decide +kernel
theorem d_mo_exchange_83 : decode bc_mo_exchange 83 = .ok (.iload 6, 2) := by decide +kernel
theorem d_mo_exchange_85 : decode bc_mo_exchange 85 = .ok (.if_icmp .eq 7, 3) := by decide +kernel
theorem d_mo_exchange_88 : decode bc_mo_exchange 88 = .ok (.iconst 1, 1) := by decide +kernel
theorem d_mo_exchange_89 : decode bc_mo_exchange 89 = .ok (.goto 4, 3) := by decide +kernel
theorem d_mo_exchange_92 : decode bc_mo_exchange 92 = .ok (.iconst 0, 1) := by decide +kernel
theorem d_mo_exchange_93 : decode bc_mo_exchange 93 = .ok (.putfield 56, 3) := by decide +kernel
theorem d_mo_exchange_96 : decode bc_mo_exchange 96 = .ok (.aload_n 0, 1) := by decide +kernel
theorem d_mo_exchange_97 : decode bc_mo_exchange 97 = .ok (.getfield 56, 3) := by decide +kernel
theorem d_mo_exchange_100 : decode bc_mo_exchange 100 = .ok (.ifCond .eq 4, 3) := by decide +kernel
theorem d_mo_exchange_103 : decode bc_mo_exchange 103 = .ok (.return_, 1) := by decide +kernel
theorem d_mo_exchange_104 : decode bc_mo_exchange 104 = .ok (.aload_n 0, 1) := by decide +kernel
theorem d_mo_exchange_105 : decode bc_mo_exchange 105 = .ok (.iload_n 3, 1) := by decide +kernel
theorem d_mo_exchange_106 : decode bc_mo_exchange 106 = .ok (.invokevirtual 149, 3) := by decide +kernel
theorem d_mo_exchange_109 : decode bc_mo_exchange 109 = .ok (.istore 7, 2) := by decide +kernel
theorem d_mo_exchange_111 : decode bc_mo_exchange 111 = .ok (.aload_n 0, 1) := by decide +kernel
theorem d_mo_exchange_112 : decode bc_mo_exchange 112 = .ok (.iload 4, 2) := by decide +kernel
theorem d_mo_exchange_114 : decode bc_mo_exchange 114 = .ok (.invokevirtual 149, 3) := by decide +kernel
theorem d_mo_exchange_117 : decode bc_mo_exchange 117 = .ok (.istore 8, 2) := by decide +kernel
theorem d_mo_exchange_119 : decode bc_mo_exchange 119 = .ok (.aload_n 0, 1) := by decide +kernel
theorem d_mo_exchange_120 : decode bc_mo_exchange 120 = .ok (.iload 4, 2) := by decide +kernel
theorem d_mo_exchange_122 : decode bc_mo_exchange 122 = .ok (.iload 7, 2) := by decide +kernel
theorem d_mo_exchange_124 : decode bc_mo_exchange 124 = .ok (.invokevirtual 152, 3) := by decide +kernel
theorem d_mo_exchange_127 : decode bc_mo_exchange 127 = .ok (.iload_n 1, 1) := by decide +kernel
theorem d_mo_exchange_128 : decode bc_mo_exchange 128 = .ok (.ifCond .eq 10, 3) := by decide +kernel
theorem d_mo_exchange_131 : decode bc_mo_exchange 131 = .ok (.aload_n 0, 1) := by decide +kernel
theorem d_mo_exchange_132 : decode bc_mo_exchange 132 = .ok (.iload_n 3, 1) := by decide +kernel
theorem d_mo_exchange_133 : decode bc_mo_exchange 133 = .ok (.iload 8, 2) := by decide +kernel
theorem d_mo_exchange_135 : decode bc_mo_exchange 135 = .ok (.invokevirtual 152, 3) := by decide +kernel
theorem d_mo_exchange_138 : decode bc_mo_exchange 138 = .ok (.return_, 1) := by decide +kernel
theorem d_mo_lea_0 : decode bc_mo_lea 0 = .ok (.aload_n 0, 1) := by decide +kernel
theorem d_mo_lea_1 : decode bc_mo_lea 1 = .ok (.invokevirtual 72, 3) := by decide +kernel
theorem d_mo_lea_4 : decode bc_mo_lea 4 = .ok (.istore_n 2, 1) := by decide +kernel
theorem d_mo_lea_5 : decode bc_mo_lea 5 = .ok (.aload_n 0, 1) := by decide +kernel
theorem d_mo_lea_6 : decode bc_mo_lea 6 = .ok (.getfield 56, 3) := by decide +kernel
theorem d_mo_lea_9 : decode bc_mo_lea 9 = .ok (.ifCond .eq 4, 3) := by decide +kernel
theorem d_mo_lea_12 : decode bc_mo_lea 12 = .ok (.return_, 1) := by decide +kernel
theorem d_mo_lea_13 : decode bc_mo_lea 13 = .ok (.aload_n 0, 1) := by decide +kernel
theorem d_mo_lea_14 : decode bc_mo_lea 14 = .ok (.getfield 13, 3) := by decide +kernel
theorem d_mo_lea_17 : decode bc_mo_lea 17 = .ok (.iload_n 1, 1) := by decide +kernel
theorem d_mo_lea_18 : decode bc_mo_lea 18 = .ok (.iload_n 2, 1) := by decide +kernel
theorem d_mo_lea_19 : decode bc_mo_lea 19 = .ok (.iastore, 1) := by decide +kernel
theorem d_mo_lea_20 : decode bc_mo_lea 20 = .ok (.iload_n 1, 1) := by decide +kernel
theorem d_mo_lea_21 : decode bc_mo_lea 21 = .ok (.iconst 2, 1) := by decide +kernel
theorem d_mo_lea_22 : decode bc_mo_lea 22 = .ok (.if_icmp .eq 8, 3) := by decide +kernel
theorem d_mo_lea_25 : decode bc_mo_lea 25 = .ok (.iload_n 1, 1) := by decide +kernel
theorem d_mo_lea_26 : decode bc_mo_lea 26 = .ok (.iconst 3, 1) := by decide +kernel
theorem d_mo_lea_27 : decode bc_mo_lea 27 = .ok (.if_icmp .ne 17, 3) := by decide +kernel
theorem d_mo_lea_30 : decode bc_mo_lea 30 = .ok (.aload_n 0, 1) := by decide +kernel
theorem d_mo_lea_31 : decode bc_mo_lea 31 = .ok (.iconst 4, 1) := by decide +kernel
theorem d_mo_lea_32 : decode bc_mo_lea 32 = .ok (.iload_n 2, 1) := by decide +kernel
theorem d_mo_lea_33 : decode bc_mo_lea 33 = .ok (.ifCond .ne 7, 3) := by decide +kernel
theorem d_mo_lea_36 : decode bc_mo_lea 36 = .ok (.iconst 1, 1) := by decide +kernel
theorem d_mo_lea_37 : decode bc_mo_lea 37 = .ok (.goto 4, 3) := by decide +kernel
theorem d_mo_lea_40 : decode bc_mo_lea 40 = .ok (.iconst 0, 1) := by decide +kernel
theorem d_mo_lea_41 : decode bc_mo_lea 41 = .ok (.invokevirtual 36, 3) := by decide +kernel
theorem d_mo_lea_44 : decode bc_mo_lea 44 = .ok (.aload_n 0, 1) := by decide +kernel
theorem d_mo_lea_45 : decode bc_mo_lea 45 = .ok (.aload_n 0, 1) := by decide +kernel
theorem d_mo_lea_46 : decode bc_mo_lea 46 = .ok (.getfield 90, 3) := by decide +kernel
theorem d_mo_lea_49 : decode bc_mo_lea 49 = .ok (.ifCond .ne 8, 3) := by decide +kernel
theorem d_mo_lea_52 : decode bc_mo_lea 52 = .ok (.iload_n 1, 1) := by decide +kernel
theorem d_mo_lea_53 : decode bc_mo_lea 53 = .ok (.iconst 5, 1) := by decide +kernel
theorem d_mo_lea_54 : decode bc_mo_lea 54 = .ok (.if_icmp .ne 7, 3) := by decide +kernel
theorem d_mo_lea_57 : decode bc_mo_lea 57 = .ok (.iconst 1, 1) := by decide +kernel
theorem d_mo_lea_58 : decode bc_mo_lea 58 = .ok (.goto 4, 3) := by decide +kernel
theorem d_mo_lea_61 : decode bc_mo_lea 61 = .ok (.iconst 0, 1) := by decide +kernel
theorem d_mo_lea_62 : decode bc_mo_lea 62 = .ok (.putfield 90, 3) := by decide +kernel
theorem d_mo_lea_65 : decode bc_mo_lea 65 = .ok (.return_, 1) := by decide +kernel
theorem d_mo_pushState_0 : decode bc_mo_pushState 0 = .ok (.aload_n 0, 1) := by decide +kernel
theorem d_mo_pushState_1 : decode bc_mo_pushState 1 = .ok (.sipush 128, 3) := by decide +kernel
theorem d_mo_pushState_4 : decode bc_mo_pushState 4 = .ok (.iconst 1, 1) := by decide +kernel
theorem d_mo_pushState_5 : decode bc_mo_pushState 5 = .ok (.invokevirtual 36, 3) := by decide +kernel
theorem d_mo_pushState_8 : decode bc_mo_pushState 8 = .ok (.aload_n 0, 1) := by decide +kernel
theorem d_mo_pushState_9 : decode bc_mo_pushState 9 = .ok (.iconst 5, 1) := by decide +kernel
theorem d_mo_pushState_10 : decode bc_mo_pushState 10 = .ok (.sipush 255, 3) := by decide +kernel
theorem d_mo_pushState_13 : decode bc_mo_pushState 13 = .ok (.invokevirtual 155, 3) := by decide +kernel
theorem d_mo_pushState_16 : decode bc_mo_pushState 16 = .ok (.return_, 1) := by decide +kernel
theorem d_mo_trap_0 : decode bc_mo_trap 0 = .ok (.aload_n 0, 1) := by decide +kernel
theorem d_mo_trap_1 : decode bc_mo_trap 1 = .ok (.invokevirtual 158, 3) := by decide +kernel
theorem d_mo_trap_4 : decode bc_mo_trap 4 = .ok (.iload_n 2, 1) := by decide +kernel
theorem d_mo_trap_5 : decode bc_mo_trap 5 = .ok (.ifCond .eq 23, 3) := by decide +kernel
theorem d_mo_trap_8 : decode bc_mo_trap 8 = .ok (.aload_n 0, 1) := by decide +kernel
theorem d_mo_trap_9 : decode bc_mo_trap 9 = .ok (.getfield 13, 3) := by decide +kernel
theorem d_mo_trap_12 : decode bc_mo_trap 12 = .ok (.bipush 8, 2) := by decide +kernel
theorem d_mo_trap_14 : decode bc_mo_trap 14 = .ok (.aload_n 0, 1) := by decide +kernel
theorem d_mo_trap_15 : decode bc_mo_trap 15 = .ok (.getfield 13, 3) := by decide +kernel
theorem d_mo_trap_18 : decode bc_mo_trap 18 = .ok (.bipush 8, 2) := by decide +kernel
theorem d_mo_trap_20 : decode bc_mo_trap 20 = .ok (.iaload, 1) := by decide +kernel
theorem d_mo_trap_21 : decode bc_mo_trap 21 = .ok (.bipush 16, 2) := by decide +kernel
theorem d_mo_trap_23 : decode bc_mo_trap 23 = .ok (.ior, 1) := by decide +kernel
theorem d_mo_trap_24 : decode bc_mo_trap 24 = .ok (.bipush 64, 2) := by decide +kernel
theorem d_mo_trap_26 : decode bc_mo_trap 26 = .ok (.ior, 1) := by decide +kernel
theorem d_mo_trap_27 : decode bc_mo_trap 27 = .ok (.iastore, 1) := by decide +kernel
theorem d_mo_trap_28 : decode bc_mo_trap 28 = .ok (.aload_n 0, 1) := by decide +kernel
theorem d_mo_trap_29 : decode bc_mo_trap 29 = .ok (.getfield 13, 3) := by decide +kernel
theorem d_mo_trap_32 : decode bc_mo_trap 32 = .ok (.bipush 6, 2) := by decide +kernel
theorem d_mo_trap_34 : decode bc_mo_trap 34 = .ok (.aload_n 0, 1) := by decide +kernel
theorem d_mo_trap_35 : decode bc_mo_trap 35 = .ok (.iload_n 1, 1) := by decide +kernel
theorem d_mo_trap_36 : decode bc_mo_trap 36 = .ok (.invokevirtual 69, 3) := by decide +kernel
theorem d_mo_trap_39 : decode bc_mo_trap 39 = .ok (.iastore, 1) := by decide +kernel
theorem d_mo_trap_40 : decode bc_mo_trap 40 = .ok (.return_, 1) := by decide +kernel
theorem d_mo_multiply_0 : decode bc_mo_multiply 0 = .ok (.aload_n 0, 1) := by decide +kernel
theorem d_mo_multiply_1 : decode bc_mo_multiply 1 = .ok (.getfield 13, 3) := by decide +kernel
theorem d_mo_multiply_4 : decode bc_mo_multiply 4 = .ok (.iconst 0, 1) := by decide +kernel
theorem d_mo_multiply_5 : decode bc_mo_multiply 5 = .ok (.iaload, 1) := by decide +kernel
theorem d_mo_multiply_6 : decode bc_mo_multiply 6 = .ok (.aload_n 0, 1) := by decide +kernel
theorem d_mo_multiply_7 : decode bc_mo_multiply 7 = .ok (.getfield 13, 3) := by decide +kernel
theorem d_mo_multiply_10 : decode bc_mo_multiply 10 = .ok (.iconst 1, 1) := by decide +kernel
theorem d_mo_multiply_11 : decode bc_mo_multiply 11 = .ok (.iaload, 1) := by decide +kernel
theorem d_mo_multiply_12 : decode bc_mo_multiply 12 = .ok (.imul, 1) := by decide +kernel
theorem d_mo_multiply_13 : decode bc_mo_multiply 13 = .ok (.istore_n 1, 1) := by decide +kernel
theorem d_mo_multiply_14 : decode bc_mo_multiply 14 = .ok (.aload_n 0, 1) := by decide +kernel
theorem d_mo_multiply_15 : decode bc_mo_multiply 15 = .ok (.iload_n 1, 1) := by decide +kernel
theorem d_mo_multiply_16 : decode bc_mo_multiply 16 = .ok (.invokevirtual 117, 3) := by decide +kernel
theorem d_mo_multiply_19 : decode bc_mo_multiply 19 = .ok (.aload_n 0, 1) := by decide +kernel
theorem d_mo_multiply_20 : decode bc_mo_multiply 20 = .ok (.iconst 4, 1) := by decide +kernel
theorem d_mo_multiply_21 : decode bc_mo_multiply 21 = .ok (.iload_n 1, 1) := by decide +kernel
theorem d_mo_multiply_22 : decode bc_mo_multiply 22 = .ok (.ifCond .ne 7, 3) := by decide +kernel
theorem d_mo_multiply_25 : decode bc_mo_multiply 25 = .ok (.iconst 1, 1) := by decide +kernel
theorem d_mo_multiply_26 : decode bc_mo_multiply 26 = .ok (.goto 4, 3) := by decide +kernel
theorem d_mo_multiply_29 : decode bc_mo_multiply 29 = .ok (.iconst 0, 1) := by decide +kernel
theorem d_mo_multiply_30 : decode bc_mo_multiply 30 = .ok (.invokevirtual 36, 3) := by decide +kernel
theorem d_mo_multiply_33 : decode bc_mo_multiply 33 = .ok (.aload_n 0, 1) := by decide +kernel
theorem d_mo_multiply_34 : decode bc_mo_multiply 34 = .ok (.iconst 1, 1) := by decide +kernel
theorem d_mo_multiply_35 : decode bc_mo_multiply 35 = .ok (.iload_n 1, 1) := by decide +kernel
theorem d_mo_multiply_36 : decode bc_mo_multiply 36 = .ok (.sipush 128, 3) := by decide +kernel
theorem d_mo_multiply_39 : decode bc_mo_multiply 39 = .ok (.iand, 1) := by decide +kernel
theorem d_mo_multiply_40 : decode bc_mo_multiply 40 = .ok (.ifCond .eq 7, 3) := by decide +kernel
theorem d_mo_multiply_43 : decode bc_mo_multiply 43 = .ok (.iconst 1, 1) := by decide +kernel
theorem d_mo_multiply_44 : decode bc_mo_multiply 44 = .ok (.goto 4, 3) := by decide +kernel
theorem d_mo_multiply_47 : decode bc_mo_multiply 47 = .ok (.iconst 0, 1) := by decide +kernel
theorem d_mo_multiply_48 : decode bc_mo_multiply 48 = .ok (.invokevirtual 36, 3) := by decide +kernel
theorem d_mo_multiply_51 : decode bc_mo_multiply 51 = .ok (.return_, 1) := by decide +kernel
theorem d_mo_back_0 : decode bc_mo_back 0 = .ok (.aload_n 0, 1) := by decide +kernel
theorem d_mo_back_1 : decode bc_mo_back 1 = .ok (.getfield 13, 3) := by decide +kernel
theorem d_mo_back_4 : decode bc_mo_back 4 = .ok (.bipush 8, 2) := by decide +kernel
theorem d_mo_back_6 : decode bc_mo_back 6 = .ok (.aload_n 0, 1) := by decide +kernel
theorem d_mo_back_7 : decode bc_mo_back 7 = .ok (.iconst 5, 1) := by decide +kernel
theorem d_mo_back_8 : decode bc_mo_back 8 = .ok (.invokevirtual 81, 3) := by decide +kernel
theorem d_mo_back_11 : decode bc_mo_back 11 = .ok (.iastore, 1) := by decide +kernel
theorem d_mo_back_12 : decode bc_mo_back 12 = .ok (.aload_n 0, 1) := by decide +kernel
theorem d_mo_back_13 : decode bc_mo_back 13 = .ok (.iconst 5, 1) := by decide +kernel
theorem d_mo_back_14 : decode bc_mo_back 14 = .ok (.aload_n 0, 1) := by decide +kernel
theorem d_mo_back_15 : decode bc_mo_back 15 = .ok (.sipush 128, 3) := by decide +kernel
theorem d_mo_back_18 : decode bc_mo_back 18 = .ok (.invokevirtual 93, 3) := by decide +kernel
theorem d_mo_back_21 : decode bc_mo_back 21 = .ok (.ifCond .eq 9, 3) := by decide +kernel
theorem d_mo_back_24 : decode bc_mo_back 24 = .ok (.sipush 254, 3) := by decide +kernel
theorem d_mo_back_27 : decode bc_mo_back 27 = .ok (.goto 6, 3) := by decide +kernel
theorem d_mo_back_30 : decode bc_mo_back 30 = .ok (.sipush 128, 3) := by decide +kernel
theorem d_mo_back_33 : decode bc_mo_back 33 = .ok (.invokevirtual 161, 3) := by decide +kernel
theorem d_mo_back_36 : decode bc_mo_back 36 = .ok (.return_, 1) := by decide +kernel
theorem d_mo_last_0 : decode bc_mo_last 0 = .ok (.iload_n 1, 1) := by decide +kernel
theorem d_mo_last_1 : decode bc_mo_last 1 = .ok (.bipush 57, 2) := by decide +kernel
theorem d_mo_last_3 : decode bc_mo_last 3 = .ok (.if_icmp .ne 18, 3) := by decide +kernel
theorem d_mo_last_6 : decode bc_mo_last 6 = .ok (.aload_n 0, 1) := by decide +kernel
theorem d_mo_last_7 : decode bc_mo_last 7 = .ok (.getfield 13, 3) := by decide +kernel
theorem d_mo_last_10 : decode bc_mo_last 10 = .ok (.bipush 6, 2) := by decide +kernel
theorem d_mo_last_12 : decode bc_mo_last 12 = .ok (.aload_n 0, 1) := by decide +kernel
theorem d_mo_last_13 : decode bc_mo_last 13 = .ok (.iconst 5, 1) := by decide +kernel
theorem d_mo_last_14 : decode bc_mo_last 14 = .ok (.invokevirtual 87, 3) := by decide +kernel
theorem d_mo_last_17 : decode bc_mo_last 17 = .ok (.iastore, 1) := by decide +kernel
theorem d_mo_last_18 : decode bc_mo_last 18 = .ok (.goto 118, 3) := by decide +kernel
theorem d_mo_last_21 : decode bc_mo_last 21 = .ok (.iload_n 1, 1) := by decide +kernel
theorem d_mo_last_22 : decode bc_mo_last 22 = .ok (.bipush 58, 2) := by decide +kernel
theorem d_mo_last_24 : decode bc_mo_last 24 = .ok (.if_icmp .ne 28, 3) := by decide +kernel
theorem d_mo_last_27 : decode bc_mo_last 27 = .ok (.aload_n 0, 1) := by decide +kernel
theorem d_mo_last_28 : decode bc_mo_last 28 = .ok (.getfield 13, 3) := by decide +kernel
theorem d_mo_last_31 : decode bc_mo_last 31 = .ok (.iconst 2, 1) := by decide +kernel
theorem d_mo_last_32 : decode bc_mo_last 32 = .ok (.aload_n 0, 1) := by decide +kernel
theorem d_mo_last_33 : decode bc_mo_last 33 = .ok (.getfield 13, 3) := by decide +kernel
theorem d_mo_last_36 : decode bc_mo_last 36 = .ok (.iconst 2, 1) := by decide +kernel
theorem d_mo_last_37 : decode bc_mo_last 37 = .ok (.iaload, 1) := by decide +kernel
theorem d_mo_last_38 : decode bc_mo_last 38 = .ok (.aload_n 0, 1) := by decide +kernel
theorem d_mo_last_39 : decode bc_mo_last 39 = .ok (.getfield 13, 3) := by decide +kernel
theorem d_mo_last_42 : decode bc_mo_last 42 = .ok (.iconst 1, 1) := by decide +kernel
theorem d_mo_last_43 : decode bc_mo_last 43 = .ok (.iaload, 1) := by decide +kernel
theorem d_mo_last_44 : decode bc_mo_last 44 = .ok (.iadd, 1) := by decide +kernel
theorem d_mo_last_45 : decode bc_mo_last 45 = .ok (.ldc 30, 2) := by decide +kernel
theorem d_mo_last_47 : decode bc_mo_last 47 = .ok (.iand, 1) := by decide +kernel
theorem d_mo_last_48 : decode bc_mo_last 48 = .ok (.iastore, 1) := by decide +kernel
theorem d_mo_last_49 : decode bc_mo_last 49 = .ok (.goto 87, 3) := by decide +kernel
theorem d_mo_last_52 : decode bc_mo_last 52 = .ok (.iload_n 1, 1) := by decide +kernel
theorem d_mo_last_53 : decode bc_mo_last 53 = .ok (.bipush 59, 2) := by decide +kernel
theorem d_mo_last_55 : decode bc_mo_last 55 = .ok (.if_icmp .ne 10, 3) := by decide +kernel
theorem d_mo_last_58 : decode bc_mo_last 58 = .ok (.aload_n 0, 1) := by decide +kernel
theorem d_mo_last_59 : decode bc_mo_last 59 = .ok (.invokevirtual 184, 3) := by decide +kernel
theorem d_mo_last_62 : decode bc_mo_last 62 = .ok (.goto 74, 3) := by decide +kernel
theorem d_mo_last_65 : decode bc_mo_last 65 = .ok (.iload_n 1, 1) := by decide +kernel
theorem d_mo_last_66 : decode bc_mo_last 66 = .ok (.bipush 60, 2) := by decide +kernel
theorem d_mo_last_68 : decode bc_mo_last 68 = .ok (.if_icmp .ne 34, 3) := by decide +kernel
theorem d_mo_last_71 : decode bc_mo_last 71 = .ok (.aload_n 0, 1) := by decide +kernel
theorem d_mo_last_72 : decode bc_mo_last 72 = .ok (.getfield 13, 3) := by decide +kernel
theorem d_mo_last_75 : decode bc_mo_last 75 = .ok (.bipush 8, 2) := by decide +kernel
theorem d_mo_last_77 : decode bc_mo_last 77 = .ok (.aload_n 0, 1) := by decide +kernel
theorem d_mo_last_78 : decode bc_mo_last 78 = .ok (.getfield 13, 3) := by decide +kernel
theorem d_mo_last_81 : decode bc_mo_last 81 = .ok (.bipush 8, 2) := by decide +kernel
theorem d_mo_last_83 : decode bc_mo_last 83 = .ok (.iaload, 1) := by decide +kernel
theorem d_mo_last_84 : decode bc_mo_last 84 = .ok (.aload_n 0, 1) := by decide +kernel
theorem d_mo_last_85 : decode bc_mo_last 85 = .ok (.invokevirtual 31, 3) := by decide +kernel
theorem d_mo_last_88 : decode bc_mo_last 88 = .ok (.iand, 1) := by decide +kernel
theorem d_mo_last_89 : decode bc_mo_last 89 = .ok (.iastore, 1) := by decide +kernel
theorem d_mo_last_90 : decode bc_mo_last 90 = .ok (.aload_n 0, 1) := by decide +kernel
theorem d_mo_last_91 : decode bc_mo_last 91 = .ok (.invokevirtual 158, 3) := by decide +kernel
theorem d_mo_last_94 : decode bc_mo_last 94 = .ok (.aload_n 0, 1) := by decide +kernel
theorem d_mo_last_95 : decode bc_mo_last 95 = .ok (.iconst 2, 1) := by decide +kernel
theorem d_mo_last_96 : decode bc_mo_last 96 = .ok (.putfield 164, 3) := by decide +kernel
theorem d_mo_last_99 : decode bc_mo_last 99 = .ok (.goto 37, 3) := by decide +kernel
theorem d_mo_last_102 : decode bc_mo_last 102 = .ok (.iload_n 1, 1) := by decide +kernel
theorem d_mo_last_103 : decode bc_mo_last 103 = .ok (.bipush 61, 2) := by decide +kernel
theorem d_mo_last_105 : decode bc_mo_last 105 = .ok (.if_icmp .ne 10, 3) := by decide +kernel
theorem d_mo_last_108 : decode bc_mo_last 108 = .ok (.aload_n 0, 1) := by decide +kernel
theorem d_mo_last_109 : decode bc_mo_last 109 = .ok (.invokevirtual 187, 3) := by decide +kernel
theorem d_mo_last_112 : decode bc_mo_last 112 = .ok (.goto 24, 3) := by decide +kernel
theorem d_mo_last_115 : decode bc_mo_last 115 = .ok (.iload_n 1, 1) := by decide +kernel
theorem d_mo_last_116 : decode bc_mo_last 116 = .ok (.bipush 63, 2) := by decide +kernel
theorem d_mo_last_118 : decode bc_mo_last 118 = .ok (.if_icmp .ne 13, 3) := by decide +kernel
theorem d_mo_last_121 : decode bc_mo_last 121 = .ok (.aload_n 0, 1) := by decide +kernel
theorem d_mo_last_122 : decode bc_mo_last 122 = .ok (.ldc 190, 2) := by decide +kernel
theorem d_mo_last_124 : decode bc_mo_last 124 = .ok (.iconst 1, 1) := by decide +kernel
theorem d_mo_last_125 : decode bc_mo_last 125 = .ok (.invokevirtual 191, 3) := by decide +kernel
theorem d_mo_last_128 : decode bc_mo_last 128 = .ok (.goto 8, 3) := by decide +kernel
theorem d_mo_last_131 : decode bc_mo_last 131 = .ok (.aload_n 0, 1) := by decide +kernel
theorem d_mo_last_132 : decode bc_mo_last 132 = .ok (.iconst 1, 1) := by decide +kernel
theorem d_mo_last_133 : decode bc_mo_last 133 = .ok (.putfield 56, 3) := by decide +kernel
theorem d_mo_last_136 : decode bc_mo_last 136 = .ok (.return_, 1) := by decide +kernel
theorem d_mo_middle_0 : decode bc_mo_middle 0 = .ok (.iload_n 1, 1) := by decide +kernel
theorem d_mo_middle_1 : decode bc_mo_middle 1 = .ok (.bipush 18, 2) := by decide +kernel
theorem d_mo_middle_3 : decode bc_mo_middle 3 = .ok (.if_icmp .ne 4, 3) := by decide +kernel
theorem d_mo_middle_6 : decode bc_mo_middle 6 = .ok (.return_, 1) := by decide +kernel
theorem d_mo_middle_7 : decode bc_mo_middle 7 = .ok (.iload_n 1, 1) := by decide +kernel
theorem d_mo_middle_8 : decode bc_mo_middle 8 = .ok (.bipush 19, 2) := by decide +kernel
theorem d_mo_middle_10 : decode bc_mo_middle 10 = .ok (.if_icmp .ne 11, 3) := by decide +kernel
theorem d_mo_middle_13 : decode bc_mo_middle 13 = .ok (.aload_n 0, 1) := by decide +kernel
theorem d_mo_middle_14 : decode bc_mo_middle 14 = .ok (.iconst 1, 1) := by decide +kernel
theorem d_mo_middle_15 : decode bc_mo_middle 15 = .ok (.putfield 164, 3) := by decide +kernel
theorem d_mo_middle_18 : decode bc_mo_middle 18 = .ok (.goto 312, 3) := by decide +kernel
theorem d_mo_middle_21 : decode bc_mo_middle 21 = .ok (.iload_n 1, 1) := by decide +kernel
theorem d_mo_middle_22 : decode bc_mo_middle 22 = .ok (.bipush 22, 2) := by decide +kernel
theorem d_mo_middle_24 : decode bc_mo_middle 24 = .ok (.if_icmp .ne 12, 3) := by decide +kernel
theorem d_mo_middle_27 : decode bc_mo_middle 27 = .ok (.aload_n 0, 1) := by decide +kernel
theorem d_mo_middle_28 : decode bc_mo_middle 28 = .ok (.iconst 0, 1) := by decide +kernel
theorem d_mo_middle_29 : decode bc_mo_middle 29 = .ok (.iconst 1, 1) := by decide +kernel
theorem d_mo_middle_30 : decode bc_mo_middle 30 = .ok (.invokevirtual 168, 3) := by decide +kernel
theorem d_mo_middle_33 : decode bc_mo_middle 33 = .ok (.goto 297, 3) := by decide +kernel
theorem d_mo_middle_36 : decode bc_mo_middle 36 = .ok (.iload_n 1, 1) := by decide +kernel
theorem d_mo_middle_37 : decode bc_mo_middle 37 = .ok (.bipush 23, 2) := by decide +kernel
theorem d_mo_middle_39 : decode bc_mo_middle 39 = .ok (.if_icmp .ne 42, 3) := by decide +kernel
theorem d_mo_middle_42 : decode bc_mo_middle 42 = .ok (.aload_n 0, 1) := by decide +kernel
theorem d_mo_middle_43 : decode bc_mo_middle 43 = .ok (.invokevirtual 63, 3) := by decide +kernel
theorem d_mo_middle_46 : decode bc_mo_middle 46 = .ok (.istore_n 2, 1) := by decide +kernel
theorem d_mo_middle_47 : decode bc_mo_middle 47 = .ok (.aload_n 0, 1) := by decide +kernel
theorem d_mo_middle_48 : decode bc_mo_middle 48 = .ok (.iconst 5, 1) := by decide +kernel
theorem d_mo_middle_49 : decode bc_mo_middle 49 = .ok (.aload_n 0, 1) := by decide +kernel
theorem d_mo_middle_50 : decode bc_mo_middle 50 = .ok (.getfield 13, 3) := by decide +kernel
theorem d_mo_middle_53 : decode bc_mo_middle 53 = .ok (.bipush 6, 2) := by decide +kernel
theorem d_mo_middle_55 : decode bc_mo_middle 55 = .ok (.iaload, 1) := by decide +kernel
theorem d_mo_middle_56 : decode bc_mo_middle 56 = .ok (.invokevirtual 84, 3) := by decide +kernel
theorem d_mo_middle_59 : decode bc_mo_middle 59 = .ok (.aload_n 0, 1) := by decide +kernel
theorem d_mo_middle_60 : decode bc_mo_middle 60 = .ok (.getfield 13, 3) := by decide +kernel
theorem d_mo_middle_63 : decode bc_mo_middle 63 = .ok (.bipush 6, 2) := by decide +kernel
theorem d_mo_middle_65 : decode bc_mo_middle 65 = .ok (.aload_n 0, 1) := by decide +kernel
theorem d_mo_middle_66 : decode bc_mo_middle 66 = .ok (.getfield 13, 3) := by decide +kernel
theorem d_mo_middle_69 : decode bc_mo_middle 69 = .ok (.bipush 6, 2) := by decide +kernel
theorem d_mo_middle_71 : decode bc_mo_middle 71 = .ok (.iaload, 1) := by decide +kernel
theorem d_mo_middle_72 : decode bc_mo_middle 72 = .ok (.iload_n 2, 1) := by decide +kernel
theorem d_mo_middle_73 : decode bc_mo_middle 73 = .ok (.iadd, 1) := by decide +kernel
theorem d_mo_middle_74 : decode bc_mo_middle 74 = .ok (.ldc 30, 2) := by decide +kernel
theorem d_mo_middle_76 : decode bc_mo_middle 76 = .ok (.iand, 1) := by decide +kernel
theorem d_mo_middle_77 : decode bc_mo_middle 77 = .ok (.iastore, 1) := by decide +kernel
theorem d_mo_middle_78 : decode bc_mo_middle 78 = .ok (.goto 252, 3) := by decide +kernel
theorem d_mo_middle_81 : decode bc_mo_middle 81 = .ok (.iload_n 1, 1) := by decide +kernel
theorem d_mo_middle_82 : decode bc_mo_middle 82 = .ok (.bipush 25, 2) := by decide +kernel
theorem d_mo_middle_84 : decode bc_mo_middle 84 = .ok (.if_icmp .ne 10, 3) := by decide +kernel
theorem d_mo_middle_87 : decode bc_mo_middle 87 = .ok (.aload_n 0, 1) := by decide +kernel
theorem d_mo_middle_88 : decode bc_mo_middle 88 = .ok (.invokevirtual 171, 3) := by decide +kernel
theorem d_mo_middle_91 : decode bc_mo_middle 91 = .ok (.goto 239, 3) := by decide +kernel
theorem d_mo_middle_94 : decode bc_mo_middle 94 = .ok (.iload_n 1, 1) := by decide +kernel
theorem d_mo_middle_95 : decode bc_mo_middle 95 = .ok (.bipush 26, 2) := by decide +kernel
theorem d_mo_middle_97 : decode bc_mo_middle 97 = .ok (.if_icmp .ne 25, 3) := by decide +kernel
theorem d_mo_middle_100 : decode bc_mo_middle 100 = .ok (.aload_n 0, 1) := by decide +kernel
theorem d_mo_middle_101 : decode bc_mo_middle 101 = .ok (.getfield 13, 3) := by decide +kernel
theorem d_mo_middle_104 : decode bc_mo_middle 104 = .ok (.bipush 8, 2) := by decide +kernel
theorem d_mo_middle_106 : decode bc_mo_middle 106 = .ok (.aload_n 0, 1) := by decide +kernel
theorem d_mo_middle_107 : decode bc_mo_middle 107 = .ok (.getfield 13, 3) := by decide +kernel
theorem d_mo_middle_110 : decode bc_mo_middle 110 = .ok (.bipush 8, 2) := by decide +kernel
theorem d_mo_middle_112 : decode bc_mo_middle 112 = .ok (.iaload, 1) := by decide +kernel
theorem d_mo_middle_113 : decode bc_mo_middle 113 = .ok (.aload_n 0, 1) := by decide +kernel
theorem d_mo_middle_114 : decode bc_mo_middle 114 = .ok (.invokevirtual 31, 3) := by decide +kernel
theorem d_mo_middle_117 : decode bc_mo_middle 117 = .ok (.ior, 1) := by decide +kernel
theorem d_mo_middle_118 : decode bc_mo_middle 118 = .ok (.iastore, 1) := by decide +kernel
theorem d_mo_middle_119 : decode bc_mo_middle 119 = .ok (.goto 211, 3) := by decide +kernel
theorem d_mo_middle_122 : decode bc_mo_middle 122 = .ok (.iload_n 1, 1) := by decide +kernel
theorem d_mo_middle_123 : decode bc_mo_middle 123 = .ok (.bipush 28, 2) := by decide +kernel
theorem d_mo_middle_125 : decode bc_mo_middle 125 = .ok (.if_icmp .ne 25, 3) := by decide +kernel
theorem d_mo_middle_128 : decode bc_mo_middle 128 = .ok (.aload_n 0, 1) := by decide +kernel
theorem d_mo_middle_129 : decode bc_mo_middle 129 = .ok (.getfield 13, 3) := by decide +kernel
theorem d_mo_middle_132 : decode bc_mo_middle 132 = .ok (.bipush 8, 2) := by decide +kernel
theorem d_mo_middle_134 : decode bc_mo_middle 134 = .ok (.aload_n 0, 1) := by decide +kernel
theorem d_mo_middle_135 : decode bc_mo_middle 135 = .ok (.getfield 13, 3) := by decide +kernel
theorem d_mo_middle_138 : decode bc_mo_middle 138 = .ok (.bipush 8, 2) := by decide +kernel
theorem d_mo_middle_140 : decode bc_mo_middle 140 = .ok (.iaload, 1) := by decide +kernel
theorem d_mo_middle_141 : decode bc_mo_middle 141 = .ok (.aload_n 0, 1) := by decide +kernel
theorem d_mo_middle_142 : decode bc_mo_middle 142 = .ok (.invokevirtual 31, 3) := by decide +kernel
theorem d_mo_middle_145 : decode bc_mo_middle 145 = .ok (.iand, 1) := by decide +kernel
theorem d_mo_middle_146 : decode bc_mo_middle 146 = .ok (.iastore, 1) := by decide +kernel
theorem d_mo_middle_147 : decode bc_mo_middle 147 = .ok (.goto 183, 3) := by decide +kernel
theorem d_mo_middle_150 : decode bc_mo_middle 150 = .ok (.iload_n 1, 1) := by decide +kernel
theorem d_mo_middle_151 : decode bc_mo_middle 151 = .ok (.bipush 29, 2) := by decide +kernel
theorem d_mo_middle_153 : decode bc_mo_middle 153 = .ok (.if_icmp .ne 41, 3) := by decide +kernel
theorem d_mo_middle_156 : decode bc_mo_middle 156 = .ok (.aload_n 0, 1) := by decide +kernel
theorem d_mo_middle_157 : decode bc_mo_middle 157 = .ok (.getfield 13, 3) := by decide +kernel
theorem d_mo_middle_160 : decode bc_mo_middle 160 = .ok (.iconst 0, 1) := by decide +kernel
theorem d_mo_middle_161 : decode bc_mo_middle 161 = .ok (.aload_n 0, 1) := by decide +kernel
theorem d_mo_middle_162 : decode bc_mo_middle 162 = .ok (.getfield 13, 3) := by decide +kernel
theorem d_mo_middle_165 : decode bc_mo_middle 165 = .ok (.iconst 1, 1) := by decide +kernel
theorem d_mo_middle_166 : decode bc_mo_middle 166 = .ok (.iaload, 1) := by decide +kernel
theorem d_mo_middle_167 : decode bc_mo_middle 167 = .ok (.sipush 128, 3) := by decide +kernel
theorem d_mo_middle_170 : decode bc_mo_middle 170 = .ok (.if_icmp .lt 9, 3) := by decide +kernel
theorem d_mo_middle_173 : decode bc_mo_middle 173 = .ok (.sipush 255, 3) := by decide +kernel
theorem d_mo_middle_176 : decode bc_mo_middle 176 = .ok (.goto 4, 3) := by decide +kernel
theorem d_mo_middle_179 : decode bc_mo_middle 179 = .ok (.iconst 0, 1) := by decide +kernel
theorem d_mo_middle_180 : decode bc_mo_middle 180 = .ok (.iastore, 1) := by decide +kernel
theorem d_mo_middle_181 : decode bc_mo_middle 181 = .ok (.aload_n 0, 1) := by decide +kernel
theorem d_mo_middle_182 : decode bc_mo_middle 182 = .ok (.aload_n 0, 1) := by decide +kernel
theorem d_mo_middle_183 : decode bc_mo_middle 183 = .ok (.invokevirtual 66, 3) := by decide +kernel
theorem d_mo_middle_186 : decode bc_mo_middle 186 = .ok (.iconst 1, 1) := by decide +kernel
theorem d_mo_middle_187 : decode bc_mo_middle 187 = .ok (.invokevirtual 105, 3) := by decide +kernel
theorem d_mo_middle_190 : decode bc_mo_middle 190 = .ok (.pop, 1) := by decide +kernel
theorem d_mo_middle_191 : decode bc_mo_middle 191 = .ok (.goto 139, 3) := by decide +kernel
theorem d_mo_middle_194 : decode bc_mo_middle 194 = .ok (.iload_n 1, 1) := by decide +kernel
theorem d_mo_middle_195 : decode bc_mo_middle 195 = .ok (.bipush 30, 2) := by decide +kernel
theorem d_mo_middle_197 : decode bc_mo_middle 197 = .ok (.if_icmp .eq 9, 3) := by decide +kernel
theorem d_mo_middle_200 : decode bc_mo_middle 200 = .ok (.iload_n 1, 1) := by decide +kernel
theorem d_mo_middle_201 : decode bc_mo_middle 201 = .ok (.bipush 31, 2) := by decide +kernel
theorem d_mo_middle_203 : decode bc_mo_middle 203 = .ok (.if_icmp .ne 21, 3) := by decide +kernel
theorem d_mo_middle_206 : decode bc_mo_middle 206 = .ok (.aload_n 0, 1) := by decide +kernel
theorem d_mo_middle_207 : decode bc_mo_middle 207 = .ok (.iload_n 1, 1) := by decide +kernel
theorem d_mo_middle_208 : decode bc_mo_middle 208 = .ok (.bipush 30, 2) := by decide +kernel
theorem d_mo_middle_210 : decode bc_mo_middle 210 = .ok (.if_icmp .ne 7, 3) := by decide +kernel
theorem d_mo_middle_213 : decode bc_mo_middle 213 = .ok (.iconst 1, 1) := by decide +kernel
theorem d_mo_middle_214 : decode bc_mo_middle 214 = .ok (.goto 4, 3) := by decide +kernel
theorem d_mo_middle_217 : decode bc_mo_middle 217 = .ok (.iconst 0, 1) := by decide +kernel
theorem d_mo_middle_218 : decode bc_mo_middle 218 = .ok (.invokevirtual 174, 3) := by decide +kernel
theorem d_mo_middle_221 : decode bc_mo_middle 221 = .ok (.goto 109, 3) := by decide +kernel
theorem d_mo_middle_224 : decode bc_mo_middle 224 = .ok (.iload_n 1, 1) := by decide +kernel
theorem d_mo_middle_225 : decode bc_mo_middle 225 = .ok (.bipush 48, 2) := by decide +kernel
theorem d_mo_middle_227 : decode bc_mo_middle 227 = .ok (.bipush 51, 2) := by decide +kernel
theorem d_mo_middle_229 : decode bc_mo_middle 229 = .ok (.invokestatic 44, 3) := by decide +kernel
theorem d_mo_middle_232 : decode bc_mo_middle 232 = .ok (.ifCond .eq 41, 3) := by decide +kernel
theorem d_mo_middle_235 : decode bc_mo_middle 235 = .ok (.aload_n 0, 1) := by decide +kernel
theorem d_mo_middle_236 : decode bc_mo_middle 236 = .ok (.iload_n 1, 1) := by decide +kernel
theorem d_mo_middle_237 : decode bc_mo_middle 237 = .ok (.bipush 48, 2) := by decide +kernel
theorem d_mo_middle_239 : decode bc_mo_middle 239 = .ok (.if_icmp .ne 7, 3) := by decide +kernel
theorem d_mo_middle_242 : decode bc_mo_middle 242 = .ok (.iconst 2, 1) := by decide +kernel
theorem d_mo_middle_243 : decode bc_mo_middle 243 = .ok (.goto 24, 3) := by decide +kernel
theorem d_mo_middle_246 : decode bc_mo_middle 246 = .ok (.iload_n 1, 1) := by decide +kernel
theorem d_mo_middle_247 : decode bc_mo_middle 247 = .ok (.bipush 49, 2) := by decide +kernel
theorem d_mo_middle_249 : decode bc_mo_middle 249 = .ok (.if_icmp .ne 7, 3) := by decide +kernel
theorem d_mo_middle_252 : decode bc_mo_middle 252 = .ok (.iconst 3, 1) := by decide +kernel
theorem d_mo_middle_253 : decode bc_mo_middle 253 = .ok (.goto 14, 3) := by decide +kernel
theorem d_mo_middle_256 : decode bc_mo_middle 256 = .ok (.iload_n 1, 1) := by decide +kernel
theorem d_mo_middle_257 : decode bc_mo_middle 257 = .ok (.bipush 50, 2) := by decide +kernel
theorem d_mo_middle_259 : decode bc_mo_middle 259 = .ok (.if_icmp .ne 7, 3) := by decide +kernel
theorem d_mo_middle_262 : decode bc_mo_middle 262 = .ok (.iconst 5, 1) := by decide +kernel
theorem d_mo_middle_263 : decode bc_mo_middle 263 = .ok (.goto 4, 3) := by decide +kernel
theorem d_mo_middle_266 : decode bc_mo_middle 266 = .ok (.iconst 4, 1) := by decide +kernel
theorem d_mo_middle_267 : decode bc_mo_middle 267 = .ok (.invokevirtual 178, 3) := by decide +kernel
theorem d_mo_middle_270 : decode bc_mo_middle 270 = .ok (.goto 60, 3) := by decide +kernel
theorem d_mo_middle_273 : decode bc_mo_middle 273 = .ok (.iload_n 1, 1) := by decide +kernel
theorem d_mo_middle_274 : decode bc_mo_middle 274 = .ok (.bipush 52, 2) := by decide +kernel
theorem d_mo_middle_276 : decode bc_mo_middle 276 = .ok (.bipush 55, 2) := by decide +kernel
theorem d_mo_middle_278 : decode bc_mo_middle 278 = .ok (.invokestatic 44, 3) := by decide +kernel
theorem d_mo_middle_281 : decode bc_mo_middle 281 = .ok (.ifCond .eq 44, 3) := by decide +kernel
theorem d_mo_middle_284 : decode bc_mo_middle 284 = .ok (.aload_n 0, 1) := by decide +kernel
theorem d_mo_middle_285 : decode bc_mo_middle 285 = .ok (.invokevirtual 31, 3) := by decide +kernel
theorem d_mo_middle_288 : decode bc_mo_middle 288 = .ok (.istore_n 2, 1) := by decide +kernel
theorem d_mo_middle_289 : decode bc_mo_middle 289 = .ok (.iload_n 1, 1) := by decide +kernel
theorem d_mo_middle_290 : decode bc_mo_middle 290 = .ok (.bipush 54, 2) := by decide +kernel
theorem d_mo_middle_292 : decode bc_mo_middle 292 = .ok (.if_icmp .ge 7, 3) := by decide +kernel
theorem d_mo_middle_295 : decode bc_mo_middle 295 = .ok (.iconst 5, 1) := by decide +kernel
theorem d_mo_middle_296 : decode bc_mo_middle 296 = .ok (.goto 4, 3) := by decide +kernel
theorem d_mo_middle_299 : decode bc_mo_middle 299 = .ok (.iconst 4, 1) := by decide +kernel
theorem d_mo_middle_300 : decode bc_mo_middle 300 = .ok (.istore_n 3, 1) := by decide +kernel
theorem d_mo_middle_301 : decode bc_mo_middle 301 = .ok (.iload_n 1, 1) := by decide +kernel
theorem d_mo_middle_302 : decode bc_mo_middle 302 = .ok (.iconst 2, 1) := by decide +kernel
theorem d_mo_middle_303 : decode bc_mo_middle 303 = .ok (.irem, 1) := by decide +kernel
theorem d_mo_middle_304 : decode bc_mo_middle 304 = .ok (.ifCond .ne 12, 3) := by decide +kernel
theorem d_mo_middle_307 : decode bc_mo_middle 307 = .ok (.aload_n 0, 1) := by decide +kernel
theorem d_mo_middle_308 : decode bc_mo_middle 308 = .ok (.iload_n 3, 1) := by decide +kernel
theorem d_mo_middle_309 : decode bc_mo_middle 309 = .ok (.iload_n 2, 1) := by decide +kernel
theorem d_mo_middle_310 : decode bc_mo_middle 310 = .ok (.invokevirtual 155, 3) := by decide +kernel
theorem d_mo_middle_313 : decode bc_mo_middle 313 = .ok (.goto 9, 3) := by decide +kernel
theorem d_mo_middle_316 : decode bc_mo_middle 316 = .ok (.aload_n 0, 1) := by decide +kernel
theorem d_mo_middle_317 : decode bc_mo_middle 317 = .ok (.iload_n 3, 1) := by decide +kernel
theorem d_mo_middle_318 : decode bc_mo_middle 318 = .ok (.iload_n 2, 1) := by decide +kernel
theorem d_mo_middle_319 : decode bc_mo_middle 319 = .ok (.invokevirtual 161, 3) := by decide +kernel
theorem d_mo_middle_322 : decode bc_mo_middle 322 = .ok (.goto 8, 3) := by decide +kernel
theorem d_mo_middle_325 : decode bc_mo_middle 325 = .ok (.aload_n 0, 1) := by decide +kernel
theorem d_mo_middle_326 : decode bc_mo_middle 326 = .ok (.iload_n 1, 1) := by decide +kernel
theorem d_mo_middle_327 : decode bc_mo_middle 327 = .ok (.invokevirtual 181, 3) := by decide +kernel
theorem d_mo_middle_330 : decode bc_mo_middle 330 = .ok (.return_, 1) := by decide +kernel
theorem d_mo_behindTen_0 : decode bc_mo_behindTen 0 = .ok (.iload_n 1, 1) := by decide +kernel
theorem d_mo_behindTen_1 : decode bc_mo_behindTen 1 = .ok (.iconst 4, 1) := by decide +kernel
theorem d_mo_behindTen_2 : decode bc_mo_behindTen 2 = .ok (.ishr, 1) := by decide +kernel
theorem d_mo_behindTen_3 : decode bc_mo_behindTen 3 = .ok (.iconst 3, 1) := by decide +kernel
theorem d_mo_behindTen_4 : decode bc_mo_behindTen 4 = .ok (.iand, 1) := by decide +kernel
theorem d_mo_behindTen_5 : decode bc_mo_behindTen 5 = .ok (.istore_n 2, 1) := by decide +kernel
theorem d_mo_behindTen_6 : decode bc_mo_behindTen 6 = .ok (.iload_n 1, 1) := by decide +kernel
theorem d_mo_behindTen_7 : decode bc_mo_behindTen 7 = .ok (.bipush 15, 2) := by decide +kernel
theorem d_mo_behindTen_9 : decode bc_mo_behindTen 9 = .ok (.iand, 1) := by decide +kernel
theorem d_mo_behindTen_10 : decode bc_mo_behindTen 10 = .ok (.istore_n 3, 1) := by decide +kernel
theorem d_mo_behindTen_11 : decode bc_mo_behindTen 11 = .ok (.iload_n 1, 1) := by decide +kernel
theorem d_mo_behindTen_12 : decode bc_mo_behindTen 12 = .ok (.bipush 33, 2) := by decide +kernel
theorem d_mo_behindTen_14 : decode bc_mo_behindTen 14 = .ok (.bipush 47, 2) := by decide +kernel
theorem d_mo_behindTen_16 : decode bc_mo_behindTen 16 = .ok (.invokestatic 44, 3) := by decide +kernel
theorem d_mo_behindTen_19 : decode bc_mo_behindTen 19 = .ok (.ifCond .eq 12, 3) := by decide +kernel
theorem d_mo_behindTen_22 : decode bc_mo_behindTen 22 = .ok (.aload_n 0, 1) := by decide +kernel
theorem d_mo_behindTen_23 : decode bc_mo_behindTen 23 = .ok (.iload_n 3, 1) := by decide +kernel
theorem d_mo_behindTen_24 : decode bc_mo_behindTen 24 = .ok (.iconst 1, 1) := by decide +kernel
theorem d_mo_behindTen_25 : decode bc_mo_behindTen 25 = .ok (.invokevirtual 168, 3) := by decide +kernel
theorem d_mo_behindTen_28 : decode bc_mo_behindTen 28 = .ok (.goto 184, 3) := by decide +kernel
theorem d_mo_behindTen_31 : decode bc_mo_behindTen 31 = .ok (.iload_n 1, 1) := by decide +kernel
theorem d_mo_behindTen_32 : decode bc_mo_behindTen 32 = .ok (.bipush 63, 2) := by decide +kernel
theorem d_mo_behindTen_34 : decode bc_mo_behindTen 34 = .ok (.if_icmp .ne 13, 3) := by decide +kernel
theorem d_mo_behindTen_37 : decode bc_mo_behindTen 37 = .ok (.aload_n 0, 1) := by decide +kernel
theorem d_mo_behindTen_38 : decode bc_mo_behindTen 38 = .ok (.ldc 194, 2) := by decide +kernel
theorem d_mo_behindTen_40 : decode bc_mo_behindTen 40 = .ok (.iconst 0, 1) := by decide +kernel
theorem d_mo_behindTen_41 : decode bc_mo_behindTen 41 = .ok (.invokevirtual 191, 3) := by decide +kernel
theorem d_mo_behindTen_44 : decode bc_mo_behindTen 44 = .ok (.goto 168, 3) := by decide +kernel
theorem d_mo_behindTen_47 : decode bc_mo_behindTen 47 = .ok (.iload_n 1, 1) := by decide +kernel
theorem d_mo_behindTen_48 : decode bc_mo_behindTen 48 = .ok (.sipush 128, 3) := by decide +kernel
theorem d_mo_behindTen_51 : decode bc_mo_behindTen 51 = .ok (.sipush 191, 3) := by decide +kernel
theorem d_mo_behindTen_54 : decode bc_mo_behindTen 54 = .ok (.invokestatic 44, 3) := by decide +kernel
theorem d_mo_behindTen_57 : decode bc_mo_behindTen 57 = .ok (.ifCond .eq 21, 3) := by decide +kernel
theorem d_mo_behindTen_60 : decode bc_mo_behindTen 60 = .ok (.iload_n 3, 1) := by decide +kernel
theorem d_mo_behindTen_61 : decode bc_mo_behindTen 61 = .ok (.iconst 3, 1) := by decide +kernel
theorem d_mo_behindTen_62 : decode bc_mo_behindTen 62 = .ok (.if_icmp .ne 16, 3) := by decide +kernel
theorem d_mo_behindTen_65 : decode bc_mo_behindTen 65 = .ok (.aload_n 0, 1) := by decide +kernel
theorem d_mo_behindTen_66 : decode bc_mo_behindTen 66 = .ok (.aload_n 0, 1) := by decide +kernel
theorem d_mo_behindTen_67 : decode bc_mo_behindTen 67 = .ok (.invokevirtual 66, 3) := by decide +kernel
theorem d_mo_behindTen_70 : decode bc_mo_behindTen 70 = .ok (.iconst (-1), 1) := by decide +kernel
theorem d_mo_behindTen_71 : decode bc_mo_behindTen 71 = .ok (.iload_n 2, 1) := by decide +kernel
theorem d_mo_behindTen_72 : decode bc_mo_behindTen 72 = .ok (.invokevirtual 133, 3) := by decide +kernel
theorem d_mo_behindTen_75 : decode bc_mo_behindTen 75 = .ok (.goto 137, 3) := by decide +kernel
theorem d_mo_behindTen_78 : decode bc_mo_behindTen 78 = .ok (.iload_n 1, 1) := by decide +kernel
theorem d_mo_behindTen_79 : decode bc_mo_behindTen 79 = .ok (.sipush 128, 3) := by decide +kernel
theorem d_mo_behindTen_82 : decode bc_mo_behindTen 82 = .ok (.sipush 191, 3) := by decide +kernel
theorem d_mo_behindTen_85 : decode bc_mo_behindTen 85 = .ok (.invokestatic 44, 3) := by decide +kernel
theorem d_mo_behindTen_88 : decode bc_mo_behindTen 88 = .ok (.ifCond .eq 19, 3) := by decide +kernel
theorem d_mo_behindTen_91 : decode bc_mo_behindTen 91 = .ok (.iload_n 3, 1) := by decide +kernel
theorem d_mo_behindTen_92 : decode bc_mo_behindTen 92 = .ok (.bipush 12, 2) := by decide +kernel
theorem d_mo_behindTen_94 : decode bc_mo_behindTen 94 = .ok (.if_icmp .ne 13, 3) := by decide +kernel
theorem d_mo_behindTen_97 : decode bc_mo_behindTen 97 = .ok (.aload_n 0, 1) := by decide +kernel
theorem d_mo_behindTen_98 : decode bc_mo_behindTen 98 = .ok (.iconst 0, 1) := by decide +kernel
theorem d_mo_behindTen_99 : decode bc_mo_behindTen 99 = .ok (.iconst 3, 1) := by decide +kernel
theorem d_mo_behindTen_100 : decode bc_mo_behindTen 100 = .ok (.iload_n 2, 1) := by decide +kernel
theorem d_mo_behindTen_101 : decode bc_mo_behindTen 101 = .ok (.invokevirtual 133, 3) := by decide +kernel
theorem d_mo_behindTen_104 : decode bc_mo_behindTen 104 = .ok (.goto 108, 3) := by decide +kernel
theorem d_mo_behindTen_107 : decode bc_mo_behindTen 107 = .ok (.iload_n 1, 1) := by decide +kernel
theorem d_mo_behindTen_108 : decode bc_mo_behindTen 108 = .ok (.sipush 128, 3) := by decide +kernel
theorem d_mo_behindTen_111 : decode bc_mo_behindTen 111 = .ok (.sipush 191, 3) := by decide +kernel
theorem d_mo_behindTen_114 : decode bc_mo_behindTen 114 = .ok (.invokestatic 44, 3) := by decide +kernel
theorem d_mo_behindTen_117 : decode bc_mo_behindTen 117 = .ok (.ifCond .eq 18, 3) := by decide +kernel
theorem d_mo_behindTen_120 : decode bc_mo_behindTen 120 = .ok (.iload_n 3, 1) := by decide +kernel
theorem d_mo_behindTen_121 : decode bc_mo_behindTen 121 = .ok (.bipush 14, 2) := by decide +kernel
theorem d_mo_behindTen_123 : decode bc_mo_behindTen 123 = .ok (.if_icmp .ne 12, 3) := by decide +kernel
theorem d_mo_behindTen_126 : decode bc_mo_behindTen 126 = .ok (.aload_n 0, 1) := by decide +kernel
theorem d_mo_behindTen_127 : decode bc_mo_behindTen 127 = .ok (.iconst 3, 1) := by decide +kernel
theorem d_mo_behindTen_128 : decode bc_mo_behindTen 128 = .ok (.iload_n 2, 1) := by decide +kernel
theorem d_mo_behindTen_129 : decode bc_mo_behindTen 129 = .ok (.invokevirtual 130, 3) := by decide +kernel
theorem d_mo_behindTen_132 : decode bc_mo_behindTen 132 = .ok (.goto 80, 3) := by decide +kernel
theorem d_mo_behindTen_135 : decode bc_mo_behindTen 135 = .ok (.iload_n 1, 1) := by decide +kernel
theorem d_mo_behindTen_136 : decode bc_mo_behindTen 136 = .ok (.sipush 128, 3) := by decide +kernel
theorem d_mo_behindTen_139 : decode bc_mo_behindTen 139 = .ok (.sipush 191, 3) := by decide +kernel
theorem d_mo_behindTen_142 : decode bc_mo_behindTen 142 = .ok (.invokestatic 44, 3) := by decide +kernel
theorem d_mo_behindTen_145 : decode bc_mo_behindTen 145 = .ok (.ifCond .eq 18, 3) := by decide +kernel
theorem d_mo_behindTen_148 : decode bc_mo_behindTen 148 = .ok (.iload_n 3, 1) := by decide +kernel
theorem d_mo_behindTen_149 : decode bc_mo_behindTen 149 = .ok (.bipush 15, 2) := by decide +kernel
theorem d_mo_behindTen_151 : decode bc_mo_behindTen 151 = .ok (.if_icmp .ne 12, 3) := by decide +kernel
theorem d_mo_behindTen_154 : decode bc_mo_behindTen 154 = .ok (.aload_n 0, 1) := by decide +kernel
theorem d_mo_behindTen_155 : decode bc_mo_behindTen 155 = .ok (.iconst 3, 1) := by decide +kernel
theorem d_mo_behindTen_156 : decode bc_mo_behindTen 156 = .ok (.iload_n 2, 1) := by decide +kernel
theorem d_mo_behindTen_157 : decode bc_mo_behindTen 157 = .ok (.invokevirtual 137, 3) := by decide +kernel
theorem d_mo_behindTen_160 : decode bc_mo_behindTen 160 = .ok (.goto 52, 3) := by decide +kernel
theorem d_mo_behindTen_163 : decode bc_mo_behindTen 163 = .ok (.iload_n 1, 1) := by decide +kernel
theorem d_mo_behindTen_164 : decode bc_mo_behindTen 164 = .ok (.sipush 192, 3) := by decide +kernel
theorem d_mo_behindTen_167 : decode bc_mo_behindTen 167 = .ok (.if_icmp .lt 18, 3) := by decide +kernel
theorem d_mo_behindTen_170 : decode bc_mo_behindTen 170 = .ok (.iload_n 3, 1) := by decide +kernel
theorem d_mo_behindTen_171 : decode bc_mo_behindTen 171 = .ok (.bipush 14, 2) := by decide +kernel
theorem d_mo_behindTen_173 : decode bc_mo_behindTen 173 = .ok (.if_icmp .ne 12, 3) := by decide +kernel
theorem d_mo_behindTen_176 : decode bc_mo_behindTen 176 = .ok (.aload_n 0, 1) := by decide +kernel
theorem d_mo_behindTen_177 : decode bc_mo_behindTen 177 = .ok (.iconst 5, 1) := by decide +kernel
theorem d_mo_behindTen_178 : decode bc_mo_behindTen 178 = .ok (.iload_n 2, 1) := by decide +kernel
theorem d_mo_behindTen_179 : decode bc_mo_behindTen 179 = .ok (.invokevirtual 130, 3) := by decide +kernel
theorem d_mo_behindTen_182 : decode bc_mo_behindTen 182 = .ok (.goto 30, 3) := by decide +kernel
theorem d_mo_behindTen_185 : decode bc_mo_behindTen 185 = .ok (.iload_n 1, 1) := by decide +kernel
theorem d_mo_behindTen_186 : decode bc_mo_behindTen 186 = .ok (.sipush 192, 3) := by decide +kernel
theorem d_mo_behindTen_189 : decode bc_mo_behindTen 189 = .ok (.if_icmp .lt 18, 3) := by decide +kernel
theorem d_mo_behindTen_192 : decode bc_mo_behindTen 192 = .ok (.iload_n 3, 1) := by decide +kernel
theorem d_mo_behindTen_193 : decode bc_mo_behindTen 193 = .ok (.bipush 15, 2) := by decide +kernel
theorem d_mo_behindTen_195 : decode bc_mo_behindTen 195 = .ok (.if_icmp .ne 12, 3) := by decide +kernel
theorem d_mo_behindTen_198 : decode bc_mo_behindTen 198 = .ok (.aload_n 0, 1) := by decide +kernel
theorem d_mo_behindTen_199 : decode bc_mo_behindTen 199 = .ok (.iconst 5, 1) := by decide +kernel
theorem d_mo_behindTen_200 : decode bc_mo_behindTen 200 = .ok (.iload_n 2, 1) := by decide +kernel
theorem d_mo_behindTen_201 : decode bc_mo_behindTen 201 = .ok (.invokevirtual 137, 3) := by decide +kernel
theorem d_mo_behindTen_204 : decode bc_mo_behindTen 204 = .ok (.goto 8, 3) := by decide +kernel
theorem d_mo_behindTen_207 : decode bc_mo_behindTen 207 = .ok (.aload_n 0, 1) := by decide +kernel
theorem d_mo_behindTen_208 : decode bc_mo_behindTen 208 = .ok (.iconst 1, 1) := by decide +kernel
theorem d_mo_behindTen_209 : decode bc_mo_behindTen 209 = .ok (.putfield 56, 3) := by decide +kernel
theorem d_mo_behindTen_212 : decode bc_mo_behindTen 212 = .ok (.return_, 1) := by decide +kernel
theorem d_mo_behindEleven_0 : decode bc_mo_behindEleven 0 = .ok (.iload_n 1, 1) := by decide +kernel
theorem d_mo_behindEleven_1 : decode bc_mo_behindEleven 1 = .ok (.iconst 4, 1) := by decide +kernel
theorem d_mo_behindEleven_2 : decode bc_mo_behindEleven 2 = .ok (.ishr, 1) := by decide +kernel
theorem d_mo_behindEleven_3 : decode bc_mo_behindEleven 3 = .ok (.iconst 3, 1) := by decide +kernel
theorem d_mo_behindEleven_4 : decode bc_mo_behindEleven 4 = .ok (.iand, 1) := by decide +kernel
theorem d_mo_behindEleven_5 : decode bc_mo_behindEleven 5 = .ok (.istore_n 2, 1) := by decide +kernel
theorem d_mo_behindEleven_6 : decode bc_mo_behindEleven 6 = .ok (.iload_n 1, 1) := by decide +kernel
theorem d_mo_behindEleven_7 : decode bc_mo_behindEleven 7 = .ok (.bipush 15, 2) := by decide +kernel
theorem d_mo_behindEleven_9 : decode bc_mo_behindEleven 9 = .ok (.iand, 1) := by decide +kernel
theorem d_mo_behindEleven_10 : decode bc_mo_behindEleven 10 = .ok (.istore_n 3, 1) := by decide +kernel
theorem d_mo_behindEleven_11 : decode bc_mo_behindEleven 11 = .ok (.iload_n 1, 1) := by decide +kernel
theorem d_mo_behindEleven_12 : decode bc_mo_behindEleven 12 = .ok (.bipush 63, 2) := by decide +kernel
theorem d_mo_behindEleven_14 : decode bc_mo_behindEleven 14 = .ok (.if_icmp .ne 13, 3) := by decide +kernel
theorem d_mo_behindEleven_17 : decode bc_mo_behindEleven 17 = .ok (.aload_n 0, 1) := by decide +kernel
theorem d_mo_behindEleven_18 : decode bc_mo_behindEleven 18 = .ok (.ldc 195, 2) := by decide +kernel
theorem d_mo_behindEleven_20 : decode bc_mo_behindEleven 20 = .ok (.iconst 0, 1) := by decide +kernel
theorem d_mo_behindEleven_21 : decode bc_mo_behindEleven 21 = .ok (.invokevirtual 191, 3) := by decide +kernel
theorem d_mo_behindEleven_24 : decode bc_mo_behindEleven 24 = .ok (.goto 51, 3) := by decide +kernel
theorem d_mo_behindEleven_27 : decode bc_mo_behindEleven 27 = .ok (.iload_n 1, 1) := by decide +kernel
