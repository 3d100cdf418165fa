theorem dX4_init_0 : decode cX4_init 0 = .ok (.aload_n 0, 1) := by decide +kernel
theorem dX4_init_1 : decode cX4_init 1 = .ok (.invokespecial 3, 3) := by decide +kernel
theorem dX4_init_4 : decode cX4_init 4 = .ok (.aload_n 0, 1) := by decide +kernel
theorem dX4_init_5 : decode cX4_init 5 = .ok (.bipush 60, 2) := by decide +kernel
theorem dX4_init_7 : decode cX4_init 7 = .ok (.newarray .int, 2) := by decide +kernel
theorem dX4_init_9 : decode cX4_init 9 = .ok (.putfield 9, 3) := by decide +kernel
theorem dX4_init_12 : decode cX4_init 12 = .ok (.aload_n 0, 1) := by decide +kernel
theorem dX4_init_13 : decode cX4_init 13 = .ok (.bipush 60, 2) := by decide +kernel
theorem dX4_init_15 : decode cX4_init 15 = .ok (.newarray .int, 2) := by decide +kernel
theorem dX4_init_17 : decode cX4_init 17 = .ok (.putfield 15, 3) := by decide +kernel
theorem dX4_init_20 : decode cX4_init 20 = .ok (.aload_n 0, 1) := by decide +kernel
theorem dX4_init_21 : decode cX4_init 21 = .ok (.bipush 60, 2) := by decide +kernel
theorem dX4_init_23 : decode cX4_init 23 = .ok (.newarray .int, 2) := by decide +kernel
theorem dX4_init_25 : decode cX4_init 25 = .ok (.putfield 18, 3) := by decide +kernel
theorem dX4_init_28 : decode cX4_init 28 = .ok (.aload_n 0, 1) := by decide +kernel
theorem dX4_init_29 : decode cX4_init 29 = .ok (.new 21, 3) := by decide +kernel
theorem dX4_init_32 : decode cX4_init 32 = .ok (.dup, 1) := by decide +kernel
theorem dX4_init_33 : decode cX4_init 33 = .ok (.bipush 100, 2) := by decide +kernel
theorem dX4_init_35 : decode cX4_init 35 = .ok (.invokespecial 23, 3) := by decide +kernel
theorem dX4_init_38 : decode cX4_init 38 = .ok (.putfield 26, 3) := by decide +kernel
theorem dX4_init_41 : decode cX4_init 41 = .ok (.aload_n 0, 1) := by decide +kernel
theorem dX4_init_42 : decode cX4_init 42 = .ok (.new 21, 3) := by decide +kernel
theorem dX4_init_45 : decode cX4_init 45 = .ok (.dup, 1) := by decide +kernel
theorem dX4_init_46 : decode cX4_init 46 = .ok (.sipush 240, 3) := by decide +kernel
theorem dX4_init_49 : decode cX4_init 49 = .ok (.invokespecial 23, 3) := by decide +kernel
theorem dX4_init_52 : decode cX4_init 52 = .ok (.putfield 30, 3) := by decide +kernel
theorem dX4_init_55 : decode cX4_init 55 = .ok (.aload_n 0, 1) := by decide +kernel
theorem dX4_init_56 : decode cX4_init 56 = .ok (.new 21, 3) := by decide +kernel
theorem dX4_init_59 : decode cX4_init 59 = .ok (.dup, 1) := by decide +kernel
theorem dX4_init_60 : decode cX4_init 60 = .ok (.bipush 60, 2) := by decide +kernel
theorem dX4_init_62 : decode cX4_init 62 = .ok (.invokespecial 23, 3) := by decide +kernel
theorem dX4_init_65 : decode cX4_init 65 = .ok (.putfield 33, 3) := by decide +kernel
theorem dX4_init_68 : decode cX4_init 68 = .ok (.aload_n 0, 1) := by decide +kernel
theorem dX4_init_69 : decode cX4_init 69 = .ok (.new 21, 3) := by decide +kernel
theorem dX4_init_72 : decode cX4_init 72 = .ok (.dup, 1) := by decide +kernel
theorem dX4_init_73 : decode cX4_init 73 = .ok (.bipush 40, 2) := by decide +kernel
theorem dX4_init_75 : decode cX4_init 75 = .ok (.invokespecial 23, 3) := by decide +kernel
theorem dX4_init_78 : decode cX4_init 78 = .ok (.putfield 36, 3) := by decide +kernel
theorem dX4_init_81 : decode cX4_init 81 = .ok (.aload_n 0, 1) := by decide +kernel
theorem dX4_init_82 : decode cX4_init 82 = .ok (.new 21, 3) := by decide +kernel
theorem dX4_init_85 : decode cX4_init 85 = .ok (.dup, 1) := by decide +kernel
theorem dX4_init_86 : decode cX4_init 86 = .ok (.bipush 60, 2) := by decide +kernel
theorem dX4_init_88 : decode cX4_init 88 = .ok (.invokespecial 23, 3) := by decide +kernel
theorem dX4_init_91 : decode cX4_init 91 = .ok (.putfield 39, 3) := by decide +kernel
theorem dX4_init_94 : decode cX4_init 94 = .ok (.aload_n 0, 1) := by decide +kernel
theorem dX4_init_95 : decode cX4_init 95 = .ok (.iconst (-1), 1) := by decide +kernel
theorem dX4_init_96 : decode cX4_init 96 = .ok (.putfield 42, 3) := by decide +kernel
theorem dX4_init_99 : decode cX4_init 99 = .ok (.aload_n 0, 1) := by decide +kernel
theorem dX4_init_100 : decode cX4_init 100 = .ok (.bipush 60, 2) := by decide +kernel
theorem dX4_init_102 : decode cX4_init 102 = .ok (.newarray .int, 2) := by decide +kernel
theorem dX4_init_104 : decode cX4_init 104 = .ok (.putfield 46, 3) := by decide +kernel
theorem dX4_init_107 : decode cX4_init 107 = .ok (.aload_n 0, 1) := by decide +kernel
theorem dX4_init_108 : decode cX4_init 108 = .ok (.bipush 60, 2) := by decide +kernel
theorem dX4_init_110 : decode cX4_init 110 = .ok (.newarray .boolean, 2) := by decide +kernel
theorem dX4_init_112 : decode cX4_init 112 = .ok (.putfield 49, 3) := by decide +kernel
theorem dX4_init_115 : decode cX4_init 115 = .ok (.aload_n 0, 1) := by decide +kernel
theorem dX4_init_116 : decode cX4_init 116 = .ok (.bipush 60, 2) := by decide +kernel
theorem dX4_init_118 : decode cX4_init 118 = .ok (.newarray .int, 2) := by decide +kernel
theorem dX4_init_120 : decode cX4_init 120 = .ok (.putfield 53, 3) := by decide +kernel
theorem dX4_init_123 : decode cX4_init 123 = .ok (.aload_n 0, 1) := by decide +kernel
theorem dX4_init_124 : decode cX4_init 124 = .ok (.bipush 60, 2) := by decide +kernel
theorem dX4_init_126 : decode cX4_init 126 = .ok (.newarray .boolean, 2) := by decide +kernel
theorem dX4_init_128 : decode cX4_init 128 = .ok (.putfield 56, 3) := by decide +kernel
theorem dX4_init_131 : decode cX4_init 131 = .ok (.aload_n 0, 1) := by decide +kernel
theorem dX4_init_132 : decode cX4_init 132 = .ok (.bipush 60, 2) := by decide +kernel
theorem dX4_init_134 : decode cX4_init 134 = .ok (.newarray .int, 2) := by decide +kernel
theorem dX4_init_136 : decode cX4_init 136 = .ok (.putfield 59, 3) := by decide +kernel
theorem dX4_init_139 : decode cX4_init 139 = .ok (.aload_n 0, 1) := by decide +kernel
theorem dX4_init_140 : decode cX4_init 140 = .ok (.bipush 8, 2) := by decide +kernel
theorem dX4_init_142 : decode cX4_init 142 = .ok (.newarray .int, 2) := by decide +kernel
theorem dX4_init_144 : decode cX4_init 144 = .ok (.putfield 62, 3) := by decide +kernel
theorem dX4_init_147 : decode cX4_init 147 = .ok (.aload_n 0, 1) := by decide +kernel
theorem dX4_init_148 : decode cX4_init 148 = .ok (.bipush 60, 2) := by decide +kernel
theorem dX4_init_150 : decode cX4_init 150 = .ok (.newarray .boolean, 2) := by decide +kernel
theorem dX4_init_152 : decode cX4_init 152 = .ok (.putfield 65, 3) := by decide +kernel
theorem dX4_init_155 : decode cX4_init 155 = .ok (.return_, 1) := by decide +kernel
theorem dX4_addMan_0 : decode cX4_addMan 0 = .ok (.aload_n 0, 1) := by decide +kernel
theorem dX4_addMan_1 : decode cX4_addMan 1 = .ok (.getfield 68, 3) := by decide +kernel
theorem dX4_addMan_4 : decode cX4_addMan 4 = .ok (.bipush 60, 2) := by decide +kernel
theorem dX4_addMan_6 : decode cX4_addMan 6 = .ok (.if_icmp .lt 5, 3) := by decide +kernel
theorem dX4_addMan_9 : decode cX4_addMan 9 = .ok (.iconst (-1), 1) := by decide +kernel
theorem dX4_addMan_10 : decode cX4_addMan 10 = .ok (.ireturn, 1) := by decide +kernel
theorem dX4_addMan_11 : decode cX4_addMan 11 = .ok (.aload_n 0, 1) := by decide +kernel
theorem dX4_addMan_12 : decode cX4_addMan 12 = .ok (.getfield 9, 3) := by decide +kernel
theorem dX4_addMan_15 : decode cX4_addMan 15 = .ok (.aload_n 0, 1) := by decide +kernel
theorem dX4_addMan_16 : decode cX4_addMan 16 = .ok (.getfield 68, 3) := by decide +kernel
theorem dX4_addMan_19 : decode cX4_addMan 19 = .ok (.iload_n 1, 1) := by decide +kernel
theorem dX4_addMan_20 : decode cX4_addMan 20 = .ok (.iastore, 1) := by decide +kernel
theorem dX4_addMan_21 : decode cX4_addMan 21 = .ok (.aload_n 0, 1) := by decide +kernel
theorem dX4_addMan_22 : decode cX4_addMan 22 = .ok (.getfield 15, 3) := by decide +kernel
theorem dX4_addMan_25 : decode cX4_addMan 25 = .ok (.aload_n 0, 1) := by decide +kernel
theorem dX4_addMan_26 : decode cX4_addMan 26 = .ok (.getfield 68, 3) := by decide +kernel
theorem dX4_addMan_29 : decode cX4_addMan 29 = .ok (.iload_n 2, 1) := by decide +kernel
theorem dX4_addMan_30 : decode cX4_addMan 30 = .ok (.iastore, 1) := by decide +kernel
theorem dX4_addMan_31 : decode cX4_addMan 31 = .ok (.aload_n 0, 1) := by decide +kernel
theorem dX4_addMan_32 : decode cX4_addMan 32 = .ok (.getfield 18, 3) := by decide +kernel
theorem dX4_addMan_35 : decode cX4_addMan 35 = .ok (.aload_n 0, 1) := by decide +kernel
theorem dX4_addMan_36 : decode cX4_addMan 36 = .ok (.getfield 68, 3) := by decide +kernel
theorem dX4_addMan_39 : decode cX4_addMan 39 = .ok (.iload_n 3, 1) := by decide +kernel
theorem dX4_addMan_40 : decode cX4_addMan 40 = .ok (.iastore, 1) := by decide +kernel
theorem dX4_addMan_41 : decode cX4_addMan 41 = .ok (.aload_n 0, 1) := by decide +kernel
theorem dX4_addMan_42 : decode cX4_addMan 42 = .ok (.dup, 1) := by decide +kernel
theorem dX4_addMan_43 : decode cX4_addMan 43 = .ok (.getfield 68, 3) := by decide +kernel
theorem dX4_addMan_46 : decode cX4_addMan 46 = .ok (.iconst 1, 1) := by decide +kernel
theorem dX4_addMan_47 : decode cX4_addMan 47 = .ok (.iadd, 1) := by decide +kernel
theorem dX4_addMan_48 : decode cX4_addMan 48 = .ok (.putfield 68, 3) := by decide +kernel
theorem dX4_addMan_51 : decode cX4_addMan 51 = .ok (.aload_n 0, 1) := by decide +kernel
theorem dX4_addMan_52 : decode cX4_addMan 52 = .ok (.getfield 68, 3) := by decide +kernel
theorem dX4_addMan_55 : decode cX4_addMan 55 = .ok (.iconst 1, 1) := by decide +kernel
theorem dX4_addMan_56 : decode cX4_addMan 56 = .ok (.isub, 1) := by decide +kernel
theorem dX4_addMan_57 : decode cX4_addMan 57 = .ok (.ireturn, 1) := by decide +kernel
theorem dX4_look_0 : decode cX4_look 0 = .ok (.aload_n 0, 1) := by decide +kernel
theorem dX4_look_1 : decode cX4_look 1 = .ok (.iload_n 1, 1) := by decide +kernel
theorem dX4_look_2 : decode cX4_look 2 = .ok (.putfield 42, 3) := by decide +kernel
theorem dX4_look_5 : decode cX4_look 5 = .ok (.aload_n 0, 1) := by decide +kernel
theorem dX4_look_6 : decode cX4_look 6 = .ok (.invokevirtual 71, 3) := by decide +kernel
theorem dX4_look_9 : decode cX4_look 9 = .ok (.aload_n 0, 1) := by decide +kernel
theorem dX4_look_10 : decode cX4_look 10 = .ok (.invokevirtual 74, 3) := by decide +kernel
theorem dX4_look_13 : decode cX4_look 13 = .ok (.aload_n 0, 1) := by decide +kernel
theorem dX4_look_14 : decode cX4_look 14 = .ok (.getfield 59, 3) := by decide +kernel
theorem dX4_look_17 : decode cX4_look 17 = .ok (.iconst 0, 1) := by decide +kernel
theorem dX4_look_18 : decode cX4_look 18 = .ok (.invokestatic 77, 3) := by decide +kernel
theorem dX4_look_21 : decode cX4_look 21 = .ok (.aload_n 0, 1) := by decide +kernel
theorem dX4_look_22 : decode cX4_look 22 = .ok (.getfield 62, 3) := by decide +kernel
theorem dX4_look_25 : decode cX4_look 25 = .ok (.iconst 0, 1) := by decide +kernel
theorem dX4_look_26 : decode cX4_look 26 = .ok (.invokestatic 77, 3) := by decide +kernel
theorem dX4_look_29 : decode cX4_look 29 = .ok (.iconst 0, 1) := by decide +kernel
theorem dX4_look_30 : decode cX4_look 30 = .ok (.istore_n 2, 1) := by decide +kernel
theorem dX4_look_31 : decode cX4_look 31 = .ok (.iload_n 2, 1) := by decide +kernel
theorem dX4_look_32 : decode cX4_look 32 = .ok (.aload_n 0, 1) := by decide +kernel
theorem dX4_look_33 : decode cX4_look 33 = .ok (.getfield 68, 3) := by decide +kernel
theorem dX4_look_36 : decode cX4_look 36 = .ok (.if_icmp .ge 85, 3) := by decide +kernel
theorem dX4_look_39 : decode cX4_look 39 = .ok (.aload_n 0, 1) := by decide +kernel
theorem dX4_look_40 : decode cX4_look 40 = .ok (.getfield 65, 3) := by decide +kernel
theorem dX4_look_43 : decode cX4_look 43 = .ok (.iload_n 2, 1) := by decide +kernel
theorem dX4_look_44 : decode cX4_look 44 = .ok (.iconst 0, 1) := by decide +kernel
theorem dX4_look_45 : decode cX4_look 45 = .ok (.bastore, 1) := by decide +kernel
theorem dX4_look_46 : decode cX4_look 46 = .ok (.aload_n 0, 1) := by decide +kernel
theorem dX4_look_47 : decode cX4_look 47 = .ok (.getfield 56, 3) := by decide +kernel
theorem dX4_look_50 : decode cX4_look 50 = .ok (.iload_n 2, 1) := by decide +kernel
theorem dX4_look_51 : decode cX4_look 51 = .ok (.aload_n 0, 1) := by decide +kernel
theorem dX4_look_52 : decode cX4_look 52 = .ok (.getfield 49, 3) := by decide +kernel
theorem dX4_look_55 : decode cX4_look 55 = .ok (.iload_n 2, 1) := by decide +kernel
theorem dX4_look_56 : decode cX4_look 56 = .ok (.baload, 1) := by decide +kernel
theorem dX4_look_57 : decode cX4_look 57 = .ok (.ifCond .eq 17, 3) := by decide +kernel
theorem dX4_look_60 : decode cX4_look 60 = .ok (.aload_n 0, 1) := by decide +kernel
theorem dX4_look_61 : decode cX4_look 61 = .ok (.getfield 46, 3) := by decide +kernel
theorem dX4_look_64 : decode cX4_look 64 = .ok (.iload_n 2, 1) := by decide +kernel
theorem dX4_look_65 : decode cX4_look 65 = .ok (.iaload, 1) := by decide +kernel
theorem dX4_look_66 : decode cX4_look 66 = .ok (.iload_n 2, 1) := by decide +kernel
theorem dX4_look_67 : decode cX4_look 67 = .ok (.if_icmp .ne 7, 3) := by decide +kernel
theorem dX4_look_70 : decode cX4_look 70 = .ok (.iconst 1, 1) := by decide +kernel
theorem dX4_look_71 : decode cX4_look 71 = .ok (.goto 4, 3) := by decide +kernel
theorem dX4_look_74 : decode cX4_look 74 = .ok (.iconst 0, 1) := by decide +kernel
theorem dX4_look_75 : decode cX4_look 75 = .ok (.bastore, 1) := by decide +kernel
theorem dX4_look_76 : decode cX4_look 76 = .ok (.aload_n 0, 1) := by decide +kernel
theorem dX4_look_77 : decode cX4_look 77 = .ok (.getfield 56, 3) := by decide +kernel
theorem dX4_look_80 : decode cX4_look 80 = .ok (.iload_n 2, 1) := by decide +kernel
theorem dX4_look_81 : decode cX4_look 81 = .ok (.baload, 1) := by decide +kernel
theorem dX4_look_82 : decode cX4_look 82 = .ok (.ifCond .eq 33, 3) := by decide +kernel
theorem dX4_look_85 : decode cX4_look 85 = .ok (.aload_n 0, 1) := by decide +kernel
theorem dX4_look_86 : decode cX4_look 86 = .ok (.getfield 59, 3) := by decide +kernel
theorem dX4_look_89 : decode cX4_look 89 = .ok (.aload_n 0, 1) := by decide +kernel
theorem dX4_look_90 : decode cX4_look 90 = .ok (.getfield 15, 3) := by decide +kernel
theorem dX4_look_93 : decode cX4_look 93 = .ok (.iload_n 2, 1) := by decide +kernel
theorem dX4_look_94 : decode cX4_look 94 = .ok (.iaload, 1) := by decide +kernel
theorem dX4_look_95 : decode cX4_look 95 = .ok (.dup2, 1) := by decide +kernel
theorem dX4_look_96 : decode cX4_look 96 = .ok (.iaload, 1) := by decide +kernel
theorem dX4_look_97 : decode cX4_look 97 = .ok (.iconst 1, 1) := by decide +kernel
theorem dX4_look_98 : decode cX4_look 98 = .ok (.iadd, 1) := by decide +kernel
theorem dX4_look_99 : decode cX4_look 99 = .ok (.iastore, 1) := by decide +kernel
theorem dX4_look_100 : decode cX4_look 100 = .ok (.aload_n 0, 1) := by decide +kernel
theorem dX4_look_101 : decode cX4_look 101 = .ok (.getfield 62, 3) := by decide +kernel
theorem dX4_look_104 : decode cX4_look 104 = .ok (.aload_n 0, 1) := by decide +kernel
theorem dX4_look_105 : decode cX4_look 105 = .ok (.getfield 9, 3) := by decide +kernel
theorem dX4_look_108 : decode cX4_look 108 = .ok (.iload_n 2, 1) := by decide +kernel
theorem dX4_look_109 : decode cX4_look 109 = .ok (.iaload, 1) := by decide +kernel
theorem dX4_look_110 : decode cX4_look 110 = .ok (.dup2, 1) := by decide +kernel
theorem dX4_look_111 : decode cX4_look 111 = .ok (.iaload, 1) := by decide +kernel
theorem dX4_look_112 : decode cX4_look 112 = .ok (.iconst 1, 1) := by decide +kernel
theorem dX4_look_113 : decode cX4_look 113 = .ok (.iadd, 1) := by decide +kernel
theorem dX4_look_114 : decode cX4_look 114 = .ok (.iastore, 1) := by decide +kernel
theorem dX4_look_115 : decode cX4_look 115 = .ok (.iinc 2 1, 3) := by decide +kernel
theorem dX4_look_118 : decode cX4_look 118 = .ok (.goto (-87), 3) := by decide +kernel
theorem dX4_look_121 : decode cX4_look 121 = .ok (.return_, 1) := by decide +kernel
theorem dX4_lookWho_0 : decode cX4_lookWho 0 = .ok (.iconst 0, 1) := by decide +kernel
theorem dX4_lookWho_1 : decode cX4_lookWho 1 = .ok (.istore_n 1, 1) := by decide +kernel
theorem dX4_lookWho_2 : decode cX4_lookWho 2 = .ok (.iload_n 1, 1) := by decide +kernel
theorem dX4_lookWho_3 : decode cX4_lookWho 3 = .ok (.aload_n 0, 1) := by decide +kernel
theorem dX4_lookWho_4 : decode cX4_lookWho 4 = .ok (.getfield 68, 3) := by decide +kernel
theorem dX4_lookWho_7 : decode cX4_lookWho 7 = .ok (.if_icmp .ge 16, 3) := by decide +kernel
theorem dX4_lookWho_10 : decode cX4_lookWho 10 = .ok (.aload_n 0, 1) := by decide +kernel
theorem dX4_lookWho_11 : decode cX4_lookWho 11 = .ok (.getfield 46, 3) := by decide +kernel
theorem dX4_lookWho_14 : decode cX4_lookWho 14 = .ok (.iload_n 1, 1) := by decide +kernel
theorem dX4_lookWho_15 : decode cX4_lookWho 15 = .ok (.iload_n 1, 1) := by decide +kernel
theorem dX4_lookWho_16 : decode cX4_lookWho 16 = .ok (.iastore, 1) := by decide +kernel
theorem dX4_lookWho_17 : decode cX4_lookWho 17 = .ok (.iinc 1 1, 3) := by decide +kernel
theorem dX4_lookWho_20 : decode cX4_lookWho 20 = .ok (.goto (-18), 3) := by decide +kernel
theorem dX4_lookWho_23 : decode cX4_lookWho 23 = .ok (.aload_n 0, 1) := by decide +kernel
theorem dX4_lookWho_24 : decode cX4_lookWho 24 = .ok (.getfield 36, 3) := by decide +kernel
theorem dX4_lookWho_27 : decode cX4_lookWho 27 = .ok (.aload_n 0, 1) := by decide +kernel
theorem dX4_lookWho_28 : decode cX4_lookWho 28 = .ok (.getfield 42, 3) := by decide +kernel
theorem dX4_lookWho_31 : decode cX4_lookWho 31 = .ok (.invokevirtual 83, 3) := by decide +kernel
theorem dX4_lookWho_34 : decode cX4_lookWho 34 = .ok (.istore_n 1, 1) := by decide +kernel
theorem dX4_lookWho_35 : decode cX4_lookWho 35 = .ok (.iconst 0, 1) := by decide +kernel
theorem dX4_lookWho_36 : decode cX4_lookWho 36 = .ok (.istore_n 2, 1) := by decide +kernel
theorem dX4_lookWho_37 : decode cX4_lookWho 37 = .ok (.iload_n 2, 1) := by decide +kernel
theorem dX4_lookWho_38 : decode cX4_lookWho 38 = .ok (.iload_n 1, 1) := by decide +kernel
theorem dX4_lookWho_39 : decode cX4_lookWho 39 = .ok (.if_icmp .ge 105, 3) := by decide +kernel
theorem dX4_lookWho_42 : decode cX4_lookWho 42 = .ok (.aload_n 0, 1) := by decide +kernel
theorem dX4_lookWho_43 : decode cX4_lookWho 43 = .ok (.getfield 46, 3) := by decide +kernel
theorem dX4_lookWho_46 : decode cX4_lookWho 46 = .ok (.aload_n 0, 1) := by decide +kernel
theorem dX4_lookWho_47 : decode cX4_lookWho 47 = .ok (.getfield 36, 3) := by decide +kernel
theorem dX4_lookWho_50 : decode cX4_lookWho 50 = .ok (.iload_n 2, 1) := by decide +kernel
theorem dX4_lookWho_51 : decode cX4_lookWho 51 = .ok (.iconst 1, 1) := by decide +kernel
theorem dX4_lookWho_52 : decode cX4_lookWho 52 = .ok (.invokevirtual 87, 3) := by decide +kernel
theorem dX4_lookWho_55 : decode cX4_lookWho 55 = .ok (.iaload, 1) := by decide +kernel
theorem dX4_lookWho_56 : decode cX4_lookWho 56 = .ok (.istore_n 3, 1) := by decide +kernel
theorem dX4_lookWho_57 : decode cX4_lookWho 57 = .ok (.aload_n 0, 1) := by decide +kernel
theorem dX4_lookWho_58 : decode cX4_lookWho 58 = .ok (.getfield 46, 3) := by decide +kernel
theorem dX4_lookWho_61 : decode cX4_lookWho 61 = .ok (.aload_n 0, 1) := by decide +kernel
theorem dX4_lookWho_62 : decode cX4_lookWho 62 = .ok (.getfield 36, 3) := by decide +kernel
theorem dX4_lookWho_65 : decode cX4_lookWho 65 = .ok (.iload_n 2, 1) := by decide +kernel
theorem dX4_lookWho_66 : decode cX4_lookWho 66 = .ok (.iconst 2, 1) := by decide +kernel
theorem dX4_lookWho_67 : decode cX4_lookWho 67 = .ok (.invokevirtual 87, 3) := by decide +kernel
theorem dX4_lookWho_70 : decode cX4_lookWho 70 = .ok (.iaload, 1) := by decide +kernel
theorem dX4_lookWho_71 : decode cX4_lookWho 71 = .ok (.istore 4, 2) := by decide +kernel
theorem dX4_lookWho_73 : decode cX4_lookWho 73 = .ok (.iload_n 3, 1) := by decide +kernel
theorem dX4_lookWho_74 : decode cX4_lookWho 74 = .ok (.iload 4, 2) := by decide +kernel
theorem dX4_lookWho_76 : decode cX4_lookWho 76 = .ok (.invokestatic 91, 3) := by decide +kernel
theorem dX4_lookWho_79 : decode cX4_lookWho 79 = .ok (.istore 5, 2) := by decide +kernel
theorem dX4_lookWho_81 : decode cX4_lookWho 81 = .ok (.iload_n 3, 1) := by decide +kernel
theorem dX4_lookWho_82 : decode cX4_lookWho 82 = .ok (.iload 4, 2) := by decide +kernel
theorem dX4_lookWho_84 : decode cX4_lookWho 84 = .ok (.invokestatic 96, 3) := by decide +kernel
theorem dX4_lookWho_87 : decode cX4_lookWho 87 = .ok (.istore 6, 2) := by decide +kernel
theorem dX4_lookWho_89 : decode cX4_lookWho 89 = .ok (.iconst 0, 1) := by decide +kernel
theorem dX4_lookWho_90 : decode cX4_lookWho 90 = .ok (.istore 7, 2) := by decide +kernel
theorem dX4_lookWho_92 : decode cX4_lookWho 92 = .ok (.iload 7, 2) := by decide +kernel
theorem dX4_lookWho_94 : decode cX4_lookWho 94 = .ok (.aload_n 0, 1) := by decide +kernel
theorem dX4_lookWho_95 : decode cX4_lookWho 95 = .ok (.getfield 68, 3) := by decide +kernel
theorem dX4_lookWho_98 : decode cX4_lookWho 98 = .ok (.if_icmp .ge 40, 3) := by decide +kernel
theorem dX4_lookWho_101 : decode cX4_lookWho 101 = .ok (.aload_n 0, 1) := by decide +kernel
theorem dX4_lookWho_102 : decode cX4_lookWho 102 = .ok (.getfield 46, 3) := by decide +kernel
theorem dX4_lookWho_105 : decode cX4_lookWho 105 = .ok (.iload 7, 2) := by decide +kernel
theorem dX4_lookWho_107 : decode cX4_lookWho 107 = .ok (.aload_n 0, 1) := by decide +kernel
theorem dX4_lookWho_108 : decode cX4_lookWho 108 = .ok (.getfield 46, 3) := by decide +kernel
theorem dX4_lookWho_111 : decode cX4_lookWho 111 = .ok (.iload 7, 2) := by decide +kernel
theorem dX4_lookWho_113 : decode cX4_lookWho 113 = .ok (.iaload, 1) := by decide +kernel
theorem dX4_lookWho_114 : decode cX4_lookWho 114 = .ok (.iload 6, 2) := by decide +kernel
theorem dX4_lookWho_116 : decode cX4_lookWho 116 = .ok (.if_icmp .ne 8, 3) := by decide +kernel
theorem dX4_lookWho_119 : decode cX4_lookWho 119 = .ok (.iload 5, 2) := by decide +kernel
theorem dX4_lookWho_121 : decode cX4_lookWho 121 = .ok (.goto 10, 3) := by decide +kernel
theorem dX4_lookWho_124 : decode cX4_lookWho 124 = .ok (.aload_n 0, 1) := by decide +kernel
theorem dX4_lookWho_125 : decode cX4_lookWho 125 = .ok (.getfield 46, 3) := by decide +kernel
theorem dX4_lookWho_128 : decode cX4_lookWho 128 = .ok (.iload 7, 2) := by decide +kernel
theorem dX4_lookWho_130 : decode cX4_lookWho 130 = .ok (.iaload, 1) := by decide +kernel
theorem dX4_lookWho_131 : decode cX4_lookWho 131 = .ok (.iastore, 1) := by decide +kernel
theorem dX4_lookWho_132 : decode cX4_lookWho 132 = .ok (.iinc 7 1, 3) := by decide +kernel
theorem dX4_lookWho_135 : decode cX4_lookWho 135 = .ok (.goto (-43), 3) := by decide +kernel
theorem dX4_lookWho_138 : decode cX4_lookWho 138 = .ok (.iinc 2 1, 3) := by decide +kernel
theorem dX4_lookWho_141 : decode cX4_lookWho 141 = .ok (.goto (-104), 3) := by decide +kernel
theorem dX4_lookWho_144 : decode cX4_lookWho 144 = .ok (.return_, 1) := by decide +kernel
theorem dX4_lookBirths_0 : decode cX4_lookBirths 0 = .ok (.iconst 0, 1) := by decide +kernel
theorem dX4_lookBirths_1 : decode cX4_lookBirths 1 = .ok (.istore_n 1, 1) := by decide +kernel
theorem dX4_lookBirths_2 : decode cX4_lookBirths 2 = .ok (.iload_n 1, 1) := by decide +kernel
theorem dX4_lookBirths_3 : decode cX4_lookBirths 3 = .ok (.aload_n 0, 1) := by decide +kernel
theorem dX4_lookBirths_4 : decode cX4_lookBirths 4 = .ok (.getfield 68, 3) := by decide +kernel
theorem dX4_lookBirths_7 : decode cX4_lookBirths 7 = .ok (.if_icmp .ge 23, 3) := by decide +kernel
theorem dX4_lookBirths_10 : decode cX4_lookBirths 10 = .ok (.aload_n 0, 1) := by decide +kernel
theorem dX4_lookBirths_11 : decode cX4_lookBirths 11 = .ok (.getfield 49, 3) := by decide +kernel
theorem dX4_lookBirths_14 : decode cX4_lookBirths 14 = .ok (.iload_n 1, 1) := by decide +kernel
theorem dX4_lookBirths_15 : decode cX4_lookBirths 15 = .ok (.iconst 0, 1) := by decide +kernel
theorem dX4_lookBirths_16 : decode cX4_lookBirths 16 = .ok (.bastore, 1) := by decide +kernel
theorem dX4_lookBirths_17 : decode cX4_lookBirths 17 = .ok (.aload_n 0, 1) := by decide +kernel
theorem dX4_lookBirths_18 : decode cX4_lookBirths 18 = .ok (.getfield 53, 3) := by decide +kernel
theorem dX4_lookBirths_21 : decode cX4_lookBirths 21 = .ok (.iload_n 1, 1) := by decide +kernel
theorem dX4_lookBirths_22 : decode cX4_lookBirths 22 = .ok (.iconst 0, 1) := by decide +kernel
theorem dX4_lookBirths_23 : decode cX4_lookBirths 23 = .ok (.iastore, 1) := by decide +kernel
theorem dX4_lookBirths_24 : decode cX4_lookBirths 24 = .ok (.iinc 1 1, 3) := by decide +kernel
theorem dX4_lookBirths_27 : decode cX4_lookBirths 27 = .ok (.goto (-25), 3) := by decide +kernel
theorem dX4_lookBirths_30 : decode cX4_lookBirths 30 = .ok (.aload_n 0, 1) := by decide +kernel
theorem dX4_lookBirths_31 : decode cX4_lookBirths 31 = .ok (.getfield 26, 3) := by decide +kernel
theorem dX4_lookBirths_34 : decode cX4_lookBirths 34 = .ok (.aload_n 0, 1) := by decide +kernel
theorem dX4_lookBirths_35 : decode cX4_lookBirths 35 = .ok (.getfield 42, 3) := by decide +kernel
theorem dX4_lookBirths_38 : decode cX4_lookBirths 38 = .ok (.invokevirtual 83, 3) := by decide +kernel
theorem dX4_lookBirths_41 : decode cX4_lookBirths 41 = .ok (.istore_n 1, 1) := by decide +kernel
theorem dX4_lookBirths_42 : decode cX4_lookBirths 42 = .ok (.iconst 0, 1) := by decide +kernel
theorem dX4_lookBirths_43 : decode cX4_lookBirths 43 = .ok (.istore_n 2, 1) := by decide +kernel
theorem dX4_lookBirths_44 : decode cX4_lookBirths 44 = .ok (.iload_n 2, 1) := by decide +kernel
theorem dX4_lookBirths_45 : decode cX4_lookBirths 45 = .ok (.iload_n 1, 1) := by decide +kernel
theorem dX4_lookBirths_46 : decode cX4_lookBirths 46 = .ok (.if_icmp .ge 41, 3) := by decide +kernel
theorem dX4_lookBirths_49 : decode cX4_lookBirths 49 = .ok (.aload_n 0, 1) := by decide +kernel
theorem dX4_lookBirths_50 : decode cX4_lookBirths 50 = .ok (.getfield 26, 3) := by decide +kernel
theorem dX4_lookBirths_53 : decode cX4_lookBirths 53 = .ok (.iload_n 2, 1) := by decide +kernel
theorem dX4_lookBirths_54 : decode cX4_lookBirths 54 = .ok (.iconst 1, 1) := by decide +kernel
theorem dX4_lookBirths_55 : decode cX4_lookBirths 55 = .ok (.invokevirtual 87, 3) := by decide +kernel
theorem dX4_lookBirths_58 : decode cX4_lookBirths 58 = .ok (.istore_n 3, 1) := by decide +kernel
theorem dX4_lookBirths_59 : decode cX4_lookBirths 59 = .ok (.aload_n 0, 1) := by decide +kernel
theorem dX4_lookBirths_60 : decode cX4_lookBirths 60 = .ok (.getfield 49, 3) := by decide +kernel
theorem dX4_lookBirths_63 : decode cX4_lookBirths 63 = .ok (.iload_n 3, 1) := by decide +kernel
theorem dX4_lookBirths_64 : decode cX4_lookBirths 64 = .ok (.iconst 1, 1) := by decide +kernel
theorem dX4_lookBirths_65 : decode cX4_lookBirths 65 = .ok (.bastore, 1) := by decide +kernel
theorem dX4_lookBirths_66 : decode cX4_lookBirths 66 = .ok (.aload_n 0, 1) := by decide +kernel
theorem dX4_lookBirths_67 : decode cX4_lookBirths 67 = .ok (.getfield 53, 3) := by decide +kernel
theorem dX4_lookBirths_70 : decode cX4_lookBirths 70 = .ok (.iload_n 3, 1) := by decide +kernel
theorem dX4_lookBirths_71 : decode cX4_lookBirths 71 = .ok (.aload_n 0, 1) := by decide +kernel
theorem dX4_lookBirths_72 : decode cX4_lookBirths 72 = .ok (.getfield 26, 3) := by decide +kernel
theorem dX4_lookBirths_75 : decode cX4_lookBirths 75 = .ok (.iload_n 2, 1) := by decide +kernel
theorem dX4_lookBirths_76 : decode cX4_lookBirths 76 = .ok (.iconst 2, 1) := by decide +kernel
theorem dX4_lookBirths_77 : decode cX4_lookBirths 77 = .ok (.invokevirtual 87, 3) := by decide +kernel
theorem dX4_lookBirths_80 : decode cX4_lookBirths 80 = .ok (.iastore, 1) := by decide +kernel
theorem dX4_lookBirths_81 : decode cX4_lookBirths 81 = .ok (.iinc 2 1, 3) := by decide +kernel
theorem dX4_lookBirths_84 : decode cX4_lookBirths 84 = .ok (.goto (-40), 3) := by decide +kernel
theorem dX4_lookBirths_87 : decode cX4_lookBirths 87 = .ok (.return_, 1) := by decide +kernel
theorem dX4_ageOn_0 : decode cX4_ageOn 0 = .ok (.iload_n 2, 1) := by decide +kernel
theorem dX4_ageOn_1 : decode cX4_ageOn 1 = .ok (.bipush 7, 2) := by decide +kernel
theorem dX4_ageOn_3 : decode cX4_ageOn 3 = .ok (.idiv, 1) := by decide +kernel
theorem dX4_ageOn_4 : decode cX4_ageOn 4 = .ok (.aload_n 0, 1) := by decide +kernel
theorem dX4_ageOn_5 : decode cX4_ageOn 5 = .ok (.getfield 53, 3) := by decide +kernel
theorem dX4_ageOn_8 : decode cX4_ageOn 8 = .ok (.iload_n 1, 1) := by decide +kernel
theorem dX4_ageOn_9 : decode cX4_ageOn 9 = .ok (.iaload, 1) := by decide +kernel
theorem dX4_ageOn_10 : decode cX4_ageOn 10 = .ok (.isub, 1) := by decide +kernel
theorem dX4_ageOn_11 : decode cX4_ageOn 11 = .ok (.istore_n 3, 1) := by decide +kernel
theorem dX4_ageOn_12 : decode cX4_ageOn 12 = .ok (.iload_n 3, 1) := by decide +kernel
theorem dX4_ageOn_13 : decode cX4_ageOn 13 = .ok (.ifCond .ge 7, 3) := by decide +kernel
theorem dX4_ageOn_16 : decode cX4_ageOn 16 = .ok (.iconst 0, 1) := by decide +kernel
theorem dX4_ageOn_17 : decode cX4_ageOn 17 = .ok (.goto 7, 3) := by decide +kernel
theorem dX4_ageOn_20 : decode cX4_ageOn 20 = .ok (.iload_n 3, 1) := by decide +kernel
theorem dX4_ageOn_21 : decode cX4_ageOn 21 = .ok (.bipush 52, 2) := by decide +kernel
theorem dX4_ageOn_23 : decode cX4_ageOn 23 = .ok (.idiv, 1) := by decide +kernel
theorem dX4_ageOn_24 : decode cX4_ageOn 24 = .ok (.ireturn, 1) := by decide +kernel
theorem dX4_brothersOf_0 : decode cX4_brothersOf 0 = .ok (.aload_n 0, 1) := by decide +kernel
theorem dX4_brothersOf_1 : decode cX4_brothersOf 1 = .ok (.getfield 59, 3) := by decide +kernel
theorem dX4_brothersOf_4 : decode cX4_brothersOf 4 = .ok (.aload_n 0, 1) := by decide +kernel
theorem dX4_brothersOf_5 : decode cX4_brothersOf 5 = .ok (.getfield 15, 3) := by decide +kernel
theorem dX4_brothersOf_8 : decode cX4_brothersOf 8 = .ok (.iload_n 1, 1) := by decide +kernel
theorem dX4_brothersOf_9 : decode cX4_brothersOf 9 = .ok (.iaload, 1) := by decide +kernel
theorem dX4_brothersOf_10 : decode cX4_brothersOf 10 = .ok (.iaload, 1) := by decide +kernel
theorem dX4_brothersOf_11 : decode cX4_brothersOf 11 = .ok (.iconst 1, 1) := by decide +kernel
theorem dX4_brothersOf_12 : decode cX4_brothersOf 12 = .ok (.isub, 1) := by decide +kernel
theorem dX4_brothersOf_13 : decode cX4_brothersOf 13 = .ok (.ireturn, 1) := by decide +kernel
theorem dX4_servingBrothersOf_0 : decode cX4_servingBrothersOf 0 = .ok (.iconst 0, 1) := by decide +kernel
theorem dX4_servingBrothersOf_1 : decode cX4_servingBrothersOf 1 = .ok (.istore_n 2, 1) := by decide +kernel
theorem dX4_servingBrothersOf_2 : decode cX4_servingBrothersOf 2 = .ok (.iconst 0, 1) := by decide +kernel
theorem dX4_servingBrothersOf_3 : decode cX4_servingBrothersOf 3 = .ok (.istore_n 3, 1) := by decide +kernel
theorem dX4_servingBrothersOf_4 : decode cX4_servingBrothersOf 4 = .ok (.iload_n 3, 1) := by decide +kernel
theorem dX4_servingBrothersOf_5 : decode cX4_servingBrothersOf 5 = .ok (.aload_n 0, 1) := by decide +kernel
theorem dX4_servingBrothersOf_6 : decode cX4_servingBrothersOf 6 = .ok (.getfield 68, 3) := by decide +kernel
theorem dX4_servingBrothersOf_9 : decode cX4_servingBrothersOf 9 = .ok (.if_icmp .ge 55, 3) := by decide +kernel
theorem dX4_servingBrothersOf_12 : decode cX4_servingBrothersOf 12 = .ok (.iload_n 2, 1) := by decide +kernel
theorem dX4_servingBrothersOf_13 : decode cX4_servingBrothersOf 13 = .ok (.iload_n 3, 1) := by decide +kernel
theorem dX4_servingBrothersOf_14 : decode cX4_servingBrothersOf 14 = .ok (.iload_n 1, 1) := by decide +kernel
theorem dX4_servingBrothersOf_15 : decode cX4_servingBrothersOf 15 = .ok (.if_icmp .eq 40, 3) := by decide +kernel
theorem dX4_servingBrothersOf_18 : decode cX4_servingBrothersOf 18 = .ok (.aload_n 0, 1) := by decide +kernel
theorem dX4_servingBrothersOf_19 : decode cX4_servingBrothersOf 19 = .ok (.getfield 56, 3) := by decide +kernel
theorem dX4_servingBrothersOf_22 : decode cX4_servingBrothersOf 22 = .ok (.iload_n 3, 1) := by decide +kernel
theorem dX4_servingBrothersOf_23 : decode cX4_servingBrothersOf 23 = .ok (.baload, 1) := by decide +kernel
theorem dX4_servingBrothersOf_24 : decode cX4_servingBrothersOf 24 = .ok (.ifCond .eq 31, 3) := by decide +kernel
theorem dX4_servingBrothersOf_27 : decode cX4_servingBrothersOf 27 = .ok (.aload_n 0, 1) := by decide +kernel
theorem dX4_servingBrothersOf_28 : decode cX4_servingBrothersOf 28 = .ok (.getfield 65, 3) := by decide +kernel
theorem dX4_servingBrothersOf_31 : decode cX4_servingBrothersOf 31 = .ok (.iload_n 3, 1) := by decide +kernel
theorem dX4_servingBrothersOf_32 : decode cX4_servingBrothersOf 32 = .ok (.baload, 1) := by decide +kernel
theorem dX4_servingBrothersOf_33 : decode cX4_servingBrothersOf 33 = .ok (.ifCond .eq 22, 3) := by decide +kernel
theorem dX4_servingBrothersOf_36 : decode cX4_servingBrothersOf 36 = .ok (.aload_n 0, 1) := by decide +kernel
theorem dX4_servingBrothersOf_37 : decode cX4_servingBrothersOf 37 = .ok (.getfield 15, 3) := by decide +kernel
theorem dX4_servingBrothersOf_40 : decode cX4_servingBrothersOf 40 = .ok (.iload_n 3, 1) := by decide +kernel
theorem dX4_servingBrothersOf_41 : decode cX4_servingBrothersOf 41 = .ok (.iaload, 1) := by decide +kernel
theorem dX4_servingBrothersOf_42 : decode cX4_servingBrothersOf 42 = .ok (.aload_n 0, 1) := by decide +kernel
theorem dX4_servingBrothersOf_43 : decode cX4_servingBrothersOf 43 = .ok (.getfield 15, 3) := by decide +kernel
theorem dX4_servingBrothersOf_46 : decode cX4_servingBrothersOf 46 = .ok (.iload_n 1, 1) := by decide +kernel
theorem dX4_servingBrothersOf_47 : decode cX4_servingBrothersOf 47 = .ok (.iaload, 1) := by decide +kernel
theorem dX4_servingBrothersOf_48 : decode cX4_servingBrothersOf 48 = .ok (.if_icmp .ne 7, 3) := by decide +kernel
theorem dX4_servingBrothersOf_51 : decode cX4_servingBrothersOf 51 = .ok (.iconst 1, 1) := by decide +kernel
theorem dX4_servingBrothersOf_52 : decode cX4_servingBrothersOf 52 = .ok (.goto 4, 3) := by decide +kernel
theorem dX4_servingBrothersOf_55 : decode cX4_servingBrothersOf 55 = .ok (.iconst 0, 1) := by decide +kernel
theorem dX4_servingBrothersOf_56 : decode cX4_servingBrothersOf 56 = .ok (.iadd, 1) := by decide +kernel
theorem dX4_servingBrothersOf_57 : decode cX4_servingBrothersOf 57 = .ok (.istore_n 2, 1) := by decide +kernel
theorem dX4_servingBrothersOf_58 : decode cX4_servingBrothersOf 58 = .ok (.iinc 3 1, 3) := by decide +kernel
theorem dX4_servingBrothersOf_61 : decode cX4_servingBrothersOf 61 = .ok (.goto (-57), 3) := by decide +kernel
theorem dX4_servingBrothersOf_64 : decode cX4_servingBrothersOf 64 = .ok (.iload_n 2, 1) := by decide +kernel
theorem dX4_servingBrothersOf_65 : decode cX4_servingBrothersOf 65 = .ok (.ireturn, 1) := by decide +kernel
theorem dX5_init_0 : decode cX5_init 0 = .ok (.aload_n 0, 1) := by decide +kernel
theorem dX5_init_1 : decode cX5_init 1 = .ok (.invokespecial 3, 3) := by decide +kernel
theorem dX5_init_4 : decode cX5_init 4 = .ok (.aload_n 0, 1) := by decide +kernel
theorem dX5_init_5 : decode cX5_init 5 = .ok (.new 9, 3) := by decide +kernel
theorem dX5_init_8 : decode cX5_init 8 = .ok (.dup, 1) := by decide +kernel
theorem dX5_init_9 : decode cX5_init 9 = .ok (.invokespecial 11, 3) := by decide +kernel
theorem dX5_init_12 : decode cX5_init 12 = .ok (.putfield 12, 3) := by decide +kernel
theorem dX5_init_15 : decode cX5_init 15 = .ok (.aload_n 0, 1) := by decide +kernel
theorem dX5_init_16 : decode cX5_init 16 = .ok (.new 18, 3) := by decide +kernel
theorem dX5_init_19 : decode cX5_init 19 = .ok (.dup, 1) := by decide +kernel
theorem dX5_init_20 : decode cX5_init 20 = .ok (.invokespecial 20, 3) := by decide +kernel
theorem dX5_init_23 : decode cX5_init 23 = .ok (.putfield 21, 3) := by decide +kernel
theorem dX5_init_26 : decode cX5_init 26 = .ok (.return_, 1) := by decide +kernel
theorem dX5_read_0 : decode cX5_read 0 = .ok (.aload_n 0, 1) := by decide +kernel
theorem dX5_read_1 : decode cX5_read 1 = .ok (.aload_n 2, 1) := by decide +kernel
theorem dX5_read_2 : decode cX5_read 2 = .ok (.putfield 21, 3) := by decide +kernel
theorem dX5_read_5 : decode cX5_read 5 = .ok (.aload_n 0, 1) := by decide +kernel
theorem dX5_read_6 : decode cX5_read 6 = .ok (.getfield 21, 3) := by decide +kernel
theorem dX5_read_9 : decode cX5_read 9 = .ok (.invokevirtual 25, 3) := by decide +kernel
theorem dX5_read_12 : decode cX5_read 12 = .ok (.aload_n 0, 1) := by decide +kernel
theorem dX5_read_13 : decode cX5_read 13 = .ok (.iconst 0, 1) := by decide +kernel
theorem dX5_read_14 : decode cX5_read 14 = .ok (.putfield 28, 3) := by decide +kernel
theorem dX5_read_17 : decode cX5_read 17 = .ok (.aload_n 0, 1) := by decide +kernel
theorem dX5_read_18 : decode cX5_read 18 = .ok (.iconst 0, 1) := by decide +kernel
theorem dX5_read_19 : decode cX5_read 19 = .ok (.putfield 32, 3) := by decide +kernel
theorem dX5_read_22 : decode cX5_read 22 = .ok (.aload_n 0, 1) := by decide +kernel
theorem dX5_read_23 : decode cX5_read 23 = .ok (.iconst 0, 1) := by decide +kernel
theorem dX5_read_24 : decode cX5_read 24 = .ok (.putfield 35, 3) := by decide +kernel
theorem dX5_read_27 : decode cX5_read 27 = .ok (.aload_n 0, 1) := by decide +kernel
theorem dX5_read_28 : decode cX5_read 28 = .ok (.iconst (-1), 1) := by decide +kernel
theorem dX5_read_29 : decode cX5_read 29 = .ok (.putfield 38, 3) := by decide +kernel
theorem dX5_read_32 : decode cX5_read 32 = .ok (.aload_n 0, 1) := by decide +kernel
theorem dX5_read_33 : decode cX5_read 33 = .ok (.getfield 12, 3) := by decide +kernel
theorem dX5_read_36 : decode cX5_read 36 = .ok (.aload_n 1, 1) := by decide +kernel
theorem dX5_read_37 : decode cX5_read 37 = .ok (.invokevirtual 41, 3) := by decide +kernel
theorem dX5_read_40 : decode cX5_read 40 = .ok (.aload_n 0, 1) := by decide +kernel
theorem dX5_read_41 : decode cX5_read 41 = .ok (.invokevirtual 45, 3) := by decide +kernel
theorem dX5_read_44 : decode cX5_read 44 = .ok (.iconst 0, 1) := by decide +kernel
theorem dX5_read_45 : decode cX5_read 45 = .ok (.istore_n 3, 1) := by decide +kernel
theorem dX5_read_46 : decode cX5_read 46 = .ok (.iload_n 3, 1) := by decide +kernel
theorem dX5_read_47 : decode cX5_read 47 = .ok (.bipush 20, 2) := by decide +kernel
theorem dX5_read_49 : decode cX5_read 49 = .ok (.if_icmp .gt 25, 3) := by decide +kernel
theorem dX5_read_52 : decode cX5_read 52 = .ok (.aload_n 0, 1) := by decide +kernel
theorem dX5_read_53 : decode cX5_read 53 = .ok (.getfield 48, 3) := by decide +kernel
theorem dX5_read_56 : decode cX5_read 56 = .ok (.ifCond .eq 18, 3) := by decide +kernel
theorem dX5_read_59 : decode cX5_read 59 = .ok (.aload_n 0, 1) := by decide +kernel
theorem dX5_read_60 : decode cX5_read 60 = .ok (.invokevirtual 51, 3) := by decide +kernel
theorem dX5_read_63 : decode cX5_read 63 = .ok (.ifCond .ne 5, 3) := by decide +kernel
theorem dX5_read_66 : decode cX5_read 66 = .ok (.iconst 0, 1) := by decide +kernel
theorem dX5_read_67 : decode cX5_read 67 = .ok (.ireturn, 1) := by decide +kernel
theorem dX5_read_68 : decode cX5_read 68 = .ok (.iinc 3 1, 3) := by decide +kernel
theorem dX5_read_71 : decode cX5_read 71 = .ok (.goto (-25), 3) := by decide +kernel
theorem dX5_read_74 : decode cX5_read 74 = .ok (.aload_n 0, 1) := by decide +kernel
theorem dX5_read_75 : decode cX5_read 75 = .ok (.getfield 12, 3) := by decide +kernel
theorem dX5_read_78 : decode cX5_read 78 = .ok (.getfield 55, 3) := by decide +kernel
theorem dX5_read_81 : decode cX5_read 81 = .ok (.ifCond .eq 11, 3) := by decide +kernel
theorem dX5_read_84 : decode cX5_read 84 = .ok (.aload_n 0, 1) := by decide +kernel
theorem dX5_read_85 : decode cX5_read 85 = .ok (.iconst 1, 1) := by decide +kernel
theorem dX5_read_86 : decode cX5_read 86 = .ok (.invokevirtual 59, 3) := by decide +kernel
theorem dX5_read_89 : decode cX5_read 89 = .ok (.ifCond .eq 7, 3) := by decide +kernel
theorem dX5_read_92 : decode cX5_read 92 = .ok (.iconst 1, 1) := by decide +kernel
theorem dX5_read_93 : decode cX5_read 93 = .ok (.goto 4, 3) := by decide +kernel
theorem dX5_read_96 : decode cX5_read 96 = .ok (.iconst 0, 1) := by decide +kernel
theorem dX5_read_97 : decode cX5_read 97 = .ok (.ireturn, 1) := by decide +kernel
theorem dX5_readToken_0 : decode cX5_readToken 0 = .ok (.aload_n 0, 1) := by decide +kernel
theorem dX5_readToken_1 : decode cX5_readToken 1 = .ok (.getfield 38, 3) := by decide +kernel
theorem dX5_readToken_4 : decode cX5_readToken 4 = .ok (.iconst 1, 1) := by decide +kernel
theorem dX5_readToken_5 : decode cX5_readToken 5 = .ok (.iadd, 1) := by decide +kernel
theorem dX5_readToken_6 : decode cX5_readToken 6 = .ok (.aload_n 0, 1) := by decide +kernel
theorem dX5_readToken_7 : decode cX5_readToken 7 = .ok (.getfield 12, 3) := by decide +kernel
theorem dX5_readToken_10 : decode cX5_readToken 10 = .ok (.getfield 63, 3) := by decide +kernel
theorem dX5_readToken_13 : decode cX5_readToken 13 = .ok (.if_icmp .ge 45, 3) := by decide +kernel
theorem dX5_readToken_16 : decode cX5_readToken 16 = .ok (.aload_n 0, 1) := by decide +kernel
theorem dX5_readToken_17 : decode cX5_readToken 17 = .ok (.dup, 1) := by decide +kernel
theorem dX5_readToken_18 : decode cX5_readToken 18 = .ok (.getfield 38, 3) := by decide +kernel
theorem dX5_readToken_21 : decode cX5_readToken 21 = .ok (.iconst 1, 1) := by decide +kernel
theorem dX5_readToken_22 : decode cX5_readToken 22 = .ok (.iadd, 1) := by decide +kernel
theorem dX5_readToken_23 : decode cX5_readToken 23 = .ok (.putfield 38, 3) := by decide +kernel
theorem dX5_readToken_26 : decode cX5_readToken 26 = .ok (.aload_n 0, 1) := by decide +kernel
theorem dX5_readToken_27 : decode cX5_readToken 27 = .ok (.aload_n 0, 1) := by decide +kernel
theorem dX5_readToken_28 : decode cX5_readToken 28 = .ok (.getfield 12, 3) := by decide +kernel
theorem dX5_readToken_31 : decode cX5_readToken 31 = .ok (.getfield 66, 3) := by decide +kernel
theorem dX5_readToken_34 : decode cX5_readToken 34 = .ok (.aload_n 0, 1) := by decide +kernel
theorem dX5_readToken_35 : decode cX5_readToken 35 = .ok (.getfield 38, 3) := by decide +kernel
theorem dX5_readToken_38 : decode cX5_readToken 38 = .ok (.iaload, 1) := by decide +kernel
theorem dX5_readToken_39 : decode cX5_readToken 39 = .ok (.putfield 48, 3) := by decide +kernel
theorem dX5_readToken_42 : decode cX5_readToken 42 = .ok (.aload_n 0, 1) := by decide +kernel
theorem dX5_readToken_43 : decode cX5_readToken 43 = .ok (.aload_n 0, 1) := by decide +kernel
theorem dX5_readToken_44 : decode cX5_readToken 44 = .ok (.getfield 12, 3) := by decide +kernel
theorem dX5_readToken_47 : decode cX5_readToken 47 = .ok (.getfield 70, 3) := by decide +kernel
theorem dX5_readToken_50 : decode cX5_readToken 50 = .ok (.aload_n 0, 1) := by decide +kernel
theorem dX5_readToken_51 : decode cX5_readToken 51 = .ok (.getfield 38, 3) := by decide +kernel
theorem dX5_readToken_54 : decode cX5_readToken 54 = .ok (.aaload, 1) := by decide +kernel
theorem dX5_readToken_55 : decode cX5_readToken 55 = .ok (.putfield 74, 3) := by decide +kernel
theorem dX5_readToken_58 : decode cX5_readToken 58 = .ok (.return_, 1) := by decide +kernel
theorem dX5_fail_0 : decode cX5_fail 0 = .ok (.aload_n 0, 1) := by decide +kernel
theorem dX5_fail_1 : decode cX5_fail 1 = .ok (.iload_n 1, 1) := by decide +kernel
theorem dX5_fail_2 : decode cX5_fail 2 = .ok (.putfield 28, 3) := by decide +kernel
theorem dX5_fail_5 : decode cX5_fail 5 = .ok (.aload_n 0, 1) := by decide +kernel
theorem dX5_fail_6 : decode cX5_fail 6 = .ok (.aload_n 0, 1) := by decide +kernel
theorem dX5_fail_7 : decode cX5_fail 7 = .ok (.getfield 38, 3) := by decide +kernel
theorem dX5_fail_10 : decode cX5_fail 10 = .ok (.ifCond .lt 17, 3) := by decide +kernel
theorem dX5_fail_13 : decode cX5_fail 13 = .ok (.aload_n 0, 1) := by decide +kernel
theorem dX5_fail_14 : decode cX5_fail 14 = .ok (.getfield 38, 3) := by decide +kernel
theorem dX5_fail_17 : decode cX5_fail 17 = .ok (.aload_n 0, 1) := by decide +kernel
theorem dX5_fail_18 : decode cX5_fail 18 = .ok (.getfield 12, 3) := by decide +kernel
theorem dX5_fail_21 : decode cX5_fail 21 = .ok (.getfield 63, 3) := by decide +kernel
theorem dX5_fail_24 : decode cX5_fail 24 = .ok (.if_icmp .lt 7, 3) := by decide +kernel
theorem dX5_fail_27 : decode cX5_fail 27 = .ok (.iconst 0, 1) := by decide +kernel
theorem dX5_fail_28 : decode cX5_fail 28 = .ok (.goto 15, 3) := by decide +kernel
theorem dX5_fail_31 : decode cX5_fail 31 = .ok (.aload_n 0, 1) := by decide +kernel
theorem dX5_fail_32 : decode cX5_fail 32 = .ok (.getfield 12, 3) := by decide +kernel
theorem dX5_fail_35 : decode cX5_fail 35 = .ok (.getfield 77, 3) := by decide +kernel
theorem dX5_fail_38 : decode cX5_fail 38 = .ok (.aload_n 0, 1) := by decide +kernel
theorem dX5_fail_39 : decode cX5_fail 39 = .ok (.getfield 38, 3) := by decide +kernel
theorem dX5_fail_42 : decode cX5_fail 42 = .ok (.iaload, 1) := by decide +kernel
theorem dX5_fail_43 : decode cX5_fail 43 = .ok (.putfield 32, 3) := by decide +kernel
theorem dX5_fail_46 : decode cX5_fail 46 = .ok (.iconst 0, 1) := by decide +kernel
theorem dX5_fail_47 : decode cX5_fail 47 = .ok (.ireturn, 1) := by decide +kernel
theorem dX5_readLine_0 : decode cX5_readLine 0 = .ok (.aload_n 0, 1) := by decide +kernel
theorem dX5_readLine_1 : decode cX5_readLine 1 = .ok (.getfield 74, 3) := by decide +kernel
theorem dX5_readLine_4 : decode cX5_readLine 4 = .ok (.astore_n 1, 1) := by decide +kernel
theorem dX5_readLine_5 : decode cX5_readLine 5 = .ok (.aload_n 1, 1) := by decide +kernel
theorem dX5_readLine_6 : decode cX5_readLine 6 = .ok (.ifnull 11, 3) := by decide +kernel
theorem dX5_readLine_9 : decode cX5_readLine 9 = .ok (.aload_n 1, 1) := by decide +kernel
theorem dX5_readLine_10 : decode cX5_readLine 10 = .ok (.getfield 80, 3) := by decide +kernel
theorem dX5_readLine_13 : decode cX5_readLine 13 = .ok (.iconst (-1), 1) := by decide +kernel
theorem dX5_readLine_14 : decode cX5_readLine 14 = .ok (.if_icmp .ne 9, 3) := by decide +kernel
theorem dX5_readLine_17 : decode cX5_readLine 17 = .ok (.aload_n 0, 1) := by decide +kernel
theorem dX5_readLine_18 : decode cX5_readLine 18 = .ok (.iconst 1, 1) := by decide +kernel
theorem dX5_readLine_19 : decode cX5_readLine 19 = .ok (.invokevirtual 59, 3) := by decide +kernel
theorem dX5_readLine_22 : decode cX5_readLine 22 = .ok (.ireturn, 1) := by decide +kernel
theorem dX5_readLine_23 : decode cX5_readLine 23 = .ok (.aload_n 1, 1) := by decide +kernel
theorem dX5_readLine_24 : decode cX5_readLine 24 = .ok (.getfield 80, 3) := by decide +kernel
theorem dX5_readLine_27 : decode cX5_readLine 27 = .ok (.ifCond .eq 11, 3) := by decide +kernel
theorem dX5_readLine_30 : decode cX5_readLine 30 = .ok (.aload_n 1, 1) := by decide +kernel
theorem dX5_readLine_31 : decode cX5_readLine 31 = .ok (.getfield 80, 3) := by decide +kernel
theorem dX5_readLine_34 : decode cX5_readLine 34 = .ok (.iconst 5, 1) := by decide +kernel
theorem dX5_readLine_35 : decode cX5_readLine 35 = .ok (.if_icmp .ne 7, 3) := by decide +kernel
theorem dX5_readLine_38 : decode cX5_readLine 38 = .ok (.iconst 1, 1) := by decide +kernel
theorem dX5_readLine_39 : decode cX5_readLine 39 = .ok (.goto 4, 3) := by decide +kernel
theorem dX5_readLine_42 : decode cX5_readLine 42 = .ok (.iconst 0, 1) := by decide +kernel
theorem dX5_readLine_43 : decode cX5_readLine 43 = .ok (.istore_n 2, 1) := by decide +kernel
theorem dX5_readLine_44 : decode cX5_readLine 44 = .ok (.aload_n 0, 1) := by decide +kernel
theorem dX5_readLine_45 : decode cX5_readLine 45 = .ok (.getfield 21, 3) := by decide +kernel
theorem dX5_readLine_48 : decode cX5_readLine 48 = .ok (.getfield 85, 3) := by decide +kernel
theorem dX5_readLine_51 : decode cX5_readLine 51 = .ok (.bipush 20, 2) := by decide +kernel
theorem dX5_readLine_53 : decode cX5_readLine 53 = .ok (.if_icmp .ge 21, 3) := by decide +kernel
theorem dX5_readLine_56 : decode cX5_readLine 56 = .ok (.iload_n 2, 1) := by decide +kernel
theorem dX5_readLine_57 : decode cX5_readLine 57 = .ok (.ifCond .eq 23, 3) := by decide +kernel
theorem dX5_readLine_60 : decode cX5_readLine 60 = .ok (.aload_n 0, 1) := by decide +kernel
theorem dX5_readLine_61 : decode cX5_readLine 61 = .ok (.getfield 21, 3) := by decide +kernel
theorem dX5_readLine_64 : decode cX5_readLine 64 = .ok (.aload_n 1, 1) := by decide +kernel
theorem dX5_readLine_65 : decode cX5_readLine 65 = .ok (.getfield 80, 3) := by decide +kernel
theorem dX5_readLine_68 : decode cX5_readLine 68 = .ok (.invokevirtual 88, 3) := by decide +kernel
theorem dX5_readLine_71 : decode cX5_readLine 71 = .ok (.ifCond .eq 9, 3) := by decide +kernel
theorem dX5_readLine_74 : decode cX5_readLine 74 = .ok (.aload_n 0, 1) := by decide +kernel
theorem dX5_readLine_75 : decode cX5_readLine 75 = .ok (.iconst 3, 1) := by decide +kernel
theorem dX5_readLine_76 : decode cX5_readLine 76 = .ok (.invokevirtual 59, 3) := by decide +kernel
theorem dX5_readLine_79 : decode cX5_readLine 79 = .ok (.ireturn, 1) := by decide +kernel
theorem dX5_readLine_80 : decode cX5_readLine 80 = .ok (.aload_n 0, 1) := by decide +kernel
theorem dX5_readLine_81 : decode cX5_readLine 81 = .ok (.getfield 21, 3) := by decide +kernel
theorem dX5_readLine_84 : decode cX5_readLine 84 = .ok (.aload_n 1, 1) := by decide +kernel
theorem dX5_readLine_85 : decode cX5_readLine 85 = .ok (.getfield 80, 3) := by decide +kernel
theorem dX5_readLine_88 : decode cX5_readLine 88 = .ok (.invokevirtual 91, 3) := by decide +kernel
theorem dX5_readLine_91 : decode cX5_readLine 91 = .ok (.aload_n 0, 1) := by decide +kernel
theorem dX5_readLine_92 : decode cX5_readLine 92 = .ok (.invokevirtual 45, 3) := by decide +kernel
theorem dX5_readLine_95 : decode cX5_readLine 95 = .ok (.aload_n 0, 1) := by decide +kernel
theorem dX5_readLine_96 : decode cX5_readLine 96 = .ok (.aload_n 1, 1) := by decide +kernel
theorem dX5_readLine_97 : decode cX5_readLine 97 = .ok (.getfield 80, 3) := by decide +kernel
theorem dX5_readLine_100 : decode cX5_readLine 100 = .ok (.invokevirtual 95, 3) := by decide +kernel
theorem dX5_readLine_103 : decode cX5_readLine 103 = .ok (.ifCond .ne 5, 3) := by decide +kernel
theorem dX5_readLine_106 : decode cX5_readLine 106 = .ok (.iconst 0, 1) := by decide +kernel
theorem dX5_readLine_107 : decode cX5_readLine 107 = .ok (.ireturn, 1) := by decide +kernel
theorem dX5_readLine_108 : decode cX5_readLine 108 = .ok (.iload_n 2, 1) := by decide +kernel
theorem dX5_readLine_109 : decode cX5_readLine 109 = .ok (.ifCond .ne 27, 3) := by decide +kernel
theorem dX5_readLine_112 : decode cX5_readLine 112 = .ok (.aload_n 0, 1) := by decide +kernel
theorem dX5_readLine_113 : decode cX5_readLine 113 = .ok (.getfield 74, 3) := by decide +kernel
theorem dX5_readLine_116 : decode cX5_readLine 116 = .ok (.getstatic 98, 3) := by decide +kernel
theorem dX5_readLine_119 : decode cX5_readLine 119 = .ok (.if_acmp .ne 17, 3) := by decide +kernel
theorem dX5_readLine_122 : decode cX5_readLine 122 = .ok (.aload_n 0, 1) := by decide +kernel
theorem dX5_readLine_123 : decode cX5_readLine 123 = .ok (.invokevirtual 45, 3) := by decide +kernel
theorem dX5_readLine_126 : decode cX5_readLine 126 = .ok (.aload_n 0, 1) := by decide +kernel
theorem dX5_readLine_127 : decode cX5_readLine 127 = .ok (.iconst 0, 1) := by decide +kernel
theorem dX5_readLine_128 : decode cX5_readLine 128 = .ok (.invokevirtual 101, 3) := by decide +kernel
theorem dX5_readLine_131 : decode cX5_readLine 131 = .ok (.ifCond .ne 5, 3) := by decide +kernel
theorem dX5_readLine_134 : decode cX5_readLine 134 = .ok (.iconst 0, 1) := by decide +kernel
theorem dX5_readLine_135 : decode cX5_readLine 135 = .ok (.ireturn, 1) := by decide +kernel
theorem dX5_readLine_136 : decode cX5_readLine 136 = .ok (.aload_n 0, 1) := by decide +kernel
theorem dX5_readLine_137 : decode cX5_readLine 137 = .ok (.bipush 59, 2) := by decide +kernel
theorem dX5_readLine_139 : decode cX5_readLine 139 = .ok (.invokevirtual 104, 3) := by decide +kernel
theorem dX5_readLine_142 : decode cX5_readLine 142 = .ok (.ireturn, 1) := by decide +kernel
theorem dX5_readHead_0 : decode cX5_readHead 0 = .ok (.iload_n 1, 1) := by decide +kernel
theorem dX5_readHead_1 : decode cX5_readHead 1 = .ok (.tableswitch 77 0 5 #[39, 77, 44, 62, 67, 72], 39) := by decide +kernel
theorem dX5_readHead_40 : decode cX5_readHead 40 = .ok (.aload_n 0, 1) := by decide +kernel
theorem dX5_readHead_41 : decode cX5_readHead 41 = .ok (.invokevirtual 107, 3) := by decide +kernel
theorem dX5_readHead_44 : decode cX5_readHead 44 = .ok (.ireturn, 1) := by decide +kernel
theorem dX5_readHead_45 : decode cX5_readHead 45 = .ok (.aload_n 0, 1) := by decide +kernel
theorem dX5_readHead_46 : decode cX5_readHead 46 = .ok (.iconst 1, 1) := by decide +kernel
theorem dX5_readHead_47 : decode cX5_readHead 47 = .ok (.sipush 3000, 3) := by decide +kernel
theorem dX5_readHead_50 : decode cX5_readHead 50 = .ok (.invokevirtual 110, 3) := by decide +kernel
theorem dX5_readHead_53 : decode cX5_readHead 53 = .ok (.iconst (-1), 1) := by decide +kernel
theorem dX5_readHead_54 : decode cX5_readHead 54 = .ok (.if_icmp .eq 7, 3) := by decide +kernel
theorem dX5_readHead_57 : decode cX5_readHead 57 = .ok (.iconst 1, 1) := by decide +kernel
theorem dX5_readHead_58 : decode cX5_readHead 58 = .ok (.goto 4, 3) := by decide +kernel
theorem dX5_readHead_61 : decode cX5_readHead 61 = .ok (.iconst 0, 1) := by decide +kernel
theorem dX5_readHead_62 : decode cX5_readHead 62 = .ok (.ireturn, 1) := by decide +kernel
theorem dX5_readHead_63 : decode cX5_readHead 63 = .ok (.aload_n 0, 1) := by decide +kernel
theorem dX5_readHead_64 : decode cX5_readHead 64 = .ok (.invokevirtual 114, 3) := by decide +kernel
theorem dX5_readHead_67 : decode cX5_readHead 67 = .ok (.ireturn, 1) := by decide +kernel
theorem dX5_readHead_68 : decode cX5_readHead 68 = .ok (.aload_n 0, 1) := by decide +kernel
theorem dX5_readHead_69 : decode cX5_readHead 69 = .ok (.invokevirtual 117, 3) := by decide +kernel
theorem dX5_readHead_72 : decode cX5_readHead 72 = .ok (.ireturn, 1) := by decide +kernel
theorem dX5_readHead_73 : decode cX5_readHead 73 = .ok (.aload_n 0, 1) := by decide +kernel
theorem dX5_readHead_74 : decode cX5_readHead 74 = .ok (.invokevirtual 120, 3) := by decide +kernel
theorem dX5_readHead_77 : decode cX5_readHead 77 = .ok (.ireturn, 1) := by decide +kernel
theorem dX5_readHead_78 : decode cX5_readHead 78 = .ok (.iconst 1, 1) := by decide +kernel
theorem dX5_readHead_79 : decode cX5_readHead 79 = .ok (.ireturn, 1) := by decide +kernel
theorem dX5_readAges_0 : decode cX5_readAges 0 = .ok (.aload_n 0, 1) := by decide +kernel
theorem dX5_readAges_1 : decode cX5_readAges 1 = .ok (.getfield 21, 3) := by decide +kernel
theorem dX5_readAges_4 : decode cX5_readAges 4 = .ok (.aload_n 0, 1) := by decide +kernel
theorem dX5_readAges_5 : decode cX5_readAges 5 = .ok (.iconst 0, 1) := by decide +kernel
theorem dX5_readAges_6 : decode cX5_readAges 6 = .ok (.bipush 99, 2) := by decide +kernel
theorem dX5_readAges_8 : decode cX5_readAges 8 = .ok (.invokevirtual 110, 3) := by decide +kernel
theorem dX5_readAges_11 : decode cX5_readAges 11 = .ok (.putfield 123, 3) := by decide +kernel
theorem dX5_readAges_14 : decode cX5_readAges 14 = .ok (.aload_n 0, 1) := by decide +kernel
theorem dX5_readAges_15 : decode cX5_readAges 15 = .ok (.getfield 21, 3) := by decide +kernel
theorem dX5_readAges_18 : decode cX5_readAges 18 = .ok (.getfield 123, 3) := by decide +kernel
theorem dX5_readAges_21 : decode cX5_readAges 21 = .ok (.iconst (-1), 1) := by decide +kernel
theorem dX5_readAges_22 : decode cX5_readAges 22 = .ok (.if_icmp .ne 5, 3) := by decide +kernel
theorem dX5_readAges_25 : decode cX5_readAges 25 = .ok (.iconst 0, 1) := by decide +kernel
theorem dX5_readAges_26 : decode cX5_readAges 26 = .ok (.ireturn, 1) := by decide +kernel
theorem dX5_readAges_27 : decode cX5_readAges 27 = .ok (.aload_n 0, 1) := by decide +kernel
theorem dX5_readAges_28 : decode cX5_readAges 28 = .ok (.getfield 74, 3) := by decide +kernel
theorem dX5_readAges_31 : decode cX5_readAges 31 = .ok (.getstatic 126, 3) := by decide +kernel
theorem dX5_readAges_34 : decode cX5_readAges 34 = .ok (.if_acmp .eq 9, 3) := by decide +kernel
theorem dX5_readAges_37 : decode cX5_readAges 37 = .ok (.aload_n 0, 1) := by decide +kernel
theorem dX5_readAges_38 : decode cX5_readAges 38 = .ok (.iconst 1, 1) := by decide +kernel
theorem dX5_readAges_39 : decode cX5_readAges 39 = .ok (.invokevirtual 59, 3) := by decide +kernel
theorem dX5_readAges_42 : decode cX5_readAges 42 = .ok (.ireturn, 1) := by decide +kernel
theorem dX5_readAges_43 : decode cX5_readAges 43 = .ok (.aload_n 0, 1) := by decide +kernel
theorem dX5_readAges_44 : decode cX5_readAges 44 = .ok (.invokevirtual 45, 3) := by decide +kernel
theorem dX5_readAges_47 : decode cX5_readAges 47 = .ok (.aload_n 0, 1) := by decide +kernel
theorem dX5_readAges_48 : decode cX5_readAges 48 = .ok (.getfield 21, 3) := by decide +kernel
theorem dX5_readAges_51 : decode cX5_readAges 51 = .ok (.aload_n 0, 1) := by decide +kernel
theorem dX5_readAges_52 : decode cX5_readAges 52 = .ok (.aload_n 0, 1) := by decide +kernel
theorem dX5_readAges_53 : decode cX5_readAges 53 = .ok (.getfield 21, 3) := by decide +kernel
theorem dX5_readAges_56 : decode cX5_readAges 56 = .ok (.getfield 123, 3) := by decide +kernel
theorem dX5_readAges_59 : decode cX5_readAges 59 = .ok (.bipush 99, 2) := by decide +kernel
theorem dX5_readAges_61 : decode cX5_readAges 61 = .ok (.invokevirtual 110, 3) := by decide +kernel
theorem dX5_readAges_64 : decode cX5_readAges 64 = .ok (.putfield 129, 3) := by decide +kernel
theorem dX5_readAges_67 : decode cX5_readAges 67 = .ok (.aload_n 0, 1) := by decide +kernel
theorem dX5_readAges_68 : decode cX5_readAges 68 = .ok (.getfield 21, 3) := by decide +kernel
theorem dX5_readAges_71 : decode cX5_readAges 71 = .ok (.getfield 129, 3) := by decide +kernel
theorem dX5_readAges_74 : decode cX5_readAges 74 = .ok (.iconst (-1), 1) := by decide +kernel
theorem dX5_readAges_75 : decode cX5_readAges 75 = .ok (.if_icmp .eq 7, 3) := by decide +kernel
theorem dX5_readAges_78 : decode cX5_readAges 78 = .ok (.iconst 1, 1) := by decide +kernel
theorem dX5_readAges_79 : decode cX5_readAges 79 = .ok (.goto 4, 3) := by decide +kernel
theorem dX5_readAges_82 : decode cX5_readAges 82 = .ok (.iconst 0, 1) := by decide +kernel
theorem dX5_readAges_83 : decode cX5_readAges 83 = .ok (.ireturn, 1) := by decide +kernel
theorem dX5_readClass_0 : decode cX5_readClass 0 = .ok (.aload_n 0, 1) := by decide +kernel
theorem dX5_readClass_1 : decode cX5_readClass 1 = .ok (.iconst 0, 1) := by decide +kernel
theorem dX5_readClass_2 : decode cX5_readClass 2 = .ok (.bipush 8, 2) := by decide +kernel
theorem dX5_readClass_4 : decode cX5_readClass 4 = .ok (.invokevirtual 110, 3) := by decide +kernel
theorem dX5_readClass_7 : decode cX5_readClass 7 = .ok (.istore_n 1, 1) := by decide +kernel
theorem dX5_readClass_8 : decode cX5_readClass 8 = .ok (.aload_n 0, 1) := by decide +kernel
theorem dX5_readClass_9 : decode cX5_readClass 9 = .ok (.getfield 21, 3) := by decide +kernel
theorem dX5_readClass_12 : decode cX5_readClass 12 = .ok (.iload_n 1, 1) := by decide +kernel
theorem dX5_readClass_13 : decode cX5_readClass 13 = .ok (.invokevirtual 132, 3) := by decide +kernel
theorem dX5_readClass_16 : decode cX5_readClass 16 = .ok (.iload_n 1, 1) := by decide +kernel
theorem dX5_readClass_17 : decode cX5_readClass 17 = .ok (.iconst (-1), 1) := by decide +kernel
theorem dX5_readClass_18 : decode cX5_readClass 18 = .ok (.if_icmp .eq 7, 3) := by decide +kernel
theorem dX5_readClass_21 : decode cX5_readClass 21 = .ok (.iconst 1, 1) := by decide +kernel
theorem dX5_readClass_22 : decode cX5_readClass 22 = .ok (.goto 4, 3) := by decide +kernel
theorem dX5_readClass_25 : decode cX5_readClass 25 = .ok (.iconst 0, 1) := by decide +kernel
theorem dX5_readClass_26 : decode cX5_readClass 26 = .ok (.ireturn, 1) := by decide +kernel
theorem dX5_readSend_0 : decode cX5_readSend 0 = .ok (.aload_n 0, 1) := by decide +kernel
theorem dX5_readSend_1 : decode cX5_readSend 1 = .ok (.getfield 21, 3) := by decide +kernel
theorem dX5_readSend_4 : decode cX5_readSend 4 = .ok (.aload_n 0, 1) := by decide +kernel
theorem dX5_readSend_5 : decode cX5_readSend 5 = .ok (.getfield 74, 3) := by decide +kernel
theorem dX5_readSend_8 : decode cX5_readSend 8 = .ok (.getstatic 135, 3) := by decide +kernel
theorem dX5_readSend_11 : decode cX5_readSend 11 = .ok (.if_acmp .ne 7, 3) := by decide +kernel
theorem dX5_readSend_14 : decode cX5_readSend 14 = .ok (.iconst 0, 1) := by decide +kernel
theorem dX5_readSend_15 : decode cX5_readSend 15 = .ok (.goto 4, 3) := by decide +kernel
theorem dX5_readSend_18 : decode cX5_readSend 18 = .ok (.iconst 1, 1) := by decide +kernel
theorem dX5_readSend_19 : decode cX5_readSend 19 = .ok (.invokevirtual 132, 3) := by decide +kernel
theorem dX5_readSend_22 : decode cX5_readSend 22 = .ok (.aload_n 0, 1) := by decide +kernel
theorem dX5_readSend_23 : decode cX5_readSend 23 = .ok (.getfield 74, 3) := by decide +kernel
theorem dX5_readSend_26 : decode cX5_readSend 26 = .ok (.getstatic 135, 3) := by decide +kernel
theorem dX5_readSend_29 : decode cX5_readSend 29 = .ok (.if_acmp .ne 7, 3) := by decide +kernel
theorem dX5_readSend_32 : decode cX5_readSend 32 = .ok (.aload_n 0, 1) := by decide +kernel
theorem dX5_readSend_33 : decode cX5_readSend 33 = .ok (.invokevirtual 45, 3) := by decide +kernel
theorem dX5_readSend_36 : decode cX5_readSend 36 = .ok (.iconst 1, 1) := by decide +kernel
theorem dX5_readSend_37 : decode cX5_readSend 37 = .ok (.ireturn, 1) := by decide +kernel
theorem dX5_readAppeal_0 : decode cX5_readAppeal 0 = .ok (.aload_n 0, 1) := by decide +kernel
theorem dX5_readAppeal_1 : decode cX5_readAppeal 1 = .ok (.getfield 21, 3) := by decide +kernel
theorem dX5_readAppeal_4 : decode cX5_readAppeal 4 = .ok (.aload_n 0, 1) := by decide +kernel
theorem dX5_readAppeal_5 : decode cX5_readAppeal 5 = .ok (.iconst 0, 1) := by decide +kernel
theorem dX5_readAppeal_6 : decode cX5_readAppeal 6 = .ok (.sipush 999, 3) := by decide +kernel
theorem dX5_readAppeal_9 : decode cX5_readAppeal 9 = .ok (.invokevirtual 110, 3) := by decide +kernel
theorem dX5_readAppeal_12 : decode cX5_readAppeal 12 = .ok (.putfield 138, 3) := by decide +kernel
theorem dX5_readAppeal_15 : decode cX5_readAppeal 15 = .ok (.aload_n 0, 1) := by decide +kernel
theorem dX5_readAppeal_16 : decode cX5_readAppeal 16 = .ok (.getfield 21, 3) := by decide +kernel
theorem dX5_readAppeal_19 : decode cX5_readAppeal 19 = .ok (.getfield 138, 3) := by decide +kernel
theorem dX5_readAppeal_22 : decode cX5_readAppeal 22 = .ok (.iconst (-1), 1) := by decide +kernel
theorem dX5_readAppeal_23 : decode cX5_readAppeal 23 = .ok (.if_icmp .eq 7, 3) := by decide +kernel
theorem dX5_readAppeal_26 : decode cX5_readAppeal 26 = .ok (.iconst 1, 1) := by decide +kernel
theorem dX5_readAppeal_27 : decode cX5_readAppeal 27 = .ok (.goto 4, 3) := by decide +kernel
theorem dX5_readAppeal_30 : decode cX5_readAppeal 30 = .ok (.iconst 0, 1) := by decide +kernel
theorem dX5_readAppeal_31 : decode cX5_readAppeal 31 = .ok (.ireturn, 1) := by decide +kernel
theorem dX5_readNumber_0 : decode cX5_readNumber 0 = .ok (.aload_n 0, 1) := by decide +kernel
theorem dX5_readNumber_1 : decode cX5_readNumber 1 = .ok (.getfield 48, 3) := by decide +kernel
theorem dX5_readNumber_4 : decode cX5_readNumber 4 = .ok (.iconst 2, 1) := by decide +kernel
theorem dX5_readNumber_5 : decode cX5_readNumber 5 = .ok (.if_icmp .eq 11, 3) := by decide +kernel
theorem dX5_readNumber_8 : decode cX5_readNumber 8 = .ok (.aload_n 0, 1) := by decide +kernel
theorem dX5_readNumber_9 : decode cX5_readNumber 9 = .ok (.iconst 1, 1) := by decide +kernel
theorem dX5_readNumber_10 : decode cX5_readNumber 10 = .ok (.invokevirtual 59, 3) := by decide +kernel
theorem dX5_readNumber_13 : decode cX5_readNumber 13 = .ok (.pop, 1) := by decide +kernel
theorem dX5_readNumber_14 : decode cX5_readNumber 14 = .ok (.iconst (-1), 1) := by decide +kernel
theorem dX5_readNumber_15 : decode cX5_readNumber 15 = .ok (.ireturn, 1) := by decide +kernel
theorem dX5_readNumber_16 : decode cX5_readNumber 16 = .ok (.aload_n 0, 1) := by decide +kernel
theorem dX5_readNumber_17 : decode cX5_readNumber 17 = .ok (.getfield 12, 3) := by decide +kernel
theorem dX5_readNumber_20 : decode cX5_readNumber 20 = .ok (.getfield 141, 3) := by decide +kernel
theorem dX5_readNumber_23 : decode cX5_readNumber 23 = .ok (.aload_n 0, 1) := by decide +kernel
theorem dX5_readNumber_24 : decode cX5_readNumber 24 = .ok (.getfield 38, 3) := by decide +kernel
theorem dX5_readNumber_27 : decode cX5_readNumber 27 = .ok (.iaload, 1) := by decide +kernel
theorem dX5_readNumber_28 : decode cX5_readNumber 28 = .ok (.istore_n 3, 1) := by decide +kernel
theorem dX5_readNumber_29 : decode cX5_readNumber 29 = .ok (.iload_n 3, 1) := by decide +kernel
theorem dX5_readNumber_30 : decode cX5_readNumber 30 = .ok (.iload_n 1, 1) := by decide +kernel
theorem dX5_readNumber_31 : decode cX5_readNumber 31 = .ok (.if_icmp .lt 8, 3) := by decide +kernel
theorem dX5_readNumber_34 : decode cX5_readNumber 34 = .ok (.iload_n 3, 1) := by decide +kernel
theorem dX5_readNumber_35 : decode cX5_readNumber 35 = .ok (.iload_n 2, 1) := by decide +kernel
theorem dX5_readNumber_36 : decode cX5_readNumber 36 = .ok (.if_icmp .le 11, 3) := by decide +kernel
theorem dX5_readNumber_39 : decode cX5_readNumber 39 = .ok (.aload_n 0, 1) := by decide +kernel
theorem dX5_readNumber_40 : decode cX5_readNumber 40 = .ok (.iconst 2, 1) := by decide +kernel
theorem dX5_readNumber_41 : decode cX5_readNumber 41 = .ok (.invokevirtual 59, 3) := by decide +kernel
theorem dX5_readNumber_44 : decode cX5_readNumber 44 = .ok (.pop, 1) := by decide +kernel
theorem dX5_readNumber_45 : decode cX5_readNumber 45 = .ok (.iconst (-1), 1) := by decide +kernel
theorem dX5_readNumber_46 : decode cX5_readNumber 46 = .ok (.ireturn, 1) := by decide +kernel
theorem dX5_readNumber_47 : decode cX5_readNumber 47 = .ok (.aload_n 0, 1) := by decide +kernel
theorem dX5_readNumber_48 : decode cX5_readNumber 48 = .ok (.invokevirtual 45, 3) := by decide +kernel
theorem dX5_readNumber_51 : decode cX5_readNumber 51 = .ok (.iload_n 3, 1) := by decide +kernel
theorem dX5_readNumber_52 : decode cX5_readNumber 52 = .ok (.ireturn, 1) := by decide +kernel
theorem dX5_readSign_0 : decode cX5_readSign 0 = .ok (.aload_n 0, 1) := by decide +kernel
theorem dX5_readSign_1 : decode cX5_readSign 1 = .ok (.getfield 48, 3) := by decide +kernel
theorem dX5_readSign_4 : decode cX5_readSign 4 = .ok (.iload_n 1, 1) := by decide +kernel
theorem dX5_readSign_5 : decode cX5_readSign 5 = .ok (.if_icmp .eq 9, 3) := by decide +kernel
theorem dX5_readSign_8 : decode cX5_readSign 8 = .ok (.aload_n 0, 1) := by decide +kernel
theorem dX5_readSign_9 : decode cX5_readSign 9 = .ok (.iconst 1, 1) := by decide +kernel
theorem dX5_readSign_10 : decode cX5_readSign 10 = .ok (.invokevirtual 59, 3) := by decide +kernel
theorem dX5_readSign_13 : decode cX5_readSign 13 = .ok (.ireturn, 1) := by decide +kernel
theorem dX5_readSign_14 : decode cX5_readSign 14 = .ok (.aload_n 0, 1) := by decide +kernel
theorem dX5_readSign_15 : decode cX5_readSign 15 = .ok (.invokevirtual 45, 3) := by decide +kernel
theorem dX5_readSign_18 : decode cX5_readSign 18 = .ok (.iconst 1, 1) := by decide +kernel
theorem dX5_readSign_19 : decode cX5_readSign 19 = .ok (.ireturn, 1) := by decide +kernel
theorem dX5_readCond_0 : decode cX5_readCond 0 = .ok (.aload_n 0, 1) := by decide +kernel
theorem dX5_readCond_1 : decode cX5_readCond 1 = .ok (.iload_n 1, 1) := by decide +kernel
theorem dX5_readCond_2 : decode cX5_readCond 2 = .ok (.invokevirtual 144, 3) := by decide +kernel
theorem dX5_readCond_5 : decode cX5_readCond 5 = .ok (.ifCond .ne 5, 3) := by decide +kernel
theorem dX5_readCond_8 : decode cX5_readCond 8 = .ok (.iconst 0, 1) := by decide +kernel
theorem dX5_readCond_9 : decode cX5_readCond 9 = .ok (.ireturn, 1) := by decide +kernel
theorem dX5_readCond_10 : decode cX5_readCond 10 = .ok (.iconst 0, 1) := by decide +kernel
theorem dX5_readCond_11 : decode cX5_readCond 11 = .ok (.istore_n 2, 1) := by decide +kernel
theorem dX5_readCond_12 : decode cX5_readCond 12 = .ok (.iload_n 2, 1) := by decide +kernel
theorem dX5_readCond_13 : decode cX5_readCond 13 = .ok (.bipush 60, 2) := by decide +kernel
theorem dX5_readCond_15 : decode cX5_readCond 15 = .ok (.if_icmp .ge 42, 3) := by decide +kernel
theorem dX5_readCond_18 : decode cX5_readCond 18 = .ok (.aload_n 0, 1) := by decide +kernel
theorem dX5_readCond_19 : decode cX5_readCond 19 = .ok (.getfield 74, 3) := by decide +kernel
theorem dX5_readCond_22 : decode cX5_readCond 22 = .ok (.getstatic 147, 3) := by decide +kernel
theorem dX5_readCond_25 : decode cX5_readCond 25 = .ok (.if_acmp .ne 32, 3) := by decide +kernel
theorem dX5_readCond_28 : decode cX5_readCond 28 = .ok (.aload_n 0, 1) := by decide +kernel
theorem dX5_readCond_29 : decode cX5_readCond 29 = .ok (.invokevirtual 45, 3) := by decide +kernel
theorem dX5_readCond_32 : decode cX5_readCond 32 = .ok (.aload_n 0, 1) := by decide +kernel
theorem dX5_readCond_33 : decode cX5_readCond 33 = .ok (.iload_n 1, 1) := by decide +kernel
theorem dX5_readCond_34 : decode cX5_readCond 34 = .ok (.invokevirtual 144, 3) := by decide +kernel
theorem dX5_readCond_37 : decode cX5_readCond 37 = .ok (.ifCond .ne 5, 3) := by decide +kernel
theorem dX5_readCond_40 : decode cX5_readCond 40 = .ok (.iconst 0, 1) := by decide +kernel
theorem dX5_readCond_41 : decode cX5_readCond 41 = .ok (.ireturn, 1) := by decide +kernel
theorem dX5_readCond_42 : decode cX5_readCond 42 = .ok (.aload_n 0, 1) := by decide +kernel
theorem dX5_readCond_43 : decode cX5_readCond 43 = .ok (.getfield 21, 3) := by decide +kernel
theorem dX5_readCond_46 : decode cX5_readCond 46 = .ok (.bipush (-2), 2) := by decide +kernel
theorem dX5_readCond_48 : decode cX5_readCond 48 = .ok (.invokevirtual 150, 3) := by decide +kernel
theorem dX5_readCond_51 : decode cX5_readCond 51 = .ok (.iinc 2 1, 3) := by decide +kernel
theorem dX5_readCond_54 : decode cX5_readCond 54 = .ok (.goto (-42), 3) := by decide +kernel
theorem dX5_readCond_57 : decode cX5_readCond 57 = .ok (.iconst 1, 1) := by decide +kernel
theorem dX5_readCond_58 : decode cX5_readCond 58 = .ok (.ireturn, 1) := by decide +kernel
theorem dX5_readAll_0 : decode cX5_readAll 0 = .ok (.aload_n 0, 1) := by decide +kernel
theorem dX5_readAll_1 : decode cX5_readAll 1 = .ok (.iload_n 1, 1) := by decide +kernel
theorem dX5_readAll_2 : decode cX5_readAll 2 = .ok (.invokevirtual 153, 3) := by decide +kernel
theorem dX5_readAll_5 : decode cX5_readAll 5 = .ok (.ifCond .ne 5, 3) := by decide +kernel
theorem dX5_readAll_8 : decode cX5_readAll 8 = .ok (.iconst 0, 1) := by decide +kernel
theorem dX5_readAll_9 : decode cX5_readAll 9 = .ok (.ireturn, 1) := by decide +kernel
theorem dX5_readAll_10 : decode cX5_readAll 10 = .ok (.iconst 0, 1) := by decide +kernel
theorem dX5_readAll_11 : decode cX5_readAll 11 = .ok (.istore_n 2, 1) := by decide +kernel
theorem dX5_readAll_12 : decode cX5_readAll 12 = .ok (.iload_n 2, 1) := by decide +kernel
theorem dX5_readAll_13 : decode cX5_readAll 13 = .ok (.bipush 60, 2) := by decide +kernel
theorem dX5_readAll_15 : decode cX5_readAll 15 = .ok (.if_icmp .ge 41, 3) := by decide +kernel
theorem dX5_readAll_18 : decode cX5_readAll 18 = .ok (.aload_n 0, 1) := by decide +kernel
theorem dX5_readAll_19 : decode cX5_readAll 19 = .ok (.getfield 74, 3) := by decide +kernel
theorem dX5_readAll_22 : decode cX5_readAll 22 = .ok (.getstatic 156, 3) := by decide +kernel
theorem dX5_readAll_25 : decode cX5_readAll 25 = .ok (.if_acmp .ne 31, 3) := by decide +kernel
theorem dX5_readAll_28 : decode cX5_readAll 28 = .ok (.aload_n 0, 1) := by decide +kernel
theorem dX5_readAll_29 : decode cX5_readAll 29 = .ok (.invokevirtual 45, 3) := by decide +kernel
theorem dX5_readAll_32 : decode cX5_readAll 32 = .ok (.aload_n 0, 1) := by decide +kernel
theorem dX5_readAll_33 : decode cX5_readAll 33 = .ok (.iload_n 1, 1) := by decide +kernel
theorem dX5_readAll_34 : decode cX5_readAll 34 = .ok (.invokevirtual 153, 3) := by decide +kernel
theorem dX5_readAll_37 : decode cX5_readAll 37 = .ok (.ifCond .ne 5, 3) := by decide +kernel
theorem dX5_readAll_40 : decode cX5_readAll 40 = .ok (.iconst 0, 1) := by decide +kernel
theorem dX5_readAll_41 : decode cX5_readAll 41 = .ok (.ireturn, 1) := by decide +kernel
theorem dX5_readAll_42 : decode cX5_readAll 42 = .ok (.aload_n 0, 1) := by decide +kernel
theorem dX5_readAll_43 : decode cX5_readAll 43 = .ok (.getfield 21, 3) := by decide +kernel
theorem dX5_readAll_46 : decode cX5_readAll 46 = .ok (.iconst (-1), 1) := by decide +kernel
theorem dX5_readAll_47 : decode cX5_readAll 47 = .ok (.invokevirtual 150, 3) := by decide +kernel
theorem dX5_readAll_50 : decode cX5_readAll 50 = .ok (.iinc 2 1, 3) := by decide +kernel
theorem dX5_readAll_53 : decode cX5_readAll 53 = .ok (.goto (-41), 3) := by decide +kernel
theorem dX5_readAll_56 : decode cX5_readAll 56 = .ok (.iconst 1, 1) := by decide +kernel
theorem dX5_readAll_57 : decode cX5_readAll 57 = .ok (.ireturn, 1) := by decide +kernel
theorem dX5_readOne_0 : decode cX5_readOne 0 = .ok (.aload_n 0, 1) := by decide +kernel
theorem dX5_readOne_1 : decode cX5_readOne 1 = .ok (.getfield 74, 3) := by decide +kernel
theorem dX5_readOne_4 : decode cX5_readOne 4 = .ok (.astore_n 2, 1) := by decide +kernel
theorem dX5_readOne_5 : decode cX5_readOne 5 = .ok (.aload_n 2, 1) := by decide +kernel
theorem dX5_readOne_6 : decode cX5_readOne 6 = .ok (.ifnull 15, 3) := by decide +kernel
theorem dX5_readOne_9 : decode cX5_readOne 9 = .ok (.aload_n 2, 1) := by decide +kernel
theorem dX5_readOne_10 : decode cX5_readOne 10 = .ok (.getfield 159, 3) := by decide +kernel
theorem dX5_readOne_13 : decode cX5_readOne 13 = .ok (.iconst (-1), 1) := by decide +kernel
theorem dX5_readOne_14 : decode cX5_readOne 14 = .ok (.if_icmp .eq 7, 3) := by decide +kernel
theorem dX5_readOne_17 : decode cX5_readOne 17 = .ok (.iconst 1, 1) := by decide +kernel
theorem dX5_readOne_18 : decode cX5_readOne 18 = .ok (.goto 4, 3) := by decide +kernel
theorem dX5_readOne_21 : decode cX5_readOne 21 = .ok (.iconst 0, 1) := by decide +kernel
theorem dX5_readOne_22 : decode cX5_readOne 22 = .ok (.istore_n 3, 1) := by decide +kernel
theorem dX5_readOne_23 : decode cX5_readOne 23 = .ok (.iload_n 3, 1) := by decide +kernel
theorem dX5_readOne_24 : decode cX5_readOne 24 = .ok (.ifCond .ne 25, 3) := by decide +kernel
theorem dX5_readOne_27 : decode cX5_readOne 27 = .ok (.aload_n 2, 1) := by decide +kernel
theorem dX5_readOne_28 : decode cX5_readOne 28 = .ok (.getstatic 135, 3) := by decide +kernel
theorem dX5_readOne_31 : decode cX5_readOne 31 = .ok (.if_acmp .eq 18, 3) := by decide +kernel
theorem dX5_readOne_34 : decode cX5_readOne 34 = .ok (.aload_n 0, 1) := by decide +kernel
theorem dX5_readOne_35 : decode cX5_readOne 35 = .ok (.getfield 48, 3) := by decide +kernel
theorem dX5_readOne_38 : decode cX5_readOne 38 = .ok (.bipush 40, 2) := by decide +kernel
theorem dX5_readOne_40 : decode cX5_readOne 40 = .ok (.if_icmp .eq 9, 3) := by decide +kernel
theorem dX5_readOne_43 : decode cX5_readOne 43 = .ok (.aload_n 0, 1) := by decide +kernel
theorem dX5_readOne_44 : decode cX5_readOne 44 = .ok (.iconst 1, 1) := by decide +kernel
theorem dX5_readOne_45 : decode cX5_readOne 45 = .ok (.invokevirtual 59, 3) := by decide +kernel
theorem dX5_readOne_48 : decode cX5_readOne 48 = .ok (.ireturn, 1) := by decide +kernel
theorem dX5_readOne_49 : decode cX5_readOne 49 = .ok (.aload_n 0, 1) := by decide +kernel
theorem dX5_readOne_50 : decode cX5_readOne 50 = .ok (.getfield 35, 3) := by decide +kernel
theorem dX5_readOne_53 : decode cX5_readOne 53 = .ok (.bipush 60, 2) := by decide +kernel
theorem dX5_readOne_55 : decode cX5_readOne 55 = .ok (.if_icmp .ge 9, 3) := by decide +kernel
theorem dX5_readOne_58 : decode cX5_readOne 58 = .ok (.iload_n 1, 1) := by decide +kernel
theorem dX5_readOne_59 : decode cX5_readOne 59 = .ok (.bipush 12, 2) := by decide +kernel
theorem dX5_readOne_61 : decode cX5_readOne 61 = .ok (.if_icmp .lt 9, 3) := by decide +kernel
theorem dX5_readOne_64 : decode cX5_readOne 64 = .ok (.aload_n 0, 1) := by decide +kernel
theorem dX5_readOne_65 : decode cX5_readOne 65 = .ok (.iconst 4, 1) := by decide +kernel
theorem dX5_readOne_66 : decode cX5_readOne 66 = .ok (.invokevirtual 59, 3) := by decide +kernel
theorem dX5_readOne_69 : decode cX5_readOne 69 = .ok (.ireturn, 1) := by decide +kernel
theorem dX5_readOne_70 : decode cX5_readOne 70 = .ok (.aload_n 0, 1) := by decide +kernel
theorem dX5_readOne_71 : decode cX5_readOne 71 = .ok (.dup, 1) := by decide +kernel
theorem dX5_readOne_72 : decode cX5_readOne 72 = .ok (.getfield 35, 3) := by decide +kernel
theorem dX5_readOne_75 : decode cX5_readOne 75 = .ok (.iconst 1, 1) := by decide +kernel
theorem dX5_readOne_76 : decode cX5_readOne 76 = .ok (.iadd, 1) := by decide +kernel
theorem dX5_readOne_77 : decode cX5_readOne 77 = .ok (.putfield 35, 3) := by decide +kernel
theorem dX5_readOne_80 : decode cX5_readOne 80 = .ok (.aload_n 0, 1) := by decide +kernel
theorem dX5_readOne_81 : decode cX5_readOne 81 = .ok (.invokevirtual 45, 3) := by decide +kernel
theorem dX5_readOne_84 : decode cX5_readOne 84 = .ok (.iload_n 3, 1) := by decide +kernel
theorem dX5_readOne_85 : decode cX5_readOne 85 = .ok (.ifCond .eq 9, 3) := by decide +kernel
theorem dX5_readOne_88 : decode cX5_readOne 88 = .ok (.aload_n 0, 1) := by decide +kernel
theorem dX5_readOne_89 : decode cX5_readOne 89 = .ok (.aload_n 2, 1) := by decide +kernel
theorem dX5_readOne_90 : decode cX5_readOne 90 = .ok (.invokevirtual 162, 3) := by decide +kernel
theorem dX5_readOne_93 : decode cX5_readOne 93 = .ok (.ireturn, 1) := by decide +kernel
theorem dX5_readOne_94 : decode cX5_readOne 94 = .ok (.aload_n 2, 1) := by decide +kernel
theorem dX5_readOne_95 : decode cX5_readOne 95 = .ok (.getstatic 135, 3) := by decide +kernel
theorem dX5_readOne_98 : decode cX5_readOne 98 = .ok (.if_acmp .eq 28, 3) := by decide +kernel
theorem dX5_readOne_101 : decode cX5_readOne 101 = .ok (.aload_n 0, 1) := by decide +kernel
theorem dX5_readOne_102 : decode cX5_readOne 102 = .ok (.iload_n 1, 1) := by decide +kernel
theorem dX5_readOne_103 : decode cX5_readOne 103 = .ok (.iconst 1, 1) := by decide +kernel
theorem dX5_readOne_104 : decode cX5_readOne 104 = .ok (.iadd, 1) := by decide +kernel
theorem dX5_readOne_105 : decode cX5_readOne 105 = .ok (.invokevirtual 101, 3) := by decide +kernel
theorem dX5_readOne_108 : decode cX5_readOne 108 = .ok (.ifCond .eq 16, 3) := by decide +kernel
theorem dX5_readOne_111 : decode cX5_readOne 111 = .ok (.aload_n 0, 1) := by decide +kernel
theorem dX5_readOne_112 : decode cX5_readOne 112 = .ok (.bipush 41, 2) := by decide +kernel
theorem dX5_readOne_114 : decode cX5_readOne 114 = .ok (.invokevirtual 104, 3) := by decide +kernel
theorem dX5_readOne_117 : decode cX5_readOne 117 = .ok (.ifCond .eq 7, 3) := by decide +kernel
theorem dX5_readOne_120 : decode cX5_readOne 120 = .ok (.iconst 1, 1) := by decide +kernel
theorem dX5_readOne_121 : decode cX5_readOne 121 = .ok (.goto 4, 3) := by decide +kernel
theorem dX5_readOne_124 : decode cX5_readOne 124 = .ok (.iconst 0, 1) := by decide +kernel
theorem dX5_readOne_125 : decode cX5_readOne 125 = .ok (.ireturn, 1) := by decide +kernel
theorem dX5_readOne_126 : decode cX5_readOne 126 = .ok (.aload_n 0, 1) := by decide +kernel
theorem dX5_readOne_127 : decode cX5_readOne 127 = .ok (.iload_n 1, 1) := by decide +kernel
theorem dX5_readOne_128 : decode cX5_readOne 128 = .ok (.iconst 1, 1) := by decide +kernel
theorem dX5_readOne_129 : decode cX5_readOne 129 = .ok (.iadd, 1) := by decide +kernel
theorem dX5_readOne_130 : decode cX5_readOne 130 = .ok (.invokevirtual 153, 3) := by decide +kernel
theorem dX5_readOne_133 : decode cX5_readOne 133 = .ok (.ifCond .ne 5, 3) := by decide +kernel
theorem dX5_readOne_136 : decode cX5_readOne 136 = .ok (.iconst 0, 1) := by decide +kernel
theorem dX5_readOne_137 : decode cX5_readOne 137 = .ok (.ireturn, 1) := by decide +kernel
theorem dX5_readOne_138 : decode cX5_readOne 138 = .ok (.aload_n 0, 1) := by decide +kernel
theorem dX5_readOne_139 : decode cX5_readOne 139 = .ok (.getfield 21, 3) := by decide +kernel
theorem dX5_readOne_142 : decode cX5_readOne 142 = .ok (.bipush (-3), 2) := by decide +kernel
theorem dX5_readOne_144 : decode cX5_readOne 144 = .ok (.invokevirtual 150, 3) := by decide +kernel
theorem dX5_readOne_147 : decode cX5_readOne 147 = .ok (.iconst 1, 1) := by decide +kernel
theorem dX5_readOne_148 : decode cX5_readOne 148 = .ok (.ireturn, 1) := by decide +kernel
theorem dX5_readQuestion_0 : decode cX5_readQuestion 0 = .ok (.aload_n 1, 1) := by decide +kernel
theorem dX5_readQuestion_1 : decode cX5_readQuestion 1 = .ok (.getfield 166, 3) := by decide +kernel
theorem dX5_readQuestion_4 : decode cX5_readQuestion 4 = .ok (.iconst (-1), 1) := by decide +kernel
theorem dX5_readQuestion_5 : decode cX5_readQuestion 5 = .ok (.if_icmp .eq 25, 3) := by decide +kernel
theorem dX5_readQuestion_8 : decode cX5_readQuestion 8 = .ok (.aload_n 0, 1) := by decide +kernel
theorem dX5_readQuestion_9 : decode cX5_readQuestion 9 = .ok (.getfield 21, 3) := by decide +kernel
theorem dX5_readQuestion_12 : decode cX5_readQuestion 12 = .ok (.aload_n 1, 1) := by decide +kernel
theorem dX5_readQuestion_13 : decode cX5_readQuestion 13 = .ok (.getfield 159, 3) := by decide +kernel
theorem dX5_readQuestion_16 : decode cX5_readQuestion 16 = .ok (.bipush 61, 2) := by decide +kernel
theorem dX5_readQuestion_18 : decode cX5_readQuestion 18 = .ok (.aload_n 1, 1) := by decide +kernel
theorem dX5_readQuestion_19 : decode cX5_readQuestion 19 = .ok (.getfield 166, 3) := by decide +kernel
theorem dX5_readQuestion_22 : decode cX5_readQuestion 22 = .ok (.invokestatic 169, 3) := by decide +kernel
theorem dX5_readQuestion_25 : decode cX5_readQuestion 25 = .ok (.invokevirtual 150, 3) := by decide +kernel
theorem dX5_readQuestion_28 : decode cX5_readQuestion 28 = .ok (.iconst 1, 1) := by decide +kernel
theorem dX5_readQuestion_29 : decode cX5_readQuestion 29 = .ok (.ireturn, 1) := by decide +kernel
theorem dX5_readQuestion_30 : decode cX5_readQuestion 30 = .ok (.aload_n 0, 1) := by decide +kernel
theorem dX5_readQuestion_31 : decode cX5_readQuestion 31 = .ok (.getfield 48, 3) := by decide +kernel
theorem dX5_readQuestion_34 : decode cX5_readQuestion 34 = .ok (.istore_n 2, 1) := by decide +kernel
theorem dX5_readQuestion_35 : decode cX5_readQuestion 35 = .ok (.iload_n 2, 1) := by decide +kernel
theorem dX5_readQuestion_36 : decode cX5_readQuestion 36 = .ok (.bipush 60, 2) := by decide +kernel
theorem dX5_readQuestion_38 : decode cX5_readQuestion 38 = .ok (.if_icmp .eq 21, 3) := by decide +kernel
theorem dX5_readQuestion_41 : decode cX5_readQuestion 41 = .ok (.iload_n 2, 1) := by decide +kernel
theorem dX5_readQuestion_42 : decode cX5_readQuestion 42 = .ok (.bipush 61, 2) := by decide +kernel
theorem dX5_readQuestion_44 : decode cX5_readQuestion 44 = .ok (.if_icmp .eq 15, 3) := by decide +kernel
theorem dX5_readQuestion_47 : decode cX5_readQuestion 47 = .ok (.iload_n 2, 1) := by decide +kernel
theorem dX5_readQuestion_48 : decode cX5_readQuestion 48 = .ok (.bipush 62, 2) := by decide +kernel
theorem dX5_readQuestion_50 : decode cX5_readQuestion 50 = .ok (.if_icmp .eq 9, 3) := by decide +kernel
theorem dX5_readQuestion_53 : decode cX5_readQuestion 53 = .ok (.aload_n 0, 1) := by decide +kernel
theorem dX5_readQuestion_54 : decode cX5_readQuestion 54 = .ok (.iconst 1, 1) := by decide +kernel
theorem dX5_readQuestion_55 : decode cX5_readQuestion 55 = .ok (.invokevirtual 59, 3) := by decide +kernel
theorem dX5_readQuestion_58 : decode cX5_readQuestion 58 = .ok (.ireturn, 1) := by decide +kernel
theorem dX5_readQuestion_59 : decode cX5_readQuestion 59 = .ok (.aload_n 0, 1) := by decide +kernel
theorem dX5_readQuestion_60 : decode cX5_readQuestion 60 = .ok (.invokevirtual 45, 3) := by decide +kernel
theorem dX5_readQuestion_63 : decode cX5_readQuestion 63 = .ok (.aload_n 0, 1) := by decide +kernel
theorem dX5_readQuestion_64 : decode cX5_readQuestion 64 = .ok (.getfield 48, 3) := by decide +kernel
theorem dX5_readQuestion_67 : decode cX5_readQuestion 67 = .ok (.iconst 2, 1) := by decide +kernel
theorem dX5_readQuestion_68 : decode cX5_readQuestion 68 = .ok (.if_icmp .eq 9, 3) := by decide +kernel
theorem dX5_readQuestion_71 : decode cX5_readQuestion 71 = .ok (.aload_n 0, 1) := by decide +kernel
theorem dX5_readQuestion_72 : decode cX5_readQuestion 72 = .ok (.iconst 1, 1) := by decide +kernel
theorem dX5_readQuestion_73 : decode cX5_readQuestion 73 = .ok (.invokevirtual 59, 3) := by decide +kernel
theorem dX5_readQuestion_76 : decode cX5_readQuestion 76 = .ok (.ireturn, 1) := by decide +kernel
theorem dX5_readQuestion_77 : decode cX5_readQuestion 77 = .ok (.aload_n 0, 1) := by decide +kernel
theorem dX5_readQuestion_78 : decode cX5_readQuestion 78 = .ok (.getfield 21, 3) := by decide +kernel
theorem dX5_readQuestion_81 : decode cX5_readQuestion 81 = .ok (.aload_n 1, 1) := by decide +kernel
theorem dX5_readQuestion_82 : decode cX5_readQuestion 82 = .ok (.getfield 159, 3) := by decide +kernel
theorem dX5_readQuestion_85 : decode cX5_readQuestion 85 = .ok (.iload_n 2, 1) := by decide +kernel
theorem dX5_readQuestion_86 : decode cX5_readQuestion 86 = .ok (.aload_n 0, 1) := by decide +kernel
theorem dX5_readQuestion_87 : decode cX5_readQuestion 87 = .ok (.getfield 12, 3) := by decide +kernel
theorem dX5_readQuestion_90 : decode cX5_readQuestion 90 = .ok (.getfield 141, 3) := by decide +kernel
theorem dX5_readQuestion_93 : decode cX5_readQuestion 93 = .ok (.aload_n 0, 1) := by decide +kernel
theorem dX5_readQuestion_94 : decode cX5_readQuestion 94 = .ok (.getfield 38, 3) := by decide +kernel
theorem dX5_readQuestion_97 : decode cX5_readQuestion 97 = .ok (.iaload, 1) := by decide +kernel
theorem dX5_readQuestion_98 : decode cX5_readQuestion 98 = .ok (.invokestatic 169, 3) := by decide +kernel
theorem dX5_readQuestion_101 : decode cX5_readQuestion 101 = .ok (.invokevirtual 150, 3) := by decide +kernel
theorem dX5_readQuestion_104 : decode cX5_readQuestion 104 = .ok (.aload_n 0, 1) := by decide +kernel
theorem dX5_readQuestion_105 : decode cX5_readQuestion 105 = .ok (.invokevirtual 45, 3) := by decide +kernel
theorem dX5_readQuestion_108 : decode cX5_readQuestion 108 = .ok (.iconst 1, 1) := by decide +kernel
theorem dX5_readQuestion_109 : decode cX5_readQuestion 109 = .ok (.ireturn, 1) := by decide +kernel
theorem dX8_init_0 : decode cX8_init 0 = .ok (.aload_n 0, 1) := by decide +kernel
theorem dX8_init_1 : decode cX8_init 1 = .ok (.invokespecial 1, 3) := by decide +kernel
theorem dX8_init_4 : decode cX8_init 4 = .ok (.aload_n 0, 1) := by decide +kernel
theorem dX8_init_5 : decode cX8_init 5 = .ok (.sipush 301, 3) := by decide +kernel
theorem dX8_init_8 : decode cX8_init 8 = .ok (.newarray .int, 2) := by decide +kernel
theorem dX8_init_10 : decode cX8_init 10 = .ok (.putfield 9, 3) := by decide +kernel
theorem dX8_init_13 : decode cX8_init 13 = .ok (.aload_n 0, 1) := by decide +kernel
theorem dX8_init_14 : decode cX8_init 14 = .ok (.sipush 301, 3) := by decide +kernel
theorem dX8_init_17 : decode cX8_init 17 = .ok (.newarray .int, 2) := by decide +kernel
theorem dX8_init_19 : decode cX8_init 19 = .ok (.putfield 13, 3) := by decide +kernel
theorem dX8_init_22 : decode cX8_init 22 = .ok (.aload_n 0, 1) := by decide +kernel
theorem dX8_init_23 : decode cX8_init 23 = .ok (.sipush 301, 3) := by decide +kernel
theorem dX8_init_26 : decode cX8_init 26 = .ok (.newarray .int, 2) := by decide +kernel
theorem dX8_init_28 : decode cX8_init 28 = .ok (.putfield 16, 3) := by decide +kernel
theorem dX8_init_31 : decode cX8_init 31 = .ok (.aload_n 0, 1) := by decide +kernel
theorem dX8_init_32 : decode cX8_init 32 = .ok (.sipush 301, 3) := by decide +kernel
theorem dX8_init_35 : decode cX8_init 35 = .ok (.anewarray 19, 3) := by decide +kernel
theorem dX8_init_38 : decode cX8_init 38 = .ok (.putfield 21, 3) := by decide +kernel
theorem dX8_init_41 : decode cX8_init 41 = .ok (.return_, 1) := by decide +kernel
theorem dX8_read_0 : decode cX8_read 0 = .ok (.aload_n 1, 1) := by decide +kernel
theorem dX8_read_1 : decode cX8_read 1 = .ok (.getfield 25, 3) := by decide +kernel
theorem dX8_read_4 : decode cX8_read 4 = .ok (.sipush 300, 3) := by decide +kernel
theorem dX8_read_7 : decode cX8_read 7 = .ok (.invokestatic 31, 3) := by decide +kernel
theorem dX8_read_10 : decode cX8_read 10 = .ok (.istore_n 2, 1) := by decide +kernel
theorem dX8_read_11 : decode cX8_read 11 = .ok (.aload_n 0, 1) := by decide +kernel
theorem dX8_read_12 : decode cX8_read 12 = .ok (.aload_n 1, 1) := by decide +kernel
theorem dX8_read_13 : decode cX8_read 13 = .ok (.getfield 25, 3) := by decide +kernel
theorem dX8_read_16 : decode cX8_read 16 = .ok (.sipush 300, 3) := by decide +kernel
theorem dX8_read_19 : decode cX8_read 19 = .ok (.if_icmp .le 7, 3) := by decide +kernel
theorem dX8_read_22 : decode cX8_read 22 = .ok (.iconst 1, 1) := by decide +kernel
theorem dX8_read_23 : decode cX8_read 23 = .ok (.goto 4, 3) := by decide +kernel
theorem dX8_read_26 : decode cX8_read 26 = .ok (.iconst 0, 1) := by decide +kernel
theorem dX8_read_27 : decode cX8_read 27 = .ok (.putfield 37, 3) := by decide +kernel
theorem dX8_read_30 : decode cX8_read 30 = .ok (.aload_n 0, 1) := by decide +kernel
theorem dX8_read_31 : decode cX8_read 31 = .ok (.iconst 0, 1) := by decide +kernel
theorem dX8_read_32 : decode cX8_read 32 = .ok (.putfield 41, 3) := by decide +kernel
theorem dX8_read_35 : decode cX8_read 35 = .ok (.iconst 0, 1) := by decide +kernel
theorem dX8_read_36 : decode cX8_read 36 = .ok (.istore_n 3, 1) := by decide +kernel
theorem dX8_read_37 : decode cX8_read 37 = .ok (.iconst 0, 1) := by decide +kernel
theorem dX8_read_38 : decode cX8_read 38 = .ok (.istore 4, 2) := by decide +kernel
theorem dX8_read_40 : decode cX8_read 40 = .ok (.iload 4, 2) := by decide +kernel
theorem dX8_read_42 : decode cX8_read 42 = .ok (.sipush 300, 3) := by decide +kernel
theorem dX8_read_45 : decode cX8_read 45 = .ok (.if_icmp .ge 84, 3) := by decide +kernel
theorem dX8_read_48 : decode cX8_read 48 = .ok (.iload_n 3, 1) := by decide +kernel
theorem dX8_read_49 : decode cX8_read 49 = .ok (.iload_n 2, 1) := by decide +kernel
theorem dX8_read_50 : decode cX8_read 50 = .ok (.if_icmp .ge 79, 3) := by decide +kernel
theorem dX8_read_53 : decode cX8_read 53 = .ok (.aload_n 1, 1) := by decide +kernel
theorem dX8_read_54 : decode cX8_read 54 = .ok (.iload_n 3, 1) := by decide +kernel
theorem dX8_read_55 : decode cX8_read 55 = .ok (.invokevirtual 44, 3) := by decide +kernel
theorem dX8_read_58 : decode cX8_read 58 = .ok (.ifCond .eq 9, 3) := by decide +kernel
theorem dX8_read_61 : decode cX8_read 61 = .ok (.iinc 3 1, 3) := by decide +kernel
theorem dX8_read_64 : decode cX8_read 64 = .ok (.goto 59, 3) := by decide +kernel
theorem dX8_read_67 : decode cX8_read 67 = .ok (.aload_n 1, 1) := by decide +kernel
theorem dX8_read_68 : decode cX8_read 68 = .ok (.iload_n 3, 1) := by decide +kernel
theorem dX8_read_69 : decode cX8_read 69 = .ok (.invokevirtual 48, 3) := by decide +kernel
theorem dX8_read_72 : decode cX8_read 72 = .ok (.ifCond .ne 11, 3) := by decide +kernel
theorem dX8_read_75 : decode cX8_read 75 = .ok (.aload_n 1, 1) := by decide +kernel
theorem dX8_read_76 : decode cX8_read 76 = .ok (.iload_n 3, 1) := by decide +kernel
theorem dX8_read_77 : decode cX8_read 77 = .ok (.invokevirtual 51, 3) := by decide +kernel
theorem dX8_read_80 : decode cX8_read 80 = .ok (.ifCond .eq 13, 3) := by decide +kernel
theorem dX8_read_83 : decode cX8_read 83 = .ok (.aload_n 0, 1) := by decide +kernel
theorem dX8_read_84 : decode cX8_read 84 = .ok (.aload_n 1, 1) := by decide +kernel
theorem dX8_read_85 : decode cX8_read 85 = .ok (.iload_n 3, 1) := by decide +kernel
theorem dX8_read_86 : decode cX8_read 86 = .ok (.invokevirtual 54, 3) := by decide +kernel
theorem dX8_read_89 : decode cX8_read 89 = .ok (.istore_n 3, 1) := by decide +kernel
theorem dX8_read_90 : decode cX8_read 90 = .ok (.goto 33, 3) := by decide +kernel
theorem dX8_read_93 : decode cX8_read 93 = .ok (.aload_n 0, 1) := by decide +kernel
theorem dX8_read_94 : decode cX8_read 94 = .ok (.aload_n 1, 1) := by decide +kernel
theorem dX8_read_95 : decode cX8_read 95 = .ok (.iload_n 3, 1) := by decide +kernel
theorem dX8_read_96 : decode cX8_read 96 = .ok (.invokevirtual 58, 3) := by decide +kernel
theorem dX8_read_99 : decode cX8_read 99 = .ok (.invokestatic 62, 3) := by decide +kernel
theorem dX8_read_102 : decode cX8_read 102 = .ok (.ifCond .eq 11, 3) := by decide +kernel
theorem dX8_read_105 : decode cX8_read 105 = .ok (.aload_n 1, 1) := by decide +kernel
theorem dX8_read_106 : decode cX8_read 106 = .ok (.iload_n 3, 1) := by decide +kernel
theorem dX8_read_107 : decode cX8_read 107 = .ok (.invokevirtual 58, 3) := by decide +kernel
theorem dX8_read_110 : decode cX8_read 110 = .ok (.goto 4, 3) := by decide +kernel
theorem dX8_read_113 : decode cX8_read 113 = .ok (.iconst 3, 1) := by decide +kernel
theorem dX8_read_114 : decode cX8_read 114 = .ok (.iload_n 3, 1) := by decide +kernel
theorem dX8_read_115 : decode cX8_read 115 = .ok (.iconst 0, 1) := by decide +kernel
theorem dX8_read_116 : decode cX8_read 116 = .ok (.aconst_null, 1) := by decide +kernel
theorem dX8_read_117 : decode cX8_read 117 = .ok (.invokevirtual 65, 3) := by decide +kernel
theorem dX8_read_120 : decode cX8_read 120 = .ok (.iinc 3 1, 3) := by decide +kernel
theorem dX8_read_123 : decode cX8_read 123 = .ok (.iinc 4 1, 3) := by decide +kernel
theorem dX8_read_126 : decode cX8_read 126 = .ok (.goto (-86), 3) := by decide +kernel
theorem dX8_read_129 : decode cX8_read 129 = .ok (.aload_n 0, 1) := by decide +kernel
theorem dX8_read_130 : decode cX8_read 130 = .ok (.iconst 0, 1) := by decide +kernel
theorem dX8_read_131 : decode cX8_read 131 = .ok (.iload_n 2, 1) := by decide +kernel
theorem dX8_read_132 : decode cX8_read 132 = .ok (.iconst 0, 1) := by decide +kernel
theorem dX8_read_133 : decode cX8_read 133 = .ok (.aconst_null, 1) := by decide +kernel
theorem dX8_read_134 : decode cX8_read 134 = .ok (.invokevirtual 65, 3) := by decide +kernel
theorem dX8_read_137 : decode cX8_read 137 = .ok (.return_, 1) := by decide +kernel
theorem dX8_isSign_0 : decode cX8_isSign 0 = .ok (.iload_n 0, 1) := by decide +kernel
theorem dX8_isSign_1 : decode cX8_isSign 1 = .ok (.bipush 59, 2) := by decide +kernel
theorem dX8_isSign_3 : decode cX8_isSign 3 = .ok (.if_icmp .eq 33, 3) := by decide +kernel
theorem dX8_isSign_6 : decode cX8_isSign 6 = .ok (.iload_n 0, 1) := by decide +kernel
theorem dX8_isSign_7 : decode cX8_isSign 7 = .ok (.bipush 40, 2) := by decide +kernel
theorem dX8_isSign_9 : decode cX8_isSign 9 = .ok (.if_icmp .eq 27, 3) := by decide +kernel
theorem dX8_isSign_12 : decode cX8_isSign 12 = .ok (.iload_n 0, 1) := by decide +kernel
theorem dX8_isSign_13 : decode cX8_isSign 13 = .ok (.bipush 41, 2) := by decide +kernel
theorem dX8_isSign_15 : decode cX8_isSign 15 = .ok (.if_icmp .eq 21, 3) := by decide +kernel
theorem dX8_isSign_18 : decode cX8_isSign 18 = .ok (.iload_n 0, 1) := by decide +kernel
theorem dX8_isSign_19 : decode cX8_isSign 19 = .ok (.bipush 60, 2) := by decide +kernel
theorem dX8_isSign_21 : decode cX8_isSign 21 = .ok (.if_icmp .eq 15, 3) := by decide +kernel
theorem dX8_isSign_24 : decode cX8_isSign 24 = .ok (.iload_n 0, 1) := by decide +kernel
theorem dX8_isSign_25 : decode cX8_isSign 25 = .ok (.bipush 61, 2) := by decide +kernel
theorem dX8_isSign_27 : decode cX8_isSign 27 = .ok (.if_icmp .eq 9, 3) := by decide +kernel
theorem dX8_isSign_30 : decode cX8_isSign 30 = .ok (.iload_n 0, 1) := by decide +kernel
theorem dX8_isSign_31 : decode cX8_isSign 31 = .ok (.bipush 62, 2) := by decide +kernel
theorem dX8_isSign_33 : decode cX8_isSign 33 = .ok (.if_icmp .ne 7, 3) := by decide +kernel
theorem dX8_isSign_36 : decode cX8_isSign 36 = .ok (.iconst 1, 1) := by decide +kernel
theorem dX8_isSign_37 : decode cX8_isSign 37 = .ok (.goto 4, 3) := by decide +kernel
theorem dX8_isSign_40 : decode cX8_isSign 40 = .ok (.iconst 0, 1) := by decide +kernel
theorem dX8_isSign_41 : decode cX8_isSign 41 = .ok (.ireturn, 1) := by decide +kernel
theorem dX8_readRun_0 : decode cX8_readRun 0 = .ok (.iconst 0, 1) := by decide +kernel
theorem dX8_readRun_1 : decode cX8_readRun 1 = .ok (.istore_n 3, 1) := by decide +kernel
theorem dX8_readRun_2 : decode cX8_readRun 2 = .ok (.iconst 0, 1) := by decide +kernel
theorem dX8_readRun_3 : decode cX8_readRun 3 = .ok (.istore 4, 2) := by decide +kernel
theorem dX8_readRun_5 : decode cX8_readRun 5 = .ok (.iconst 0, 1) := by decide +kernel
theorem dX8_readRun_6 : decode cX8_readRun 6 = .ok (.istore 5, 2) := by decide +kernel
theorem dX8_readRun_8 : decode cX8_readRun 8 = .ok (.iload_n 2, 1) := by decide +kernel
theorem dX8_readRun_9 : decode cX8_readRun 9 = .ok (.istore 6, 2) := by decide +kernel
theorem dX8_readRun_11 : decode cX8_readRun 11 = .ok (.iload 6, 2) := by decide +kernel
theorem dX8_readRun_13 : decode cX8_readRun 13 = .ok (.aload_n 1, 1) := by decide +kernel
theorem dX8_readRun_14 : decode cX8_readRun 14 = .ok (.getfield 25, 3) := by decide +kernel
theorem dX8_readRun_17 : decode cX8_readRun 17 = .ok (.if_icmp .ge 72, 3) := by decide +kernel
theorem dX8_readRun_20 : decode cX8_readRun 20 = .ok (.aload_n 1, 1) := by decide +kernel
theorem dX8_readRun_21 : decode cX8_readRun 21 = .ok (.iload 6, 2) := by decide +kernel
theorem dX8_readRun_23 : decode cX8_readRun 23 = .ok (.invokevirtual 48, 3) := by decide +kernel
theorem dX8_readRun_26 : decode cX8_readRun 26 = .ok (.ifCond .ne 12, 3) := by decide +kernel
theorem dX8_readRun_29 : decode cX8_readRun 29 = .ok (.aload_n 1, 1) := by decide +kernel
theorem dX8_readRun_30 : decode cX8_readRun 30 = .ok (.iload 6, 2) := by decide +kernel
theorem dX8_readRun_32 : decode cX8_readRun 32 = .ok (.invokevirtual 51, 3) := by decide +kernel
theorem dX8_readRun_35 : decode cX8_readRun 35 = .ok (.ifCond .eq 54, 3) := by decide +kernel
theorem dX8_readRun_38 : decode cX8_readRun 38 = .ok (.aload_n 1, 1) := by decide +kernel
theorem dX8_readRun_39 : decode cX8_readRun 39 = .ok (.iload 6, 2) := by decide +kernel
theorem dX8_readRun_41 : decode cX8_readRun 41 = .ok (.invokevirtual 48, 3) := by decide +kernel
theorem dX8_readRun_44 : decode cX8_readRun 44 = .ok (.ifCond .eq 9, 3) := by decide +kernel
theorem dX8_readRun_47 : decode cX8_readRun 47 = .ok (.iinc 3 1, 3) := by decide +kernel
theorem dX8_readRun_50 : decode cX8_readRun 50 = .ok (.goto 33, 3) := by decide +kernel
theorem dX8_readRun_53 : decode cX8_readRun 53 = .ok (.iinc 4 1, 3) := by decide +kernel
theorem dX8_readRun_56 : decode cX8_readRun 56 = .ok (.iload 4, 2) := by decide +kernel
theorem dX8_readRun_58 : decode cX8_readRun 58 = .ok (.iconst 4, 1) := by decide +kernel
theorem dX8_readRun_59 : decode cX8_readRun 59 = .ok (.if_icmp .le 7, 3) := by decide +kernel
theorem dX8_readRun_62 : decode cX8_readRun 62 = .ok (.iconst 0, 1) := by decide +kernel
theorem dX8_readRun_63 : decode cX8_readRun 63 = .ok (.goto 18, 3) := by decide +kernel
theorem dX8_readRun_66 : decode cX8_readRun 66 = .ok (.iload 5, 2) := by decide +kernel
theorem dX8_readRun_68 : decode cX8_readRun 68 = .ok (.bipush 10, 2) := by decide +kernel
theorem dX8_readRun_70 : decode cX8_readRun 70 = .ok (.imul, 1) := by decide +kernel
theorem dX8_readRun_71 : decode cX8_readRun 71 = .ok (.aload_n 1, 1) := by decide +kernel
theorem dX8_readRun_72 : decode cX8_readRun 72 = .ok (.iload 6, 2) := by decide +kernel
theorem dX8_readRun_74 : decode cX8_readRun 74 = .ok (.invokevirtual 58, 3) := by decide +kernel
theorem dX8_readRun_77 : decode cX8_readRun 77 = .ok (.iadd, 1) := by decide +kernel
theorem dX8_readRun_78 : decode cX8_readRun 78 = .ok (.bipush 48, 2) := by decide +kernel
theorem dX8_readRun_80 : decode cX8_readRun 80 = .ok (.isub, 1) := by decide +kernel
theorem dX8_readRun_81 : decode cX8_readRun 81 = .ok (.istore 5, 2) := by decide +kernel
theorem dX8_readRun_83 : decode cX8_readRun 83 = .ok (.iinc 6 1, 3) := by decide +kernel
theorem dX8_readRun_86 : decode cX8_readRun 86 = .ok (.goto (-75), 3) := by decide +kernel
theorem dX8_readRun_89 : decode cX8_readRun 89 = .ok (.iload 4, 2) := by decide +kernel
theorem dX8_readRun_91 : decode cX8_readRun 91 = .ok (.ifCond .ne 26, 3) := by decide +kernel
theorem dX8_readRun_94 : decode cX8_readRun 94 = .ok (.iload_n 3, 1) := by decide +kernel
theorem dX8_readRun_95 : decode cX8_readRun 95 = .ok (.bipush 8, 2) := by decide +kernel
theorem dX8_readRun_97 : decode cX8_readRun 97 = .ok (.if_icmp .gt 20, 3) := by decide +kernel
theorem dX8_readRun_100 : decode cX8_readRun 100 = .ok (.aload_n 0, 1) := by decide +kernel
theorem dX8_readRun_101 : decode cX8_readRun 101 = .ok (.iconst 1, 1) := by decide +kernel
theorem dX8_readRun_102 : decode cX8_readRun 102 = .ok (.iload_n 2, 1) := by decide +kernel
theorem dX8_readRun_103 : decode cX8_readRun 103 = .ok (.iconst 0, 1) := by decide +kernel
theorem dX8_readRun_104 : decode cX8_readRun 104 = .ok (.aload_n 1, 1) := by decide +kernel
theorem dX8_readRun_105 : decode cX8_readRun 105 = .ok (.iload_n 2, 1) := by decide +kernel
theorem dX8_readRun_106 : decode cX8_readRun 106 = .ok (.iload 6, 2) := by decide +kernel
theorem dX8_readRun_108 : decode cX8_readRun 108 = .ok (.invokestatic 69, 3) := by decide +kernel
theorem dX8_readRun_111 : decode cX8_readRun 111 = .ok (.invokevirtual 65, 3) := by decide +kernel
theorem dX8_readRun_114 : decode cX8_readRun 114 = .ok (.goto 33, 3) := by decide +kernel
theorem dX8_readRun_117 : decode cX8_readRun 117 = .ok (.iload_n 3, 1) := by decide +kernel
theorem dX8_readRun_118 : decode cX8_readRun 118 = .ok (.ifCond .ne 21, 3) := by decide +kernel
theorem dX8_readRun_121 : decode cX8_readRun 121 = .ok (.iload 4, 2) := by decide +kernel
theorem dX8_readRun_123 : decode cX8_readRun 123 = .ok (.iconst 4, 1) := by decide +kernel
theorem dX8_readRun_124 : decode cX8_readRun 124 = .ok (.if_icmp .gt 15, 3) := by decide +kernel
theorem dX8_readRun_127 : decode cX8_readRun 127 = .ok (.aload_n 0, 1) := by decide +kernel
theorem dX8_readRun_128 : decode cX8_readRun 128 = .ok (.iconst 2, 1) := by decide +kernel
theorem dX8_readRun_129 : decode cX8_readRun 129 = .ok (.iload_n 2, 1) := by decide +kernel
theorem dX8_readRun_130 : decode cX8_readRun 130 = .ok (.iload 5, 2) := by decide +kernel
theorem dX8_readRun_132 : decode cX8_readRun 132 = .ok (.aconst_null, 1) := by decide +kernel
theorem dX8_readRun_133 : decode cX8_readRun 133 = .ok (.invokevirtual 65, 3) := by decide +kernel
theorem dX8_readRun_136 : decode cX8_readRun 136 = .ok (.goto 11, 3) := by decide +kernel
theorem dX8_readRun_139 : decode cX8_readRun 139 = .ok (.aload_n 0, 1) := by decide +kernel
theorem dX8_readRun_140 : decode cX8_readRun 140 = .ok (.iconst 3, 1) := by decide +kernel
theorem dX8_readRun_141 : decode cX8_readRun 141 = .ok (.iload_n 2, 1) := by decide +kernel
theorem dX8_readRun_142 : decode cX8_readRun 142 = .ok (.iconst 0, 1) := by decide +kernel
theorem dX8_readRun_143 : decode cX8_readRun 143 = .ok (.aconst_null, 1) := by decide +kernel
theorem dX8_readRun_144 : decode cX8_readRun 144 = .ok (.invokevirtual 65, 3) := by decide +kernel
theorem dX8_readRun_147 : decode cX8_readRun 147 = .ok (.iload 6, 2) := by decide +kernel
theorem dX8_readRun_149 : decode cX8_readRun 149 = .ok (.ireturn, 1) := by decide +kernel
theorem dX8_add_0 : decode cX8_add 0 = .ok (.aload_n 0, 1) := by decide +kernel
theorem dX8_add_1 : decode cX8_add 1 = .ok (.getfield 41, 3) := by decide +kernel
theorem dX8_add_4 : decode cX8_add 4 = .ok (.aload_n 0, 1) := by decide +kernel
theorem dX8_add_5 : decode cX8_add 5 = .ok (.getfield 9, 3) := by decide +kernel
theorem dX8_add_8 : decode cX8_add 8 = .ok (.arraylength, 1) := by decide +kernel
theorem dX8_add_9 : decode cX8_add 9 = .ok (.if_icmp .ge 54, 3) := by decide +kernel
theorem dX8_add_12 : decode cX8_add 12 = .ok (.aload_n 0, 1) := by decide +kernel
theorem dX8_add_13 : decode cX8_add 13 = .ok (.getfield 9, 3) := by decide +kernel
theorem dX8_add_16 : decode cX8_add 16 = .ok (.aload_n 0, 1) := by decide +kernel
theorem dX8_add_17 : decode cX8_add 17 = .ok (.getfield 41, 3) := by decide +kernel
theorem dX8_add_20 : decode cX8_add 20 = .ok (.iload_n 1, 1) := by decide +kernel
theorem dX8_add_21 : decode cX8_add 21 = .ok (.iastore, 1) := by decide +kernel
theorem dX8_add_22 : decode cX8_add 22 = .ok (.aload_n 0, 1) := by decide +kernel
theorem dX8_add_23 : decode cX8_add 23 = .ok (.getfield 13, 3) := by decide +kernel
theorem dX8_add_26 : decode cX8_add 26 = .ok (.aload_n 0, 1) := by decide +kernel
theorem dX8_add_27 : decode cX8_add 27 = .ok (.getfield 41, 3) := by decide +kernel
theorem dX8_add_30 : decode cX8_add 30 = .ok (.iload_n 2, 1) := by decide +kernel
theorem dX8_add_31 : decode cX8_add 31 = .ok (.iastore, 1) := by decide +kernel
theorem dX8_add_32 : decode cX8_add 32 = .ok (.aload_n 0, 1) := by decide +kernel
theorem dX8_add_33 : decode cX8_add 33 = .ok (.getfield 16, 3) := by decide +kernel
theorem dX8_add_36 : decode cX8_add 36 = .ok (.aload_n 0, 1) := by decide +kernel
theorem dX8_add_37 : decode cX8_add 37 = .ok (.getfield 41, 3) := by decide +kernel
theorem dX8_add_40 : decode cX8_add 40 = .ok (.iload_n 3, 1) := by decide +kernel
theorem dX8_add_41 : decode cX8_add 41 = .ok (.iastore, 1) := by decide +kernel
theorem dX8_add_42 : decode cX8_add 42 = .ok (.aload_n 0, 1) := by decide +kernel
theorem dX8_add_43 : decode cX8_add 43 = .ok (.getfield 21, 3) := by decide +kernel
theorem dX8_add_46 : decode cX8_add 46 = .ok (.aload_n 0, 1) := by decide +kernel
theorem dX8_add_47 : decode cX8_add 47 = .ok (.getfield 41, 3) := by decide +kernel
theorem dX8_add_50 : decode cX8_add 50 = .ok (.aload 4, 2) := by decide +kernel
theorem dX8_add_52 : decode cX8_add 52 = .ok (.aastore, 1) := by decide +kernel
theorem dX8_add_53 : decode cX8_add 53 = .ok (.aload_n 0, 1) := by decide +kernel
theorem dX8_add_54 : decode cX8_add 54 = .ok (.dup, 1) := by decide +kernel
theorem dX8_add_55 : decode cX8_add 55 = .ok (.getfield 41, 3) := by decide +kernel
theorem dX8_add_58 : decode cX8_add 58 = .ok (.iconst 1, 1) := by decide +kernel
theorem dX8_add_59 : decode cX8_add 59 = .ok (.iadd, 1) := by decide +kernel
theorem dX8_add_60 : decode cX8_add 60 = .ok (.putfield 41, 3) := by decide +kernel
theorem dX8_add_63 : decode cX8_add 63 = .ok (.return_, 1) := by decide +kernel
