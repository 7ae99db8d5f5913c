theorem d_MO_init_0 : decode b_MO_init 0 = .ok (.aload_n 0, 1) := by decide +kernel
theorem d_MO_init_1 : decode b_MO_init 1 = .ok (.invokespecial 1, 3) := by decide +kernel
theorem d_MO_init_4 : decode b_MO_init 4 = .ok (.aload_n 0, 1) := by decide +kernel
theorem d_MO_init_5 : decode b_MO_init 5 = .ok (.bipush 8, 2) := by decide +kernel
theorem d_MO_init_7 : decode b_MO_init 7 = .ok (.newarray .int, 2) := by decide +kernel
theorem d_MO_init_9 : decode b_MO_init 9 = .ok (.putfield 7, 3) := by decide +kernel
theorem d_MO_init_12 : decode b_MO_init 12 = .ok (.aload_n 0, 1) := by decide +kernel
theorem d_MO_init_13 : decode b_MO_init 13 = .ok (.bipush 32, 2) := by decide +kernel
theorem d_MO_init_15 : decode b_MO_init 15 = .ok (.newarray .int, 2) := by decide +kernel
theorem d_MO_init_17 : decode b_MO_init 17 = .ok (.putfield 13, 3) := by decide +kernel
theorem d_MO_init_20 : decode b_MO_init 20 = .ok (.aload_n 0, 1) := by decide +kernel
theorem d_MO_init_21 : decode b_MO_init 21 = .ok (.bipush 40, 2) := by decide +kernel
theorem d_MO_init_23 : decode b_MO_init 23 = .ok (.newarray .int, 2) := by decide +kernel
theorem d_MO_init_25 : decode b_MO_init 25 = .ok (.putfield 16, 3) := by decide +kernel
theorem d_MO_init_28 : decode b_MO_init 28 = .ok (.aload_n 0, 1) := by decide +kernel
theorem d_MO_init_29 : decode b_MO_init 29 = .ok (.bipush 40, 2) := by decide +kernel
theorem d_MO_init_31 : decode b_MO_init 31 = .ok (.newarray .int, 2) := by decide +kernel
theorem d_MO_init_33 : decode b_MO_init 33 = .ok (.putfield 19, 3) := by decide +kernel
theorem d_MO_init_36 : decode b_MO_init 36 = .ok (.aload_n 0, 1) := by decide +kernel
theorem d_MO_init_37 : decode b_MO_init 37 = .ok (.bipush 40, 2) := by decide +kernel
theorem d_MO_init_39 : decode b_MO_init 39 = .ok (.newarray .int, 2) := by decide +kernel
theorem d_MO_init_41 : decode b_MO_init 41 = .ok (.putfield 22, 3) := by decide +kernel
theorem d_MO_init_44 : decode b_MO_init 44 = .ok (.aload_n 0, 1) := by decide +kernel
theorem d_MO_init_45 : decode b_MO_init 45 = .ok (.bipush 8, 2) := by decide +kernel
theorem d_MO_init_47 : decode b_MO_init 47 = .ok (.newarray .int, 2) := by decide +kernel
theorem d_MO_init_49 : decode b_MO_init 49 = .ok (.putfield 25, 3) := by decide +kernel
theorem d_MO_init_52 : decode b_MO_init 52 = .ok (.aload_n 0, 1) := by decide +kernel
theorem d_MO_init_53 : decode b_MO_init 53 = .ok (.iconst 4, 1) := by decide +kernel
theorem d_MO_init_54 : decode b_MO_init 54 = .ok (.newarray .int, 2) := by decide +kernel
theorem d_MO_init_56 : decode b_MO_init 56 = .ok (.putfield 28, 3) := by decide +kernel
theorem d_MO_init_59 : decode b_MO_init 59 = .ok (.aload_n 0, 1) := by decide +kernel
theorem d_MO_init_60 : decode b_MO_init 60 = .ok (.iconst 4, 1) := by decide +kernel
theorem d_MO_init_61 : decode b_MO_init 61 = .ok (.newarray .int, 2) := by decide +kernel
theorem d_MO_init_63 : decode b_MO_init 63 = .ok (.putfield 31, 3) := by decide +kernel
theorem d_MO_init_66 : decode b_MO_init 66 = .ok (.aload_n 0, 1) := by decide +kernel
theorem d_MO_init_67 : decode b_MO_init 67 = .ok (.iconst 4, 1) := by decide +kernel
theorem d_MO_init_68 : decode b_MO_init 68 = .ok (.newarray .int, 2) := by decide +kernel
theorem d_MO_init_70 : decode b_MO_init 70 = .ok (.putfield 34, 3) := by decide +kernel
theorem d_MO_init_73 : decode b_MO_init 73 = .ok (.aload_n 0, 1) := by decide +kernel
theorem d_MO_init_74 : decode b_MO_init 74 = .ok (.bipush 80, 2) := by decide +kernel
theorem d_MO_init_76 : decode b_MO_init 76 = .ok (.newarray .int, 2) := by decide +kernel
theorem d_MO_init_78 : decode b_MO_init 78 = .ok (.putfield 37, 3) := by decide +kernel
theorem d_MO_init_81 : decode b_MO_init 81 = .ok (.aload_n 0, 1) := by decide +kernel
theorem d_MO_init_82 : decode b_MO_init 82 = .ok (.sipush 320, 3) := by decide +kernel
theorem d_MO_init_85 : decode b_MO_init 85 = .ok (.newarray .int, 2) := by decide +kernel
theorem d_MO_init_87 : decode b_MO_init 87 = .ok (.putfield 40, 3) := by decide +kernel
theorem d_MO_init_90 : decode b_MO_init 90 = .ok (.aload_n 0, 1) := by decide +kernel
theorem d_MO_init_91 : decode b_MO_init 91 = .ok (.bipush 16, 2) := by decide +kernel
theorem d_MO_init_93 : decode b_MO_init 93 = .ok (.newarray .long, 2) := by decide +kernel
theorem d_MO_init_95 : decode b_MO_init 95 = .ok (.putfield 43, 3) := by decide +kernel
theorem d_MO_init_98 : decode b_MO_init 98 = .ok (.aload_n 0, 1) := by decide +kernel
theorem d_MO_init_99 : decode b_MO_init 99 = .ok (.bipush 16, 2) := by decide +kernel
theorem d_MO_init_101 : decode b_MO_init 101 = .ok (.newarray .long, 2) := by decide +kernel
theorem d_MO_init_103 : decode b_MO_init 103 = .ok (.putfield 47, 3) := by decide +kernel
theorem d_MO_init_106 : decode b_MO_init 106 = .ok (.aload_n 0, 1) := by decide +kernel
theorem d_MO_init_107 : decode b_MO_init 107 = .ok (.bipush 16, 2) := by decide +kernel
theorem d_MO_init_109 : decode b_MO_init 109 = .ok (.newarray .long, 2) := by decide +kernel
theorem d_MO_init_111 : decode b_MO_init 111 = .ok (.putfield 50, 3) := by decide +kernel
theorem d_MO_init_114 : decode b_MO_init 114 = .ok (.aload_n 0, 1) := by decide +kernel
theorem d_MO_init_115 : decode b_MO_init 115 = .ok (.bipush 16, 2) := by decide +kernel
theorem d_MO_init_117 : decode b_MO_init 117 = .ok (.newarray .long, 2) := by decide +kernel
theorem d_MO_init_119 : decode b_MO_init 119 = .ok (.putfield 53, 3) := by decide +kernel
theorem d_MO_init_122 : decode b_MO_init 122 = .ok (.aload_n 0, 1) := by decide +kernel
theorem d_MO_init_123 : decode b_MO_init 123 = .ok (.bipush 20, 2) := by decide +kernel
theorem d_MO_init_125 : decode b_MO_init 125 = .ok (.newarray .int, 2) := by decide +kernel
theorem d_MO_init_127 : decode b_MO_init 127 = .ok (.putfield 56, 3) := by decide +kernel
theorem d_MO_init_130 : decode b_MO_init 130 = .ok (.aload_n 0, 1) := by decide +kernel
theorem d_MO_init_131 : decode b_MO_init 131 = .ok (.bipush 20, 2) := by decide +kernel
theorem d_MO_init_133 : decode b_MO_init 133 = .ok (.newarray .int, 2) := by decide +kernel
theorem d_MO_init_135 : decode b_MO_init 135 = .ok (.putfield 59, 3) := by decide +kernel
theorem d_MO_init_138 : decode b_MO_init 138 = .ok (.return_, 1) := by decide +kernel
theorem d_MO_thrown_0 : decode b_MO_thrown 0 = .ok (.aload_n 0, 1) := by decide +kernel
theorem d_MO_thrown_1 : decode b_MO_thrown 1 = .ok (.getfield 62, 3) := by decide +kernel
theorem d_MO_thrown_4 : decode b_MO_thrown 4 = .ok (.ireturn, 1) := by decide +kernel
theorem d_MO_throwing_0 : decode b_MO_throwing 0 = .ok (.aload_n 0, 1) := by decide +kernel
theorem d_MO_throwing_1 : decode b_MO_throwing 1 = .ok (.iload_n 1, 1) := by decide +kernel
theorem d_MO_throwing_2 : decode b_MO_throwing 2 = .ok (.ifCond .eq 7, 3) := by decide +kernel
theorem d_MO_throwing_5 : decode b_MO_throwing 5 = .ok (.iconst 1, 1) := by decide +kernel
theorem d_MO_throwing_6 : decode b_MO_throwing 6 = .ok (.goto 29, 3) := by decide +kernel
theorem d_MO_throwing_9 : decode b_MO_throwing 9 = .ok (.iload_n 2, 1) := by decide +kernel
theorem d_MO_throwing_10 : decode b_MO_throwing 10 = .ok (.ifCond .eq 7, 3) := by decide +kernel
theorem d_MO_throwing_13 : decode b_MO_throwing 13 = .ok (.iconst 2, 1) := by decide +kernel
theorem d_MO_throwing_14 : decode b_MO_throwing 14 = .ok (.goto 21, 3) := by decide +kernel
theorem d_MO_throwing_17 : decode b_MO_throwing 17 = .ok (.iload_n 3, 1) := by decide +kernel
theorem d_MO_throwing_18 : decode b_MO_throwing 18 = .ok (.ifCond .eq 7, 3) := by decide +kernel
theorem d_MO_throwing_21 : decode b_MO_throwing 21 = .ok (.iconst 3, 1) := by decide +kernel
theorem d_MO_throwing_22 : decode b_MO_throwing 22 = .ok (.goto 13, 3) := by decide +kernel
theorem d_MO_throwing_25 : decode b_MO_throwing 25 = .ok (.iload 4, 2) := by decide +kernel
theorem d_MO_throwing_27 : decode b_MO_throwing 27 = .ok (.ifCond .eq 7, 3) := by decide +kernel
theorem d_MO_throwing_30 : decode b_MO_throwing 30 = .ok (.iconst 4, 1) := by decide +kernel
theorem d_MO_throwing_31 : decode b_MO_throwing 31 = .ok (.goto 4, 3) := by decide +kernel
theorem d_MO_throwing_34 : decode b_MO_throwing 34 = .ok (.iconst 0, 1) := by decide +kernel
theorem d_MO_throwing_35 : decode b_MO_throwing 35 = .ok (.putfield 62, 3) := by decide +kernel
theorem d_MO_throwing_38 : decode b_MO_throwing 38 = .ok (.aload_n 0, 1) := by decide +kernel
theorem d_MO_throwing_39 : decode b_MO_throwing 39 = .ok (.getfield 62, 3) := by decide +kernel
theorem d_MO_throwing_42 : decode b_MO_throwing 42 = .ok (.ifCond .le 7, 3) := by decide +kernel
theorem d_MO_throwing_45 : decode b_MO_throwing 45 = .ok (.iconst 1, 1) := by decide +kernel
theorem d_MO_throwing_46 : decode b_MO_throwing 46 = .ok (.goto 4, 3) := by decide +kernel
theorem d_MO_throwing_49 : decode b_MO_throwing 49 = .ok (.iconst 0, 1) := by decide +kernel
theorem d_MO_throwing_50 : decode b_MO_throwing 50 = .ok (.ireturn, 1) := by decide +kernel
theorem d_MO_in_0 : decode b_MO_in 0 = .ok (.iload_n 0, 1) := by decide +kernel
theorem d_MO_in_1 : decode b_MO_in 1 = .ok (.iload_n 1, 1) := by decide +kernel
theorem d_MO_in_2 : decode b_MO_in 2 = .ok (.if_icmp .lt 12, 3) := by decide +kernel
theorem d_MO_in_5 : decode b_MO_in 5 = .ok (.iload_n 0, 1) := by decide +kernel
theorem d_MO_in_6 : decode b_MO_in 6 = .ok (.iload_n 2, 1) := by decide +kernel
theorem d_MO_in_7 : decode b_MO_in 7 = .ok (.if_icmp .gt 7, 3) := by decide +kernel
theorem d_MO_in_10 : decode b_MO_in 10 = .ok (.iconst 1, 1) := by decide +kernel
theorem d_MO_in_11 : decode b_MO_in 11 = .ok (.goto 4, 3) := by decide +kernel
theorem d_MO_in_14 : decode b_MO_in 14 = .ok (.iconst 0, 1) := by decide +kernel
theorem d_MO_in_15 : decode b_MO_in 15 = .ok (.ireturn, 1) := by decide +kernel
theorem d_MO_isMaterial_0 : decode b_MO_isMaterial 0 = .ok (.iload_n 0, 1) := by decide +kernel
theorem d_MO_isMaterial_1 : decode b_MO_isMaterial 1 = .ok (.iconst 0, 1) := by decide +kernel
theorem d_MO_isMaterial_2 : decode b_MO_isMaterial 2 = .ok (.bipush 7, 2) := by decide +kernel
theorem d_MO_isMaterial_4 : decode b_MO_isMaterial 4 = .ok (.invokestatic 66, 3) := by decide +kernel
theorem d_MO_isMaterial_7 : decode b_MO_isMaterial 7 = .ok (.ireturn, 1) := by decide +kernel
theorem d_MO_isElement_0 : decode b_MO_isElement 0 = .ok (.iload_n 0, 1) := by decide +kernel
theorem d_MO_isElement_1 : decode b_MO_isElement 1 = .ok (.iconst 0, 1) := by decide +kernel
theorem d_MO_isElement_2 : decode b_MO_isElement 2 = .ok (.iconst 3, 1) := by decide +kernel
theorem d_MO_isElement_3 : decode b_MO_isElement 3 = .ok (.invokestatic 66, 3) := by decide +kernel
theorem d_MO_isElement_6 : decode b_MO_isElement 6 = .ok (.ireturn, 1) := by decide +kernel
theorem d_MO_isPart_0 : decode b_MO_isPart 0 = .ok (.iload_n 0, 1) := by decide +kernel
theorem d_MO_isPart_1 : decode b_MO_isPart 1 = .ok (.iconst 0, 1) := by decide +kernel
theorem d_MO_isPart_2 : decode b_MO_isPart 2 = .ok (.iconst 1, 1) := by decide +kernel
theorem d_MO_isPart_3 : decode b_MO_isPart 3 = .ok (.invokestatic 66, 3) := by decide +kernel
theorem d_MO_isPart_6 : decode b_MO_isPart 6 = .ok (.ireturn, 1) := by decide +kernel
theorem d_MO_isPile_0 : decode b_MO_isPile 0 = .ok (.iload_n 1, 1) := by decide +kernel
theorem d_MO_isPile_1 : decode b_MO_isPile 1 = .ok (.iconst 0, 1) := by decide +kernel
theorem d_MO_isPile_2 : decode b_MO_isPile 2 = .ok (.aload_n 0, 1) := by decide +kernel
theorem d_MO_isPile_3 : decode b_MO_isPile 3 = .ok (.getfield 70, 3) := by decide +kernel
theorem d_MO_isPile_6 : decode b_MO_isPile 6 = .ok (.iconst 1, 1) := by decide +kernel
theorem d_MO_isPile_7 : decode b_MO_isPile 7 = .ok (.isub, 1) := by decide +kernel
theorem d_MO_isPile_8 : decode b_MO_isPile 8 = .ok (.invokestatic 66, 3) := by decide +kernel
theorem d_MO_isPile_11 : decode b_MO_isPile 11 = .ok (.ireturn, 1) := by decide +kernel
theorem d_MO_partOf_0 : decode b_MO_partOf 0 = .ok (.lload_n 2, 1) := by decide +kernel
theorem d_MO_partOf_1 : decode b_MO_partOf 1 = .ok (.lconst 0, 1) := by decide +kernel
theorem d_MO_partOf_2 : decode b_MO_partOf 2 = .ok (.lcmp, 1) := by decide +kernel
theorem d_MO_partOf_3 : decode b_MO_partOf 3 = .ok (.ifCond .ge 8, 3) := by decide +kernel
theorem d_MO_partOf_6 : decode b_MO_partOf 6 = .ok (.lload_n 2, 1) := by decide +kernel
theorem d_MO_partOf_7 : decode b_MO_partOf 7 = .ok (.lneg, 1) := by decide +kernel
theorem d_MO_partOf_8 : decode b_MO_partOf 8 = .ok (.goto 4, 3) := by decide +kernel
theorem d_MO_partOf_11 : decode b_MO_partOf 11 = .ok (.lload_n 2, 1) := by decide +kernel
theorem d_MO_partOf_12 : decode b_MO_partOf 12 = .ok (.lstore 5, 2) := by decide +kernel
theorem d_MO_partOf_14 : decode b_MO_partOf 14 = .ok (.lload_n 0, 1) := by decide +kernel
theorem d_MO_partOf_15 : decode b_MO_partOf 15 = .ok (.lconst 0, 1) := by decide +kernel
theorem d_MO_partOf_16 : decode b_MO_partOf 16 = .ok (.lcmp, 1) := by decide +kernel
theorem d_MO_partOf_17 : decode b_MO_partOf 17 = .ok (.ifCond .ge 8, 3) := by decide +kernel
theorem d_MO_partOf_20 : decode b_MO_partOf 20 = .ok (.lload_n 0, 1) := by decide +kernel
theorem d_MO_partOf_21 : decode b_MO_partOf 21 = .ok (.lneg, 1) := by decide +kernel
theorem d_MO_partOf_22 : decode b_MO_partOf 22 = .ok (.goto 4, 3) := by decide +kernel
theorem d_MO_partOf_25 : decode b_MO_partOf 25 = .ok (.lload_n 0, 1) := by decide +kernel
theorem d_MO_partOf_26 : decode b_MO_partOf 26 = .ok (.lstore 7, 2) := by decide +kernel
theorem d_MO_partOf_28 : decode b_MO_partOf 28 = .ok (.lload_n 2, 1) := by decide +kernel
theorem d_MO_partOf_29 : decode b_MO_partOf 29 = .ok (.lconst 0, 1) := by decide +kernel
theorem d_MO_partOf_30 : decode b_MO_partOf 30 = .ok (.lcmp, 1) := by decide +kernel
theorem d_MO_partOf_31 : decode b_MO_partOf 31 = .ok (.ifCond .ge 9, 3) := by decide +kernel
theorem d_MO_partOf_34 : decode b_MO_partOf 34 = .ok (.ldc2_w 73, 3) := by decide +kernel
theorem d_MO_partOf_37 : decode b_MO_partOf 37 = .ok (.goto 4, 3) := by decide +kernel
theorem d_MO_partOf_40 : decode b_MO_partOf 40 = .ok (.lconst 1, 1) := by decide +kernel
theorem d_MO_partOf_41 : decode b_MO_partOf 41 = .ok (.lstore 9, 2) := by decide +kernel
theorem d_MO_partOf_43 : decode b_MO_partOf 43 = .ok (.lload 7, 2) := by decide +kernel
theorem d_MO_partOf_45 : decode b_MO_partOf 45 = .ok (.lconst 0, 1) := by decide +kernel
theorem d_MO_partOf_46 : decode b_MO_partOf 46 = .ok (.lcmp, 1) := by decide +kernel
theorem d_MO_partOf_47 : decode b_MO_partOf 47 = .ok (.ifCond .le 21, 3) := by decide +kernel
theorem d_MO_partOf_50 : decode b_MO_partOf 50 = .ok (.lload 5, 2) := by decide +kernel
theorem d_MO_partOf_52 : decode b_MO_partOf 52 = .ok (.lload 7, 2) := by decide +kernel
theorem d_MO_partOf_54 : decode b_MO_partOf 54 = .ok (.lrem, 1) := by decide +kernel
theorem d_MO_partOf_55 : decode b_MO_partOf 55 = .ok (.lstore 11, 2) := by decide +kernel
theorem d_MO_partOf_57 : decode b_MO_partOf 57 = .ok (.lload 7, 2) := by decide +kernel
theorem d_MO_partOf_59 : decode b_MO_partOf 59 = .ok (.lstore 5, 2) := by decide +kernel
theorem d_MO_partOf_61 : decode b_MO_partOf 61 = .ok (.lload 11, 2) := by decide +kernel
theorem d_MO_partOf_63 : decode b_MO_partOf 63 = .ok (.lstore 7, 2) := by decide +kernel
theorem d_MO_partOf_65 : decode b_MO_partOf 65 = .ok (.goto (-22), 3) := by decide +kernel
theorem d_MO_partOf_68 : decode b_MO_partOf 68 = .ok (.lload 9, 2) := by decide +kernel
theorem d_MO_partOf_70 : decode b_MO_partOf 70 = .ok (.iload 4, 2) := by decide +kernel
theorem d_MO_partOf_72 : decode b_MO_partOf 72 = .ok (.ifCond .ne 7, 3) := by decide +kernel
theorem d_MO_partOf_75 : decode b_MO_partOf 75 = .ok (.lload_n 0, 1) := by decide +kernel
theorem d_MO_partOf_76 : decode b_MO_partOf 76 = .ok (.goto 4, 3) := by decide +kernel
theorem d_MO_partOf_79 : decode b_MO_partOf 79 = .ok (.lload_n 2, 1) := by decide +kernel
theorem d_MO_partOf_80 : decode b_MO_partOf 80 = .ok (.lmul, 1) := by decide +kernel
theorem d_MO_partOf_81 : decode b_MO_partOf 81 = .ok (.lload 5, 2) := by decide +kernel
theorem d_MO_partOf_83 : decode b_MO_partOf 83 = .ok (.ldiv, 1) := by decide +kernel
theorem d_MO_partOf_84 : decode b_MO_partOf 84 = .ok (.lreturn, 1) := by decide +kernel
theorem d_MO_moisture_0 : decode b_MO_moisture 0 = .ok (.aload_n 0, 1) := by decide +kernel
theorem d_MO_moisture_1 : decode b_MO_moisture 1 = .ok (.iload_n 1, 1) := by decide +kernel
theorem d_MO_moisture_2 : decode b_MO_moisture 2 = .ok (.invokestatic 75, 3) := by decide +kernel
theorem d_MO_moisture_5 : decode b_MO_moisture 5 = .ok (.ifCond .ne 7, 3) := by decide +kernel
theorem d_MO_moisture_8 : decode b_MO_moisture 8 = .ok (.iconst 1, 1) := by decide +kernel
theorem d_MO_moisture_9 : decode b_MO_moisture 9 = .ok (.goto 4, 3) := by decide +kernel
theorem d_MO_moisture_12 : decode b_MO_moisture 12 = .ok (.iconst 0, 1) := by decide +kernel
theorem d_MO_moisture_13 : decode b_MO_moisture 13 = .ok (.iload_n 2, 1) := by decide +kernel
theorem d_MO_moisture_14 : decode b_MO_moisture 14 = .ok (.iconst 0, 1) := by decide +kernel
theorem d_MO_moisture_15 : decode b_MO_moisture 15 = .ok (.sipush 900, 3) := by decide +kernel
theorem d_MO_moisture_18 : decode b_MO_moisture 18 = .ok (.invokestatic 66, 3) := by decide +kernel
theorem d_MO_moisture_21 : decode b_MO_moisture 21 = .ok (.ifCond .ne 7, 3) := by decide +kernel
theorem d_MO_moisture_24 : decode b_MO_moisture 24 = .ok (.iconst 1, 1) := by decide +kernel
theorem d_MO_moisture_25 : decode b_MO_moisture 25 = .ok (.goto 4, 3) := by decide +kernel
theorem d_MO_moisture_28 : decode b_MO_moisture 28 = .ok (.iconst 0, 1) := by decide +kernel
theorem d_MO_moisture_29 : decode b_MO_moisture 29 = .ok (.iconst 0, 1) := by decide +kernel
theorem d_MO_moisture_30 : decode b_MO_moisture 30 = .ok (.iconst 0, 1) := by decide +kernel
theorem d_MO_moisture_31 : decode b_MO_moisture 31 = .ok (.invokevirtual 79, 3) := by decide +kernel
theorem d_MO_moisture_34 : decode b_MO_moisture 34 = .ok (.ifCond .eq 4, 3) := by decide +kernel
theorem d_MO_moisture_37 : decode b_MO_moisture 37 = .ok (.return_, 1) := by decide +kernel
theorem d_MO_moisture_38 : decode b_MO_moisture 38 = .ok (.aload_n 0, 1) := by decide +kernel
theorem d_MO_moisture_39 : decode b_MO_moisture 39 = .ok (.getfield 7, 3) := by decide +kernel
theorem d_MO_moisture_42 : decode b_MO_moisture 42 = .ok (.iload_n 1, 1) := by decide +kernel
theorem d_MO_moisture_43 : decode b_MO_moisture 43 = .ok (.iload_n 2, 1) := by decide +kernel
theorem d_MO_moisture_44 : decode b_MO_moisture 44 = .ok (.iastore, 1) := by decide +kernel
theorem d_MO_moisture_45 : decode b_MO_moisture 45 = .ok (.return_, 1) := by decide +kernel
theorem d_MO_element_0 : decode b_MO_element 0 = .ok (.aload_n 0, 1) := by decide +kernel
theorem d_MO_element_1 : decode b_MO_element 1 = .ok (.iload_n 1, 1) := by decide +kernel
theorem d_MO_element_2 : decode b_MO_element 2 = .ok (.invokestatic 75, 3) := by decide +kernel
theorem d_MO_element_5 : decode b_MO_element 5 = .ok (.ifCond .eq 10, 3) := by decide +kernel
theorem d_MO_element_8 : decode b_MO_element 8 = .ok (.iload_n 2, 1) := by decide +kernel
theorem d_MO_element_9 : decode b_MO_element 9 = .ok (.invokestatic 83, 3) := by decide +kernel
theorem d_MO_element_12 : decode b_MO_element 12 = .ok (.ifCond .ne 7, 3) := by decide +kernel
theorem d_MO_element_15 : decode b_MO_element 15 = .ok (.iconst 1, 1) := by decide +kernel
theorem d_MO_element_16 : decode b_MO_element 16 = .ok (.goto 4, 3) := by decide +kernel
theorem d_MO_element_19 : decode b_MO_element 19 = .ok (.iconst 0, 1) := by decide +kernel
theorem d_MO_element_20 : decode b_MO_element 20 = .ok (.iload_n 3, 1) := by decide +kernel
theorem d_MO_element_21 : decode b_MO_element 21 = .ok (.iconst 0, 1) := by decide +kernel
theorem d_MO_element_22 : decode b_MO_element 22 = .ok (.sipush 10000, 3) := by decide +kernel
theorem d_MO_element_25 : decode b_MO_element 25 = .ok (.invokestatic 66, 3) := by decide +kernel
theorem d_MO_element_28 : decode b_MO_element 28 = .ok (.ifCond .ne 7, 3) := by decide +kernel
theorem d_MO_element_31 : decode b_MO_element 31 = .ok (.iconst 1, 1) := by decide +kernel
theorem d_MO_element_32 : decode b_MO_element 32 = .ok (.goto 4, 3) := by decide +kernel
theorem d_MO_element_35 : decode b_MO_element 35 = .ok (.iconst 0, 1) := by decide +kernel
theorem d_MO_element_36 : decode b_MO_element 36 = .ok (.iconst 0, 1) := by decide +kernel
theorem d_MO_element_37 : decode b_MO_element 37 = .ok (.iconst 0, 1) := by decide +kernel
theorem d_MO_element_38 : decode b_MO_element 38 = .ok (.invokevirtual 79, 3) := by decide +kernel
theorem d_MO_element_41 : decode b_MO_element 41 = .ok (.ifCond .eq 4, 3) := by decide +kernel
theorem d_MO_element_44 : decode b_MO_element 44 = .ok (.return_, 1) := by decide +kernel
theorem d_MO_element_45 : decode b_MO_element 45 = .ok (.aload_n 0, 1) := by decide +kernel
theorem d_MO_element_46 : decode b_MO_element 46 = .ok (.getfield 13, 3) := by decide +kernel
theorem d_MO_element_49 : decode b_MO_element 49 = .ok (.iconst 4, 1) := by decide +kernel
theorem d_MO_element_50 : decode b_MO_element 50 = .ok (.iload_n 1, 1) := by decide +kernel
theorem d_MO_element_51 : decode b_MO_element 51 = .ok (.imul, 1) := by decide +kernel
theorem d_MO_element_52 : decode b_MO_element 52 = .ok (.iload_n 2, 1) := by decide +kernel
theorem d_MO_element_53 : decode b_MO_element 53 = .ok (.iadd, 1) := by decide +kernel
theorem d_MO_element_54 : decode b_MO_element 54 = .ok (.iload_n 3, 1) := by decide +kernel
theorem d_MO_element_55 : decode b_MO_element 55 = .ok (.iastore, 1) := by decide +kernel
theorem d_MO_element_56 : decode b_MO_element 56 = .ok (.return_, 1) := by decide +kernel
theorem d_MO_ship_0 : decode b_MO_ship 0 = .ok (.iload_n 1, 1) := by decide +kernel
theorem d_MO_ship_1 : decode b_MO_ship 1 = .ok (.aload_n 0, 1) := by decide +kernel
theorem d_MO_ship_2 : decode b_MO_ship 2 = .ok (.getfield 86, 3) := by decide +kernel
theorem d_MO_ship_5 : decode b_MO_ship 5 = .ok (.sipush 9999, 3) := by decide +kernel
theorem d_MO_ship_8 : decode b_MO_ship 8 = .ok (.invokestatic 66, 3) := by decide +kernel
theorem d_MO_ship_11 : decode b_MO_ship 11 = .ok (.ifCond .eq 26, 3) := by decide +kernel
theorem d_MO_ship_14 : decode b_MO_ship 14 = .ok (.iload_n 3, 1) := by decide +kernel
theorem d_MO_ship_15 : decode b_MO_ship 15 = .ok (.iconst 1, 1) := by decide +kernel
theorem d_MO_ship_16 : decode b_MO_ship 16 = .ok (.sipush 1000, 3) := by decide +kernel
theorem d_MO_ship_19 : decode b_MO_ship 19 = .ok (.invokestatic 66, 3) := by decide +kernel
theorem d_MO_ship_22 : decode b_MO_ship 22 = .ok (.ifCond .eq 15, 3) := by decide +kernel
theorem d_MO_ship_25 : decode b_MO_ship 25 = .ok (.iload 4, 2) := by decide +kernel
theorem d_MO_ship_27 : decode b_MO_ship 27 = .ok (.iconst 0, 1) := by decide +kernel
theorem d_MO_ship_28 : decode b_MO_ship 28 = .ok (.sipush 999, 3) := by decide +kernel
theorem d_MO_ship_31 : decode b_MO_ship 31 = .ok (.invokestatic 66, 3) := by decide +kernel
theorem d_MO_ship_34 : decode b_MO_ship 34 = .ok (.ifCond .ne 7, 3) := by decide +kernel
theorem d_MO_ship_37 : decode b_MO_ship 37 = .ok (.iconst 1, 1) := by decide +kernel
theorem d_MO_ship_38 : decode b_MO_ship 38 = .ok (.goto 4, 3) := by decide +kernel
theorem d_MO_ship_41 : decode b_MO_ship 41 = .ok (.iconst 0, 1) := by decide +kernel
theorem d_MO_ship_42 : decode b_MO_ship 42 = .ok (.istore 5, 2) := by decide +kernel
theorem d_MO_ship_44 : decode b_MO_ship 44 = .ok (.aload_n 0, 1) := by decide +kernel
theorem d_MO_ship_45 : decode b_MO_ship 45 = .ok (.iload_n 2, 1) := by decide +kernel
theorem d_MO_ship_46 : decode b_MO_ship 46 = .ok (.invokestatic 75, 3) := by decide +kernel
theorem d_MO_ship_49 : decode b_MO_ship 49 = .ok (.ifCond .ne 7, 3) := by decide +kernel
theorem d_MO_ship_52 : decode b_MO_ship 52 = .ok (.iconst 1, 1) := by decide +kernel
theorem d_MO_ship_53 : decode b_MO_ship 53 = .ok (.goto 4, 3) := by decide +kernel
theorem d_MO_ship_56 : decode b_MO_ship 56 = .ok (.iconst 0, 1) := by decide +kernel
theorem d_MO_ship_57 : decode b_MO_ship 57 = .ok (.aload_n 0, 1) := by decide +kernel
theorem d_MO_ship_58 : decode b_MO_ship 58 = .ok (.getfield 89, 3) := by decide +kernel
theorem d_MO_ship_61 : decode b_MO_ship 61 = .ok (.bipush 40, 2) := by decide +kernel
theorem d_MO_ship_63 : decode b_MO_ship 63 = .ok (.if_icmp .ne 7, 3) := by decide +kernel
theorem d_MO_ship_66 : decode b_MO_ship 66 = .ok (.iconst 1, 1) := by decide +kernel
theorem d_MO_ship_67 : decode b_MO_ship 67 = .ok (.goto 4, 3) := by decide +kernel
theorem d_MO_ship_70 : decode b_MO_ship 70 = .ok (.iconst 0, 1) := by decide +kernel
theorem d_MO_ship_71 : decode b_MO_ship 71 = .ok (.iload 5, 2) := by decide +kernel
theorem d_MO_ship_73 : decode b_MO_ship 73 = .ok (.iconst 0, 1) := by decide +kernel
theorem d_MO_ship_74 : decode b_MO_ship 74 = .ok (.invokevirtual 79, 3) := by decide +kernel
theorem d_MO_ship_77 : decode b_MO_ship 77 = .ok (.ifCond .eq 5, 3) := by decide +kernel
theorem d_MO_ship_80 : decode b_MO_ship 80 = .ok (.iconst 0, 1) := by decide +kernel
theorem d_MO_ship_81 : decode b_MO_ship 81 = .ok (.ireturn, 1) := by decide +kernel
theorem d_MO_ship_82 : decode b_MO_ship 82 = .ok (.aload_n 0, 1) := by decide +kernel
theorem d_MO_ship_83 : decode b_MO_ship 83 = .ok (.getfield 16, 3) := by decide +kernel
theorem d_MO_ship_86 : decode b_MO_ship 86 = .ok (.aload_n 0, 1) := by decide +kernel
theorem d_MO_ship_87 : decode b_MO_ship 87 = .ok (.getfield 89, 3) := by decide +kernel
theorem d_MO_ship_90 : decode b_MO_ship 90 = .ok (.iload_n 1, 1) := by decide +kernel
theorem d_MO_ship_91 : decode b_MO_ship 91 = .ok (.iastore, 1) := by decide +kernel
theorem d_MO_ship_92 : decode b_MO_ship 92 = .ok (.aload_n 0, 1) := by decide +kernel
theorem d_MO_ship_93 : decode b_MO_ship 93 = .ok (.getfield 19, 3) := by decide +kernel
theorem d_MO_ship_96 : decode b_MO_ship 96 = .ok (.aload_n 0, 1) := by decide +kernel
theorem d_MO_ship_97 : decode b_MO_ship 97 = .ok (.getfield 89, 3) := by decide +kernel
theorem d_MO_ship_100 : decode b_MO_ship 100 = .ok (.iload_n 2, 1) := by decide +kernel
theorem d_MO_ship_101 : decode b_MO_ship 101 = .ok (.iastore, 1) := by decide +kernel
theorem d_MO_ship_102 : decode b_MO_ship 102 = .ok (.aload_n 0, 1) := by decide +kernel
theorem d_MO_ship_103 : decode b_MO_ship 103 = .ok (.getfield 22, 3) := by decide +kernel
theorem d_MO_ship_106 : decode b_MO_ship 106 = .ok (.aload_n 0, 1) := by decide +kernel
theorem d_MO_ship_107 : decode b_MO_ship 107 = .ok (.getfield 89, 3) := by decide +kernel
theorem d_MO_ship_110 : decode b_MO_ship 110 = .ok (.iload_n 3, 1) := by decide +kernel
theorem d_MO_ship_111 : decode b_MO_ship 111 = .ok (.iload_n 3, 1) := by decide +kernel
theorem d_MO_ship_112 : decode b_MO_ship 112 = .ok (.iload 4, 2) := by decide +kernel
theorem d_MO_ship_114 : decode b_MO_ship 114 = .ok (.imul, 1) := by decide +kernel
theorem d_MO_ship_115 : decode b_MO_ship 115 = .ok (.sipush 999, 3) := by decide +kernel
theorem d_MO_ship_118 : decode b_MO_ship 118 = .ok (.iadd, 1) := by decide +kernel
theorem d_MO_ship_119 : decode b_MO_ship 119 = .ok (.sipush 1000, 3) := by decide +kernel
theorem d_MO_ship_122 : decode b_MO_ship 122 = .ok (.idiv, 1) := by decide +kernel
theorem d_MO_ship_123 : decode b_MO_ship 123 = .ok (.isub, 1) := by decide +kernel
theorem d_MO_ship_124 : decode b_MO_ship 124 = .ok (.iastore, 1) := by decide +kernel
theorem d_MO_ship_125 : decode b_MO_ship 125 = .ok (.aload_n 0, 1) := by decide +kernel
theorem d_MO_ship_126 : decode b_MO_ship 126 = .ok (.dup, 1) := by decide +kernel
theorem d_MO_ship_127 : decode b_MO_ship 127 = .ok (.getfield 89, 3) := by decide +kernel
theorem d_MO_ship_130 : decode b_MO_ship 130 = .ok (.iconst 1, 1) := by decide +kernel
theorem d_MO_ship_131 : decode b_MO_ship 131 = .ok (.iadd, 1) := by decide +kernel
theorem d_MO_ship_132 : decode b_MO_ship 132 = .ok (.putfield 89, 3) := by decide +kernel
theorem d_MO_ship_135 : decode b_MO_ship 135 = .ok (.aload_n 0, 1) := by decide +kernel
theorem d_MO_ship_136 : decode b_MO_ship 136 = .ok (.getfield 89, 3) := by decide +kernel
theorem d_MO_ship_139 : decode b_MO_ship 139 = .ok (.iconst 1, 1) := by decide +kernel
theorem d_MO_ship_140 : decode b_MO_ship 140 = .ok (.isub, 1) := by decide +kernel
theorem d_MO_ship_141 : decode b_MO_ship 141 = .ok (.ireturn, 1) := by decide +kernel
theorem d_MO_stockOf_0 : decode b_MO_stockOf 0 = .ok (.aload_n 0, 1) := by decide +kernel
theorem d_MO_stockOf_1 : decode b_MO_stockOf 1 = .ok (.getfield 25, 3) := by decide +kernel
theorem d_MO_stockOf_4 : decode b_MO_stockOf 4 = .ok (.iload_n 1, 1) := by decide +kernel
theorem d_MO_stockOf_5 : decode b_MO_stockOf 5 = .ok (.iaload, 1) := by decide +kernel
theorem d_MO_stockOf_6 : decode b_MO_stockOf 6 = .ok (.ineg, 1) := by decide +kernel
theorem d_MO_stockOf_7 : decode b_MO_stockOf 7 = .ok (.istore_n 2, 1) := by decide +kernel
theorem d_MO_stockOf_8 : decode b_MO_stockOf 8 = .ok (.iconst 0, 1) := by decide +kernel
theorem d_MO_stockOf_9 : decode b_MO_stockOf 9 = .ok (.istore_n 3, 1) := by decide +kernel
theorem d_MO_stockOf_10 : decode b_MO_stockOf 10 = .ok (.iload_n 3, 1) := by decide +kernel
theorem d_MO_stockOf_11 : decode b_MO_stockOf 11 = .ok (.aload_n 0, 1) := by decide +kernel
theorem d_MO_stockOf_12 : decode b_MO_stockOf 12 = .ok (.getfield 89, 3) := by decide +kernel
theorem d_MO_stockOf_15 : decode b_MO_stockOf 15 = .ok (.if_icmp .ge 45, 3) := by decide +kernel
theorem d_MO_stockOf_18 : decode b_MO_stockOf 18 = .ok (.iload_n 2, 1) := by decide +kernel
theorem d_MO_stockOf_19 : decode b_MO_stockOf 19 = .ok (.aload_n 0, 1) := by decide +kernel
theorem d_MO_stockOf_20 : decode b_MO_stockOf 20 = .ok (.getfield 19, 3) := by decide +kernel
theorem d_MO_stockOf_23 : decode b_MO_stockOf 23 = .ok (.iload_n 3, 1) := by decide +kernel
theorem d_MO_stockOf_24 : decode b_MO_stockOf 24 = .ok (.iaload, 1) := by decide +kernel
theorem d_MO_stockOf_25 : decode b_MO_stockOf 25 = .ok (.iload_n 1, 1) := by decide +kernel
theorem d_MO_stockOf_26 : decode b_MO_stockOf 26 = .ok (.if_icmp .ne 25, 3) := by decide +kernel
theorem d_MO_stockOf_29 : decode b_MO_stockOf 29 = .ok (.aload_n 0, 1) := by decide +kernel
theorem d_MO_stockOf_30 : decode b_MO_stockOf 30 = .ok (.getfield 16, 3) := by decide +kernel
theorem d_MO_stockOf_33 : decode b_MO_stockOf 33 = .ok (.iload_n 3, 1) := by decide +kernel
theorem d_MO_stockOf_34 : decode b_MO_stockOf 34 = .ok (.iaload, 1) := by decide +kernel
theorem d_MO_stockOf_35 : decode b_MO_stockOf 35 = .ok (.aload_n 0, 1) := by decide +kernel
theorem d_MO_stockOf_36 : decode b_MO_stockOf 36 = .ok (.getfield 86, 3) := by decide +kernel
theorem d_MO_stockOf_39 : decode b_MO_stockOf 39 = .ok (.if_icmp .gt 12, 3) := by decide +kernel
theorem d_MO_stockOf_42 : decode b_MO_stockOf 42 = .ok (.aload_n 0, 1) := by decide +kernel
theorem d_MO_stockOf_43 : decode b_MO_stockOf 43 = .ok (.getfield 22, 3) := by decide +kernel
theorem d_MO_stockOf_46 : decode b_MO_stockOf 46 = .ok (.iload_n 3, 1) := by decide +kernel
theorem d_MO_stockOf_47 : decode b_MO_stockOf 47 = .ok (.iaload, 1) := by decide +kernel
theorem d_MO_stockOf_48 : decode b_MO_stockOf 48 = .ok (.goto 4, 3) := by decide +kernel
theorem d_MO_stockOf_51 : decode b_MO_stockOf 51 = .ok (.iconst 0, 1) := by decide +kernel
theorem d_MO_stockOf_52 : decode b_MO_stockOf 52 = .ok (.iadd, 1) := by decide +kernel
theorem d_MO_stockOf_53 : decode b_MO_stockOf 53 = .ok (.istore_n 2, 1) := by decide +kernel
theorem d_MO_stockOf_54 : decode b_MO_stockOf 54 = .ok (.iinc 3 1, 3) := by decide +kernel
theorem d_MO_stockOf_57 : decode b_MO_stockOf 57 = .ok (.goto (-47), 3) := by decide +kernel
theorem d_MO_stockOf_60 : decode b_MO_stockOf 60 = .ok (.iload_n 2, 1) := by decide +kernel
theorem d_MO_stockOf_61 : decode b_MO_stockOf 61 = .ok (.ireturn, 1) := by decide +kernel
theorem d_MO_stock_0 : decode b_MO_stock 0 = .ok (.aload_n 0, 1) := by decide +kernel
theorem d_MO_stock_1 : decode b_MO_stock 1 = .ok (.iload_n 1, 1) := by decide +kernel
theorem d_MO_stock_2 : decode b_MO_stock 2 = .ok (.invokestatic 75, 3) := by decide +kernel
theorem d_MO_stock_5 : decode b_MO_stock 5 = .ok (.ifCond .ne 7, 3) := by decide +kernel
theorem d_MO_stock_8 : decode b_MO_stock 8 = .ok (.iconst 1, 1) := by decide +kernel
theorem d_MO_stock_9 : decode b_MO_stock 9 = .ok (.goto 4, 3) := by decide +kernel
theorem d_MO_stock_12 : decode b_MO_stock 12 = .ok (.iconst 0, 1) := by decide +kernel
theorem d_MO_stock_13 : decode b_MO_stock 13 = .ok (.iconst 0, 1) := by decide +kernel
theorem d_MO_stock_14 : decode b_MO_stock 14 = .ok (.iconst 0, 1) := by decide +kernel
theorem d_MO_stock_15 : decode b_MO_stock 15 = .ok (.iconst 0, 1) := by decide +kernel
theorem d_MO_stock_16 : decode b_MO_stock 16 = .ok (.invokevirtual 79, 3) := by decide +kernel
theorem d_MO_stock_19 : decode b_MO_stock 19 = .ok (.ifCond .eq 5, 3) := by decide +kernel
theorem d_MO_stock_22 : decode b_MO_stock 22 = .ok (.iconst 0, 1) := by decide +kernel
theorem d_MO_stock_23 : decode b_MO_stock 23 = .ok (.ireturn, 1) := by decide +kernel
theorem d_MO_stock_24 : decode b_MO_stock 24 = .ok (.aload_n 0, 1) := by decide +kernel
theorem d_MO_stock_25 : decode b_MO_stock 25 = .ok (.iload_n 1, 1) := by decide +kernel
theorem d_MO_stock_26 : decode b_MO_stock 26 = .ok (.invokevirtual 92, 3) := by decide +kernel
theorem d_MO_stock_29 : decode b_MO_stock 29 = .ok (.ireturn, 1) := by decide +kernel
theorem d_MO_pile_0 : decode b_MO_pile 0 = .ok (.aload_n 0, 1) := by decide +kernel
theorem d_MO_pile_1 : decode b_MO_pile 1 = .ok (.aload_n 0, 1) := by decide +kernel
theorem d_MO_pile_2 : decode b_MO_pile 2 = .ok (.getfield 70, 3) := by decide +kernel
theorem d_MO_pile_5 : decode b_MO_pile 5 = .ok (.iconst 4, 1) := by decide +kernel
theorem d_MO_pile_6 : decode b_MO_pile 6 = .ok (.if_icmp .ne 7, 3) := by decide +kernel
theorem d_MO_pile_9 : decode b_MO_pile 9 = .ok (.iconst 1, 1) := by decide +kernel
theorem d_MO_pile_10 : decode b_MO_pile 10 = .ok (.goto 4, 3) := by decide +kernel
theorem d_MO_pile_13 : decode b_MO_pile 13 = .ok (.iconst 0, 1) := by decide +kernel
theorem d_MO_pile_14 : decode b_MO_pile 14 = .ok (.iload_n 1, 1) := by decide +kernel
theorem d_MO_pile_15 : decode b_MO_pile 15 = .ok (.iconst 1, 1) := by decide +kernel
theorem d_MO_pile_16 : decode b_MO_pile 16 = .ok (.ldc 96, 2) := by decide +kernel
theorem d_MO_pile_18 : decode b_MO_pile 18 = .ok (.invokestatic 66, 3) := by decide +kernel
theorem d_MO_pile_21 : decode b_MO_pile 21 = .ok (.ifCond .ne 7, 3) := by decide +kernel
theorem d_MO_pile_24 : decode b_MO_pile 24 = .ok (.iconst 1, 1) := by decide +kernel
theorem d_MO_pile_25 : decode b_MO_pile 25 = .ok (.goto 4, 3) := by decide +kernel
theorem d_MO_pile_28 : decode b_MO_pile 28 = .ok (.iconst 0, 1) := by decide +kernel
theorem d_MO_pile_29 : decode b_MO_pile 29 = .ok (.iconst 0, 1) := by decide +kernel
theorem d_MO_pile_30 : decode b_MO_pile 30 = .ok (.iconst 0, 1) := by decide +kernel
theorem d_MO_pile_31 : decode b_MO_pile 31 = .ok (.invokevirtual 79, 3) := by decide +kernel
theorem d_MO_pile_34 : decode b_MO_pile 34 = .ok (.ifCond .eq 5, 3) := by decide +kernel
theorem d_MO_pile_37 : decode b_MO_pile 37 = .ok (.iconst 0, 1) := by decide +kernel
theorem d_MO_pile_38 : decode b_MO_pile 38 = .ok (.ireturn, 1) := by decide +kernel
theorem d_MO_pile_39 : decode b_MO_pile 39 = .ok (.aload_n 0, 1) := by decide +kernel
theorem d_MO_pile_40 : decode b_MO_pile 40 = .ok (.getfield 28, 3) := by decide +kernel
theorem d_MO_pile_43 : decode b_MO_pile 43 = .ok (.aload_n 0, 1) := by decide +kernel
theorem d_MO_pile_44 : decode b_MO_pile 44 = .ok (.getfield 70, 3) := by decide +kernel
theorem d_MO_pile_47 : decode b_MO_pile 47 = .ok (.iload_n 1, 1) := by decide +kernel
theorem d_MO_pile_48 : decode b_MO_pile 48 = .ok (.iastore, 1) := by decide +kernel
theorem d_MO_pile_49 : decode b_MO_pile 49 = .ok (.aload_n 0, 1) := by decide +kernel
theorem d_MO_pile_50 : decode b_MO_pile 50 = .ok (.dup, 1) := by decide +kernel
theorem d_MO_pile_51 : decode b_MO_pile 51 = .ok (.getfield 70, 3) := by decide +kernel
theorem d_MO_pile_54 : decode b_MO_pile 54 = .ok (.iconst 1, 1) := by decide +kernel
theorem d_MO_pile_55 : decode b_MO_pile 55 = .ok (.iadd, 1) := by decide +kernel
theorem d_MO_pile_56 : decode b_MO_pile 56 = .ok (.putfield 70, 3) := by decide +kernel
theorem d_MO_pile_59 : decode b_MO_pile 59 = .ok (.aload_n 0, 1) := by decide +kernel
theorem d_MO_pile_60 : decode b_MO_pile 60 = .ok (.getfield 70, 3) := by decide +kernel
theorem d_MO_pile_63 : decode b_MO_pile 63 = .ok (.iconst 1, 1) := by decide +kernel
theorem d_MO_pile_64 : decode b_MO_pile 64 = .ok (.isub, 1) := by decide +kernel
theorem d_MO_pile_65 : decode b_MO_pile 65 = .ok (.ireturn, 1) := by decide +kernel
theorem d_MO_gramsOf_0 : decode b_MO_gramsOf 0 = .ok (.iconst 0, 1) := by decide +kernel
theorem d_MO_gramsOf_1 : decode b_MO_gramsOf 1 = .ok (.istore_n 2, 1) := by decide +kernel
theorem d_MO_gramsOf_2 : decode b_MO_gramsOf 2 = .ok (.iconst 0, 1) := by decide +kernel
theorem d_MO_gramsOf_3 : decode b_MO_gramsOf 3 = .ok (.istore_n 3, 1) := by decide +kernel
theorem d_MO_gramsOf_4 : decode b_MO_gramsOf 4 = .ok (.iload_n 3, 1) := by decide +kernel
theorem d_MO_gramsOf_5 : decode b_MO_gramsOf 5 = .ok (.aload_n 0, 1) := by decide +kernel
theorem d_MO_gramsOf_6 : decode b_MO_gramsOf 6 = .ok (.getfield 34, 3) := by decide +kernel
theorem d_MO_gramsOf_9 : decode b_MO_gramsOf 9 = .ok (.iload_n 1, 1) := by decide +kernel
theorem d_MO_gramsOf_10 : decode b_MO_gramsOf 10 = .ok (.iaload, 1) := by decide +kernel
theorem d_MO_gramsOf_11 : decode b_MO_gramsOf 11 = .ok (.if_icmp .ge 23, 3) := by decide +kernel
theorem d_MO_gramsOf_14 : decode b_MO_gramsOf 14 = .ok (.iload_n 2, 1) := by decide +kernel
theorem d_MO_gramsOf_15 : decode b_MO_gramsOf 15 = .ok (.aload_n 0, 1) := by decide +kernel
theorem d_MO_gramsOf_16 : decode b_MO_gramsOf 16 = .ok (.getfield 37, 3) := by decide +kernel
theorem d_MO_gramsOf_19 : decode b_MO_gramsOf 19 = .ok (.bipush 20, 2) := by decide +kernel
theorem d_MO_gramsOf_21 : decode b_MO_gramsOf 21 = .ok (.iload_n 1, 1) := by decide +kernel
theorem d_MO_gramsOf_22 : decode b_MO_gramsOf 22 = .ok (.imul, 1) := by decide +kernel
theorem d_MO_gramsOf_23 : decode b_MO_gramsOf 23 = .ok (.iload_n 3, 1) := by decide +kernel
theorem d_MO_gramsOf_24 : decode b_MO_gramsOf 24 = .ok (.iadd, 1) := by decide +kernel
theorem d_MO_gramsOf_25 : decode b_MO_gramsOf 25 = .ok (.iaload, 1) := by decide +kernel
theorem d_MO_gramsOf_26 : decode b_MO_gramsOf 26 = .ok (.iadd, 1) := by decide +kernel
theorem d_MO_gramsOf_27 : decode b_MO_gramsOf 27 = .ok (.istore_n 2, 1) := by decide +kernel
theorem d_MO_gramsOf_28 : decode b_MO_gramsOf 28 = .ok (.iinc 3 1, 3) := by decide +kernel
theorem d_MO_gramsOf_31 : decode b_MO_gramsOf 31 = .ok (.goto (-27), 3) := by decide +kernel
theorem d_MO_gramsOf_34 : decode b_MO_gramsOf 34 = .ok (.iload_n 2, 1) := by decide +kernel
theorem d_MO_gramsOf_35 : decode b_MO_gramsOf 35 = .ok (.ireturn, 1) := by decide +kernel
theorem d_MO_lay_0 : decode b_MO_lay 0 = .ok (.aload_n 0, 1) := by decide +kernel
theorem d_MO_lay_1 : decode b_MO_lay 1 = .ok (.iload_n 1, 1) := by decide +kernel
theorem d_MO_lay_2 : decode b_MO_lay 2 = .ok (.invokevirtual 97, 3) := by decide +kernel
theorem d_MO_lay_5 : decode b_MO_lay 5 = .ok (.ifCond .eq 10, 3) := by decide +kernel
theorem d_MO_lay_8 : decode b_MO_lay 8 = .ok (.iload_n 2, 1) := by decide +kernel
theorem d_MO_lay_9 : decode b_MO_lay 9 = .ok (.invokestatic 75, 3) := by decide +kernel
theorem d_MO_lay_12 : decode b_MO_lay 12 = .ok (.ifCond .ne 7, 3) := by decide +kernel
theorem d_MO_lay_15 : decode b_MO_lay 15 = .ok (.iconst 1, 1) := by decide +kernel
theorem d_MO_lay_16 : decode b_MO_lay 16 = .ok (.goto 4, 3) := by decide +kernel
theorem d_MO_lay_19 : decode b_MO_lay 19 = .ok (.iconst 0, 1) := by decide +kernel
theorem d_MO_lay_20 : decode b_MO_lay 20 = .ok (.istore 4, 2) := by decide +kernel
theorem d_MO_lay_22 : decode b_MO_lay 22 = .ok (.iload 4, 2) := by decide +kernel
theorem d_MO_lay_24 : decode b_MO_lay 24 = .ok (.ifCond .ne 25, 3) := by decide +kernel
theorem d_MO_lay_27 : decode b_MO_lay 27 = .ok (.aload_n 0, 1) := by decide +kernel
theorem d_MO_lay_28 : decode b_MO_lay 28 = .ok (.getfield 31, 3) := by decide +kernel
theorem d_MO_lay_31 : decode b_MO_lay 31 = .ok (.iload 4, 2) := by decide +kernel
theorem d_MO_lay_33 : decode b_MO_lay 33 = .ok (.ifCond .eq 7, 3) := by decide +kernel
theorem d_MO_lay_36 : decode b_MO_lay 36 = .ok (.iconst 0, 1) := by decide +kernel
theorem d_MO_lay_37 : decode b_MO_lay 37 = .ok (.goto 4, 3) := by decide +kernel
theorem d_MO_lay_40 : decode b_MO_lay 40 = .ok (.iload_n 1, 1) := by decide +kernel
theorem d_MO_lay_41 : decode b_MO_lay 41 = .ok (.iaload, 1) := by decide +kernel
theorem d_MO_lay_42 : decode b_MO_lay 42 = .ok (.ifCond .le 7, 3) := by decide +kernel
theorem d_MO_lay_45 : decode b_MO_lay 45 = .ok (.iconst 1, 1) := by decide +kernel
theorem d_MO_lay_46 : decode b_MO_lay 46 = .ok (.goto 4, 3) := by decide +kernel
theorem d_MO_lay_49 : decode b_MO_lay 49 = .ok (.iconst 0, 1) := by decide +kernel
theorem d_MO_lay_50 : decode b_MO_lay 50 = .ok (.istore 5, 2) := by decide +kernel
theorem d_MO_lay_52 : decode b_MO_lay 52 = .ok (.iload 4, 2) := by decide +kernel
theorem d_MO_lay_54 : decode b_MO_lay 54 = .ok (.ifCond .ne 45, 3) := by decide +kernel
theorem d_MO_lay_57 : decode b_MO_lay 57 = .ok (.aload_n 0, 1) := by decide +kernel
theorem d_MO_lay_58 : decode b_MO_lay 58 = .ok (.getfield 34, 3) := by decide +kernel
theorem d_MO_lay_61 : decode b_MO_lay 61 = .ok (.iload 4, 2) := by decide +kernel
theorem d_MO_lay_63 : decode b_MO_lay 63 = .ok (.ifCond .eq 7, 3) := by decide +kernel
theorem d_MO_lay_66 : decode b_MO_lay 66 = .ok (.iconst 0, 1) := by decide +kernel
theorem d_MO_lay_67 : decode b_MO_lay 67 = .ok (.goto 4, 3) := by decide +kernel
theorem d_MO_lay_70 : decode b_MO_lay 70 = .ok (.iload_n 1, 1) := by decide +kernel
theorem d_MO_lay_71 : decode b_MO_lay 71 = .ok (.iaload, 1) := by decide +kernel
theorem d_MO_lay_72 : decode b_MO_lay 72 = .ok (.bipush 20, 2) := by decide +kernel
theorem d_MO_lay_74 : decode b_MO_lay 74 = .ok (.if_icmp .eq 21, 3) := by decide +kernel
theorem d_MO_lay_77 : decode b_MO_lay 77 = .ok (.aload_n 0, 1) := by decide +kernel
theorem d_MO_lay_78 : decode b_MO_lay 78 = .ok (.iload 4, 2) := by decide +kernel
theorem d_MO_lay_80 : decode b_MO_lay 80 = .ok (.ifCond .eq 7, 3) := by decide +kernel
theorem d_MO_lay_83 : decode b_MO_lay 83 = .ok (.iconst 0, 1) := by decide +kernel
theorem d_MO_lay_84 : decode b_MO_lay 84 = .ok (.goto 4, 3) := by decide +kernel
theorem d_MO_lay_87 : decode b_MO_lay 87 = .ok (.iload_n 2, 1) := by decide +kernel
theorem d_MO_lay_88 : decode b_MO_lay 88 = .ok (.invokevirtual 92, 3) := by decide +kernel
theorem d_MO_lay_91 : decode b_MO_lay 91 = .ok (.iload_n 3, 1) := by decide +kernel
theorem d_MO_lay_92 : decode b_MO_lay 92 = .ok (.if_icmp .ge 7, 3) := by decide +kernel
theorem d_MO_lay_95 : decode b_MO_lay 95 = .ok (.iconst 1, 1) := by decide +kernel
theorem d_MO_lay_96 : decode b_MO_lay 96 = .ok (.goto 4, 3) := by decide +kernel
theorem d_MO_lay_99 : decode b_MO_lay 99 = .ok (.iconst 0, 1) := by decide +kernel
theorem d_MO_lay_100 : decode b_MO_lay 100 = .ok (.istore 6, 2) := by decide +kernel
theorem d_MO_lay_102 : decode b_MO_lay 102 = .ok (.aload_n 0, 1) := by decide +kernel
theorem d_MO_lay_103 : decode b_MO_lay 103 = .ok (.iload 4, 2) := by decide +kernel
theorem d_MO_lay_105 : decode b_MO_lay 105 = .ok (.iload 5, 2) := by decide +kernel
theorem d_MO_lay_107 : decode b_MO_lay 107 = .ok (.iload_n 3, 1) := by decide +kernel
theorem d_MO_lay_108 : decode b_MO_lay 108 = .ok (.iconst 1, 1) := by decide +kernel
theorem d_MO_lay_109 : decode b_MO_lay 109 = .ok (.sipush 1000, 3) := by decide +kernel
theorem d_MO_lay_112 : decode b_MO_lay 112 = .ok (.invokestatic 66, 3) := by decide +kernel
theorem d_MO_lay_115 : decode b_MO_lay 115 = .ok (.ifCond .ne 7, 3) := by decide +kernel
theorem d_MO_lay_118 : decode b_MO_lay 118 = .ok (.iconst 1, 1) := by decide +kernel
theorem d_MO_lay_119 : decode b_MO_lay 119 = .ok (.goto 4, 3) := by decide +kernel
theorem d_MO_lay_122 : decode b_MO_lay 122 = .ok (.iconst 0, 1) := by decide +kernel
theorem d_MO_lay_123 : decode b_MO_lay 123 = .ok (.iload 6, 2) := by decide +kernel
theorem d_MO_lay_125 : decode b_MO_lay 125 = .ok (.invokevirtual 79, 3) := by decide +kernel
theorem d_MO_lay_128 : decode b_MO_lay 128 = .ok (.ifCond .eq 5, 3) := by decide +kernel
theorem d_MO_lay_131 : decode b_MO_lay 131 = .ok (.iconst 0, 1) := by decide +kernel
theorem d_MO_lay_132 : decode b_MO_lay 132 = .ok (.ireturn, 1) := by decide +kernel
theorem d_MO_lay_133 : decode b_MO_lay 133 = .ok (.bipush 20, 2) := by decide +kernel
theorem d_MO_lay_135 : decode b_MO_lay 135 = .ok (.iload_n 1, 1) := by decide +kernel
theorem d_MO_lay_136 : decode b_MO_lay 136 = .ok (.imul, 1) := by decide +kernel
theorem d_MO_lay_137 : decode b_MO_lay 137 = .ok (.aload_n 0, 1) := by decide +kernel
theorem d_MO_lay_138 : decode b_MO_lay 138 = .ok (.getfield 34, 3) := by decide +kernel
theorem d_MO_lay_141 : decode b_MO_lay 141 = .ok (.iload_n 1, 1) := by decide +kernel
theorem d_MO_lay_142 : decode b_MO_lay 142 = .ok (.iaload, 1) := by decide +kernel
theorem d_MO_lay_143 : decode b_MO_lay 143 = .ok (.iadd, 1) := by decide +kernel
theorem d_MO_lay_144 : decode b_MO_lay 144 = .ok (.istore 7, 2) := by decide +kernel
theorem d_MO_lay_146 : decode b_MO_lay 146 = .ok (.aload_n 0, 1) := by decide +kernel
theorem d_MO_lay_147 : decode b_MO_lay 147 = .ok (.getfield 37, 3) := by decide +kernel
theorem d_MO_lay_150 : decode b_MO_lay 150 = .ok (.iload 7, 2) := by decide +kernel
theorem d_MO_lay_152 : decode b_MO_lay 152 = .ok (.iload_n 3, 1) := by decide +kernel
theorem d_MO_lay_153 : decode b_MO_lay 153 = .ok (.sipush 1000, 3) := by decide +kernel
theorem d_MO_lay_156 : decode b_MO_lay 156 = .ok (.aload_n 0, 1) := by decide +kernel
theorem d_MO_lay_157 : decode b_MO_lay 157 = .ok (.getfield 7, 3) := by decide +kernel
theorem d_MO_lay_160 : decode b_MO_lay 160 = .ok (.iload_n 2, 1) := by decide +kernel
theorem d_MO_lay_161 : decode b_MO_lay 161 = .ok (.iaload, 1) := by decide +kernel
theorem d_MO_lay_162 : decode b_MO_lay 162 = .ok (.isub, 1) := by decide +kernel
theorem d_MO_lay_163 : decode b_MO_lay 163 = .ok (.imul, 1) := by decide +kernel
theorem d_MO_lay_164 : decode b_MO_lay 164 = .ok (.iastore, 1) := by decide +kernel
theorem d_MO_lay_165 : decode b_MO_lay 165 = .ok (.iconst 0, 1) := by decide +kernel
theorem d_MO_lay_166 : decode b_MO_lay 166 = .ok (.istore 8, 2) := by decide +kernel
theorem d_MO_lay_168 : decode b_MO_lay 168 = .ok (.iload 8, 2) := by decide +kernel
theorem d_MO_lay_170 : decode b_MO_lay 170 = .ok (.iconst 4, 1) := by decide +kernel
theorem d_MO_lay_171 : decode b_MO_lay 171 = .ok (.if_icmp .ge 32, 3) := by decide +kernel
theorem d_MO_lay_174 : decode b_MO_lay 174 = .ok (.aload_n 0, 1) := by decide +kernel
theorem d_MO_lay_175 : decode b_MO_lay 175 = .ok (.getfield 40, 3) := by decide +kernel
theorem d_MO_lay_178 : decode b_MO_lay 178 = .ok (.iconst 4, 1) := by decide +kernel
theorem d_MO_lay_179 : decode b_MO_lay 179 = .ok (.iload 7, 2) := by decide +kernel
theorem d_MO_lay_181 : decode b_MO_lay 181 = .ok (.imul, 1) := by decide +kernel
theorem d_MO_lay_182 : decode b_MO_lay 182 = .ok (.iload 8, 2) := by decide +kernel
theorem d_MO_lay_184 : decode b_MO_lay 184 = .ok (.iadd, 1) := by decide +kernel
theorem d_MO_lay_185 : decode b_MO_lay 185 = .ok (.aload_n 0, 1) := by decide +kernel
theorem d_MO_lay_186 : decode b_MO_lay 186 = .ok (.getfield 13, 3) := by decide +kernel
theorem d_MO_lay_189 : decode b_MO_lay 189 = .ok (.iconst 4, 1) := by decide +kernel
theorem d_MO_lay_190 : decode b_MO_lay 190 = .ok (.iload_n 2, 1) := by decide +kernel
theorem d_MO_lay_191 : decode b_MO_lay 191 = .ok (.imul, 1) := by decide +kernel
theorem d_MO_lay_192 : decode b_MO_lay 192 = .ok (.iload 8, 2) := by decide +kernel
theorem d_MO_lay_194 : decode b_MO_lay 194 = .ok (.iadd, 1) := by decide +kernel
theorem d_MO_lay_195 : decode b_MO_lay 195 = .ok (.iaload, 1) := by decide +kernel
theorem d_MO_lay_196 : decode b_MO_lay 196 = .ok (.iastore, 1) := by decide +kernel
theorem d_MO_lay_197 : decode b_MO_lay 197 = .ok (.iinc 8 1, 3) := by decide +kernel
theorem d_MO_lay_200 : decode b_MO_lay 200 = .ok (.goto (-32), 3) := by decide +kernel
theorem d_MO_lay_203 : decode b_MO_lay 203 = .ok (.aload_n 0, 1) := by decide +kernel
theorem d_MO_lay_204 : decode b_MO_lay 204 = .ok (.getfield 34, 3) := by decide +kernel
theorem d_MO_lay_207 : decode b_MO_lay 207 = .ok (.iload_n 1, 1) := by decide +kernel
theorem d_MO_lay_208 : decode b_MO_lay 208 = .ok (.dup2, 1) := by decide +kernel
theorem d_MO_lay_209 : decode b_MO_lay 209 = .ok (.iaload, 1) := by decide +kernel
theorem d_MO_lay_210 : decode b_MO_lay 210 = .ok (.iconst 1, 1) := by decide +kernel
theorem d_MO_lay_211 : decode b_MO_lay 211 = .ok (.iadd, 1) := by decide +kernel
theorem d_MO_lay_212 : decode b_MO_lay 212 = .ok (.iastore, 1) := by decide +kernel
theorem d_MO_lay_213 : decode b_MO_lay 213 = .ok (.aload_n 0, 1) := by decide +kernel
theorem d_MO_lay_214 : decode b_MO_lay 214 = .ok (.getfield 25, 3) := by decide +kernel
theorem d_MO_lay_217 : decode b_MO_lay 217 = .ok (.iload_n 2, 1) := by decide +kernel
theorem d_MO_lay_218 : decode b_MO_lay 218 = .ok (.dup2, 1) := by decide +kernel
theorem d_MO_lay_219 : decode b_MO_lay 219 = .ok (.iaload, 1) := by decide +kernel
theorem d_MO_lay_220 : decode b_MO_lay 220 = .ok (.iload_n 3, 1) := by decide +kernel
theorem d_MO_lay_221 : decode b_MO_lay 221 = .ok (.iadd, 1) := by decide +kernel
theorem d_MO_lay_222 : decode b_MO_lay 222 = .ok (.iastore, 1) := by decide +kernel
theorem d_MO_lay_223 : decode b_MO_lay 223 = .ok (.aload_n 0, 1) := by decide +kernel
theorem d_MO_lay_224 : decode b_MO_lay 224 = .ok (.iload_n 1, 1) := by decide +kernel
theorem d_MO_lay_225 : decode b_MO_lay 225 = .ok (.invokevirtual 100, 3) := by decide +kernel
theorem d_MO_lay_228 : decode b_MO_lay 228 = .ok (.ireturn, 1) := by decide +kernel
theorem d_MO_ahead_0 : decode b_MO_ahead 0 = .ok (.aload_n 0, 1) := by decide +kernel
theorem d_MO_ahead_1 : decode b_MO_ahead 1 = .ok (.getfield 37, 3) := by decide +kernel
theorem d_MO_ahead_4 : decode b_MO_ahead 4 = .ok (.iload_n 1, 1) := by decide +kernel
theorem d_MO_ahead_5 : decode b_MO_ahead 5 = .ok (.iaload, 1) := by decide +kernel
theorem d_MO_ahead_6 : decode b_MO_ahead 6 = .ok (.i2l, 1) := by decide +kernel
theorem d_MO_ahead_7 : decode b_MO_ahead 7 = .ok (.lload_n 2, 1) := by decide +kernel
theorem d_MO_ahead_8 : decode b_MO_ahead 8 = .ok (.lmul, 1) := by decide +kernel
theorem d_MO_ahead_9 : decode b_MO_ahead 9 = .ok (.iload 4, 2) := by decide +kernel
theorem d_MO_ahead_11 : decode b_MO_ahead 11 = .ok (.i2l, 1) := by decide +kernel
theorem d_MO_ahead_12 : decode b_MO_ahead 12 = .ok (.ldiv, 1) := by decide +kernel
theorem d_MO_ahead_13 : decode b_MO_ahead 13 = .ok (.lreturn, 1) := by decide +kernel
theorem d_MO_takes_0 : decode b_MO_takes 0 = .ok (.aload_n 0, 1) := by decide +kernel
theorem d_MO_takes_1 : decode b_MO_takes 1 = .ok (.bipush 20, 2) := by decide +kernel
theorem d_MO_takes_3 : decode b_MO_takes 3 = .ok (.iload_n 1, 1) := by decide +kernel
theorem d_MO_takes_4 : decode b_MO_takes 4 = .ok (.imul, 1) := by decide +kernel
theorem d_MO_takes_5 : decode b_MO_takes 5 = .ok (.iload_n 2, 1) := by decide +kernel
theorem d_MO_takes_6 : decode b_MO_takes 6 = .ok (.iadd, 1) := by decide +kernel
theorem d_MO_takes_7 : decode b_MO_takes 7 = .ok (.iload_n 3, 1) := by decide +kernel
theorem d_MO_takes_8 : decode b_MO_takes 8 = .ok (.i2l, 1) := by decide +kernel
theorem d_MO_takes_9 : decode b_MO_takes 9 = .ok (.lconst 1, 1) := by decide +kernel
theorem d_MO_takes_10 : decode b_MO_takes 10 = .ok (.ladd, 1) := by decide +kernel
theorem d_MO_takes_11 : decode b_MO_takes 11 = .ok (.aload_n 0, 1) := by decide +kernel
theorem d_MO_takes_12 : decode b_MO_takes 12 = .ok (.getfield 28, 3) := by decide +kernel
theorem d_MO_takes_15 : decode b_MO_takes 15 = .ok (.iload_n 1, 1) := by decide +kernel
theorem d_MO_takes_16 : decode b_MO_takes 16 = .ok (.iaload, 1) := by decide +kernel
theorem d_MO_takes_17 : decode b_MO_takes 17 = .ok (.invokevirtual 103, 3) := by decide +kernel
theorem d_MO_takes_20 : decode b_MO_takes 20 = .ok (.aload_n 0, 1) := by decide +kernel
theorem d_MO_takes_21 : decode b_MO_takes 21 = .ok (.bipush 20, 2) := by decide +kernel
theorem d_MO_takes_23 : decode b_MO_takes 23 = .ok (.iload_n 1, 1) := by decide +kernel
theorem d_MO_takes_24 : decode b_MO_takes 24 = .ok (.imul, 1) := by decide +kernel
theorem d_MO_takes_25 : decode b_MO_takes 25 = .ok (.iload_n 2, 1) := by decide +kernel
theorem d_MO_takes_26 : decode b_MO_takes 26 = .ok (.iadd, 1) := by decide +kernel
theorem d_MO_takes_27 : decode b_MO_takes 27 = .ok (.iload_n 3, 1) := by decide +kernel
theorem d_MO_takes_28 : decode b_MO_takes 28 = .ok (.i2l, 1) := by decide +kernel
theorem d_MO_takes_29 : decode b_MO_takes 29 = .ok (.aload_n 0, 1) := by decide +kernel
theorem d_MO_takes_30 : decode b_MO_takes 30 = .ok (.getfield 28, 3) := by decide +kernel
theorem d_MO_takes_33 : decode b_MO_takes 33 = .ok (.iload_n 1, 1) := by decide +kernel
theorem d_MO_takes_34 : decode b_MO_takes 34 = .ok (.iaload, 1) := by decide +kernel
theorem d_MO_takes_35 : decode b_MO_takes 35 = .ok (.invokevirtual 103, 3) := by decide +kernel
theorem d_MO_takes_38 : decode b_MO_takes 38 = .ok (.lsub, 1) := by decide +kernel
theorem d_MO_takes_39 : decode b_MO_takes 39 = .ok (.lreturn, 1) := by decide +kernel
theorem d_MO_gramsIn_0 : decode b_MO_gramsIn 0 = .ok (.lconst 0, 1) := by decide +kernel
theorem d_MO_gramsIn_1 : decode b_MO_gramsIn 1 = .ok (.lstore_n 3, 1) := by decide +kernel
theorem d_MO_gramsIn_2 : decode b_MO_gramsIn 2 = .ok (.iconst 0, 1) := by decide +kernel
theorem d_MO_gramsIn_3 : decode b_MO_gramsIn 3 = .ok (.istore 5, 2) := by decide +kernel
theorem d_MO_gramsIn_5 : decode b_MO_gramsIn 5 = .ok (.iload 5, 2) := by decide +kernel
theorem d_MO_gramsIn_7 : decode b_MO_gramsIn 7 = .ok (.aload_n 0, 1) := by decide +kernel
theorem d_MO_gramsIn_8 : decode b_MO_gramsIn 8 = .ok (.getfield 34, 3) := by decide +kernel
theorem d_MO_gramsIn_11 : decode b_MO_gramsIn 11 = .ok (.iload_n 1, 1) := by decide +kernel
theorem d_MO_gramsIn_12 : decode b_MO_gramsIn 12 = .ok (.iaload, 1) := by decide +kernel
theorem d_MO_gramsIn_13 : decode b_MO_gramsIn 13 = .ok (.if_icmp .ge 20, 3) := by decide +kernel
theorem d_MO_gramsIn_16 : decode b_MO_gramsIn 16 = .ok (.lload_n 3, 1) := by decide +kernel
theorem d_MO_gramsIn_17 : decode b_MO_gramsIn 17 = .ok (.aload_n 0, 1) := by decide +kernel
theorem d_MO_gramsIn_18 : decode b_MO_gramsIn 18 = .ok (.iload_n 1, 1) := by decide +kernel
theorem d_MO_gramsIn_19 : decode b_MO_gramsIn 19 = .ok (.iload 5, 2) := by decide +kernel
theorem d_MO_gramsIn_21 : decode b_MO_gramsIn 21 = .ok (.iload_n 2, 1) := by decide +kernel
theorem d_MO_gramsIn_22 : decode b_MO_gramsIn 22 = .ok (.invokevirtual 107, 3) := by decide +kernel
theorem d_MO_gramsIn_25 : decode b_MO_gramsIn 25 = .ok (.ladd, 1) := by decide +kernel
theorem d_MO_gramsIn_26 : decode b_MO_gramsIn 26 = .ok (.lstore_n 3, 1) := by decide +kernel
theorem d_MO_gramsIn_27 : decode b_MO_gramsIn 27 = .ok (.iinc 5 1, 3) := by decide +kernel
theorem d_MO_gramsIn_30 : decode b_MO_gramsIn 30 = .ok (.goto (-25), 3) := by decide +kernel
theorem d_MO_gramsIn_33 : decode b_MO_gramsIn 33 = .ok (.lload_n 3, 1) := by decide +kernel
theorem d_MO_gramsIn_34 : decode b_MO_gramsIn 34 = .ok (.lreturn, 1) := by decide +kernel
theorem d_MO_heldIn_0 : decode b_MO_heldIn 0 = .ok (.lconst 0, 1) := by decide +kernel
theorem d_MO_heldIn_1 : decode b_MO_heldIn 1 = .ok (.lstore 4, 2) := by decide +kernel
theorem d_MO_heldIn_3 : decode b_MO_heldIn 3 = .ok (.iconst 0, 1) := by decide +kernel
theorem d_MO_heldIn_4 : decode b_MO_heldIn 4 = .ok (.istore 6, 2) := by decide +kernel
theorem d_MO_heldIn_6 : decode b_MO_heldIn 6 = .ok (.iload 6, 2) := by decide +kernel
theorem d_MO_heldIn_8 : decode b_MO_heldIn 8 = .ok (.aload_n 0, 1) := by decide +kernel
theorem d_MO_heldIn_9 : decode b_MO_heldIn 9 = .ok (.getfield 34, 3) := by decide +kernel
theorem d_MO_heldIn_12 : decode b_MO_heldIn 12 = .ok (.iload_n 1, 1) := by decide +kernel
theorem d_MO_heldIn_13 : decode b_MO_heldIn 13 = .ok (.iaload, 1) := by decide +kernel
theorem d_MO_heldIn_14 : decode b_MO_heldIn 14 = .ok (.if_icmp .ge 40, 3) := by decide +kernel
theorem d_MO_heldIn_17 : decode b_MO_heldIn 17 = .ok (.lload 4, 2) := by decide +kernel
theorem d_MO_heldIn_19 : decode b_MO_heldIn 19 = .ok (.aload_n 0, 1) := by decide +kernel
theorem d_MO_heldIn_20 : decode b_MO_heldIn 20 = .ok (.iload_n 1, 1) := by decide +kernel
theorem d_MO_heldIn_21 : decode b_MO_heldIn 21 = .ok (.iload 6, 2) := by decide +kernel
theorem d_MO_heldIn_23 : decode b_MO_heldIn 23 = .ok (.iload_n 2, 1) := by decide +kernel
theorem d_MO_heldIn_24 : decode b_MO_heldIn 24 = .ok (.invokevirtual 107, 3) := by decide +kernel
theorem d_MO_heldIn_27 : decode b_MO_heldIn 27 = .ok (.aload_n 0, 1) := by decide +kernel
theorem d_MO_heldIn_28 : decode b_MO_heldIn 28 = .ok (.getfield 40, 3) := by decide +kernel
theorem d_MO_heldIn_31 : decode b_MO_heldIn 31 = .ok (.iconst 4, 1) := by decide +kernel
theorem d_MO_heldIn_32 : decode b_MO_heldIn 32 = .ok (.bipush 20, 2) := by decide +kernel
theorem d_MO_heldIn_34 : decode b_MO_heldIn 34 = .ok (.iload_n 1, 1) := by decide +kernel
theorem d_MO_heldIn_35 : decode b_MO_heldIn 35 = .ok (.imul, 1) := by decide +kernel
theorem d_MO_heldIn_36 : decode b_MO_heldIn 36 = .ok (.iload 6, 2) := by decide +kernel
theorem d_MO_heldIn_38 : decode b_MO_heldIn 38 = .ok (.iadd, 1) := by decide +kernel
theorem d_MO_heldIn_39 : decode b_MO_heldIn 39 = .ok (.imul, 1) := by decide +kernel
theorem d_MO_heldIn_40 : decode b_MO_heldIn 40 = .ok (.iload_n 3, 1) := by decide +kernel
theorem d_MO_heldIn_41 : decode b_MO_heldIn 41 = .ok (.iadd, 1) := by decide +kernel
theorem d_MO_heldIn_42 : decode b_MO_heldIn 42 = .ok (.iaload, 1) := by decide +kernel
theorem d_MO_heldIn_43 : decode b_MO_heldIn 43 = .ok (.i2l, 1) := by decide +kernel
theorem d_MO_heldIn_44 : decode b_MO_heldIn 44 = .ok (.lmul, 1) := by decide +kernel
theorem d_MO_heldIn_45 : decode b_MO_heldIn 45 = .ok (.ladd, 1) := by decide +kernel
theorem d_MO_heldIn_46 : decode b_MO_heldIn 46 = .ok (.lstore 4, 2) := by decide +kernel
theorem d_MO_heldIn_48 : decode b_MO_heldIn 48 = .ok (.iinc 6 1, 3) := by decide +kernel
theorem d_MO_heldIn_51 : decode b_MO_heldIn 51 = .ok (.goto (-45), 3) := by decide +kernel
theorem d_MO_heldIn_54 : decode b_MO_heldIn 54 = .ok (.lload 4, 2) := by decide +kernel
theorem d_MO_heldIn_56 : decode b_MO_heldIn 56 = .ok (.lreturn, 1) := by decide +kernel
theorem d_MO_spreadBy_0 : decode b_MO_spreadBy 0 = .ok (.iconst 4, 1) := by decide +kernel
theorem d_MO_spreadBy_1 : decode b_MO_spreadBy 1 = .ok (.iload_n 1, 1) := by decide +kernel
theorem d_MO_spreadBy_2 : decode b_MO_spreadBy 2 = .ok (.imul, 1) := by decide +kernel
theorem d_MO_spreadBy_3 : decode b_MO_spreadBy 3 = .ok (.iload_n 2, 1) := by decide +kernel
theorem d_MO_spreadBy_4 : decode b_MO_spreadBy 4 = .ok (.iadd, 1) := by decide +kernel
theorem d_MO_spreadBy_5 : decode b_MO_spreadBy 5 = .ok (.istore 7, 2) := by decide +kernel
theorem d_MO_spreadBy_7 : decode b_MO_spreadBy 7 = .ok (.lload_n 3, 1) := by decide +kernel
theorem d_MO_spreadBy_8 : decode b_MO_spreadBy 8 = .ok (.lload 5, 2) := by decide +kernel
theorem d_MO_spreadBy_10 : decode b_MO_spreadBy 10 = .ok (.iconst 0, 1) := by decide +kernel
theorem d_MO_spreadBy_11 : decode b_MO_spreadBy 11 = .ok (.invokestatic 111, 3) := by decide +kernel
theorem d_MO_spreadBy_14 : decode b_MO_spreadBy 14 = .ok (.lstore 8, 2) := by decide +kernel
theorem d_MO_spreadBy_16 : decode b_MO_spreadBy 16 = .ok (.lload_n 3, 1) := by decide +kernel
theorem d_MO_spreadBy_17 : decode b_MO_spreadBy 17 = .ok (.lload 5, 2) := by decide +kernel
theorem d_MO_spreadBy_19 : decode b_MO_spreadBy 19 = .ok (.iconst 1, 1) := by decide +kernel
theorem d_MO_spreadBy_20 : decode b_MO_spreadBy 20 = .ok (.invokestatic 111, 3) := by decide +kernel
theorem d_MO_spreadBy_23 : decode b_MO_spreadBy 23 = .ok (.lstore 10, 2) := by decide +kernel
theorem d_MO_spreadBy_25 : decode b_MO_spreadBy 25 = .ok (.aload_n 0, 1) := by decide +kernel
theorem d_MO_spreadBy_26 : decode b_MO_spreadBy 26 = .ok (.getfield 47, 3) := by decide +kernel
theorem d_MO_spreadBy_29 : decode b_MO_spreadBy 29 = .ok (.iload 7, 2) := by decide +kernel
theorem d_MO_spreadBy_31 : decode b_MO_spreadBy 31 = .ok (.laload, 1) := by decide +kernel
theorem d_MO_spreadBy_32 : decode b_MO_spreadBy 32 = .ok (.lconst 0, 1) := by decide +kernel
theorem d_MO_spreadBy_33 : decode b_MO_spreadBy 33 = .ok (.lcmp, 1) := by decide +kernel
theorem d_MO_spreadBy_34 : decode b_MO_spreadBy 34 = .ok (.ifCond .eq 27, 3) := by decide +kernel
theorem d_MO_spreadBy_37 : decode b_MO_spreadBy 37 = .ok (.lload 8, 2) := by decide +kernel
theorem d_MO_spreadBy_39 : decode b_MO_spreadBy 39 = .ok (.aload_n 0, 1) := by decide +kernel
theorem d_MO_spreadBy_40 : decode b_MO_spreadBy 40 = .ok (.getfield 47, 3) := by decide +kernel
theorem d_MO_spreadBy_43 : decode b_MO_spreadBy 43 = .ok (.iload 7, 2) := by decide +kernel
theorem d_MO_spreadBy_45 : decode b_MO_spreadBy 45 = .ok (.laload, 1) := by decide +kernel
theorem d_MO_spreadBy_46 : decode b_MO_spreadBy 46 = .ok (.lmul, 1) := by decide +kernel
theorem d_MO_spreadBy_47 : decode b_MO_spreadBy 47 = .ok (.aload_n 0, 1) := by decide +kernel
theorem d_MO_spreadBy_48 : decode b_MO_spreadBy 48 = .ok (.getfield 43, 3) := by decide +kernel
theorem d_MO_spreadBy_51 : decode b_MO_spreadBy 51 = .ok (.iload 7, 2) := by decide +kernel
theorem d_MO_spreadBy_53 : decode b_MO_spreadBy 53 = .ok (.laload, 1) := by decide +kernel
theorem d_MO_spreadBy_54 : decode b_MO_spreadBy 54 = .ok (.lload 10, 2) := by decide +kernel
theorem d_MO_spreadBy_56 : decode b_MO_spreadBy 56 = .ok (.lmul, 1) := by decide +kernel
theorem d_MO_spreadBy_57 : decode b_MO_spreadBy 57 = .ok (.lcmp, 1) := by decide +kernel
theorem d_MO_spreadBy_58 : decode b_MO_spreadBy 58 = .ok (.ifCond .le 21, 3) := by decide +kernel
theorem d_MO_spreadBy_61 : decode b_MO_spreadBy 61 = .ok (.aload_n 0, 1) := by decide +kernel
theorem d_MO_spreadBy_62 : decode b_MO_spreadBy 62 = .ok (.getfield 43, 3) := by decide +kernel
theorem d_MO_spreadBy_65 : decode b_MO_spreadBy 65 = .ok (.iload 7, 2) := by decide +kernel
theorem d_MO_spreadBy_67 : decode b_MO_spreadBy 67 = .ok (.lload 8, 2) := by decide +kernel
theorem d_MO_spreadBy_69 : decode b_MO_spreadBy 69 = .ok (.lastore, 1) := by decide +kernel
theorem d_MO_spreadBy_70 : decode b_MO_spreadBy 70 = .ok (.aload_n 0, 1) := by decide +kernel
theorem d_MO_spreadBy_71 : decode b_MO_spreadBy 71 = .ok (.getfield 47, 3) := by decide +kernel
theorem d_MO_spreadBy_74 : decode b_MO_spreadBy 74 = .ok (.iload 7, 2) := by decide +kernel
theorem d_MO_spreadBy_76 : decode b_MO_spreadBy 76 = .ok (.lload 10, 2) := by decide +kernel
theorem d_MO_spreadBy_78 : decode b_MO_spreadBy 78 = .ok (.lastore, 1) := by decide +kernel
theorem d_MO_spreadBy_79 : decode b_MO_spreadBy 79 = .ok (.aload_n 0, 1) := by decide +kernel
theorem d_MO_spreadBy_80 : decode b_MO_spreadBy 80 = .ok (.getfield 53, 3) := by decide +kernel
theorem d_MO_spreadBy_83 : decode b_MO_spreadBy 83 = .ok (.iload 7, 2) := by decide +kernel
theorem d_MO_spreadBy_85 : decode b_MO_spreadBy 85 = .ok (.laload, 1) := by decide +kernel
theorem d_MO_spreadBy_86 : decode b_MO_spreadBy 86 = .ok (.lconst 0, 1) := by decide +kernel
theorem d_MO_spreadBy_87 : decode b_MO_spreadBy 87 = .ok (.lcmp, 1) := by decide +kernel
theorem d_MO_spreadBy_88 : decode b_MO_spreadBy 88 = .ok (.ifCond .eq 27, 3) := by decide +kernel
theorem d_MO_spreadBy_91 : decode b_MO_spreadBy 91 = .ok (.lload 8, 2) := by decide +kernel
theorem d_MO_spreadBy_93 : decode b_MO_spreadBy 93 = .ok (.aload_n 0, 1) := by decide +kernel
theorem d_MO_spreadBy_94 : decode b_MO_spreadBy 94 = .ok (.getfield 53, 3) := by decide +kernel
theorem d_MO_spreadBy_97 : decode b_MO_spreadBy 97 = .ok (.iload 7, 2) := by decide +kernel
theorem d_MO_spreadBy_99 : decode b_MO_spreadBy 99 = .ok (.laload, 1) := by decide +kernel
theorem d_MO_spreadBy_100 : decode b_MO_spreadBy 100 = .ok (.lmul, 1) := by decide +kernel
theorem d_MO_spreadBy_101 : decode b_MO_spreadBy 101 = .ok (.aload_n 0, 1) := by decide +kernel
theorem d_MO_spreadBy_102 : decode b_MO_spreadBy 102 = .ok (.getfield 50, 3) := by decide +kernel
theorem d_MO_spreadBy_105 : decode b_MO_spreadBy 105 = .ok (.iload 7, 2) := by decide +kernel
theorem d_MO_spreadBy_107 : decode b_MO_spreadBy 107 = .ok (.laload, 1) := by decide +kernel
theorem d_MO_spreadBy_108 : decode b_MO_spreadBy 108 = .ok (.lload 10, 2) := by decide +kernel
theorem d_MO_spreadBy_110 : decode b_MO_spreadBy 110 = .ok (.lmul, 1) := by decide +kernel
theorem d_MO_spreadBy_111 : decode b_MO_spreadBy 111 = .ok (.lcmp, 1) := by decide +kernel
theorem d_MO_spreadBy_112 : decode b_MO_spreadBy 112 = .ok (.ifCond .ge 21, 3) := by decide +kernel
theorem d_MO_spreadBy_115 : decode b_MO_spreadBy 115 = .ok (.aload_n 0, 1) := by decide +kernel
theorem d_MO_spreadBy_116 : decode b_MO_spreadBy 116 = .ok (.getfield 50, 3) := by decide +kernel
theorem d_MO_spreadBy_119 : decode b_MO_spreadBy 119 = .ok (.iload 7, 2) := by decide +kernel
theorem d_MO_spreadBy_121 : decode b_MO_spreadBy 121 = .ok (.lload 8, 2) := by decide +kernel
theorem d_MO_spreadBy_123 : decode b_MO_spreadBy 123 = .ok (.lastore, 1) := by decide +kernel
theorem d_MO_spreadBy_124 : decode b_MO_spreadBy 124 = .ok (.aload_n 0, 1) := by decide +kernel
theorem d_MO_spreadBy_125 : decode b_MO_spreadBy 125 = .ok (.getfield 53, 3) := by decide +kernel
theorem d_MO_spreadBy_128 : decode b_MO_spreadBy 128 = .ok (.iload 7, 2) := by decide +kernel
theorem d_MO_spreadBy_130 : decode b_MO_spreadBy 130 = .ok (.lload 10, 2) := by decide +kernel
theorem d_MO_spreadBy_132 : decode b_MO_spreadBy 132 = .ok (.lastore, 1) := by decide +kernel
theorem d_MO_spreadBy_133 : decode b_MO_spreadBy 133 = .ok (.return_, 1) := by decide +kernel
theorem d_MO_slice_0 : decode b_MO_slice 0 = .ok (.aload_n 0, 1) := by decide +kernel
theorem d_MO_slice_1 : decode b_MO_slice 1 = .ok (.iload_n 1, 1) := by decide +kernel
theorem d_MO_slice_2 : decode b_MO_slice 2 = .ok (.invokevirtual 97, 3) := by decide +kernel
theorem d_MO_slice_5 : decode b_MO_slice 5 = .ok (.ifCond .ne 7, 3) := by decide +kernel
theorem d_MO_slice_8 : decode b_MO_slice 8 = .ok (.iconst 1, 1) := by decide +kernel
theorem d_MO_slice_9 : decode b_MO_slice 9 = .ok (.goto 4, 3) := by decide +kernel
theorem d_MO_slice_12 : decode b_MO_slice 12 = .ok (.iconst 0, 1) := by decide +kernel
theorem d_MO_slice_13 : decode b_MO_slice 13 = .ok (.istore_n 2, 1) := by decide +kernel
theorem d_MO_slice_14 : decode b_MO_slice 14 = .ok (.iload_n 2, 1) := by decide +kernel
theorem d_MO_slice_15 : decode b_MO_slice 15 = .ok (.ifCond .ne 55, 3) := by decide +kernel
theorem d_MO_slice_18 : decode b_MO_slice 18 = .ok (.aload_n 0, 1) := by decide +kernel
theorem d_MO_slice_19 : decode b_MO_slice 19 = .ok (.getfield 34, 3) := by decide +kernel
theorem d_MO_slice_22 : decode b_MO_slice 22 = .ok (.iload_n 2, 1) := by decide +kernel
theorem d_MO_slice_23 : decode b_MO_slice 23 = .ok (.ifCond .eq 7, 3) := by decide +kernel
theorem d_MO_slice_26 : decode b_MO_slice 26 = .ok (.iconst 0, 1) := by decide +kernel
theorem d_MO_slice_27 : decode b_MO_slice 27 = .ok (.goto 4, 3) := by decide +kernel
theorem d_MO_slice_30 : decode b_MO_slice 30 = .ok (.iload_n 1, 1) := by decide +kernel
theorem d_MO_slice_31 : decode b_MO_slice 31 = .ok (.iaload, 1) := by decide +kernel
theorem d_MO_slice_32 : decode b_MO_slice 32 = .ok (.ifCond .eq 34, 3) := by decide +kernel
theorem d_MO_slice_35 : decode b_MO_slice 35 = .ok (.aload_n 0, 1) := by decide +kernel
theorem d_MO_slice_36 : decode b_MO_slice 36 = .ok (.getfield 31, 3) := by decide +kernel
theorem d_MO_slice_39 : decode b_MO_slice 39 = .ok (.iload_n 2, 1) := by decide +kernel
theorem d_MO_slice_40 : decode b_MO_slice 40 = .ok (.ifCond .eq 7, 3) := by decide +kernel
theorem d_MO_slice_43 : decode b_MO_slice 43 = .ok (.iconst 0, 1) := by decide +kernel
theorem d_MO_slice_44 : decode b_MO_slice 44 = .ok (.goto 4, 3) := by decide +kernel
theorem d_MO_slice_47 : decode b_MO_slice 47 = .ok (.iload_n 1, 1) := by decide +kernel
theorem d_MO_slice_48 : decode b_MO_slice 48 = .ok (.iaload, 1) := by decide +kernel
theorem d_MO_slice_49 : decode b_MO_slice 49 = .ok (.aload_n 0, 1) := by decide +kernel
theorem d_MO_slice_50 : decode b_MO_slice 50 = .ok (.getfield 28, 3) := by decide +kernel
theorem d_MO_slice_53 : decode b_MO_slice 53 = .ok (.iload_n 2, 1) := by decide +kernel
theorem d_MO_slice_54 : decode b_MO_slice 54 = .ok (.ifCond .eq 7, 3) := by decide +kernel
theorem d_MO_slice_57 : decode b_MO_slice 57 = .ok (.iconst 0, 1) := by decide +kernel
theorem d_MO_slice_58 : decode b_MO_slice 58 = .ok (.goto 4, 3) := by decide +kernel
theorem d_MO_slice_61 : decode b_MO_slice 61 = .ok (.iload_n 1, 1) := by decide +kernel
theorem d_MO_slice_62 : decode b_MO_slice 62 = .ok (.iaload, 1) := by decide +kernel
theorem d_MO_slice_63 : decode b_MO_slice 63 = .ok (.if_icmp .ne 7, 3) := by decide +kernel
theorem d_MO_slice_66 : decode b_MO_slice 66 = .ok (.iconst 1, 1) := by decide +kernel
theorem d_MO_slice_67 : decode b_MO_slice 67 = .ok (.goto 4, 3) := by decide +kernel
theorem d_MO_slice_70 : decode b_MO_slice 70 = .ok (.iconst 0, 1) := by decide +kernel
theorem d_MO_slice_71 : decode b_MO_slice 71 = .ok (.istore_n 3, 1) := by decide +kernel
theorem d_MO_slice_72 : decode b_MO_slice 72 = .ok (.aload_n 0, 1) := by decide +kernel
theorem d_MO_slice_73 : decode b_MO_slice 73 = .ok (.iload_n 2, 1) := by decide +kernel
theorem d_MO_slice_74 : decode b_MO_slice 74 = .ok (.iload_n 3, 1) := by decide +kernel
theorem d_MO_slice_75 : decode b_MO_slice 75 = .ok (.iconst 0, 1) := by decide +kernel
theorem d_MO_slice_76 : decode b_MO_slice 76 = .ok (.iconst 0, 1) := by decide +kernel
theorem d_MO_slice_77 : decode b_MO_slice 77 = .ok (.invokevirtual 79, 3) := by decide +kernel
theorem d_MO_slice_80 : decode b_MO_slice 80 = .ok (.ifCond .eq 5, 3) := by decide +kernel
theorem d_MO_slice_83 : decode b_MO_slice 83 = .ok (.iconst 0, 1) := by decide +kernel
theorem d_MO_slice_84 : decode b_MO_slice 84 = .ok (.ireturn, 1) := by decide +kernel
theorem d_MO_slice_85 : decode b_MO_slice 85 = .ok (.aload_n 0, 1) := by decide +kernel
theorem d_MO_slice_86 : decode b_MO_slice 86 = .ok (.iload_n 1, 1) := by decide +kernel
theorem d_MO_slice_87 : decode b_MO_slice 87 = .ok (.aload_n 0, 1) := by decide +kernel
theorem d_MO_slice_88 : decode b_MO_slice 88 = .ok (.getfield 31, 3) := by decide +kernel
theorem d_MO_slice_91 : decode b_MO_slice 91 = .ok (.iload_n 1, 1) := by decide +kernel
theorem d_MO_slice_92 : decode b_MO_slice 92 = .ok (.iaload, 1) := by decide +kernel
theorem d_MO_slice_93 : decode b_MO_slice 93 = .ok (.invokevirtual 115, 3) := by decide +kernel
theorem d_MO_slice_96 : decode b_MO_slice 96 = .ok (.lstore 4, 2) := by decide +kernel
theorem d_MO_slice_98 : decode b_MO_slice 98 = .ok (.iconst 0, 1) := by decide +kernel
theorem d_MO_slice_99 : decode b_MO_slice 99 = .ok (.istore 6, 2) := by decide +kernel
theorem d_MO_slice_101 : decode b_MO_slice 101 = .ok (.iload 6, 2) := by decide +kernel
theorem d_MO_slice_103 : decode b_MO_slice 103 = .ok (.iconst 4, 1) := by decide +kernel
theorem d_MO_slice_104 : decode b_MO_slice 104 = .ok (.if_icmp .ge 38, 3) := by decide +kernel
theorem d_MO_slice_107 : decode b_MO_slice 107 = .ok (.lload 4, 2) := by decide +kernel
theorem d_MO_slice_109 : decode b_MO_slice 109 = .ok (.lconst 0, 1) := by decide +kernel
theorem d_MO_slice_110 : decode b_MO_slice 110 = .ok (.lcmp, 1) := by decide +kernel
theorem d_MO_slice_111 : decode b_MO_slice 111 = .ok (.ifCond .le 25, 3) := by decide +kernel
theorem d_MO_slice_114 : decode b_MO_slice 114 = .ok (.aload_n 0, 1) := by decide +kernel
theorem d_MO_slice_115 : decode b_MO_slice 115 = .ok (.iload_n 1, 1) := by decide +kernel
theorem d_MO_slice_116 : decode b_MO_slice 116 = .ok (.iload 6, 2) := by decide +kernel
theorem d_MO_slice_118 : decode b_MO_slice 118 = .ok (.aload_n 0, 1) := by decide +kernel
theorem d_MO_slice_119 : decode b_MO_slice 119 = .ok (.iload_n 1, 1) := by decide +kernel
theorem d_MO_slice_120 : decode b_MO_slice 120 = .ok (.aload_n 0, 1) := by decide +kernel
theorem d_MO_slice_121 : decode b_MO_slice 121 = .ok (.getfield 31, 3) := by decide +kernel
theorem d_MO_slice_124 : decode b_MO_slice 124 = .ok (.iload_n 1, 1) := by decide +kernel
theorem d_MO_slice_125 : decode b_MO_slice 125 = .ok (.iaload, 1) := by decide +kernel
theorem d_MO_slice_126 : decode b_MO_slice 126 = .ok (.iload 6, 2) := by decide +kernel
theorem d_MO_slice_128 : decode b_MO_slice 128 = .ok (.invokevirtual 119, 3) := by decide +kernel
theorem d_MO_slice_131 : decode b_MO_slice 131 = .ok (.lload 4, 2) := by decide +kernel
theorem d_MO_slice_133 : decode b_MO_slice 133 = .ok (.invokevirtual 122, 3) := by decide +kernel
theorem d_MO_slice_136 : decode b_MO_slice 136 = .ok (.iinc 6 1, 3) := by decide +kernel
theorem d_MO_slice_139 : decode b_MO_slice 139 = .ok (.goto (-38), 3) := by decide +kernel
theorem d_MO_slice_142 : decode b_MO_slice 142 = .ok (.aload_n 0, 1) := by decide +kernel
theorem d_MO_slice_143 : decode b_MO_slice 143 = .ok (.getfield 31, 3) := by decide +kernel
theorem d_MO_slice_146 : decode b_MO_slice 146 = .ok (.iload_n 1, 1) := by decide +kernel
theorem d_MO_slice_147 : decode b_MO_slice 147 = .ok (.dup2, 1) := by decide +kernel
theorem d_MO_slice_148 : decode b_MO_slice 148 = .ok (.iaload, 1) := by decide +kernel
theorem d_MO_slice_149 : decode b_MO_slice 149 = .ok (.iconst 1, 1) := by decide +kernel
theorem d_MO_slice_150 : decode b_MO_slice 150 = .ok (.iadd, 1) := by decide +kernel
theorem d_MO_slice_151 : decode b_MO_slice 151 = .ok (.iastore, 1) := by decide +kernel
theorem d_MO_slice_152 : decode b_MO_slice 152 = .ok (.lload 4, 2) := by decide +kernel
theorem d_MO_slice_154 : decode b_MO_slice 154 = .ok (.l2i, 1) := by decide +kernel
theorem d_MO_slice_155 : decode b_MO_slice 155 = .ok (.ireturn, 1) := by decide +kernel
theorem d_MO_isUntaken_0 : decode b_MO_isUntaken 0 = .ok (.aload_n 0, 1) := by decide +kernel
theorem d_MO_isUntaken_1 : decode b_MO_isUntaken 1 = .ok (.iload_n 1, 1) := by decide +kernel
theorem d_MO_isUntaken_2 : decode b_MO_isUntaken 2 = .ok (.invokevirtual 97, 3) := by decide +kernel
theorem d_MO_isUntaken_5 : decode b_MO_isUntaken 5 = .ok (.ifCond .eq 16, 3) := by decide +kernel
theorem d_MO_isUntaken_8 : decode b_MO_isUntaken 8 = .ok (.aload_n 0, 1) := by decide +kernel
theorem d_MO_isUntaken_9 : decode b_MO_isUntaken 9 = .ok (.getfield 31, 3) := by decide +kernel
theorem d_MO_isUntaken_12 : decode b_MO_isUntaken 12 = .ok (.iload_n 1, 1) := by decide +kernel
theorem d_MO_isUntaken_13 : decode b_MO_isUntaken 13 = .ok (.iaload, 1) := by decide +kernel
theorem d_MO_isUntaken_14 : decode b_MO_isUntaken 14 = .ok (.ifCond .ne 7, 3) := by decide +kernel
theorem d_MO_isUntaken_17 : decode b_MO_isUntaken 17 = .ok (.iconst 1, 1) := by decide +kernel
theorem d_MO_isUntaken_18 : decode b_MO_isUntaken 18 = .ok (.goto 4, 3) := by decide +kernel
theorem d_MO_isUntaken_21 : decode b_MO_isUntaken 21 = .ok (.iconst 0, 1) := by decide +kernel
theorem d_MO_isUntaken_22 : decode b_MO_isUntaken 22 = .ok (.ireturn, 1) := by decide +kernel
theorem d_MO_share_0 : decode b_MO_share 0 = .ok (.aload_n 0, 1) := by decide +kernel
theorem d_MO_share_1 : decode b_MO_share 1 = .ok (.iload_n 1, 1) := by decide +kernel
theorem d_MO_share_2 : decode b_MO_share 2 = .ok (.invokevirtual 97, 3) := by decide +kernel
theorem d_MO_share_5 : decode b_MO_share 5 = .ok (.ifCond .eq 17, 3) := by decide +kernel
theorem d_MO_share_8 : decode b_MO_share 8 = .ok (.iload_n 2, 1) := by decide +kernel
theorem d_MO_share_9 : decode b_MO_share 9 = .ok (.invokestatic 83, 3) := by decide +kernel
theorem d_MO_share_12 : decode b_MO_share 12 = .ok (.ifCond .eq 10, 3) := by decide +kernel
theorem d_MO_share_15 : decode b_MO_share 15 = .ok (.iload_n 3, 1) := by decide +kernel
theorem d_MO_share_16 : decode b_MO_share 16 = .ok (.invokestatic 126, 3) := by decide +kernel
theorem d_MO_share_19 : decode b_MO_share 19 = .ok (.ifCond .ne 7, 3) := by decide +kernel
theorem d_MO_share_22 : decode b_MO_share 22 = .ok (.iconst 1, 1) := by decide +kernel
theorem d_MO_share_23 : decode b_MO_share 23 = .ok (.goto 4, 3) := by decide +kernel
theorem d_MO_share_26 : decode b_MO_share 26 = .ok (.iconst 0, 1) := by decide +kernel
theorem d_MO_share_27 : decode b_MO_share 27 = .ok (.istore 4, 2) := by decide +kernel
theorem d_MO_share_29 : decode b_MO_share 29 = .ok (.iload 4, 2) := by decide +kernel
theorem d_MO_share_31 : decode b_MO_share 31 = .ok (.ifCond .ne 15, 3) := by decide +kernel
theorem d_MO_share_34 : decode b_MO_share 34 = .ok (.aload_n 0, 1) := by decide +kernel
theorem d_MO_share_35 : decode b_MO_share 35 = .ok (.iload_n 1, 1) := by decide +kernel
theorem d_MO_share_36 : decode b_MO_share 36 = .ok (.invokevirtual 129, 3) := by decide +kernel
theorem d_MO_share_39 : decode b_MO_share 39 = .ok (.ifCond .eq 7, 3) := by decide +kernel
theorem d_MO_share_42 : decode b_MO_share 42 = .ok (.iconst 1, 1) := by decide +kernel
theorem d_MO_share_43 : decode b_MO_share 43 = .ok (.goto 4, 3) := by decide +kernel
theorem d_MO_share_46 : decode b_MO_share 46 = .ok (.iconst 0, 1) := by decide +kernel
theorem d_MO_share_47 : decode b_MO_share 47 = .ok (.istore 5, 2) := by decide +kernel
theorem d_MO_share_49 : decode b_MO_share 49 = .ok (.iload 4, 2) := by decide +kernel
theorem d_MO_share_51 : decode b_MO_share 51 = .ok (.ifCond .ne 8, 3) := by decide +kernel
theorem d_MO_share_54 : decode b_MO_share 54 = .ok (.iload 5, 2) := by decide +kernel
theorem d_MO_share_56 : decode b_MO_share 56 = .ok (.ifCond .eq 7, 3) := by decide +kernel
theorem d_MO_share_59 : decode b_MO_share 59 = .ok (.lconst 1, 1) := by decide +kernel
theorem d_MO_share_60 : decode b_MO_share 60 = .ok (.goto 16, 3) := by decide +kernel
theorem d_MO_share_63 : decode b_MO_share 63 = .ok (.aload_n 0, 1) := by decide +kernel
theorem d_MO_share_64 : decode b_MO_share 64 = .ok (.iload_n 1, 1) := by decide +kernel
theorem d_MO_share_65 : decode b_MO_share 65 = .ok (.aload_n 0, 1) := by decide +kernel
theorem d_MO_share_66 : decode b_MO_share 66 = .ok (.getfield 31, 3) := by decide +kernel
theorem d_MO_share_69 : decode b_MO_share 69 = .ok (.iload_n 1, 1) := by decide +kernel
theorem d_MO_share_70 : decode b_MO_share 70 = .ok (.iaload, 1) := by decide +kernel
theorem d_MO_share_71 : decode b_MO_share 71 = .ok (.iconst 1, 1) := by decide +kernel
theorem d_MO_share_72 : decode b_MO_share 72 = .ok (.isub, 1) := by decide +kernel
theorem d_MO_share_73 : decode b_MO_share 73 = .ok (.invokevirtual 115, 3) := by decide +kernel
theorem d_MO_share_76 : decode b_MO_share 76 = .ok (.lstore 6, 2) := by decide +kernel
theorem d_MO_share_78 : decode b_MO_share 78 = .ok (.aload_n 0, 1) := by decide +kernel
theorem d_MO_share_79 : decode b_MO_share 79 = .ok (.iload 4, 2) := by decide +kernel
theorem d_MO_share_81 : decode b_MO_share 81 = .ok (.iload 5, 2) := by decide +kernel
theorem d_MO_share_83 : decode b_MO_share 83 = .ok (.lload 6, 2) := by decide +kernel
theorem d_MO_share_85 : decode b_MO_share 85 = .ok (.lconst 0, 1) := by decide +kernel
theorem d_MO_share_86 : decode b_MO_share 86 = .ok (.lcmp, 1) := by decide +kernel
theorem d_MO_share_87 : decode b_MO_share 87 = .ok (.ifCond .ne 7, 3) := by decide +kernel
theorem d_MO_share_90 : decode b_MO_share 90 = .ok (.iconst 1, 1) := by decide +kernel
theorem d_MO_share_91 : decode b_MO_share 91 = .ok (.goto 4, 3) := by decide +kernel
theorem d_MO_share_94 : decode b_MO_share 94 = .ok (.iconst 0, 1) := by decide +kernel
theorem d_MO_share_95 : decode b_MO_share 95 = .ok (.iconst 0, 1) := by decide +kernel
theorem d_MO_share_96 : decode b_MO_share 96 = .ok (.invokevirtual 79, 3) := by decide +kernel
theorem d_MO_share_99 : decode b_MO_share 99 = .ok (.ifCond .eq 5, 3) := by decide +kernel
theorem d_MO_share_102 : decode b_MO_share 102 = .ok (.lconst 0, 1) := by decide +kernel
theorem d_MO_share_103 : decode b_MO_share 103 = .ok (.lreturn, 1) := by decide +kernel
theorem d_MO_share_104 : decode b_MO_share 104 = .ok (.aload_n 0, 1) := by decide +kernel
theorem d_MO_share_105 : decode b_MO_share 105 = .ok (.iload_n 1, 1) := by decide +kernel
theorem d_MO_share_106 : decode b_MO_share 106 = .ok (.aload_n 0, 1) := by decide +kernel
theorem d_MO_share_107 : decode b_MO_share 107 = .ok (.getfield 31, 3) := by decide +kernel
theorem d_MO_share_110 : decode b_MO_share 110 = .ok (.iload_n 1, 1) := by decide +kernel
theorem d_MO_share_111 : decode b_MO_share 111 = .ok (.iaload, 1) := by decide +kernel
theorem d_MO_share_112 : decode b_MO_share 112 = .ok (.iconst 1, 1) := by decide +kernel
theorem d_MO_share_113 : decode b_MO_share 113 = .ok (.isub, 1) := by decide +kernel
theorem d_MO_share_114 : decode b_MO_share 114 = .ok (.iload_n 2, 1) := by decide +kernel
theorem d_MO_share_115 : decode b_MO_share 115 = .ok (.invokevirtual 119, 3) := by decide +kernel
theorem d_MO_share_118 : decode b_MO_share 118 = .ok (.lload 6, 2) := by decide +kernel
theorem d_MO_share_120 : decode b_MO_share 120 = .ok (.iload_n 3, 1) := by decide +kernel
theorem d_MO_share_121 : decode b_MO_share 121 = .ok (.invokestatic 111, 3) := by decide +kernel
theorem d_MO_share_124 : decode b_MO_share 124 = .ok (.lreturn, 1) := by decide +kernel
theorem d_MO_basicity_0 : decode b_MO_basicity 0 = .ok (.aload_n 0, 1) := by decide +kernel
theorem d_MO_basicity_1 : decode b_MO_basicity 1 = .ok (.iload_n 1, 1) := by decide +kernel
theorem d_MO_basicity_2 : decode b_MO_basicity 2 = .ok (.invokevirtual 97, 3) := by decide +kernel
theorem d_MO_basicity_5 : decode b_MO_basicity 5 = .ok (.ifCond .eq 10, 3) := by decide +kernel
theorem d_MO_basicity_8 : decode b_MO_basicity 8 = .ok (.iload_n 2, 1) := by decide +kernel
theorem d_MO_basicity_9 : decode b_MO_basicity 9 = .ok (.invokestatic 126, 3) := by decide +kernel
theorem d_MO_basicity_12 : decode b_MO_basicity 12 = .ok (.ifCond .ne 7, 3) := by decide +kernel
theorem d_MO_basicity_15 : decode b_MO_basicity 15 = .ok (.iconst 1, 1) := by decide +kernel
theorem d_MO_basicity_16 : decode b_MO_basicity 16 = .ok (.goto 4, 3) := by decide +kernel
theorem d_MO_basicity_19 : decode b_MO_basicity 19 = .ok (.iconst 0, 1) := by decide +kernel
theorem d_MO_basicity_20 : decode b_MO_basicity 20 = .ok (.istore_n 3, 1) := by decide +kernel
theorem d_MO_basicity_21 : decode b_MO_basicity 21 = .ok (.iload_n 3, 1) := by decide +kernel
theorem d_MO_basicity_22 : decode b_MO_basicity 22 = .ok (.ifCond .ne 15, 3) := by decide +kernel
theorem d_MO_basicity_25 : decode b_MO_basicity 25 = .ok (.aload_n 0, 1) := by decide +kernel
theorem d_MO_basicity_26 : decode b_MO_basicity 26 = .ok (.iload_n 1, 1) := by decide +kernel
theorem d_MO_basicity_27 : decode b_MO_basicity 27 = .ok (.invokevirtual 129, 3) := by decide +kernel
theorem d_MO_basicity_30 : decode b_MO_basicity 30 = .ok (.ifCond .eq 7, 3) := by decide +kernel
theorem d_MO_basicity_33 : decode b_MO_basicity 33 = .ok (.iconst 1, 1) := by decide +kernel
theorem d_MO_basicity_34 : decode b_MO_basicity 34 = .ok (.goto 4, 3) := by decide +kernel
theorem d_MO_basicity_37 : decode b_MO_basicity 37 = .ok (.iconst 0, 1) := by decide +kernel
theorem d_MO_basicity_38 : decode b_MO_basicity 38 = .ok (.istore 4, 2) := by decide +kernel
theorem d_MO_basicity_40 : decode b_MO_basicity 40 = .ok (.iload_n 3, 1) := by decide +kernel
theorem d_MO_basicity_41 : decode b_MO_basicity 41 = .ok (.ifCond .ne 8, 3) := by decide +kernel
theorem d_MO_basicity_44 : decode b_MO_basicity 44 = .ok (.iload 4, 2) := by decide +kernel
theorem d_MO_basicity_46 : decode b_MO_basicity 46 = .ok (.ifCond .eq 7, 3) := by decide +kernel
theorem d_MO_basicity_49 : decode b_MO_basicity 49 = .ok (.lconst 1, 1) := by decide +kernel
theorem d_MO_basicity_50 : decode b_MO_basicity 50 = .ok (.goto 17, 3) := by decide +kernel
theorem d_MO_basicity_53 : decode b_MO_basicity 53 = .ok (.aload_n 0, 1) := by decide +kernel
theorem d_MO_basicity_54 : decode b_MO_basicity 54 = .ok (.iload_n 1, 1) := by decide +kernel
theorem d_MO_basicity_55 : decode b_MO_basicity 55 = .ok (.aload_n 0, 1) := by decide +kernel
theorem d_MO_basicity_56 : decode b_MO_basicity 56 = .ok (.getfield 31, 3) := by decide +kernel
theorem d_MO_basicity_59 : decode b_MO_basicity 59 = .ok (.iload_n 1, 1) := by decide +kernel
theorem d_MO_basicity_60 : decode b_MO_basicity 60 = .ok (.iaload, 1) := by decide +kernel
theorem d_MO_basicity_61 : decode b_MO_basicity 61 = .ok (.iconst 1, 1) := by decide +kernel
theorem d_MO_basicity_62 : decode b_MO_basicity 62 = .ok (.isub, 1) := by decide +kernel
theorem d_MO_basicity_63 : decode b_MO_basicity 63 = .ok (.iconst 1, 1) := by decide +kernel
theorem d_MO_basicity_64 : decode b_MO_basicity 64 = .ok (.invokevirtual 119, 3) := by decide +kernel
theorem d_MO_basicity_67 : decode b_MO_basicity 67 = .ok (.lstore 5, 2) := by decide +kernel
theorem d_MO_basicity_69 : decode b_MO_basicity 69 = .ok (.aload_n 0, 1) := by decide +kernel
theorem d_MO_basicity_70 : decode b_MO_basicity 70 = .ok (.iload_n 3, 1) := by decide +kernel
theorem d_MO_basicity_71 : decode b_MO_basicity 71 = .ok (.iload 4, 2) := by decide +kernel
theorem d_MO_basicity_73 : decode b_MO_basicity 73 = .ok (.lload 5, 2) := by decide +kernel
theorem d_MO_basicity_75 : decode b_MO_basicity 75 = .ok (.lconst 0, 1) := by decide +kernel
theorem d_MO_basicity_76 : decode b_MO_basicity 76 = .ok (.lcmp, 1) := by decide +kernel
theorem d_MO_basicity_77 : decode b_MO_basicity 77 = .ok (.ifCond .ne 7, 3) := by decide +kernel
theorem d_MO_basicity_80 : decode b_MO_basicity 80 = .ok (.iconst 1, 1) := by decide +kernel
theorem d_MO_basicity_81 : decode b_MO_basicity 81 = .ok (.goto 4, 3) := by decide +kernel
theorem d_MO_basicity_84 : decode b_MO_basicity 84 = .ok (.iconst 0, 1) := by decide +kernel
theorem d_MO_basicity_85 : decode b_MO_basicity 85 = .ok (.iconst 0, 1) := by decide +kernel
theorem d_MO_basicity_86 : decode b_MO_basicity 86 = .ok (.invokevirtual 79, 3) := by decide +kernel
theorem d_MO_basicity_89 : decode b_MO_basicity 89 = .ok (.ifCond .eq 5, 3) := by decide +kernel
theorem d_MO_basicity_92 : decode b_MO_basicity 92 = .ok (.lconst 0, 1) := by decide +kernel
theorem d_MO_basicity_93 : decode b_MO_basicity 93 = .ok (.lreturn, 1) := by decide +kernel
theorem d_MO_basicity_94 : decode b_MO_basicity 94 = .ok (.aload_n 0, 1) := by decide +kernel
theorem d_MO_basicity_95 : decode b_MO_basicity 95 = .ok (.iload_n 1, 1) := by decide +kernel
theorem d_MO_basicity_96 : decode b_MO_basicity 96 = .ok (.aload_n 0, 1) := by decide +kernel
theorem d_MO_basicity_97 : decode b_MO_basicity 97 = .ok (.getfield 31, 3) := by decide +kernel
theorem d_MO_basicity_100 : decode b_MO_basicity 100 = .ok (.iload_n 1, 1) := by decide +kernel
theorem d_MO_basicity_101 : decode b_MO_basicity 101 = .ok (.iaload, 1) := by decide +kernel
theorem d_MO_basicity_102 : decode b_MO_basicity 102 = .ok (.iconst 1, 1) := by decide +kernel
theorem d_MO_basicity_103 : decode b_MO_basicity 103 = .ok (.isub, 1) := by decide +kernel
theorem d_MO_basicity_104 : decode b_MO_basicity 104 = .ok (.iconst 0, 1) := by decide +kernel
theorem d_MO_basicity_105 : decode b_MO_basicity 105 = .ok (.invokevirtual 119, 3) := by decide +kernel
theorem d_MO_basicity_108 : decode b_MO_basicity 108 = .ok (.lload 5, 2) := by decide +kernel
theorem d_MO_basicity_110 : decode b_MO_basicity 110 = .ok (.iload_n 2, 1) := by decide +kernel
theorem d_MO_basicity_111 : decode b_MO_basicity 111 = .ok (.invokestatic 111, 3) := by decide +kernel
theorem d_MO_basicity_114 : decode b_MO_basicity 114 = .ok (.lreturn, 1) := by decide +kernel
theorem d_MO_spread_0 : decode b_MO_spread 0 = .ok (.aload_n 0, 1) := by decide +kernel
theorem d_MO_spread_1 : decode b_MO_spread 1 = .ok (.iload_n 1, 1) := by decide +kernel
theorem d_MO_spread_2 : decode b_MO_spread 2 = .ok (.invokevirtual 97, 3) := by decide +kernel
theorem d_MO_spread_5 : decode b_MO_spread 5 = .ok (.ifCond .eq 17, 3) := by decide +kernel
theorem d_MO_spread_8 : decode b_MO_spread 8 = .ok (.iload_n 2, 1) := by decide +kernel
theorem d_MO_spread_9 : decode b_MO_spread 9 = .ok (.invokestatic 83, 3) := by decide +kernel
theorem d_MO_spread_12 : decode b_MO_spread 12 = .ok (.ifCond .eq 10, 3) := by decide +kernel
theorem d_MO_spread_15 : decode b_MO_spread 15 = .ok (.iload_n 3, 1) := by decide +kernel
theorem d_MO_spread_16 : decode b_MO_spread 16 = .ok (.invokestatic 126, 3) := by decide +kernel
theorem d_MO_spread_19 : decode b_MO_spread 19 = .ok (.ifCond .ne 7, 3) := by decide +kernel
theorem d_MO_spread_22 : decode b_MO_spread 22 = .ok (.iconst 1, 1) := by decide +kernel
theorem d_MO_spread_23 : decode b_MO_spread 23 = .ok (.goto 4, 3) := by decide +kernel
theorem d_MO_spread_26 : decode b_MO_spread 26 = .ok (.iconst 0, 1) := by decide +kernel
theorem d_MO_spread_27 : decode b_MO_spread 27 = .ok (.istore 4, 2) := by decide +kernel
theorem d_MO_spread_29 : decode b_MO_spread 29 = .ok (.iload 4, 2) := by decide +kernel
theorem d_MO_spread_31 : decode b_MO_spread 31 = .ok (.ifCond .eq 7, 3) := by decide +kernel
theorem d_MO_spread_34 : decode b_MO_spread 34 = .ok (.iconst 0, 1) := by decide +kernel
theorem d_MO_spread_35 : decode b_MO_spread 35 = .ok (.goto 8, 3) := by decide +kernel
theorem d_MO_spread_38 : decode b_MO_spread 38 = .ok (.iconst 4, 1) := by decide +kernel
theorem d_MO_spread_39 : decode b_MO_spread 39 = .ok (.iload_n 1, 1) := by decide +kernel
theorem d_MO_spread_40 : decode b_MO_spread 40 = .ok (.imul, 1) := by decide +kernel
theorem d_MO_spread_41 : decode b_MO_spread 41 = .ok (.iload_n 2, 1) := by decide +kernel
theorem d_MO_spread_42 : decode b_MO_spread 42 = .ok (.iadd, 1) := by decide +kernel
theorem d_MO_spread_43 : decode b_MO_spread 43 = .ok (.istore 5, 2) := by decide +kernel
theorem d_MO_spread_45 : decode b_MO_spread 45 = .ok (.aload_n 0, 1) := by decide +kernel
theorem d_MO_spread_46 : decode b_MO_spread 46 = .ok (.iload 4, 2) := by decide +kernel
theorem d_MO_spread_48 : decode b_MO_spread 48 = .ok (.aload_n 0, 1) := by decide +kernel
theorem d_MO_spread_49 : decode b_MO_spread 49 = .ok (.getfield 47, 3) := by decide +kernel
theorem d_MO_spread_52 : decode b_MO_spread 52 = .ok (.iload 5, 2) := by decide +kernel
theorem d_MO_spread_54 : decode b_MO_spread 54 = .ok (.laload, 1) := by decide +kernel
theorem d_MO_spread_55 : decode b_MO_spread 55 = .ok (.lconst 0, 1) := by decide +kernel
theorem d_MO_spread_56 : decode b_MO_spread 56 = .ok (.lcmp, 1) := by decide +kernel
theorem d_MO_spread_57 : decode b_MO_spread 57 = .ok (.ifCond .ne 7, 3) := by decide +kernel
theorem d_MO_spread_60 : decode b_MO_spread 60 = .ok (.iconst 1, 1) := by decide +kernel
theorem d_MO_spread_61 : decode b_MO_spread 61 = .ok (.goto 4, 3) := by decide +kernel
theorem d_MO_spread_64 : decode b_MO_spread 64 = .ok (.iconst 0, 1) := by decide +kernel
theorem d_MO_spread_65 : decode b_MO_spread 65 = .ok (.iconst 0, 1) := by decide +kernel
theorem d_MO_spread_66 : decode b_MO_spread 66 = .ok (.iconst 0, 1) := by decide +kernel
theorem d_MO_spread_67 : decode b_MO_spread 67 = .ok (.invokevirtual 79, 3) := by decide +kernel
theorem d_MO_spread_70 : decode b_MO_spread 70 = .ok (.ifCond .eq 5, 3) := by decide +kernel
theorem d_MO_spread_73 : decode b_MO_spread 73 = .ok (.lconst 0, 1) := by decide +kernel
theorem d_MO_spread_74 : decode b_MO_spread 74 = .ok (.lreturn, 1) := by decide +kernel
theorem d_MO_spread_75 : decode b_MO_spread 75 = .ok (.aload_n 0, 1) := by decide +kernel
theorem d_MO_spread_76 : decode b_MO_spread 76 = .ok (.getfield 43, 3) := by decide +kernel
theorem d_MO_spread_79 : decode b_MO_spread 79 = .ok (.iload 5, 2) := by decide +kernel
theorem d_MO_spread_81 : decode b_MO_spread 81 = .ok (.laload, 1) := by decide +kernel
theorem d_MO_spread_82 : decode b_MO_spread 82 = .ok (.aload_n 0, 1) := by decide +kernel
theorem d_MO_spread_83 : decode b_MO_spread 83 = .ok (.getfield 53, 3) := by decide +kernel
theorem d_MO_spread_86 : decode b_MO_spread 86 = .ok (.iload 5, 2) := by decide +kernel
theorem d_MO_spread_88 : decode b_MO_spread 88 = .ok (.laload, 1) := by decide +kernel
theorem d_MO_spread_89 : decode b_MO_spread 89 = .ok (.lmul, 1) := by decide +kernel
theorem d_MO_spread_90 : decode b_MO_spread 90 = .ok (.aload_n 0, 1) := by decide +kernel
theorem d_MO_spread_91 : decode b_MO_spread 91 = .ok (.getfield 50, 3) := by decide +kernel
theorem d_MO_spread_94 : decode b_MO_spread 94 = .ok (.iload 5, 2) := by decide +kernel
theorem d_MO_spread_96 : decode b_MO_spread 96 = .ok (.laload, 1) := by decide +kernel
theorem d_MO_spread_97 : decode b_MO_spread 97 = .ok (.aload_n 0, 1) := by decide +kernel
theorem d_MO_spread_98 : decode b_MO_spread 98 = .ok (.getfield 47, 3) := by decide +kernel
theorem d_MO_spread_101 : decode b_MO_spread 101 = .ok (.iload 5, 2) := by decide +kernel
theorem d_MO_spread_103 : decode b_MO_spread 103 = .ok (.laload, 1) := by decide +kernel
theorem d_MO_spread_104 : decode b_MO_spread 104 = .ok (.lmul, 1) := by decide +kernel
theorem d_MO_spread_105 : decode b_MO_spread 105 = .ok (.lsub, 1) := by decide +kernel
theorem d_MO_spread_106 : decode b_MO_spread 106 = .ok (.aload_n 0, 1) := by decide +kernel
theorem d_MO_spread_107 : decode b_MO_spread 107 = .ok (.getfield 47, 3) := by decide +kernel
theorem d_MO_spread_110 : decode b_MO_spread 110 = .ok (.iload 5, 2) := by decide +kernel
theorem d_MO_spread_112 : decode b_MO_spread 112 = .ok (.laload, 1) := by decide +kernel
theorem d_MO_spread_113 : decode b_MO_spread 113 = .ok (.aload_n 0, 1) := by decide +kernel
theorem d_MO_spread_114 : decode b_MO_spread 114 = .ok (.getfield 53, 3) := by decide +kernel
theorem d_MO_spread_117 : decode b_MO_spread 117 = .ok (.iload 5, 2) := by decide +kernel
theorem d_MO_spread_119 : decode b_MO_spread 119 = .ok (.laload, 1) := by decide +kernel
theorem d_MO_spread_120 : decode b_MO_spread 120 = .ok (.lmul, 1) := by decide +kernel
theorem d_MO_spread_121 : decode b_MO_spread 121 = .ok (.iload_n 3, 1) := by decide +kernel
theorem d_MO_spread_122 : decode b_MO_spread 122 = .ok (.invokestatic 111, 3) := by decide +kernel
theorem d_MO_spread_125 : decode b_MO_spread 125 = .ok (.lreturn, 1) := by decide +kernel
theorem d_MO_pileAt_0 : decode b_MO_pileAt 0 = .ok (.aload_n 0, 1) := by decide +kernel
theorem d_MO_pileAt_1 : decode b_MO_pileAt 1 = .ok (.aload_n 0, 1) := by decide +kernel
theorem d_MO_pileAt_2 : decode b_MO_pileAt 2 = .ok (.iload_n 1, 1) := by decide +kernel
theorem d_MO_pileAt_3 : decode b_MO_pileAt 3 = .ok (.invokevirtual 97, 3) := by decide +kernel
theorem d_MO_pileAt_6 : decode b_MO_pileAt 6 = .ok (.ifCond .eq 12, 3) := by decide +kernel
theorem d_MO_pileAt_9 : decode b_MO_pileAt 9 = .ok (.iload_n 2, 1) := by decide +kernel
theorem d_MO_pileAt_10 : decode b_MO_pileAt 10 = .ok (.iconst 0, 1) := by decide +kernel
theorem d_MO_pileAt_11 : decode b_MO_pileAt 11 = .ok (.iconst 4, 1) := by decide +kernel
theorem d_MO_pileAt_12 : decode b_MO_pileAt 12 = .ok (.invokestatic 66, 3) := by decide +kernel
theorem d_MO_pileAt_15 : decode b_MO_pileAt 15 = .ok (.ifCond .ne 7, 3) := by decide +kernel
theorem d_MO_pileAt_18 : decode b_MO_pileAt 18 = .ok (.iconst 1, 1) := by decide +kernel
theorem d_MO_pileAt_19 : decode b_MO_pileAt 19 = .ok (.goto 4, 3) := by decide +kernel
theorem d_MO_pileAt_22 : decode b_MO_pileAt 22 = .ok (.iconst 0, 1) := by decide +kernel
theorem d_MO_pileAt_23 : decode b_MO_pileAt 23 = .ok (.iconst 0, 1) := by decide +kernel
theorem d_MO_pileAt_24 : decode b_MO_pileAt 24 = .ok (.iconst 0, 1) := by decide +kernel
theorem d_MO_pileAt_25 : decode b_MO_pileAt 25 = .ok (.iconst 0, 1) := by decide +kernel
theorem d_MO_pileAt_26 : decode b_MO_pileAt 26 = .ok (.invokevirtual 79, 3) := by decide +kernel
theorem d_MO_pileAt_29 : decode b_MO_pileAt 29 = .ok (.ifCond .eq 5, 3) := by decide +kernel
theorem d_MO_pileAt_32 : decode b_MO_pileAt 32 = .ok (.iconst 0, 1) := by decide +kernel
theorem d_MO_pileAt_33 : decode b_MO_pileAt 33 = .ok (.ireturn, 1) := by decide +kernel
theorem d_MO_pileAt_34 : decode b_MO_pileAt 34 = .ok (.iload_n 2, 1) := by decide +kernel
theorem d_MO_pileAt_35 : decode b_MO_pileAt 35 = .ok (.ifCond .ne 10, 3) := by decide +kernel
theorem d_MO_pileAt_38 : decode b_MO_pileAt 38 = .ok (.aload_n 0, 1) := by decide +kernel
theorem d_MO_pileAt_39 : decode b_MO_pileAt 39 = .ok (.getfield 28, 3) := by decide +kernel
theorem d_MO_pileAt_42 : decode b_MO_pileAt 42 = .ok (.iload_n 1, 1) := by decide +kernel
theorem d_MO_pileAt_43 : decode b_MO_pileAt 43 = .ok (.iaload, 1) := by decide +kernel
theorem d_MO_pileAt_44 : decode b_MO_pileAt 44 = .ok (.ireturn, 1) := by decide +kernel
theorem d_MO_pileAt_45 : decode b_MO_pileAt 45 = .ok (.iload_n 2, 1) := by decide +kernel
theorem d_MO_pileAt_46 : decode b_MO_pileAt 46 = .ok (.iconst 1, 1) := by decide +kernel
theorem d_MO_pileAt_47 : decode b_MO_pileAt 47 = .ok (.if_icmp .ne 10, 3) := by decide +kernel
theorem d_MO_pileAt_50 : decode b_MO_pileAt 50 = .ok (.aload_n 0, 1) := by decide +kernel
theorem d_MO_pileAt_51 : decode b_MO_pileAt 51 = .ok (.getfield 31, 3) := by decide +kernel
theorem d_MO_pileAt_54 : decode b_MO_pileAt 54 = .ok (.iload_n 1, 1) := by decide +kernel
theorem d_MO_pileAt_55 : decode b_MO_pileAt 55 = .ok (.iaload, 1) := by decide +kernel
theorem d_MO_pileAt_56 : decode b_MO_pileAt 56 = .ok (.ireturn, 1) := by decide +kernel
theorem d_MO_pileAt_57 : decode b_MO_pileAt 57 = .ok (.iload_n 2, 1) := by decide +kernel
theorem d_MO_pileAt_58 : decode b_MO_pileAt 58 = .ok (.iconst 2, 1) := by decide +kernel
theorem d_MO_pileAt_59 : decode b_MO_pileAt 59 = .ok (.if_icmp .ne 10, 3) := by decide +kernel
theorem d_MO_pileAt_62 : decode b_MO_pileAt 62 = .ok (.aload_n 0, 1) := by decide +kernel
theorem d_MO_pileAt_63 : decode b_MO_pileAt 63 = .ok (.getfield 34, 3) := by decide +kernel
theorem d_MO_pileAt_66 : decode b_MO_pileAt 66 = .ok (.iload_n 1, 1) := by decide +kernel
theorem d_MO_pileAt_67 : decode b_MO_pileAt 67 = .ok (.iaload, 1) := by decide +kernel
theorem d_MO_pileAt_68 : decode b_MO_pileAt 68 = .ok (.ireturn, 1) := by decide +kernel
theorem d_MO_pileAt_69 : decode b_MO_pileAt 69 = .ok (.iload_n 2, 1) := by decide +kernel
theorem d_MO_pileAt_70 : decode b_MO_pileAt 70 = .ok (.iconst 3, 1) := by decide +kernel
theorem d_MO_pileAt_71 : decode b_MO_pileAt 71 = .ok (.if_icmp .ne 9, 3) := by decide +kernel
theorem d_MO_pileAt_74 : decode b_MO_pileAt 74 = .ok (.aload_n 0, 1) := by decide +kernel
theorem d_MO_pileAt_75 : decode b_MO_pileAt 75 = .ok (.iload_n 1, 1) := by decide +kernel
theorem d_MO_pileAt_76 : decode b_MO_pileAt 76 = .ok (.invokevirtual 100, 3) := by decide +kernel
theorem d_MO_pileAt_79 : decode b_MO_pileAt 79 = .ok (.ireturn, 1) := by decide +kernel
theorem d_MO_pileAt_80 : decode b_MO_pileAt 80 = .ok (.lconst 0, 1) := by decide +kernel
theorem d_MO_pileAt_81 : decode b_MO_pileAt 81 = .ok (.lstore_n 3, 1) := by decide +kernel
theorem d_MO_pileAt_82 : decode b_MO_pileAt 82 = .ok (.iconst 0, 1) := by decide +kernel
theorem d_MO_pileAt_83 : decode b_MO_pileAt 83 = .ok (.istore 5, 2) := by decide +kernel
theorem d_MO_pileAt_85 : decode b_MO_pileAt 85 = .ok (.iload 5, 2) := by decide +kernel
theorem d_MO_pileAt_87 : decode b_MO_pileAt 87 = .ok (.aload_n 0, 1) := by decide +kernel
theorem d_MO_pileAt_88 : decode b_MO_pileAt 88 = .ok (.getfield 34, 3) := by decide +kernel
theorem d_MO_pileAt_91 : decode b_MO_pileAt 91 = .ok (.iload_n 1, 1) := by decide +kernel
theorem d_MO_pileAt_92 : decode b_MO_pileAt 92 = .ok (.iaload, 1) := by decide +kernel
theorem d_MO_pileAt_93 : decode b_MO_pileAt 93 = .ok (.if_icmp .ge 36, 3) := by decide +kernel
theorem d_MO_pileAt_96 : decode b_MO_pileAt 96 = .ok (.lload_n 3, 1) := by decide +kernel
theorem d_MO_pileAt_97 : decode b_MO_pileAt 97 = .ok (.aload_n 0, 1) := by decide +kernel
theorem d_MO_pileAt_98 : decode b_MO_pileAt 98 = .ok (.bipush 20, 2) := by decide +kernel
theorem d_MO_pileAt_100 : decode b_MO_pileAt 100 = .ok (.iload_n 1, 1) := by decide +kernel
theorem d_MO_pileAt_101 : decode b_MO_pileAt 101 = .ok (.imul, 1) := by decide +kernel
theorem d_MO_pileAt_102 : decode b_MO_pileAt 102 = .ok (.iload 5, 2) := by decide +kernel
theorem d_MO_pileAt_104 : decode b_MO_pileAt 104 = .ok (.iadd, 1) := by decide +kernel
theorem d_MO_pileAt_105 : decode b_MO_pileAt 105 = .ok (.aload_n 0, 1) := by decide +kernel
theorem d_MO_pileAt_106 : decode b_MO_pileAt 106 = .ok (.getfield 31, 3) := by decide +kernel
theorem d_MO_pileAt_109 : decode b_MO_pileAt 109 = .ok (.iload_n 1, 1) := by decide +kernel
theorem d_MO_pileAt_110 : decode b_MO_pileAt 110 = .ok (.iaload, 1) := by decide +kernel
theorem d_MO_pileAt_111 : decode b_MO_pileAt 111 = .ok (.i2l, 1) := by decide +kernel
theorem d_MO_pileAt_112 : decode b_MO_pileAt 112 = .ok (.aload_n 0, 1) := by decide +kernel
theorem d_MO_pileAt_113 : decode b_MO_pileAt 113 = .ok (.getfield 28, 3) := by decide +kernel
theorem d_MO_pileAt_116 : decode b_MO_pileAt 116 = .ok (.iload_n 1, 1) := by decide +kernel
theorem d_MO_pileAt_117 : decode b_MO_pileAt 117 = .ok (.iaload, 1) := by decide +kernel
theorem d_MO_pileAt_118 : decode b_MO_pileAt 118 = .ok (.invokevirtual 103, 3) := by decide +kernel
theorem d_MO_pileAt_121 : decode b_MO_pileAt 121 = .ok (.ladd, 1) := by decide +kernel
theorem d_MO_pileAt_122 : decode b_MO_pileAt 122 = .ok (.lstore_n 3, 1) := by decide +kernel
theorem d_MO_pileAt_123 : decode b_MO_pileAt 123 = .ok (.iinc 5 1, 3) := by decide +kernel
theorem d_MO_pileAt_126 : decode b_MO_pileAt 126 = .ok (.goto (-41), 3) := by decide +kernel
theorem d_MO_pileAt_129 : decode b_MO_pileAt 129 = .ok (.lload_n 3, 1) := by decide +kernel
theorem d_MO_pileAt_130 : decode b_MO_pileAt 130 = .ok (.l2i, 1) := by decide +kernel
theorem d_MO_pileAt_131 : decode b_MO_pileAt 131 = .ok (.ireturn, 1) := by decide +kernel
theorem d_MO_mix_0 : decode b_MO_mix 0 = .ok (.iload_n 1, 1) := by decide +kernel
theorem d_MO_mix_1 : decode b_MO_mix 1 = .ok (.invokestatic 75, 3) := by decide +kernel
theorem d_MO_mix_4 : decode b_MO_mix 4 = .ok (.ifCond .eq 30, 3) := by decide +kernel
theorem d_MO_mix_7 : decode b_MO_mix 7 = .ok (.iload_n 2, 1) := by decide +kernel
theorem d_MO_mix_8 : decode b_MO_mix 8 = .ok (.invokestatic 75, 3) := by decide +kernel
theorem d_MO_mix_11 : decode b_MO_mix 11 = .ok (.ifCond .eq 23, 3) := by decide +kernel
theorem d_MO_mix_14 : decode b_MO_mix 14 = .ok (.iload_n 1, 1) := by decide +kernel
theorem d_MO_mix_15 : decode b_MO_mix 15 = .ok (.iload_n 2, 1) := by decide +kernel
theorem d_MO_mix_16 : decode b_MO_mix 16 = .ok (.if_icmp .eq 18, 3) := by decide +kernel
theorem d_MO_mix_19 : decode b_MO_mix 19 = .ok (.iload_n 3, 1) := by decide +kernel
theorem d_MO_mix_20 : decode b_MO_mix 20 = .ok (.invokestatic 83, 3) := by decide +kernel
theorem d_MO_mix_23 : decode b_MO_mix 23 = .ok (.ifCond .eq 11, 3) := by decide +kernel
theorem d_MO_mix_26 : decode b_MO_mix 26 = .ok (.iload 5, 2) := by decide +kernel
theorem d_MO_mix_28 : decode b_MO_mix 28 = .ok (.invokestatic 126, 3) := by decide +kernel
theorem d_MO_mix_31 : decode b_MO_mix 31 = .ok (.ifCond .ne 7, 3) := by decide +kernel
theorem d_MO_mix_34 : decode b_MO_mix 34 = .ok (.iconst 1, 1) := by decide +kernel
theorem d_MO_mix_35 : decode b_MO_mix 35 = .ok (.goto 4, 3) := by decide +kernel
theorem d_MO_mix_38 : decode b_MO_mix 38 = .ok (.iconst 0, 1) := by decide +kernel
theorem d_MO_mix_39 : decode b_MO_mix 39 = .ok (.istore 6, 2) := by decide +kernel
theorem d_MO_mix_41 : decode b_MO_mix 41 = .ok (.iload 6, 2) := by decide +kernel
theorem d_MO_mix_43 : decode b_MO_mix 43 = .ok (.ifCond .eq 7, 3) := by decide +kernel
theorem d_MO_mix_46 : decode b_MO_mix 46 = .ok (.iconst 0, 1) := by decide +kernel
theorem d_MO_mix_47 : decode b_MO_mix 47 = .ok (.goto 16, 3) := by decide +kernel
theorem d_MO_mix_50 : decode b_MO_mix 50 = .ok (.iload 4, 2) := by decide +kernel
theorem d_MO_mix_52 : decode b_MO_mix 52 = .ok (.aload_n 0, 1) := by decide +kernel
theorem d_MO_mix_53 : decode b_MO_mix 53 = .ok (.getfield 13, 3) := by decide +kernel
theorem d_MO_mix_56 : decode b_MO_mix 56 = .ok (.iconst 4, 1) := by decide +kernel
theorem d_MO_mix_57 : decode b_MO_mix 57 = .ok (.iload_n 2, 1) := by decide +kernel
theorem d_MO_mix_58 : decode b_MO_mix 58 = .ok (.imul, 1) := by decide +kernel
theorem d_MO_mix_59 : decode b_MO_mix 59 = .ok (.iload_n 3, 1) := by decide +kernel
theorem d_MO_mix_60 : decode b_MO_mix 60 = .ok (.iadd, 1) := by decide +kernel
theorem d_MO_mix_61 : decode b_MO_mix 61 = .ok (.iaload, 1) := by decide +kernel
theorem d_MO_mix_62 : decode b_MO_mix 62 = .ok (.isub, 1) := by decide +kernel
theorem d_MO_mix_63 : decode b_MO_mix 63 = .ok (.istore 7, 2) := by decide +kernel
theorem d_MO_mix_65 : decode b_MO_mix 65 = .ok (.iload 6, 2) := by decide +kernel
theorem d_MO_mix_67 : decode b_MO_mix 67 = .ok (.ifCond .eq 7, 3) := by decide +kernel
theorem d_MO_mix_70 : decode b_MO_mix 70 = .ok (.iconst 1, 1) := by decide +kernel
theorem d_MO_mix_71 : decode b_MO_mix 71 = .ok (.goto 24, 3) := by decide +kernel
theorem d_MO_mix_74 : decode b_MO_mix 74 = .ok (.aload_n 0, 1) := by decide +kernel
theorem d_MO_mix_75 : decode b_MO_mix 75 = .ok (.getfield 13, 3) := by decide +kernel
theorem d_MO_mix_78 : decode b_MO_mix 78 = .ok (.iconst 4, 1) := by decide +kernel
theorem d_MO_mix_79 : decode b_MO_mix 79 = .ok (.iload_n 1, 1) := by decide +kernel
theorem d_MO_mix_80 : decode b_MO_mix 80 = .ok (.imul, 1) := by decide +kernel
theorem d_MO_mix_81 : decode b_MO_mix 81 = .ok (.iload_n 3, 1) := by decide +kernel
theorem d_MO_mix_82 : decode b_MO_mix 82 = .ok (.iadd, 1) := by decide +kernel
theorem d_MO_mix_83 : decode b_MO_mix 83 = .ok (.iaload, 1) := by decide +kernel
theorem d_MO_mix_84 : decode b_MO_mix 84 = .ok (.aload_n 0, 1) := by decide +kernel
theorem d_MO_mix_85 : decode b_MO_mix 85 = .ok (.getfield 13, 3) := by decide +kernel
theorem d_MO_mix_88 : decode b_MO_mix 88 = .ok (.iconst 4, 1) := by decide +kernel
theorem d_MO_mix_89 : decode b_MO_mix 89 = .ok (.iload_n 2, 1) := by decide +kernel
theorem d_MO_mix_90 : decode b_MO_mix 90 = .ok (.imul, 1) := by decide +kernel
theorem d_MO_mix_91 : decode b_MO_mix 91 = .ok (.iload_n 3, 1) := by decide +kernel
theorem d_MO_mix_92 : decode b_MO_mix 92 = .ok (.iadd, 1) := by decide +kernel
theorem d_MO_mix_93 : decode b_MO_mix 93 = .ok (.iaload, 1) := by decide +kernel
theorem d_MO_mix_94 : decode b_MO_mix 94 = .ok (.isub, 1) := by decide +kernel
theorem d_MO_mix_95 : decode b_MO_mix 95 = .ok (.istore 8, 2) := by decide +kernel
theorem d_MO_mix_97 : decode b_MO_mix 97 = .ok (.iload 8, 2) := by decide +kernel
theorem d_MO_mix_99 : decode b_MO_mix 99 = .ok (.ifCond .eq 35, 3) := by decide +kernel
theorem d_MO_mix_102 : decode b_MO_mix 102 = .ok (.iload 8, 2) := by decide +kernel
theorem d_MO_mix_104 : decode b_MO_mix 104 = .ok (.ifCond .le 18, 3) := by decide +kernel
theorem d_MO_mix_107 : decode b_MO_mix 107 = .ok (.iload 7, 2) := by decide +kernel
theorem d_MO_mix_109 : decode b_MO_mix 109 = .ok (.ifCond .lt 25, 3) := by decide +kernel
theorem d_MO_mix_112 : decode b_MO_mix 112 = .ok (.iload 7, 2) := by decide +kernel
theorem d_MO_mix_114 : decode b_MO_mix 114 = .ok (.iload 8, 2) := by decide +kernel
theorem d_MO_mix_116 : decode b_MO_mix 116 = .ok (.if_icmp .le 22, 3) := by decide +kernel
theorem d_MO_mix_119 : decode b_MO_mix 119 = .ok (.goto 15, 3) := by decide +kernel
theorem d_MO_mix_122 : decode b_MO_mix 122 = .ok (.iload 7, 2) := by decide +kernel
theorem d_MO_mix_124 : decode b_MO_mix 124 = .ok (.ifCond .gt 10, 3) := by decide +kernel
theorem d_MO_mix_127 : decode b_MO_mix 127 = .ok (.iload 7, 2) := by decide +kernel
theorem d_MO_mix_129 : decode b_MO_mix 129 = .ok (.iload 8, 2) := by decide +kernel
theorem d_MO_mix_131 : decode b_MO_mix 131 = .ok (.if_icmp .ge 7, 3) := by decide +kernel
theorem d_MO_mix_134 : decode b_MO_mix 134 = .ok (.iconst 1, 1) := by decide +kernel
theorem d_MO_mix_135 : decode b_MO_mix 135 = .ok (.goto 4, 3) := by decide +kernel
theorem d_MO_mix_138 : decode b_MO_mix 138 = .ok (.iconst 0, 1) := by decide +kernel
theorem d_MO_mix_139 : decode b_MO_mix 139 = .ok (.istore 9, 2) := by decide +kernel
theorem d_MO_mix_141 : decode b_MO_mix 141 = .ok (.aload_n 0, 1) := by decide +kernel
theorem d_MO_mix_142 : decode b_MO_mix 142 = .ok (.iload 6, 2) := by decide +kernel
theorem d_MO_mix_144 : decode b_MO_mix 144 = .ok (.iload 4, 2) := by decide +kernel
theorem d_MO_mix_146 : decode b_MO_mix 146 = .ok (.iconst 0, 1) := by decide +kernel
theorem d_MO_mix_147 : decode b_MO_mix 147 = .ok (.sipush 10000, 3) := by decide +kernel
theorem d_MO_mix_150 : decode b_MO_mix 150 = .ok (.invokestatic 66, 3) := by decide +kernel
theorem d_MO_mix_153 : decode b_MO_mix 153 = .ok (.ifCond .ne 7, 3) := by decide +kernel
theorem d_MO_mix_156 : decode b_MO_mix 156 = .ok (.iconst 1, 1) := by decide +kernel
theorem d_MO_mix_157 : decode b_MO_mix 157 = .ok (.goto 4, 3) := by decide +kernel
theorem d_MO_mix_160 : decode b_MO_mix 160 = .ok (.iconst 0, 1) := by decide +kernel
theorem d_MO_mix_161 : decode b_MO_mix 161 = .ok (.iload 9, 2) := by decide +kernel
theorem d_MO_mix_163 : decode b_MO_mix 163 = .ok (.iconst 0, 1) := by decide +kernel
theorem d_MO_mix_164 : decode b_MO_mix 164 = .ok (.invokevirtual 79, 3) := by decide +kernel
theorem d_MO_mix_167 : decode b_MO_mix 167 = .ok (.ifCond .eq 5, 3) := by decide +kernel
theorem d_MO_mix_170 : decode b_MO_mix 170 = .ok (.lconst 0, 1) := by decide +kernel
theorem d_MO_mix_171 : decode b_MO_mix 171 = .ok (.lreturn, 1) := by decide +kernel
theorem d_MO_mix_172 : decode b_MO_mix 172 = .ok (.iload 7, 2) := by decide +kernel
theorem d_MO_mix_174 : decode b_MO_mix 174 = .ok (.i2l, 1) := by decide +kernel
theorem d_MO_mix_175 : decode b_MO_mix 175 = .ok (.iload 8, 2) := by decide +kernel
theorem d_MO_mix_177 : decode b_MO_mix 177 = .ok (.i2l, 1) := by decide +kernel
theorem d_MO_mix_178 : decode b_MO_mix 178 = .ok (.iload 5, 2) := by decide +kernel
theorem d_MO_mix_180 : decode b_MO_mix 180 = .ok (.invokestatic 111, 3) := by decide +kernel
theorem d_MO_mix_183 : decode b_MO_mix 183 = .ok (.lreturn, 1) := by decide +kernel
theorem d_MO_point_0 : decode b_MO_point 0 = .ok (.aload_n 0, 1) := by decide +kernel
theorem d_MO_point_1 : decode b_MO_point 1 = .ok (.aload_n 0, 1) := by decide +kernel
theorem d_MO_point_2 : decode b_MO_point 2 = .ok (.getfield 132, 3) := by decide +kernel
theorem d_MO_point_5 : decode b_MO_point 5 = .ok (.bipush 20, 2) := by decide +kernel
theorem d_MO_point_7 : decode b_MO_point 7 = .ok (.if_icmp .ne 7, 3) := by decide +kernel
theorem d_MO_point_10 : decode b_MO_point 10 = .ok (.iconst 1, 1) := by decide +kernel
theorem d_MO_point_11 : decode b_MO_point 11 = .ok (.goto 4, 3) := by decide +kernel
theorem d_MO_point_14 : decode b_MO_point 14 = .ok (.iconst 0, 1) := by decide +kernel
theorem d_MO_point_15 : decode b_MO_point 15 = .ok (.iload_n 1, 1) := by decide +kernel
theorem d_MO_point_16 : decode b_MO_point 16 = .ok (.iconst 0, 1) := by decide +kernel
theorem d_MO_point_17 : decode b_MO_point 17 = .ok (.sipush 10000, 3) := by decide +kernel
theorem d_MO_point_20 : decode b_MO_point 20 = .ok (.invokestatic 66, 3) := by decide +kernel
theorem d_MO_point_23 : decode b_MO_point 23 = .ok (.ifCond .eq 14, 3) := by decide +kernel
theorem d_MO_point_26 : decode b_MO_point 26 = .ok (.iload_n 2, 1) := by decide +kernel
theorem d_MO_point_27 : decode b_MO_point 27 = .ok (.iconst 0, 1) := by decide +kernel
theorem d_MO_point_28 : decode b_MO_point 28 = .ok (.sipush 10000, 3) := by decide +kernel
theorem d_MO_point_31 : decode b_MO_point 31 = .ok (.invokestatic 66, 3) := by decide +kernel
theorem d_MO_point_34 : decode b_MO_point 34 = .ok (.ifCond .ne 7, 3) := by decide +kernel
theorem d_MO_point_37 : decode b_MO_point 37 = .ok (.iconst 1, 1) := by decide +kernel
theorem d_MO_point_38 : decode b_MO_point 38 = .ok (.goto 4, 3) := by decide +kernel
theorem d_MO_point_41 : decode b_MO_point 41 = .ok (.iconst 0, 1) := by decide +kernel
theorem d_MO_point_42 : decode b_MO_point 42 = .ok (.iconst 0, 1) := by decide +kernel
theorem d_MO_point_43 : decode b_MO_point 43 = .ok (.iconst 0, 1) := by decide +kernel
theorem d_MO_point_44 : decode b_MO_point 44 = .ok (.invokevirtual 79, 3) := by decide +kernel
theorem d_MO_point_47 : decode b_MO_point 47 = .ok (.ifCond .eq 5, 3) := by decide +kernel
theorem d_MO_point_50 : decode b_MO_point 50 = .ok (.iconst 0, 1) := by decide +kernel
theorem d_MO_point_51 : decode b_MO_point 51 = .ok (.ireturn, 1) := by decide +kernel
theorem d_MO_point_52 : decode b_MO_point 52 = .ok (.aload_n 0, 1) := by decide +kernel
theorem d_MO_point_53 : decode b_MO_point 53 = .ok (.getfield 56, 3) := by decide +kernel
theorem d_MO_point_56 : decode b_MO_point 56 = .ok (.aload_n 0, 1) := by decide +kernel
theorem d_MO_point_57 : decode b_MO_point 57 = .ok (.getfield 132, 3) := by decide +kernel
theorem d_MO_point_60 : decode b_MO_point 60 = .ok (.iload_n 1, 1) := by decide +kernel
theorem d_MO_point_61 : decode b_MO_point 61 = .ok (.iastore, 1) := by decide +kernel
theorem d_MO_point_62 : decode b_MO_point 62 = .ok (.aload_n 0, 1) := by decide +kernel
theorem d_MO_point_63 : decode b_MO_point 63 = .ok (.getfield 59, 3) := by decide +kernel
theorem d_MO_point_66 : decode b_MO_point 66 = .ok (.aload_n 0, 1) := by decide +kernel
theorem d_MO_point_67 : decode b_MO_point 67 = .ok (.getfield 132, 3) := by decide +kernel
theorem d_MO_point_70 : decode b_MO_point 70 = .ok (.iload_n 2, 1) := by decide +kernel
theorem d_MO_point_71 : decode b_MO_point 71 = .ok (.iastore, 1) := by decide +kernel
theorem d_MO_point_72 : decode b_MO_point 72 = .ok (.aload_n 0, 1) := by decide +kernel
theorem d_MO_point_73 : decode b_MO_point 73 = .ok (.dup, 1) := by decide +kernel
theorem d_MO_point_74 : decode b_MO_point 74 = .ok (.getfield 132, 3) := by decide +kernel
theorem d_MO_point_77 : decode b_MO_point 77 = .ok (.iconst 1, 1) := by decide +kernel
theorem d_MO_point_78 : decode b_MO_point 78 = .ok (.iadd, 1) := by decide +kernel
theorem d_MO_point_79 : decode b_MO_point 79 = .ok (.putfield 132, 3) := by decide +kernel
theorem d_MO_point_82 : decode b_MO_point 82 = .ok (.aload_n 0, 1) := by decide +kernel
theorem d_MO_point_83 : decode b_MO_point 83 = .ok (.getfield 132, 3) := by decide +kernel
theorem d_MO_point_86 : decode b_MO_point 86 = .ok (.ireturn, 1) := by decide +kernel
theorem d_MO_fit_0 : decode b_MO_fit 0 = .ok (.lconst 0, 1) := by decide +kernel
theorem d_MO_fit_1 : decode b_MO_fit 1 = .ok (.lstore_n 3, 1) := by decide +kernel
theorem d_MO_fit_2 : decode b_MO_fit 2 = .ok (.lconst 0, 1) := by decide +kernel
theorem d_MO_fit_3 : decode b_MO_fit 3 = .ok (.lstore 5, 2) := by decide +kernel
theorem d_MO_fit_5 : decode b_MO_fit 5 = .ok (.lconst 0, 1) := by decide +kernel
theorem d_MO_fit_6 : decode b_MO_fit 6 = .ok (.lstore 7, 2) := by decide +kernel
theorem d_MO_fit_8 : decode b_MO_fit 8 = .ok (.lconst 0, 1) := by decide +kernel
theorem d_MO_fit_9 : decode b_MO_fit 9 = .ok (.lstore 9, 2) := by decide +kernel
theorem d_MO_fit_11 : decode b_MO_fit 11 = .ok (.iconst 0, 1) := by decide +kernel
theorem d_MO_fit_12 : decode b_MO_fit 12 = .ok (.istore 11, 2) := by decide +kernel
theorem d_MO_fit_14 : decode b_MO_fit 14 = .ok (.iload 11, 2) := by decide +kernel
theorem d_MO_fit_16 : decode b_MO_fit 16 = .ok (.aload_n 0, 1) := by decide +kernel
theorem d_MO_fit_17 : decode b_MO_fit 17 = .ok (.getfield 132, 3) := by decide +kernel
theorem d_MO_fit_20 : decode b_MO_fit 20 = .ok (.if_icmp .ge 77, 3) := by decide +kernel
theorem d_MO_fit_23 : decode b_MO_fit 23 = .ok (.lload_n 3, 1) := by decide +kernel
theorem d_MO_fit_24 : decode b_MO_fit 24 = .ok (.aload_n 0, 1) := by decide +kernel
theorem d_MO_fit_25 : decode b_MO_fit 25 = .ok (.getfield 56, 3) := by decide +kernel
theorem d_MO_fit_28 : decode b_MO_fit 28 = .ok (.iload 11, 2) := by decide +kernel
theorem d_MO_fit_30 : decode b_MO_fit 30 = .ok (.iaload, 1) := by decide +kernel
theorem d_MO_fit_31 : decode b_MO_fit 31 = .ok (.i2l, 1) := by decide +kernel
theorem d_MO_fit_32 : decode b_MO_fit 32 = .ok (.ladd, 1) := by decide +kernel
theorem d_MO_fit_33 : decode b_MO_fit 33 = .ok (.lstore_n 3, 1) := by decide +kernel
theorem d_MO_fit_34 : decode b_MO_fit 34 = .ok (.lload 5, 2) := by decide +kernel
theorem d_MO_fit_36 : decode b_MO_fit 36 = .ok (.aload_n 0, 1) := by decide +kernel
theorem d_MO_fit_37 : decode b_MO_fit 37 = .ok (.getfield 59, 3) := by decide +kernel
theorem d_MO_fit_40 : decode b_MO_fit 40 = .ok (.iload 11, 2) := by decide +kernel
theorem d_MO_fit_42 : decode b_MO_fit 42 = .ok (.iaload, 1) := by decide +kernel
theorem d_MO_fit_43 : decode b_MO_fit 43 = .ok (.i2l, 1) := by decide +kernel
theorem d_MO_fit_44 : decode b_MO_fit 44 = .ok (.ladd, 1) := by decide +kernel
theorem d_MO_fit_45 : decode b_MO_fit 45 = .ok (.lstore 5, 2) := by decide +kernel
theorem d_MO_fit_47 : decode b_MO_fit 47 = .ok (.lload 7, 2) := by decide +kernel
theorem d_MO_fit_49 : decode b_MO_fit 49 = .ok (.aload_n 0, 1) := by decide +kernel
theorem d_MO_fit_50 : decode b_MO_fit 50 = .ok (.getfield 56, 3) := by decide +kernel
theorem d_MO_fit_53 : decode b_MO_fit 53 = .ok (.iload 11, 2) := by decide +kernel
theorem d_MO_fit_55 : decode b_MO_fit 55 = .ok (.iaload, 1) := by decide +kernel
theorem d_MO_fit_56 : decode b_MO_fit 56 = .ok (.i2l, 1) := by decide +kernel
theorem d_MO_fit_57 : decode b_MO_fit 57 = .ok (.aload_n 0, 1) := by decide +kernel
theorem d_MO_fit_58 : decode b_MO_fit 58 = .ok (.getfield 56, 3) := by decide +kernel
theorem d_MO_fit_61 : decode b_MO_fit 61 = .ok (.iload 11, 2) := by decide +kernel
theorem d_MO_fit_63 : decode b_MO_fit 63 = .ok (.iaload, 1) := by decide +kernel
theorem d_MO_fit_64 : decode b_MO_fit 64 = .ok (.i2l, 1) := by decide +kernel
theorem d_MO_fit_65 : decode b_MO_fit 65 = .ok (.lmul, 1) := by decide +kernel
theorem d_MO_fit_66 : decode b_MO_fit 66 = .ok (.ladd, 1) := by decide +kernel
theorem d_MO_fit_67 : decode b_MO_fit 67 = .ok (.lstore 7, 2) := by decide +kernel
theorem d_MO_fit_69 : decode b_MO_fit 69 = .ok (.lload 9, 2) := by decide +kernel
theorem d_MO_fit_71 : decode b_MO_fit 71 = .ok (.aload_n 0, 1) := by decide +kernel
theorem d_MO_fit_72 : decode b_MO_fit 72 = .ok (.getfield 56, 3) := by decide +kernel
theorem d_MO_fit_75 : decode b_MO_fit 75 = .ok (.iload 11, 2) := by decide +kernel
theorem d_MO_fit_77 : decode b_MO_fit 77 = .ok (.iaload, 1) := by decide +kernel
theorem d_MO_fit_78 : decode b_MO_fit 78 = .ok (.i2l, 1) := by decide +kernel
theorem d_MO_fit_79 : decode b_MO_fit 79 = .ok (.aload_n 0, 1) := by decide +kernel
theorem d_MO_fit_80 : decode b_MO_fit 80 = .ok (.getfield 59, 3) := by decide +kernel
theorem d_MO_fit_83 : decode b_MO_fit 83 = .ok (.iload 11, 2) := by decide +kernel
theorem d_MO_fit_85 : decode b_MO_fit 85 = .ok (.iaload, 1) := by decide +kernel
theorem d_MO_fit_86 : decode b_MO_fit 86 = .ok (.i2l, 1) := by decide +kernel
theorem d_MO_fit_87 : decode b_MO_fit 87 = .ok (.lmul, 1) := by decide +kernel
theorem d_MO_fit_88 : decode b_MO_fit 88 = .ok (.ladd, 1) := by decide +kernel
theorem d_MO_fit_89 : decode b_MO_fit 89 = .ok (.lstore 9, 2) := by decide +kernel
theorem d_MO_fit_91 : decode b_MO_fit 91 = .ok (.iinc 11 1, 3) := by decide +kernel
theorem d_MO_fit_94 : decode b_MO_fit 94 = .ok (.goto (-80), 3) := by decide +kernel
theorem d_MO_fit_97 : decode b_MO_fit 97 = .ok (.aload_n 0, 1) := by decide +kernel
theorem d_MO_fit_98 : decode b_MO_fit 98 = .ok (.getfield 132, 3) := by decide +kernel
theorem d_MO_fit_101 : decode b_MO_fit 101 = .ok (.i2l, 1) := by decide +kernel
theorem d_MO_fit_102 : decode b_MO_fit 102 = .ok (.lload 7, 2) := by decide +kernel
theorem d_MO_fit_104 : decode b_MO_fit 104 = .ok (.lmul, 1) := by decide +kernel
theorem d_MO_fit_105 : decode b_MO_fit 105 = .ok (.lload_n 3, 1) := by decide +kernel
theorem d_MO_fit_106 : decode b_MO_fit 106 = .ok (.lload_n 3, 1) := by decide +kernel
theorem d_MO_fit_107 : decode b_MO_fit 107 = .ok (.lmul, 1) := by decide +kernel
theorem d_MO_fit_108 : decode b_MO_fit 108 = .ok (.lsub, 1) := by decide +kernel
theorem d_MO_fit_109 : decode b_MO_fit 109 = .ok (.lstore 11, 2) := by decide +kernel
theorem d_MO_fit_111 : decode b_MO_fit 111 = .ok (.aload_n 0, 1) := by decide +kernel
theorem d_MO_fit_112 : decode b_MO_fit 112 = .ok (.iload_n 1, 1) := by decide +kernel
theorem d_MO_fit_113 : decode b_MO_fit 113 = .ok (.iconst 0, 1) := by decide +kernel
theorem d_MO_fit_114 : decode b_MO_fit 114 = .ok (.iconst 1, 1) := by decide +kernel
theorem d_MO_fit_115 : decode b_MO_fit 115 = .ok (.invokestatic 66, 3) := by decide +kernel
theorem d_MO_fit_118 : decode b_MO_fit 118 = .ok (.ifCond .eq 10, 3) := by decide +kernel
theorem d_MO_fit_121 : decode b_MO_fit 121 = .ok (.iload_n 2, 1) := by decide +kernel
theorem d_MO_fit_122 : decode b_MO_fit 122 = .ok (.invokestatic 126, 3) := by decide +kernel
theorem d_MO_fit_125 : decode b_MO_fit 125 = .ok (.ifCond .ne 7, 3) := by decide +kernel
theorem d_MO_fit_128 : decode b_MO_fit 128 = .ok (.iconst 1, 1) := by decide +kernel
theorem d_MO_fit_129 : decode b_MO_fit 129 = .ok (.goto 4, 3) := by decide +kernel
theorem d_MO_fit_132 : decode b_MO_fit 132 = .ok (.iconst 0, 1) := by decide +kernel
theorem d_MO_fit_133 : decode b_MO_fit 133 = .ok (.lload 11, 2) := by decide +kernel
theorem d_MO_fit_135 : decode b_MO_fit 135 = .ok (.lconst 0, 1) := by decide +kernel
theorem d_MO_fit_136 : decode b_MO_fit 136 = .ok (.lcmp, 1) := by decide +kernel
theorem d_MO_fit_137 : decode b_MO_fit 137 = .ok (.ifCond .ne 7, 3) := by decide +kernel
theorem d_MO_fit_140 : decode b_MO_fit 140 = .ok (.iconst 1, 1) := by decide +kernel
theorem d_MO_fit_141 : decode b_MO_fit 141 = .ok (.goto 4, 3) := by decide +kernel
theorem d_MO_fit_144 : decode b_MO_fit 144 = .ok (.iconst 0, 1) := by decide +kernel
theorem d_MO_fit_145 : decode b_MO_fit 145 = .ok (.iconst 0, 1) := by decide +kernel
theorem d_MO_fit_146 : decode b_MO_fit 146 = .ok (.iconst 0, 1) := by decide +kernel
theorem d_MO_fit_147 : decode b_MO_fit 147 = .ok (.invokevirtual 79, 3) := by decide +kernel
theorem d_MO_fit_150 : decode b_MO_fit 150 = .ok (.ifCond .eq 5, 3) := by decide +kernel
theorem d_MO_fit_153 : decode b_MO_fit 153 = .ok (.lconst 0, 1) := by decide +kernel
theorem d_MO_fit_154 : decode b_MO_fit 154 = .ok (.lreturn, 1) := by decide +kernel
theorem d_MO_fit_155 : decode b_MO_fit 155 = .ok (.iload_n 1, 1) := by decide +kernel
theorem d_MO_fit_156 : decode b_MO_fit 156 = .ok (.ifCond .ne 19, 3) := by decide +kernel
theorem d_MO_fit_159 : decode b_MO_fit 159 = .ok (.aload_n 0, 1) := by decide +kernel
theorem d_MO_fit_160 : decode b_MO_fit 160 = .ok (.getfield 132, 3) := by decide +kernel
theorem d_MO_fit_163 : decode b_MO_fit 163 = .ok (.i2l, 1) := by decide +kernel
theorem d_MO_fit_164 : decode b_MO_fit 164 = .ok (.lload 9, 2) := by decide +kernel
theorem d_MO_fit_166 : decode b_MO_fit 166 = .ok (.lmul, 1) := by decide +kernel
theorem d_MO_fit_167 : decode b_MO_fit 167 = .ok (.lload_n 3, 1) := by decide +kernel
theorem d_MO_fit_168 : decode b_MO_fit 168 = .ok (.lload 5, 2) := by decide +kernel
theorem d_MO_fit_170 : decode b_MO_fit 170 = .ok (.lmul, 1) := by decide +kernel
theorem d_MO_fit_171 : decode b_MO_fit 171 = .ok (.lsub, 1) := by decide +kernel
theorem d_MO_fit_172 : decode b_MO_fit 172 = .ok (.goto 13, 3) := by decide +kernel
theorem d_MO_fit_175 : decode b_MO_fit 175 = .ok (.lload 5, 2) := by decide +kernel
theorem d_MO_fit_177 : decode b_MO_fit 177 = .ok (.lload 7, 2) := by decide +kernel
theorem d_MO_fit_179 : decode b_MO_fit 179 = .ok (.lmul, 1) := by decide +kernel
theorem d_MO_fit_180 : decode b_MO_fit 180 = .ok (.lload_n 3, 1) := by decide +kernel
theorem d_MO_fit_181 : decode b_MO_fit 181 = .ok (.lload 9, 2) := by decide +kernel
theorem d_MO_fit_183 : decode b_MO_fit 183 = .ok (.lmul, 1) := by decide +kernel
theorem d_MO_fit_184 : decode b_MO_fit 184 = .ok (.lsub, 1) := by decide +kernel
theorem d_MO_fit_185 : decode b_MO_fit 185 = .ok (.lload 11, 2) := by decide +kernel
theorem d_MO_fit_187 : decode b_MO_fit 187 = .ok (.iload_n 2, 1) := by decide +kernel
theorem d_MO_fit_188 : decode b_MO_fit 188 = .ok (.invokestatic 111, 3) := by decide +kernel
theorem d_MO_fit_191 : decode b_MO_fit 191 = .ok (.lreturn, 1) := by decide +kernel
theorem d_MO_tick_0 : decode b_MO_tick 0 = .ok (.aload_n 0, 1) := by decide +kernel
theorem d_MO_tick_1 : decode b_MO_tick 1 = .ok (.iload_n 1, 1) := by decide +kernel
theorem d_MO_tick_2 : decode b_MO_tick 2 = .ok (.iconst 1, 1) := by decide +kernel
theorem d_MO_tick_3 : decode b_MO_tick 3 = .ok (.sipush 1000, 3) := by decide +kernel
theorem d_MO_tick_6 : decode b_MO_tick 6 = .ok (.invokestatic 66, 3) := by decide +kernel
theorem d_MO_tick_9 : decode b_MO_tick 9 = .ok (.ifCond .eq 15, 3) := by decide +kernel
theorem d_MO_tick_12 : decode b_MO_tick 12 = .ok (.aload_n 0, 1) := by decide +kernel
theorem d_MO_tick_13 : decode b_MO_tick 13 = .ok (.getfield 86, 3) := by decide +kernel
theorem d_MO_tick_16 : decode b_MO_tick 16 = .ok (.iload_n 1, 1) := by decide +kernel
theorem d_MO_tick_17 : decode b_MO_tick 17 = .ok (.iadd, 1) := by decide +kernel
theorem d_MO_tick_18 : decode b_MO_tick 18 = .ok (.sipush 9999, 3) := by decide +kernel
theorem d_MO_tick_21 : decode b_MO_tick 21 = .ok (.if_icmp .le 7, 3) := by decide +kernel
theorem d_MO_tick_24 : decode b_MO_tick 24 = .ok (.iconst 1, 1) := by decide +kernel
theorem d_MO_tick_25 : decode b_MO_tick 25 = .ok (.goto 4, 3) := by decide +kernel
theorem d_MO_tick_28 : decode b_MO_tick 28 = .ok (.iconst 0, 1) := by decide +kernel
theorem d_MO_tick_29 : decode b_MO_tick 29 = .ok (.iconst 0, 1) := by decide +kernel
theorem d_MO_tick_30 : decode b_MO_tick 30 = .ok (.iconst 0, 1) := by decide +kernel
theorem d_MO_tick_31 : decode b_MO_tick 31 = .ok (.iconst 0, 1) := by decide +kernel
theorem d_MO_tick_32 : decode b_MO_tick 32 = .ok (.invokevirtual 79, 3) := by decide +kernel
theorem d_MO_tick_35 : decode b_MO_tick 35 = .ok (.ifCond .eq 5, 3) := by decide +kernel
theorem d_MO_tick_38 : decode b_MO_tick 38 = .ok (.iconst 0, 1) := by decide +kernel
theorem d_MO_tick_39 : decode b_MO_tick 39 = .ok (.ireturn, 1) := by decide +kernel
theorem d_MO_tick_40 : decode b_MO_tick 40 = .ok (.aload_n 0, 1) := by decide +kernel
theorem d_MO_tick_41 : decode b_MO_tick 41 = .ok (.dup, 1) := by decide +kernel
theorem d_MO_tick_42 : decode b_MO_tick 42 = .ok (.getfield 86, 3) := by decide +kernel
theorem d_MO_tick_45 : decode b_MO_tick 45 = .ok (.iload_n 1, 1) := by decide +kernel
theorem d_MO_tick_46 : decode b_MO_tick 46 = .ok (.iadd, 1) := by decide +kernel
theorem d_MO_tick_47 : decode b_MO_tick 47 = .ok (.putfield 86, 3) := by decide +kernel
theorem d_MO_tick_50 : decode b_MO_tick 50 = .ok (.aload_n 0, 1) := by decide +kernel
theorem d_MO_tick_51 : decode b_MO_tick 51 = .ok (.getfield 86, 3) := by decide +kernel
theorem d_MO_tick_54 : decode b_MO_tick 54 = .ok (.ireturn, 1) := by decide +kernel
